abbrev jX0_init : Jm := (yX0_init, cX0_init, 1, none, [])
abbrev jX0_makeFrom : Jm := (yX0_makeFrom, cX0_makeFrom, 5, none, [])
abbrev jX0_nodesTo : Jm := (yX0_nodesTo, cX0_nodesTo, 3, (some FieldType.int), [])
abbrev jX0_lowestMutual : Jm := (yX0_lowestMutual, cX0_lowestMutual, 3, (some FieldType.int), [])
abbrev jX0_gainWith : Jm := (yX0_gainWith, cX0_gainWith, 7, (some FieldType.int), [])
abbrev jX0_extend : Jm := (yX0_extend, cX0_extend, 7, (some FieldType.int), [])
abbrev jX0_mend : Jm := (yX0_mend, cX0_mend, 7, (some FieldType.int), [])
abbrev jX0_lossBy : Jm := (yX0_lossBy, cX0_lossBy, 8, (some FieldType.int), [])
abbrev jX1_init : Jm := (yX1_init, cX1_init, 1, none, [])
abbrev jX1_eliminate : Jm := (yX1_eliminate, cX1_eliminate, 5, none, [])
abbrev jX1_eliminateBesideUnit : Jm := (yX1_eliminateBesideUnit, cX1_eliminateBesideUnit, 4, none, [])
abbrev jX1_isSolvable : Jm := (yX1_isSolvable, cX1_isSolvable, 3, (some FieldType.boolean), [])
abbrev jX1_solution : Jm := (yX1_solution, cX1_solution, 3, (some FieldType.int), [])
abbrev jX1_pivotAt : Jm := (yX1_pivotAt, cX1_pivotAt, 2, (some FieldType.int), [])
abbrev jX1_eliminateAll : Jm := (yX1_eliminateAll, cX1_eliminateAll, 5, none, [])
abbrev jX1_rowNotTaken : Jm := (yX1_rowNotTaken, cX1_rowNotTaken, 4, (some FieldType.int), [])
abbrev jX1_swapRows : Jm := (yX1_swapRows, cX1_swapRows, 5, none, [])
abbrev jX1_clearOthers : Jm := (yX1_clearOthers, cX1_clearOthers, 5, none, [])
abbrev jX2_init : Jm := (yX2_init, cX2_init, 1, none, [])
abbrev jX2_makeEmpty : Jm := (yX2_makeEmpty, cX2_makeEmpty, 2, none, [])
abbrev jX2_takeFrom : Jm := (yX2_takeFrom, cX2_takeFrom, 2, none, [])
abbrev jX2_noteLooked : Jm := (yX2_noteLooked, cX2_noteLooked, 2, none, [])
abbrev jX2_noteMadeAnew : Jm := (yX2_noteMadeAnew, cX2_noteMadeAnew, 2, none, [])
abbrev jX3_init : Jm := (yX3_init, cX3_init, 1, none, [])
abbrev jX3_begin : Jm := (yX3_begin, cX3_begin, 3, none, [])
abbrev jX3_multiply : Jm := (yX3_multiply, cX3_multiply, 6, none, [])
abbrev jX3_raise : Jm := (yX3_raise, cX3_raise, 7, (some (FieldType.array FieldType.int)), [])
abbrev jX3_fillTable : Jm := (yX3_fillTable, cX3_fillTable, 7, none, [])
abbrev jX3_takeEntries : Jm := (yX3_takeEntries, cX3_takeEntries, 7, none, [])
abbrev jX3_joined : Jm := (yX3_joined, cX3_joined, 3, (some FieldType.int), [])
abbrev jX4_init : Jm := (yX4_init, cX4_init, 1, none, [])
abbrev jX4_addBytes : Jm := (yX4_addBytes, cX4_addBytes, 6, (some FieldType.int), [])
abbrev jX4_readInto : Jm := (yX4_readInto, cX4_readInto, 3, none, [])
abbrev jX4_readSize : Jm := (yX4_readSize, cX4_readSize, 2, none, [])
abbrev jX4_readStatement : Jm := (yX4_readStatement, cX4_readStatement, 2, none, [])
abbrev jX4_readEdge : Jm := (yX4_readEdge, cX4_readEdge, 5, none, [])
abbrev jX4_readRow : Jm := (yX4_readRow, cX4_readRow, 4, none, [])
abbrev jX4_readKeep : Jm := (yX4_readKeep, cX4_readKeep, 3, none, [])
abbrev jX4_readFill : Jm := (yX4_readFill, cX4_readFill, 4, none, [])
abbrev jX4_rowOfKind : Jm := (yX4_rowOfKind, cX4_rowOfKind, 3, (some FieldType.int), [])
abbrev jX4_hasMore : Jm := (yX4_hasMore, cX4_hasMore, 1, (some FieldType.boolean), [])
abbrev jX4_takeSemicolon : Jm := (yX4_takeSemicolon, cX4_takeSemicolon, 1, none, [])
abbrev jX4_takeWord : Jm := (yX4_takeWord, cX4_takeWord, 1, none, [])
abbrev jX4_takeDigits : Jm := (yX4_takeDigits, cX4_takeDigits, 1, none, [])
abbrev jX4_takeNumber : Jm := (yX4_takeNumber, cX4_takeNumber, 5, (some FieldType.int), [])
abbrev jX4_takeBits : Jm := (yX4_takeBits, cX4_takeBits, 5, (some FieldType.int), [])
abbrev jX4_skipSpaces : Jm := (yX4_skipSpaces, cX4_skipSpaces, 1, none, [])
abbrev jX4_isWord : Jm := (yX4_isWord, cX4_isWord, 3, (some FieldType.boolean), [])
abbrev jX4_fail : Jm := (yX4_fail, cX4_fail, 3, none, [])
abbrev jX5_init : Jm := (yX5_init, cX5_init, 2, none, [])
abbrev jX5_makeEmpty : Jm := (yX5_makeEmpty, cX5_makeEmpty, 3, none, [])
abbrev jX5_takeFrom : Jm := (yX5_takeFrom, cX5_takeFrom, 3, none, [])
abbrev jX6_init : Jm := (yX6_init, cX6_init, 2, none, [])
abbrev jX6_append : Jm := (yX6_append, cX6_append, 3, (some FieldType.int), [])
abbrev jX6_load : Jm := (yX6_load, cX6_load, 1, (some FieldType.int), [])
abbrev jX6_loadError : Jm := (yX6_loadError, cX6_loadError, 1, (some FieldType.int), [])
abbrev jX6_loadStatement : Jm := (yX6_loadStatement, cX6_loadStatement, 1, (some FieldType.int), [])
abbrev jX6_count : Jm := (yX6_count, cX6_count, 2, (some FieldType.int), [])
abbrev jX6_bit : Jm := (yX6_bit, cX6_bit, 4, (some FieldType.int), [])
abbrev jX6_row : Jm := (yX6_row, cX6_row, 3, (some FieldType.long), [])
abbrev jX6_rank : Jm := (yX6_rank, cX6_rank, 4, (some FieldType.int), [])
abbrev jX6_select : Jm := (yX6_select, cX6_select, 4, (some FieldType.int), [])
abbrev jX6_ones : Jm := (yX6_ones, cX6_ones, 2, (some FieldType.int), [])
abbrev jX6_columnOnes : Jm := (yX6_columnOnes, cX6_columnOnes, 3, (some FieldType.int), [])
abbrev jX6_sameAs : Jm := (yX6_sameAs, cX6_sameAs, 3, (some FieldType.int), [])
abbrev jX6_classes : Jm := (yX6_classes, cX6_classes, 2, (some FieldType.int), [])
abbrev jX6_classOf : Jm := (yX6_classOf, cX6_classOf, 4, (some FieldType.int), [])
abbrev jX6_find : Jm := (yX6_find, cX6_find, 4, (some FieldType.int), [])
abbrev jX6_nearest : Jm := (yX6_nearest, cX6_nearest, 8, (some FieldType.int), [])
abbrev jX6_density : Jm := (yX6_density, cX6_density, 2, (some FieldType.double), [])
abbrev jX6_isSymmetric : Jm := (yX6_isSymmetric, cX6_isSymmetric, 4, (some FieldType.boolean), [])
abbrev jX6_reaches : Jm := (yX6_reaches, cX6_reaches, 4, (some FieldType.int), [])
abbrev jX6_reached : Jm := (yX6_reached, cX6_reached, 3, (some FieldType.int), [])
abbrev jX6_pairs : Jm := (yX6_pairs, cX6_pairs, 2, (some FieldType.int), [])
abbrev jX6_meanReach : Jm := (yX6_meanReach, cX6_meanReach, 2, (some FieldType.float), [])
abbrev jX6_component : Jm := (yX6_component, cX6_component, 3, (some FieldType.int), [])
abbrev jX6_components : Jm := (yX6_components, cX6_components, 5, (some FieldType.int), [])
abbrev jX6_distance : Jm := (yX6_distance, cX6_distance, 4, (some FieldType.int), [])
abbrev jX6_stepAt : Jm := (yX6_stepAt, cX6_stepAt, 9, (some FieldType.int), [])
abbrev jX6_around : Jm := (yX6_around, cX6_around, 3, (some FieldType.int), [])
abbrev jX6_girth : Jm := (yX6_girth, cX6_girth, 5, (some FieldType.int), [])
abbrev jX6_order : Jm := (yX6_order, cX6_order, 7, (some FieldType.int), [])
abbrev jX6_gained : Jm := (yX6_gained, cX6_gained, 5, (some FieldType.int), [])
abbrev jX6_lost : Jm := (yX6_lost, cX6_lost, 4, (some FieldType.int), [])
abbrev jX6_bestEdge : Jm := (yX6_bestEdge, cX6_bestEdge, 10, (some FieldType.int), [])
abbrev jX6_weakest : Jm := (yX6_weakest, cX6_weakest, 8, (some FieldType.int), [])
abbrev jX6_triangles : Jm := (yX6_triangles, cX6_triangles, 7, (some FieldType.int), [])
abbrev jX6_fieldRank : Jm := (yX6_fieldRank, cX6_fieldRank, 2, (some FieldType.int), [])
abbrev jX6_solve : Jm := (yX6_solve, cX6_solve, 4, (some FieldType.long), [])
abbrev jX6_freedom : Jm := (yX6_freedom, cX6_freedom, 4, (some FieldType.int), [])
abbrev jX6_pivot : Jm := (yX6_pivot, cX6_pivot, 3, (some FieldType.int), [])
abbrev jX6_put : Jm := (yX6_put, cX6_put, 8, (some FieldType.int), [])
abbrev jX6_setRow : Jm := (yX6_setRow, cX6_setRow, 7, (some FieldType.int), [])
abbrev jX6_copy : Jm := (yX6_copy, cX6_copy, 3, (some FieldType.int), [])
abbrev jX6_transpose : Jm := (yX6_transpose, cX6_transpose, 4, (some FieldType.int), [])
abbrev jX6_combine : Jm := (yX6_combine, cX6_combine, 6, (some FieldType.int), [])
abbrev jX6_product : Jm := (yX6_product, cX6_product, 5, (some FieldType.int), [])
abbrev jX6_power : Jm := (yX6_power, cX6_power, 6, (some FieldType.int), [])
abbrev jX6_invert : Jm := (yX6_invert, cX6_invert, 3, (some FieldType.int), [])
abbrev jX6_close : Jm := (yX6_close, cX6_close, 3, (some FieldType.int), [])
abbrev jX6_reduce : Jm := (yX6_reduce, cX6_reduce, 4, (some FieldType.int), [])
abbrev jX6_exchange : Jm := (yX6_exchange, cX6_exchange, 8, (some FieldType.int), [])
abbrev jX6_keep : Jm := (yX6_keep, cX6_keep, 4, (some FieldType.int), [])
abbrev jX6_setBlock : Jm := (yX6_setBlock, cX6_setBlock, 3, (some FieldType.int), [])
abbrev jX6_kept : Jm := (yX6_kept, cX6_kept, 4, (some FieldType.int), [])
abbrev jX6_work : Jm := (yX6_work, cX6_work, 2, (some FieldType.int), [])
abbrev jX6_writeRow : Jm := (yX6_writeRow, cX6_writeRow, 5, (some FieldType.int), [])
abbrev jX6_outputByte : Jm := (yX6_outputByte, cX6_outputByte, 2, (some FieldType.int), [])
abbrev jX6_undo : Jm := (yX6_undo, cX6_undo, 1, (some FieldType.int), [])
abbrev jX6_saveSnapshot : Jm := (yX6_saveSnapshot, cX6_saveSnapshot, 2, (some FieldType.int), [])
abbrev jX6_restoreSnapshot : Jm := (yX6_restoreSnapshot, cX6_restoreSnapshot, 2, (some FieldType.int), [])
abbrev jX6_needSlot : Jm := (yX6_needSlot, cX6_needSlot, 2, none, [])
abbrev jX6_needNode : Jm := (yX6_needNode, cX6_needNode, 2, none, [])
abbrev jX6_needRow : Jm := (yX6_needRow, cX6_needRow, 3, none, [])
abbrev jX6_needCell : Jm := (yX6_needCell, cX6_needCell, 4, none, [])
abbrev jX6_needRange : Jm := (yX6_needRange, cX6_needRange, 4, none, [])
abbrev jX6_rowsOf : Jm := (yX6_rowsOf, cX6_rowsOf, 2, (some (FieldType.array FieldType.int)), [])
abbrev jX6_keptSlots : Jm := (yX6_keptSlots, cX6_keptSlots, 3, (some FieldType.int), [])
abbrev jX6_remember : Jm := (yX6_remember, cX6_remember, 1, none, [])
abbrev jX6_replaceState : Jm := (yX6_replaceState, cX6_replaceState, 2, none, [])
abbrev jX6_dropClosures : Jm := (yX6_dropClosures, cX6_dropClosures, 2, none, [])
abbrev jX6_closureOf : Jm := (yX6_closureOf, cX6_closureOf, 3, (some (FieldType.object "BitDesk$Closure")), [])
abbrev jX6_store : Jm := (yX6_store, cX6_store, 3, (some FieldType.int), [])
abbrev jX6_noteChange : Jm := (yX6_noteChange, cX6_noteChange, 2, none, [])
abbrev jX6_noteWork : Jm := (yX6_noteWork, cX6_noteWork, 1, none, [])
abbrev jX6_firstEqual : Jm := (yX6_firstEqual, cX6_firstEqual, 4, (some FieldType.int), [])
abbrev jX6_firstRows : Jm := (yX6_firstRows, cX6_firstRows, 5, (some FieldType.int), [])
abbrev jX6_joinedRows : Jm := (yX6_joinedRows, cX6_joinedRows, 5, (some FieldType.int), [])
abbrev jX6_fewestEdges : Jm := (yX6_fewestEdges, cX6_fewestEdges, 6, (some FieldType.int), [])
abbrev jX6_fillLevels : Jm := (yX6_fillLevels, cX6_fillLevels, 7, none, [])
abbrev jX6_lossWithout : Jm := (yX6_lossWithout, cX6_lossWithout, 4, (some FieldType.int), [])
abbrev jX6_dropNeedless : Jm := (yX6_dropNeedless, cX6_dropNeedless, 5, none, [])
abbrev jX6_combined : Jm := (yX6_combined, cX6_combined, 3, (some FieldType.int), [])
abbrev jX6_exchanged : Jm := (yX6_exchanged, cX6_exchanged, 3, (some FieldType.int), [])
abbrev jX6_edgeNumber : Jm := (yX6_edgeNumber, cX6_edgeNumber, 2, (some FieldType.int), [])
abbrev jX6_unsigned : Jm := (yX6_unsigned, cX6_unsigned, 1, (some FieldType.long), [])
abbrev jX6_hasOne : Jm := (yX6_hasOne, cX6_hasOne, 2, (some FieldType.boolean), [])
abbrev jX6_lowest : Jm := (yX6_lowest, cX6_lowest, 1, (some FieldType.int), [])
abbrev jX6_lowestOne : Jm := (yX6_lowestOne, cX6_lowestOne, 1, (some FieldType.int), [])
abbrev jX6_oneAt : Jm := (yX6_oneAt, cX6_oneAt, 4, (some FieldType.int), [])
abbrev jX6_onesOf : Jm := (yX6_onesOf, cX6_onesOf, 4, (some FieldType.int), [])
abbrev jX6_columnOf : Jm := (yX6_columnOf, cX6_columnOf, 5, (some FieldType.int), [])
abbrev jX6_reachedFrom : Jm := (yX6_reachedFrom, cX6_reachedFrom, 7, (some FieldType.int), [])
abbrev jX7_init : Jm := (yX7_init, cX7_init, 1, none, [])
abbrev jX7_thrown : Jm := (yX7_thrown, cX7_thrown, 1, (some FieldType.int), [])
abbrev jX7_in : Jm := (yX7_in, cX7_in, 6, (some FieldType.boolean), [])
abbrev jX7_copies : Jm := (yX7_copies, cX7_copies, 5, none, [])
abbrev jX7_begins : Jm := (yX7_begins, cX7_begins, 3, none, [])
abbrev jX7_isThrown : Jm := (yX7_isThrown, cX7_isThrown, 3, (some FieldType.boolean), [])
abbrev jX7_size : Jm := (yX7_size, cX7_size, 1, (some FieldType.int), [])
abbrev jX7_isSlot : Jm := (yX7_isSlot, cX7_isSlot, 1, (some FieldType.boolean), [])
abbrev jX7_isNode : Jm := (yX7_isNode, cX7_isNode, 2, (some FieldType.boolean), [])
abbrev jX7_rowOf : Jm := (yX7_rowOf, cX7_rowOf, 3, (some FieldType.long), [])
abbrev jX7_setsRow : Jm := (yX7_setsRow, cX7_setsRow, 5, none, [])
abbrev jX7_one : Jm := (yX7_one, cX7_one, 3, (some FieldType.int), [])
abbrev jX7_bitsOf : Jm := (yX7_bitsOf, cX7_bitsOf, 5, (some FieldType.int), [])
abbrev jX7_all : Jm := (yX7_all, cX7_all, 1, (some FieldType.long), [])
abbrev jX7_byteOf : Jm := (yX7_byteOf, cX7_byteOf, 3, (some FieldType.int), [])
abbrev jX7_append : Jm := (yX7_append, cX7_append, 5, (some FieldType.int), [])
abbrev jX7_here : Jm := (yX7_here, cX7_here, 1, (some FieldType.int), [])
abbrev jX7_next : Jm := (yX7_next, cX7_next, 1, (some FieldType.int), [])
abbrev jX7_fails : Jm := (yX7_fails, cX7_fails, 2, none, [])
abbrev jX7_reads : Jm := (yX7_reads, cX7_reads, 1, none, [])
abbrev jX7_isWord : Jm := (yX7_isWord, cX7_isWord, 4, (some FieldType.boolean), [])
abbrev jX7_number : Jm := (yX7_number, cX7_number, 4, (some FieldType.int), [])
abbrev jX7_readSlot : Jm := (yX7_readSlot, cX7_readSlot, 1, (some FieldType.int), [])
abbrev jX7_readNode : Jm := (yX7_readNode, cX7_readNode, 1, (some FieldType.int), [])
abbrev jX7_sizePart : Jm := (yX7_sizePart, cX7_sizePart, 1, none, [])
abbrev jX7_edgePart : Jm := (yX7_edgePart, cX7_edgePart, 4, none, [])
abbrev jX7_rowPart : Jm := (yX7_rowPart, cX7_rowPart, 7, none, [])
abbrev jX7_filled : Jm := (yX7_filled, cX7_filled, 5, (some FieldType.long), [])
abbrev jX7_kindHere : Jm := (yX7_kindHere, cX7_kindHere, 1, (some FieldType.int), [])
abbrev jX7_fillPart : Jm := (yX7_fillPart, cX7_fillPart, 5, none, [])
abbrev jX7_keepPart : Jm := (yX7_keepPart, cX7_keepPart, 2, none, [])
abbrev jX7_statement : Jm := (yX7_statement, cX7_statement, 1, none, [])
abbrev jX7_isMore : Jm := (yX7_isMore, cX7_isMore, 1, (some FieldType.boolean), [])
abbrev jX7_load : Jm := (yX7_load, cX7_load, 2, (some FieldType.int), [])
abbrev jX7_loadError : Jm := (yX7_loadError, cX7_loadError, 1, (some FieldType.int), [])
abbrev jX7_loadStatement : Jm := (yX7_loadStatement, cX7_loadStatement, 1, (some FieldType.int), [])
abbrev jX7_keptMany : Jm := (yX7_keptMany, cX7_keptMany, 3, (some FieldType.int), [])
abbrev jX7_count : Jm := (yX7_count, cX7_count, 2, (some FieldType.int), [])
abbrev jX7_areIn : Jm := (yX7_areIn, cX7_areIn, 3, (some FieldType.boolean), [])
abbrev jX7_bit : Jm := (yX7_bit, cX7_bit, 4, (some FieldType.int), [])
abbrev jX7_row : Jm := (yX7_row, cX7_row, 3, (some FieldType.long), [])
abbrev jX7_rank : Jm := (yX7_rank, cX7_rank, 4, (some FieldType.int), [])
abbrev jX7_select : Jm := (yX7_select, cX7_select, 6, (some FieldType.int), [])
abbrev jX7_onesOf : Jm := (yX7_onesOf, cX7_onesOf, 4, (some FieldType.int), [])
abbrev jX7_ones : Jm := (yX7_ones, cX7_ones, 2, (some FieldType.int), [])
abbrev jX7_columnOnes : Jm := (yX7_columnOnes, cX7_columnOnes, 5, (some FieldType.int), [])
abbrev jX7_firstAs : Jm := (yX7_firstAs, cX7_firstAs, 4, (some FieldType.int), [])
abbrev jX7_sameAs : Jm := (yX7_sameAs, cX7_sameAs, 3, (some FieldType.int), [])
abbrev jX7_find : Jm := (yX7_find, cX7_find, 5, (some FieldType.int), [])
abbrev jX7_classesAhead : Jm := (yX7_classesAhead, cX7_classesAhead, 5, (some FieldType.int), [])
abbrev jX7_classes : Jm := (yX7_classes, cX7_classes, 2, (some FieldType.int), [])
abbrev jX7_classOf : Jm := (yX7_classOf, cX7_classOf, 3, (some FieldType.int), [])
abbrev jX7_nearest : Jm := (yX7_nearest, cX7_nearest, 7, (some FieldType.int), [])
abbrev jX7_density : Jm := (yX7_density, cX7_density, 2, (some FieldType.double), [])
abbrev jX7_isSymmetric : Jm := (yX7_isSymmetric, cX7_isSymmetric, 4, (some FieldType.boolean), [])
abbrev jX7_takes : Jm := (yX7_takes, cX7_takes, 4, none, [])
abbrev jX7_closes : Jm := (yX7_closes, cX7_closes, 4, none, [])
abbrev jX7_closure : Jm := (yX7_closure, cX7_closure, 2, none, [])
abbrev jX7_sumOf : Jm := (yX7_sumOf, cX7_sumOf, 4, (some FieldType.int), [])
abbrev jX7_reaches : Jm := (yX7_reaches, cX7_reaches, 4, (some FieldType.int), [])
abbrev jX7_reached : Jm := (yX7_reached, cX7_reached, 3, (some FieldType.int), [])
abbrev jX7_pairsOf : Jm := (yX7_pairsOf, cX7_pairsOf, 2, (some FieldType.int), [])
abbrev jX7_pairs : Jm := (yX7_pairs, cX7_pairs, 2, (some FieldType.int), [])
abbrev jX7_meanReach : Jm := (yX7_meanReach, cX7_meanReach, 2, (some FieldType.float), [])
abbrev jX7_componentOf : Jm := (yX7_componentOf, cX7_componentOf, 3, (some FieldType.int), [])
abbrev jX7_component : Jm := (yX7_component, cX7_component, 3, (some FieldType.int), [])
abbrev jX7_components : Jm := (yX7_components, cX7_components, 4, (some FieldType.int), [])
abbrev jX7_measures : Jm := (yX7_measures, cX7_measures, 6, none, [])
abbrev jX7_distance : Jm := (yX7_distance, cX7_distance, 4, (some FieldType.int), [])
abbrev jX7_stepAt : Jm := (yX7_stepAt, cX7_stepAt, 8, (some FieldType.int), [])
abbrev jX7_aroundOf : Jm := (yX7_aroundOf, cX7_aroundOf, 5, (some FieldType.int), [])
abbrev jX7_around : Jm := (yX7_around, cX7_around, 3, (some FieldType.int), [])
abbrev jX7_girth : Jm := (yX7_girth, cX7_girth, 5, (some FieldType.int), [])
abbrev jX7_free : Jm := (yX7_free, cX7_free, 7, (some FieldType.int), [])
abbrev jX7_order : Jm := (yX7_order, cX7_order, 7, (some FieldType.int), [])
abbrev jX7_pairsTurned : Jm := (yX7_pairsTurned, cX7_pairsTurned, 4, (some FieldType.int), [])
abbrev jX7_gained : Jm := (yX7_gained, cX7_gained, 4, (some FieldType.int), [])
abbrev jX7_lost : Jm := (yX7_lost, cX7_lost, 4, (some FieldType.int), [])
abbrev jX7_mostTurned : Jm := (yX7_mostTurned, cX7_mostTurned, 8, (some FieldType.int), [])
abbrev jX7_bestEdge : Jm := (yX7_bestEdge, cX7_bestEdge, 2, (some FieldType.int), [])
abbrev jX7_weakest : Jm := (yX7_weakest, cX7_weakest, 2, (some FieldType.int), [])
abbrev jX7_triangles : Jm := (yX7_triangles, cX7_triangles, 6, (some FieldType.int), [])
abbrev jX7_changes : Jm := (yX7_changes, cX7_changes, 7, none, [])
abbrev jX7_reduces : Jm := (yX7_reduces, cX7_reduces, 5, none, [])
abbrev jX7_fieldRank : Jm := (yX7_fieldRank, cX7_fieldRank, 2, (some FieldType.int), [])
abbrev jX7_solved : Jm := (yX7_solved, cX7_solved, 7, (some FieldType.long), [])
abbrev jX7_solve : Jm := (yX7_solve, cX7_solve, 4, (some FieldType.long), [])
abbrev jX7_freedom : Jm := (yX7_freedom, cX7_freedom, 4, (some FieldType.int), [])
abbrev jX7_pivot : Jm := (yX7_pivot, cX7_pivot, 3, (some FieldType.int), [])
abbrev jX7_keeps : Jm := (yX7_keeps, cX7_keeps, 2, none, [])
abbrev jX7_undo : Jm := (yX7_undo, cX7_undo, 1, (some FieldType.int), [])
abbrev jX7_looks : Jm := (yX7_looks, cX7_looks, 3, none, [])
abbrev jX7_madeAnew : Jm := (yX7_madeAnew, cX7_madeAnew, 2, none, [])
abbrev jX7_put : Jm := (yX7_put, cX7_put, 8, (some FieldType.int), [])
abbrev jX7_setRow : Jm := (yX7_setRow, cX7_setRow, 6, (some FieldType.int), [])
abbrev jX7_lays : Jm := (yX7_lays, cX7_lays, 4, (some FieldType.int), [])
abbrev jX7_copy : Jm := (yX7_copy, cX7_copy, 3, (some FieldType.int), [])
abbrev jX7_transpose : Jm := (yX7_transpose, cX7_transpose, 5, (some FieldType.int), [])
abbrev jX7_combined : Jm := (yX7_combined, cX7_combined, 5, (some FieldType.long), [])
abbrev jX7_combine : Jm := (yX7_combine, cX7_combine, 6, (some FieldType.int), [])
abbrev jX7_counts : Jm := (yX7_counts, cX7_counts, 8, none, [])
abbrev jX7_multiplies : Jm := (yX7_multiplies, cX7_multiplies, 9, none, [])
abbrev jX7_product : Jm := (yX7_product, cX7_product, 5, (some FieldType.int), [])
abbrev jX7_moves : Jm := (yX7_moves, cX7_moves, 4, none, [])
abbrev jX7_power : Jm := (yX7_power, cX7_power, 6, (some FieldType.int), [])
abbrev jX7_invert : Jm := (yX7_invert, cX7_invert, 4, (some FieldType.int), [])
abbrev jX7_close : Jm := (yX7_close, cX7_close, 3, (some FieldType.int), [])
abbrev jX7_isSame : Jm := (yX7_isSame, cX7_isSame, 4, (some FieldType.boolean), [])
abbrev jX7_reduce : Jm := (yX7_reduce, cX7_reduce, 6, (some FieldType.int), [])
abbrev jX7_exchanged : Jm := (yX7_exchanged, cX7_exchanged, 5, (some FieldType.long), [])
abbrev jX7_exchange : Jm := (yX7_exchange, cX7_exchange, 7, (some FieldType.int), [])
abbrev jX7_keep : Jm := (yX7_keep, cX7_keep, 3, (some FieldType.int), [])
abbrev jX7_setBlock : Jm := (yX7_setBlock, cX7_setBlock, 3, (some FieldType.int), [])
abbrev jX7_kept : Jm := (yX7_kept, cX7_kept, 3, (some FieldType.int), [])
abbrev jX7_work : Jm := (yX7_work, cX7_work, 2, (some FieldType.int), [])
abbrev jX7_writeRow : Jm := (yX7_writeRow, cX7_writeRow, 4, (some FieldType.int), [])
abbrev jX7_outputByte : Jm := (yX7_outputByte, cX7_outputByte, 2, (some FieldType.int), [])
abbrev jX7_saveSnapshot : Jm := (yX7_saveSnapshot, cX7_saveSnapshot, 2, (some FieldType.int), [])
abbrev jX7_restoreSnapshot : Jm := (yX7_restoreSnapshot, cX7_restoreSnapshot, 2, (some FieldType.int), [])
abbrev jJ6_bitCount_0f7a4 : Jm := (yJ6_bitCount_0f7a4, cJ6_bitCount_0f7a4, 1, (some FieldType.int), [])
abbrev jJ9_abs_0f7a4 : Jm := (yJ9_abs_0f7a4, cJ9_abs_0f7a4, 1, (some FieldType.int), [])
abbrev jJ9_max_7cf53 : Jm := (yJ9_max_7cf53, cJ9_max_7cf53, 2, (some FieldType.int), [])
abbrev jJ9_min_7cf53 : Jm := (yJ9_min_7cf53, cJ9_min_7cf53, 2, (some FieldType.int), [])
abbrev jJ0_length_8abf5 : Jm := (yJ0_length_8abf5, cJ0_length_8abf5, 1, (some FieldType.int), [])
abbrev jJ0_charAt_5068e : Jm := (yJ0_charAt_5068e, cJ0_charAt_5068e, 2, (some FieldType.char), [])
abbrev jJ0_coder_7d493 : Jm := (yJ0_coder_7d493, cJ0_coder_7d493, 1, (some FieldType.byte), [])
abbrev jJ0_isLatin1_aae02 : Jm := (yJ0_isLatin1_aae02, cJ0_isLatin1_aae02, 1, (some FieldType.boolean), [])
abbrev jJ0_checkIndex_df160 : Jm := (yJ0_checkIndex_df160, cJ0_checkIndex_df160, 2, none, [])
abbrev jJ1_charAt_3b067 : Jm := (yJ1_charAt_3b067, cJ1_charAt_3b067, 2, (some FieldType.char), [])
abbrev jJ2_getChar_3b067 : Jm := (yJ2_getChar_3b067, cJ2_getChar_3b067, 2, (some FieldType.char), [])
abbrev jJ2_length_9d52b : Jm := (yJ2_length_9d52b, cJ2_length_9d52b, 1, (some FieldType.int), [])
abbrev jJ2_charAt_3b067 : Jm := (yJ2_charAt_3b067, cJ2_charAt_3b067, 2, (some FieldType.char), [])
abbrev jJ2_checkIndex_2214a : Jm := (yJ2_checkIndex_2214a, cJ2_checkIndex_2214a, 2, none, [])
abbrev jJ3_checkIndex_8e157 : Jm := (yJ3_checkIndex_8e157, cJ3_checkIndex_8e157, 3, (some FieldType.int), [])
theorem ws_list {ws : List Cond} (ps : List Nat) (hp : ws = ps.filterMap (fun i => lw_tbl[i]?)) (h : ws.all goodWord = true) : ∀ w ∈ ws, w ∈ WS := fun w hw => List.mem_filter.mpr ⟨(goodIn_r ws ps hp h w hw).1, List.all_eq_true.mp h w hw⟩
theorem ws_c0 {w : Cond} (i : Nat) (h : (k2_sels lw_privs)[i]? = some w) (g : goodWord w = true) : w ∈ WS := List.mem_filter.mpr ⟨List.mem_append_left _ (List.mem_of_getElem? h), g⟩
theorem ws_c1 {w : Cond} (i : Nat) (h : tables_1_1[i]? = some w) (g : goodWord w = true) : w ∈ WS := List.mem_filter.mpr ⟨List.mem_append_right _ (List.mem_append_left _ (List.mem_of_getElem? h)), g⟩
theorem ws_c2 {w : Cond} (i : Nat) (h : tables_1_2[i]? = some w) (g : goodWord w = true) : w ∈ WS := List.mem_filter.mpr ⟨List.mem_append_right _ (List.mem_append_right _ (List.mem_append_left _ (List.mem_of_getElem? h))), g⟩
theorem ws_c3 {w : Cond} (i : Nat) (h : tables_1_3[i]? = some w) (g : goodWord w = true) : w ∈ WS := List.mem_filter.mpr ⟨List.mem_append_right _ (List.mem_append_right _ (List.mem_append_right _ (List.mem_append_left _ (List.mem_of_getElem? h)))), g⟩
theorem ws_c4 {w : Cond} (i : Nat) (h : tables_1_4[i]? = some w) (g : goodWord w = true) : w ∈ WS := List.mem_filter.mpr ⟨List.mem_append_right _ (List.mem_append_right _ (List.mem_append_right _ (List.mem_append_right _ (List.mem_append_left _ (List.mem_of_getElem? h))))), g⟩
theorem ws_c5 {w : Cond} (i : Nat) (h : tables_1_5[i]? = some w) (g : goodWord w = true) : w ∈ WS := List.mem_filter.mpr ⟨List.mem_append_right _ (List.mem_append_right _ (List.mem_append_right _ (List.mem_append_right _ (List.mem_append_right _ (List.mem_append_left _ (List.mem_of_getElem? h)))))), g⟩
theorem ws_c6 {w : Cond} (i : Nat) (h : tables_1_6[i]? = some w) (g : goodWord w = true) : w ∈ WS := List.mem_filter.mpr ⟨List.mem_append_right _ (List.mem_append_right _ (List.mem_append_right _ (List.mem_append_right _ (List.mem_append_right _ (List.mem_append_right _ (List.mem_append_left _ (List.mem_of_getElem? h))))))), g⟩
theorem ws_c7 {w : Cond} (i : Nat) (h : tables_1_7[i]? = some w) (g : goodWord w = true) : w ∈ WS := List.mem_filter.mpr ⟨List.mem_append_right _ (List.mem_append_right _ (List.mem_append_right _ (List.mem_append_right _ (List.mem_append_right _ (List.mem_append_right _ (List.mem_append_right _ (List.mem_append_left _ (List.mem_of_getElem? h)))))))), g⟩
theorem ws_c8 {w : Cond} (i : Nat) (h : tables_1_8[i]? = some w) (g : goodWord w = true) : w ∈ WS := List.mem_filter.mpr ⟨List.mem_append_right _ (List.mem_append_right _ (List.mem_append_right _ (List.mem_append_right _ (List.mem_append_right _ (List.mem_append_right _ (List.mem_append_right _ (List.mem_append_right _ (List.mem_of_getElem? h)))))))), g⟩
theorem cwd_nil {J : Jm} (h : J.2.2.2.2 = []) : cwd J = .code J.1 J.2.1 J.2.2.1 J.2.2.2.1 := if_pos h
theorem cwd_hh {J : Jm} (h : J.2.2.2.2 ≠ []) : cwd J = .codeWith J.1 J.2.1 J.2.2.1 J.2.2.2.1 J.2.2.2.2 := if_neg h
set_option maxRecDepth 20000 in
theorem inW0 : ∀ w ∈ u_ws RX0 TX0 2, w ∈ WS := ws_list [229, 231] (by decide +kernel) (by decide +kernel)
set_option maxRecDepth 20000 in
theorem inW1 : ∀ w ∈ u_ws RX1 TX1 4, w ∈ WS := ws_list [280, 282, 284, 286] (by decide +kernel) (by decide +kernel)
set_option maxRecDepth 20000 in
theorem inW2 : ∀ w ∈ u_ws RX2 TX2 5, w ∈ WS := ws_list [180, 182, 184, 186, 188] (by decide +kernel) (by decide +kernel)
set_option maxRecDepth 20000 in
theorem inW3 : ∀ w ∈ u_ws RX3 TX3 8, w ∈ WS := ws_list [251, 253, 255, 257, 259, 261, 263, 265] (by decide +kernel) (by decide +kernel)
set_option maxRecDepth 20000 in
theorem inW4 : ∀ w ∈ u_ws RX4 TX4 7, w ∈ WS := ws_list [139, 141, 143, 145, 147, 149, 151] (by decide +kernel) (by decide +kernel)
set_option maxRecDepth 20000 in
theorem inW5 : ∀ w ∈ u_ws RX5 TX5 5, w ∈ WS := ws_list [206, 208, 210, 212, 214] (by decide +kernel) (by decide +kernel)
set_option maxRecDepth 20000 in
theorem inW6 : ∀ w ∈ u_ws RX6 TX6 15, w ∈ WS := ws_list [304, 306, 308, 310, 312, 314, 316, 318, 320, 322, 324, 326, 328, 330, 332] (by decide +kernel) (by decide +kernel)
set_option maxRecDepth 20000 in
theorem inW7 : ∀ w ∈ u_ws RX7 TX7 25, w ∈ WS := ws_list [1241, 1243, 1245, 1247, 1249, 1251, 1253, 1255, 1257, 1259, 1261, 1263, 1265, 1267, 1269, 1271, 1273, 1275, 1277, 1279, 1281, 1283, 1285, 1287, 1289] (by decide +kernel) (by decide +kernel)
theorem wd_94 : (Jvm.Cond.initialized "BitDeskLaw") ∈ WS := ws_c1 0 rfl rfl
theorem wd_95 : (Jvm.Cond.initialized "BitDesk") ∈ WS := ws_c1 1 rfl rfl
theorem wd_96 : (Jvm.Cond.initialized "BitDesk$Reader") ∈ WS := ws_c1 2 rfl rfl
theorem wd_97 : (Jvm.Cond.initialized "BitDesk$State") ∈ WS := ws_c1 3 rfl rfl
theorem wd_98 : (Jvm.Cond.initialized "BitDesk$Matrix") ∈ WS := ws_c1 4 rfl rfl
theorem wd_99 : (Jvm.Cond.initialized "BitDesk$Closure") ∈ WS := ws_c1 5 rfl rfl
theorem wd_100 : (Jvm.Cond.initialized "BitDesk$Multiplier") ∈ WS := ws_c1 6 rfl rfl
theorem wd_101 : (Jvm.Cond.initialized "BitDesk$Elimination") ∈ WS := ws_c1 7 rfl rfl
theorem wd_102 : (Jvm.Cond.initialized "BitDeskModel") ∈ WS := ws_c1 8 rfl rfl
theorem wd_103 : (Jvm.Cond.initialized "java/lang/String") ∈ WS := ws_c1 9 rfl rfl
theorem wd_104 : (Jvm.Cond.initialized "java/lang/StringLatin1") ∈ WS := ws_c1 10 rfl rfl
theorem wd_105 : (Jvm.Cond.initialized "jdk/internal/util/Preconditions") ∈ WS := ws_c1 11 rfl rfl
theorem wd_106 : (Jvm.Cond.initialized "java/lang/StringUTF16") ∈ WS := ws_c1 12 rfl rfl
theorem wd_107 : (Jvm.Cond.initialized "java/lang/Math") ∈ WS := ws_c1 13 rfl rfl
theorem wd_108 : (Jvm.Cond.initialized "java/lang/System") ∈ WS := ws_c1 14 rfl rfl
theorem wd_109 : (Jvm.Cond.initialized "java/lang/Throwable") ∈ WS := ws_c1 15 rfl rfl
theorem wd_110 : (Jvm.Cond.initialized "java/lang/Exception") ∈ WS := ws_c1 16 rfl rfl
theorem wd_111 : (Jvm.Cond.initialized "java/lang/RuntimeException") ∈ WS := ws_c1 17 rfl rfl
theorem wd_112 : (Jvm.Cond.initialized "java/lang/IllegalArgumentException") ∈ WS := ws_c1 18 rfl rfl
theorem wd_113 : (Jvm.Cond.initialized "java/lang/IndexOutOfBoundsException") ∈ WS := ws_c1 19 rfl rfl
theorem wd_114 : (Jvm.Cond.initialized "java/lang/Integer") ∈ WS := ws_c1 20 rfl rfl
theorem wd_154 : (Jvm.Cond.arrayClass Jvm.ClassFile.FieldType.int) ∈ WS := ws_c1 60 rfl rfl
theorem wd_234 : (Jvm.Cond.arrayClass Jvm.ClassFile.FieldType.boolean) ∈ WS := ws_c1 140 rfl rfl
theorem wd_515 : (Jvm.Cond.arrayClass Jvm.ClassFile.FieldType.byte) ∈ WS := ws_c2 181 rfl rfl
theorem wd_1292 : (Jvm.Cond.arrayClass Jvm.ClassFile.FieldType.long) ∈ WS := ws_c5 238 rfl rfl
theorem wd_1784 : (Jvm.Cond.arrayClass Jvm.ClassFile.FieldType.double) ∈ WS := ws_c8 10 rfl rfl
theorem wn_f0 : (Jvm.Cond.fieldLinkNest "BitDesk" (92 : Nat) "BitDesk$Reader" "statement" "I" "BitDesk") ∈ NWL := List.mem_append_left _ (List.mem_of_getElem? (i := 0) rfl)
theorem wn_f1 : (Jvm.Cond.fieldLinkNest "BitDesk" (76 : Nat) "BitDesk$Reader" "error" "I" "BitDesk") ∈ NWL := List.mem_append_left _ (List.mem_of_getElem? (i := 1) rfl)
theorem wn_f2 : (Jvm.Cond.fieldLinkNest "BitDesk" (80 : Nat) "BitDesk$Reader" "errorPosition" "I" "BitDesk") ∈ NWL := List.mem_append_left _ (List.mem_of_getElem? (i := 2) rfl)
theorem wn_f3 : (Jvm.Cond.fieldLinkNest "BitDesk$Reader" (108 : Nat) "BitDesk$Matrix" "rows" "[I" "BitDesk") ∈ NWL := List.mem_append_left _ (List.mem_of_getElem? (i := 3) rfl)
theorem wn_f4 : (Jvm.Cond.fieldLinkNest "BitDesk" (229 : Nat) "BitDesk$Matrix" "rows" "[I" "BitDesk") ∈ NWL := List.mem_append_left _ (List.mem_of_getElem? (i := 4) rfl)
theorem wn_f5 : (Jvm.Cond.fieldLinkNest "BitDesk$Reader" (115 : Nat) "BitDesk$Matrix" "isKept" "Z" "BitDesk") ∈ NWL := List.mem_append_left _ (List.mem_of_getElem? (i := 5) rfl)
theorem wn_f6 : (Jvm.Cond.fieldLinkNest "BitDesk" (288 : Nat) "BitDesk$Matrix" "isKept" "Z" "BitDesk") ∈ NWL := List.mem_append_left _ (List.mem_of_getElem? (i := 6) rfl)
theorem wn_f7 : (Jvm.Cond.fieldLinkNest "BitDesk" (295 : Nat) "BitDesk$Matrix" "lookedLately" "I" "BitDesk") ∈ NWL := List.mem_append_left _ (List.mem_of_getElem? (i := 7) rfl)
theorem wn_f8 : (Jvm.Cond.fieldLinkNest "BitDesk" (298 : Nat) "BitDesk$Matrix" "lookedInAll" "I" "BitDesk") ∈ NWL := List.mem_append_left _ (List.mem_of_getElem? (i := 8) rfl)
theorem wn_f9 : (Jvm.Cond.fieldLinkNest "BitDesk" (301 : Nat) "BitDesk$Matrix" "timesMadeAnew" "I" "BitDesk") ∈ NWL := List.mem_append_left _ (List.mem_of_getElem? (i := 9) rfl)
theorem wn_f10 : (Jvm.Cond.fieldLinkNest "BitDesk$Reader" (47 : Nat) "BitDesk$State" "slots" "[LBitDesk$Matrix;" "BitDesk") ∈ NWL := List.mem_append_left _ (List.mem_of_getElem? (i := 10) rfl)
theorem wn_f11 : (Jvm.Cond.fieldLinkNest "BitDesk" (225 : Nat) "BitDesk$State" "slots" "[LBitDesk$Matrix;" "BitDesk") ∈ NWL := List.mem_append_left _ (List.mem_of_getElem? (i := 11) rfl)
theorem wn_f12 : (Jvm.Cond.fieldLinkNest "BitDesk$Multiplier" (21 : Nat) "BitDesk$State" "size" "I" "BitDesk") ∈ NWL := List.mem_append_left _ (List.mem_of_getElem? (i := 12) rfl)
theorem wn_f13 : (Jvm.Cond.fieldLinkNest "BitDesk" (89 : Nat) "BitDesk$State" "size" "I" "BitDesk") ∈ NWL := List.mem_append_left _ (List.mem_of_getElem? (i := 13) rfl)
theorem wn_f14 : (Jvm.Cond.fieldLinkNest "BitDesk$Reader" (53 : Nat) "BitDesk$State" "size" "I" "BitDesk") ∈ NWL := List.mem_append_left _ (List.mem_of_getElem? (i := 14) rfl)
theorem wn_f15 : (Jvm.Cond.fieldLinkNest "BitDesk$Multiplier" (28 : Nat) "BitDesk$State" "block" "I" "BitDesk") ∈ NWL := List.mem_append_left _ (List.mem_of_getElem? (i := 15) rfl)
theorem wn_f16 : (Jvm.Cond.fieldLinkNest "BitDesk$Reader" (106 : Nat) "BitDesk$State" "block" "I" "BitDesk") ∈ NWL := List.mem_append_left _ (List.mem_of_getElem? (i := 16) rfl)
theorem wn_f17 : (Jvm.Cond.fieldLinkNest "BitDesk" (99 : Nat) "BitDesk$State" "block" "I" "BitDesk") ∈ NWL := List.mem_append_left _ (List.mem_of_getElem? (i := 17) rfl)
theorem wn_f18 : (Jvm.Cond.fieldLinkNest "BitDesk" (304 : Nat) "BitDesk$State" "entriesMade" "I" "BitDesk") ∈ NWL := List.mem_append_left _ (List.mem_of_getElem? (i := 18) rfl)
theorem wn_f19 : (Jvm.Cond.fieldLinkNest "BitDesk" (307 : Nat) "BitDesk$State" "entriesTaken" "I" "BitDesk") ∈ NWL := List.mem_append_left _ (List.mem_of_getElem? (i := 19) rfl)
theorem wn_f20 : (Jvm.Cond.fieldLinkNest "BitDesk" (166 : Nat) "BitDesk$Closure" "reach" "[I" "BitDesk") ∈ NWL := List.mem_append_left _ (List.mem_of_getElem? (i := 20) rfl)
theorem wn_f21 : (Jvm.Cond.fieldLinkNest "BitDesk" (341 : Nat) "BitDesk$Closure" "isCurrent" "Z" "BitDesk") ∈ NWL := List.mem_append_left _ (List.mem_of_getElem? (i := 21) rfl)
theorem wn_f22 : (Jvm.Cond.fieldLinkNest "BitDesk" (347 : Nat) "BitDesk$Multiplier" "entriesMade" "I" "BitDesk") ∈ NWL := List.mem_append_left _ (List.mem_of_getElem? (i := 22) rfl)
theorem wn_f23 : (Jvm.Cond.fieldLinkNest "BitDesk" (348 : Nat) "BitDesk$Multiplier" "entriesTaken" "I" "BitDesk") ∈ NWL := List.mem_append_left _ (List.mem_of_getElem? (i := 23) rfl)
theorem wn_f24 : (Jvm.Cond.fieldLinkNest "BitDesk" (273 : Nat) "BitDesk$Elimination" "right" "[I" "BitDesk") ∈ NWL := List.mem_append_left _ (List.mem_of_getElem? (i := 24) rfl)
theorem wn_f25 : (Jvm.Cond.fieldLinkNest "BitDesk" (207 : Nat) "BitDesk$Elimination" "pivotCount" "I" "BitDesk") ∈ NWL := List.mem_append_left _ (List.mem_of_getElem? (i := 25) rfl)
theorem wn_m0 : (Jvm.Cond.methodLinkNest "BitDesk$Reader" (126 : Nat) ({ cls := "BitDesk", name := "lowest", desc := "(I)I" } : Jvm.MethodName) "BitDesk") ∈ NWL := List.mem_append_right _ (List.mem_of_getElem? (i := 0) rfl)
theorem wn_m1 : (Jvm.Cond.methodLinkNest "BitDesk$Closure" (21 : Nat) ({ cls := "BitDesk", name := "hasOne", desc := "(II)Z" } : Jvm.MethodName) "BitDesk") ∈ NWL := List.mem_append_right _ (List.mem_of_getElem? (i := 1) rfl)
theorem wn_m2 : (Jvm.Cond.methodLinkNest "BitDesk$Closure" (29 : Nat) ({ cls := "BitDesk", name := "columnOf", desc := "([III)I" } : Jvm.MethodName) "BitDesk") ∈ NWL := List.mem_append_right _ (List.mem_of_getElem? (i := 2) rfl)
theorem wn_m3 : (Jvm.Cond.methodLinkNest "BitDesk$Closure" (33 : Nat) ({ cls := "BitDesk", name := "lowestOne", desc := "(I)I" } : Jvm.MethodName) "BitDesk") ∈ NWL := List.mem_append_right _ (List.mem_of_getElem? (i := 3) rfl)
theorem wn_m4 : (Jvm.Cond.methodLinkNest "BitDesk$Closure" (46 : Nat) ({ cls := "BitDesk", name := "reachedFrom", desc := "([III)I" } : Jvm.MethodName) "BitDesk") ∈ NWL := List.mem_append_right _ (List.mem_of_getElem? (i := 4) rfl)
theorem wn_m5 : (Jvm.Cond.methodLinkNest "BitDesk$Elimination" (47 : Nat) ({ cls := "BitDesk", name := "hasOne", desc := "(II)Z" } : Jvm.MethodName) "BitDesk") ∈ NWL := List.mem_append_right _ (List.mem_of_getElem? (i := 5) rfl)
theorem wn_m6 : (Jvm.Cond.methodLinkNest "BitDesk$Multiplier" (67 : Nat) ({ cls := "BitDesk", name := "lowest", desc := "(I)I" } : Jvm.MethodName) "BitDesk") ∈ NWL := List.mem_append_right _ (List.mem_of_getElem? (i := 6) rfl)
theorem wn_m7 : (Jvm.Cond.methodLinkNest "BitDesk$Multiplier" (60 : Nat) ({ cls := "BitDesk", name := "hasOne", desc := "(II)Z" } : Jvm.MethodName) "BitDesk") ∈ NWL := List.mem_append_right _ (List.mem_of_getElem? (i := 7) rfl)
theorem wd_224 : (Jvm.Cond.methodLink "BitDesk$Closure" (3 : Nat) ({ cls := "java/lang/Object", name := "<init>", desc := "()V" } : Jvm.MethodName)) ∈ WS := ws_c1 130 rfl rfl
theorem wd_121 : (Jvm.Cond.instanceMethod ({ cls := "java/lang/Object", name := "<init>", desc := "()V" } : Jvm.MethodName)) ∈ WS := ws_c1 27 rfl rfl
theorem wd_122 : (Jvm.Cond.code ({ cls := "java/lang/Object", name := "<init>", desc := "()V" } : Jvm.MethodName) object_method_1_code (1 : Nat) (Option.none : Option Jvm.ClassFile.FieldType)) ∈ WS := ws_c1 28 rfl rfl
theorem wd_225 : (Jvm.Cond.fieldLink "BitDesk$Closure" (9 : Nat) "BitDesk$Closure" "reach" "[I") ∈ WS := ws_c1 131 rfl rfl
theorem fp_X0_9 : FP RX0 9 0 0 (.array .int) true := ⟨RX0, TX0, 2, tyX0, rfl, by decide, rfl, rfl, (Or.inl wd_225), inW0, tyX0_ok, nmX0, rfl, tyX0_ok 0 (by decide), rfl⟩
theorem fk_X0_9 : FK RX0 9 0 0 (.array .int) := ⟨RX0, TX0, 2, rfl, by decide, rfl, rfl, (Or.inl wd_225), inW0⟩
theorem wd_790 : (Jvm.Cond.methodLink "BitDesk$Closure" (15 : Nat) ({ cls := "java/lang/System", name := "arraycopy", desc := "(Ljava/lang/Object;ILjava/lang/Object;II)V" } : Jvm.MethodName)) ∈ WS := ws_c3 216 rfl rfl
theorem wd_510 : (Jvm.Cond.native ({ cls := "java/lang/System", name := "arraycopy", desc := "(Ljava/lang/Object;ILjava/lang/Object;II)V" } : Jvm.MethodName)) ∈ WS := ws_c2 176 rfl rfl
theorem wd_509 : (Jvm.Cond.static ({ cls := "java/lang/System", name := "arraycopy", desc := "(Ljava/lang/Object;ILjava/lang/Object;II)V" } : Jvm.MethodName)) ∈ WS := ws_c2 175 rfl rfl
theorem wd_661 : (Jvm.Cond.code ({ cls := "BitDesk", name := "hasOne", desc := "(II)Z" } : Jvm.MethodName) prog_1_method_85_code (2 : Nat) (Option.some Jvm.ClassFile.FieldType.boolean)) ∈ WS := ws_c3 87 rfl rfl
theorem wd_660 : (Jvm.Cond.static ({ cls := "BitDesk", name := "hasOne", desc := "(II)Z" } : Jvm.MethodName)) ∈ WS := ws_c3 86 rfl rfl
theorem lk_X0_21 : LkSN RX0 21 jX6_hasOne 2 := ⟨⟨⟨_, wn_m1⟩, ⟨rfl, (by rw [cwd_nil rfl]; exact wd_661)⟩, wd_95, ⟨by decide +kernel, by decide +kernel⟩, by decide +kernel⟩, wd_660⟩
theorem wd_227 : (Jvm.Cond.fieldLink "BitDesk$Closure" (25 : Nat) "BitDesk$Closure" "isCurrent" "Z") ∈ WS := ws_c1 133 rfl rfl
theorem fp_X0_25 : FP RX0 25 0 1 (.boolean) false := ⟨RX0, TX0, 2, tyX0, rfl, by decide, rfl, rfl, (Or.inl wd_227), inW0, tyX0_ok, nmX0, rfl, tyX0_ok 1 (by decide), rfl⟩
theorem wd_716 : (Jvm.Cond.code ({ cls := "BitDesk", name := "columnOf", desc := "([III)I" } : Jvm.MethodName) prog_1_method_90_code (5 : Nat) (Option.some Jvm.ClassFile.FieldType.int)) ∈ WS := ws_c3 142 rfl rfl
theorem wd_715 : (Jvm.Cond.static ({ cls := "BitDesk", name := "columnOf", desc := "([III)I" } : Jvm.MethodName)) ∈ WS := ws_c3 141 rfl rfl
theorem lk_X0_29 : LkSN RX0 29 jX6_columnOf 3 := ⟨⟨⟨_, wn_m2⟩, ⟨rfl, (by rw [cwd_nil rfl]; exact wd_716)⟩, wd_95, ⟨by decide +kernel, by decide +kernel⟩, by decide +kernel⟩, wd_715⟩
theorem wd_828 : (Jvm.Cond.code ({ cls := "BitDesk", name := "lowestOne", desc := "(I)I" } : Jvm.MethodName) prog_1_method_87_code (1 : Nat) (Option.some Jvm.ClassFile.FieldType.int)) ∈ WS := ws_c4 14 rfl rfl
theorem wd_827 : (Jvm.Cond.static ({ cls := "BitDesk", name := "lowestOne", desc := "(I)I" } : Jvm.MethodName)) ∈ WS := ws_c4 13 rfl rfl
theorem lk_X0_33 : LkSN RX0 33 jX6_lowestOne 1 := ⟨⟨⟨_, wn_m3⟩, ⟨rfl, (by rw [cwd_nil rfl]; exact wd_828)⟩, wd_95, ⟨by decide +kernel, by decide +kernel⟩, by decide +kernel⟩, wd_827⟩
theorem wd_683 : (Jvm.Cond.code ({ cls := "java/lang/Integer", name := "bitCount", desc := "(I)I" } : Jvm.MethodName) prog_13_method_49_code (1 : Nat) (Option.some Jvm.ClassFile.FieldType.int)) ∈ WS := ws_c3 109 rfl rfl
theorem wd_900 : (Jvm.Cond.methodLink "BitDesk$Closure" (37 : Nat) ({ cls := "java/lang/Integer", name := "bitCount", desc := "(I)I" } : Jvm.MethodName)) ∈ WS := ws_c4 86 rfl rfl
theorem wd_682 : (Jvm.Cond.static ({ cls := "java/lang/Integer", name := "bitCount", desc := "(I)I" } : Jvm.MethodName)) ∈ WS := ws_c3 108 rfl rfl
theorem lk_X0_37 : LkS RX0 37 jJ6_bitCount_0f7a4 1 := ⟨⟨wd_900, ⟨rfl, (by rw [cwd_nil rfl]; exact wd_683)⟩, wd_114, ⟨by decide +kernel, by decide +kernel⟩, by decide +kernel⟩, wd_682⟩
theorem wd_899 : (Jvm.Cond.code ({ cls := "BitDesk$Closure", name := "gainWith", desc := "(III)I" } : Jvm.MethodName) prog_2_method_5_code (7 : Nat) (Option.some Jvm.ClassFile.FieldType.int)) ∈ WS := ws_c4 85 rfl rfl
theorem wd_1025 : (Jvm.Cond.methodLink "BitDesk$Closure" (42 : Nat) ({ cls := "BitDesk$Closure", name := "gainWith", desc := "(III)I" } : Jvm.MethodName)) ∈ WS := ws_c4 211 rfl rfl
theorem wd_897 : (Jvm.Cond.instanceMethod ({ cls := "BitDesk$Closure", name := "gainWith", desc := "(III)I" } : Jvm.MethodName)) ∈ WS := ws_c4 83 rfl rfl
theorem wd_898 : (Jvm.Cond.selects "BitDesk$Closure" ({ cls := "BitDesk$Closure", name := "gainWith", desc := "(III)I" } : Jvm.MethodName) ({ cls := "BitDesk$Closure", name := "gainWith", desc := "(III)I" } : Jvm.MethodName)) ∈ WS := ws_c4 84 rfl rfl
theorem lk_X0_42 : LkV RX0 42 jX0_gainWith 3 := ⟨⟨wd_1025, ⟨rfl, (by rw [cwd_nil rfl]; exact wd_899)⟩, wd_99, ⟨by decide +kernel, by decide +kernel⟩, by decide +kernel⟩, wd_897, wd_898⟩
theorem wd_919 : (Jvm.Cond.code ({ cls := "BitDesk", name := "reachedFrom", desc := "([III)I" } : Jvm.MethodName) prog_1_method_91_code (7 : Nat) (Option.some Jvm.ClassFile.FieldType.int)) ∈ WS := ws_c4 105 rfl rfl
theorem wd_918 : (Jvm.Cond.static ({ cls := "BitDesk", name := "reachedFrom", desc := "([III)I" } : Jvm.MethodName)) ∈ WS := ws_c4 104 rfl rfl
theorem lk_X0_46 : LkSN RX0 46 jX6_reachedFrom 3 := ⟨⟨⟨_, wn_m4⟩, ⟨rfl, (by rw [cwd_nil rfl]; exact wd_919)⟩, wd_95, ⟨by decide +kernel, by decide +kernel⟩, by decide +kernel⟩, wd_918⟩
theorem wd_895 : (Jvm.Cond.code ({ cls := "BitDesk$Closure", name := "nodesTo", desc := "(II)I" } : Jvm.MethodName) prog_2_method_3_code (3 : Nat) (Option.some Jvm.ClassFile.FieldType.int)) ∈ WS := ws_c4 81 rfl rfl
theorem wd_920 : (Jvm.Cond.methodLink "BitDesk$Closure" (49 : Nat) ({ cls := "BitDesk$Closure", name := "nodesTo", desc := "(II)I" } : Jvm.MethodName)) ∈ WS := ws_c4 106 rfl rfl
theorem wd_893 : (Jvm.Cond.instanceMethod ({ cls := "BitDesk$Closure", name := "nodesTo", desc := "(II)I" } : Jvm.MethodName)) ∈ WS := ws_c4 79 rfl rfl
theorem wd_894 : (Jvm.Cond.selects "BitDesk$Closure" ({ cls := "BitDesk$Closure", name := "nodesTo", desc := "(II)I" } : Jvm.MethodName) ({ cls := "BitDesk$Closure", name := "nodesTo", desc := "(II)I" } : Jvm.MethodName)) ∈ WS := ws_c4 80 rfl rfl
theorem lk_X0_49 : LkV RX0 49 jX0_nodesTo 2 := ⟨⟨wd_920, ⟨rfl, (by rw [cwd_nil rfl]; exact wd_895)⟩, wd_99, ⟨by decide +kernel, by decide +kernel⟩, by decide +kernel⟩, wd_893, wd_894⟩
theorem wd_273 : (Jvm.Cond.methodLink "BitDesk$Elimination" (3 : Nat) ({ cls := "java/lang/Object", name := "<init>", desc := "()V" } : Jvm.MethodName)) ∈ WS := ws_c1 179 rfl rfl
theorem wd_274 : (Jvm.Cond.fieldLink "BitDesk$Elimination" (9 : Nat) "BitDesk$Elimination" "left" "[I") ∈ WS := ws_c1 180 rfl rfl
theorem fp_X1_9 : FP RX1 9 1 0 (.array .int) true := ⟨RX1, TX1, 4, tyX1, rfl, by decide, rfl, rfl, (Or.inl wd_274), inW1, tyX1_ok, nmX1, rfl, tyX1_ok 0 (by decide), rfl⟩
theorem wd_275 : (Jvm.Cond.fieldLink "BitDesk$Elimination" (15 : Nat) "BitDesk$Elimination" "right" "[I") ∈ WS := ws_c1 181 rfl rfl
theorem fp_X1_15 : FP RX1 15 1 1 (.array .int) true := ⟨RX1, TX1, 4, tyX1, rfl, by decide, rfl, rfl, (Or.inl wd_275), inW1, tyX1_ok, nmX1, rfl, tyX1_ok 1 (by decide), rfl⟩
theorem wd_277 : (Jvm.Cond.fieldLink "BitDesk$Elimination" (18 : Nat) "BitDesk$Elimination" "pivots" "[I") ∈ WS := ws_c1 183 rfl rfl
theorem fp_X1_18 : FP RX1 18 1 2 (.array .int) true := ⟨RX1, TX1, 4, tyX1, rfl, by decide, rfl, rfl, (Or.inl wd_277), inW1, tyX1_ok, nmX1, rfl, tyX1_ok 2 (by decide), rfl⟩
theorem fk_X1_15 : FK RX1 15 1 1 (.array .int) := ⟨RX1, TX1, 4, rfl, by decide, rfl, rfl, (Or.inl wd_275), inW1⟩
theorem wd_959 : (Jvm.Cond.code ({ cls := "BitDesk$Elimination", name := "eliminateAll", desc := "([II)V" } : Jvm.MethodName) prog_3_method_7_code (5 : Nat) (Option.none : Option Jvm.ClassFile.FieldType)) ∈ WS := ws_c4 145 rfl rfl
theorem wd_956 : (Jvm.Cond.methodLink "BitDesk$Elimination" (21 : Nat) ({ cls := "BitDesk$Elimination", name := "eliminateAll", desc := "([II)V" } : Jvm.MethodName)) ∈ WS := ws_c4 142 rfl rfl
theorem wd_958 : (Jvm.Cond.instanceMethod ({ cls := "BitDesk$Elimination", name := "eliminateAll", desc := "([II)V" } : Jvm.MethodName)) ∈ WS := ws_c4 144 rfl rfl
theorem wd_33 : (Jvm.Cond.selects "BitDesk$Elimination" (⟨"BitDesk$Elimination", "eliminateAll", "([II)V"⟩ : Jvm.MethodName) (⟨"BitDesk$Elimination", "eliminateAll", "([II)V"⟩ : Jvm.MethodName)) ∈ WS := ws_c0 33 rfl rfl
theorem lk_X1_21 : LkV RX1 21 jX1_eliminateAll 2 := ⟨⟨wd_956, ⟨rfl, (by rw [cwd_nil rfl]; exact wd_959)⟩, wd_101, ⟨by decide +kernel, by decide +kernel⟩, by decide +kernel⟩, wd_958, wd_33⟩
theorem wd_278 : (Jvm.Cond.fieldLink "BitDesk$Elimination" (25 : Nat) "BitDesk$Elimination" "pivotCount" "I") ∈ WS := ws_c1 184 rfl rfl
theorem fk_X1_25 : FK RX1 25 1 3 (.int) := ⟨RX1, TX1, 4, rfl, by decide, rfl, rfl, (Or.inl wd_278), inW1⟩
theorem fk_X1_18 : FK RX1 18 1 2 (.array .int) := ⟨RX1, TX1, 4, rfl, by decide, rfl, rfl, (Or.inl wd_277), inW1⟩
theorem fk_X1_9 : FK RX1 9 1 0 (.array .int) := ⟨RX1, TX1, 4, rfl, by decide, rfl, rfl, (Or.inl wd_274), inW1⟩
theorem wd_960 : (Jvm.Cond.methodLink "BitDesk$Elimination" (29 : Nat) ({ cls := "java/lang/System", name := "arraycopy", desc := "(Ljava/lang/Object;ILjava/lang/Object;II)V" } : Jvm.MethodName)) ∈ WS := ws_c4 146 rfl rfl
theorem fp_X1_25 : FP RX1 25 1 3 (.int) false := ⟨RX1, TX1, 4, tyX1, rfl, by decide, rfl, rfl, (Or.inl wd_278), inW1, tyX1_ok, nmX1, rfl, tyX1_ok 3 (by decide), rfl⟩
theorem wd_964 : (Jvm.Cond.code ({ cls := "BitDesk$Elimination", name := "rowNotTaken", desc := "(II)I" } : Jvm.MethodName) prog_3_method_8_code (4 : Nat) (Option.some Jvm.ClassFile.FieldType.int)) ∈ WS := ws_c4 150 rfl rfl
theorem wd_961 : (Jvm.Cond.methodLink "BitDesk$Elimination" (35 : Nat) ({ cls := "BitDesk$Elimination", name := "rowNotTaken", desc := "(II)I" } : Jvm.MethodName)) ∈ WS := ws_c4 147 rfl rfl
theorem wd_963 : (Jvm.Cond.instanceMethod ({ cls := "BitDesk$Elimination", name := "rowNotTaken", desc := "(II)I" } : Jvm.MethodName)) ∈ WS := ws_c4 149 rfl rfl
theorem wd_34 : (Jvm.Cond.selects "BitDesk$Elimination" (⟨"BitDesk$Elimination", "rowNotTaken", "(II)I"⟩ : Jvm.MethodName) (⟨"BitDesk$Elimination", "rowNotTaken", "(II)I"⟩ : Jvm.MethodName)) ∈ WS := ws_c0 34 rfl rfl
theorem lk_X1_35 : LkV RX1 35 jX1_rowNotTaken 2 := ⟨⟨wd_961, ⟨rfl, (by rw [cwd_nil rfl]; exact wd_964)⟩, wd_101, ⟨by decide +kernel, by decide +kernel⟩, by decide +kernel⟩, wd_963, wd_34⟩
theorem wd_969 : (Jvm.Cond.code ({ cls := "BitDesk$Elimination", name := "swapRows", desc := "(II)V" } : Jvm.MethodName) prog_3_method_9_code (5 : Nat) (Option.none : Option Jvm.ClassFile.FieldType)) ∈ WS := ws_c4 155 rfl rfl
theorem wd_966 : (Jvm.Cond.methodLink "BitDesk$Elimination" (39 : Nat) ({ cls := "BitDesk$Elimination", name := "swapRows", desc := "(II)V" } : Jvm.MethodName)) ∈ WS := ws_c4 152 rfl rfl
theorem wd_968 : (Jvm.Cond.instanceMethod ({ cls := "BitDesk$Elimination", name := "swapRows", desc := "(II)V" } : Jvm.MethodName)) ∈ WS := ws_c4 154 rfl rfl
theorem wd_35 : (Jvm.Cond.selects "BitDesk$Elimination" (⟨"BitDesk$Elimination", "swapRows", "(II)V"⟩ : Jvm.MethodName) (⟨"BitDesk$Elimination", "swapRows", "(II)V"⟩ : Jvm.MethodName)) ∈ WS := ws_c0 35 rfl rfl
theorem lk_X1_39 : LkV RX1 39 jX1_swapRows 2 := ⟨⟨wd_966, ⟨rfl, (by rw [cwd_nil rfl]; exact wd_969)⟩, wd_101, ⟨by decide +kernel, by decide +kernel⟩, by decide +kernel⟩, wd_968, wd_35⟩
theorem wd_973 : (Jvm.Cond.code ({ cls := "BitDesk$Elimination", name := "clearOthers", desc := "(III)V" } : Jvm.MethodName) prog_3_method_10_code (5 : Nat) (Option.none : Option Jvm.ClassFile.FieldType)) ∈ WS := ws_c4 159 rfl rfl
theorem wd_970 : (Jvm.Cond.methodLink "BitDesk$Elimination" (43 : Nat) ({ cls := "BitDesk$Elimination", name := "clearOthers", desc := "(III)V" } : Jvm.MethodName)) ∈ WS := ws_c4 156 rfl rfl
theorem wd_972 : (Jvm.Cond.instanceMethod ({ cls := "BitDesk$Elimination", name := "clearOthers", desc := "(III)V" } : Jvm.MethodName)) ∈ WS := ws_c4 158 rfl rfl
theorem wd_36 : (Jvm.Cond.selects "BitDesk$Elimination" (⟨"BitDesk$Elimination", "clearOthers", "(III)V"⟩ : Jvm.MethodName) (⟨"BitDesk$Elimination", "clearOthers", "(III)V"⟩ : Jvm.MethodName)) ∈ WS := ws_c0 36 rfl rfl
theorem lk_X1_43 : LkV RX1 43 jX1_clearOthers 3 := ⟨⟨wd_970, ⟨rfl, (by rw [cwd_nil rfl]; exact wd_973)⟩, wd_101, ⟨by decide +kernel, by decide +kernel⟩, by decide +kernel⟩, wd_972, wd_36⟩
theorem lk_X1_47 : LkSN RX1 47 jX6_hasOne 2 := ⟨⟨⟨_, wn_m5⟩, ⟨rfl, (by rw [cwd_nil rfl]; exact wd_661)⟩, wd_95, ⟨by decide +kernel, by decide +kernel⟩, by decide +kernel⟩, wd_660⟩
theorem wd_167 : (Jvm.Cond.methodLink "BitDesk$Matrix" (3 : Nat) ({ cls := "java/lang/Object", name := "<init>", desc := "()V" } : Jvm.MethodName)) ∈ WS := ws_c1 73 rfl rfl
theorem wd_168 : (Jvm.Cond.fieldLink "BitDesk$Matrix" (9 : Nat) "BitDesk$Matrix" "rows" "[I") ∈ WS := ws_c1 74 rfl rfl
theorem fp_X2_9 : FP RX2 9 2 0 (.array .int) true := ⟨RX2, TX2, 5, tyX2, rfl, by decide, rfl, rfl, (Or.inl wd_168), inW2, tyX2_ok, nmX2, rfl, tyX2_ok 0 (by decide), rfl⟩
theorem fk_X2_9 : FK RX2 9 2 0 (.array .int) := ⟨RX2, TX2, 5, rfl, by decide, rfl, rfl, (Or.inl wd_168), inW2⟩
theorem wd_171 : (Jvm.Cond.fieldLink "BitDesk$Matrix" (15 : Nat) "BitDesk$Matrix" "isKept" "Z") ∈ WS := ws_c1 77 rfl rfl
theorem fp_X2_15 : FP RX2 15 2 1 (.boolean) false := ⟨RX2, TX2, 5, tyX2, rfl, by decide, rfl, rfl, (Or.inl wd_171), inW2, tyX2_ok, nmX2, rfl, tyX2_ok 1 (by decide), rfl⟩
theorem wd_174 : (Jvm.Cond.fieldLink "BitDesk$Matrix" (19 : Nat) "BitDesk$Matrix" "lookedLately" "I") ∈ WS := ws_c1 80 rfl rfl
theorem fp_X2_19 : FP RX2 19 2 2 (.int) false := ⟨RX2, TX2, 5, tyX2, rfl, by decide, rfl, rfl, (Or.inl wd_174), inW2, tyX2_ok, nmX2, rfl, tyX2_ok 2 (by decide), rfl⟩
theorem wd_176 : (Jvm.Cond.fieldLink "BitDesk$Matrix" (23 : Nat) "BitDesk$Matrix" "lookedInAll" "I") ∈ WS := ws_c1 82 rfl rfl
theorem fp_X2_23 : FP RX2 23 2 3 (.int) false := ⟨RX2, TX2, 5, tyX2, rfl, by decide, rfl, rfl, (Or.inl wd_176), inW2, tyX2_ok, nmX2, rfl, tyX2_ok 3 (by decide), rfl⟩
theorem wd_178 : (Jvm.Cond.fieldLink "BitDesk$Matrix" (26 : Nat) "BitDesk$Matrix" "timesMadeAnew" "I") ∈ WS := ws_c1 84 rfl rfl
theorem fp_X2_26 : FP RX2 26 2 4 (.int) false := ⟨RX2, TX2, 5, tyX2, rfl, by decide, rfl, rfl, (Or.inl wd_178), inW2, tyX2_ok, nmX2, rfl, tyX2_ok 4 (by decide), rfl⟩
theorem wd_508 : (Jvm.Cond.methodLink "BitDesk$Matrix" (29 : Nat) ({ cls := "java/lang/System", name := "arraycopy", desc := "(Ljava/lang/Object;ILjava/lang/Object;II)V" } : Jvm.MethodName)) ∈ WS := ws_c2 174 rfl rfl
theorem fk_X2_15 : FK RX2 15 2 1 (.boolean) := ⟨RX2, TX2, 5, rfl, by decide, rfl, rfl, (Or.inl wd_171), inW2⟩
theorem fk_X2_19 : FK RX2 19 2 2 (.int) := ⟨RX2, TX2, 5, rfl, by decide, rfl, rfl, (Or.inl wd_174), inW2⟩
theorem fk_X2_23 : FK RX2 23 2 3 (.int) := ⟨RX2, TX2, 5, rfl, by decide, rfl, rfl, (Or.inl wd_176), inW2⟩
theorem fk_X2_26 : FK RX2 26 2 4 (.int) := ⟨RX2, TX2, 5, rfl, by decide, rfl, rfl, (Or.inl wd_178), inW2⟩
theorem wd_495 : (Jvm.Cond.code ({ cls := "BitDesk$Matrix", name := "noteLooked", desc := "(I)V" } : Jvm.MethodName) prog_4_method_4_code (2 : Nat) (Option.none : Option Jvm.ClassFile.FieldType)) ∈ WS := ws_c2 161 rfl rfl
theorem wd_492 : (Jvm.Cond.methodLink "BitDesk$Matrix" (35 : Nat) ({ cls := "BitDesk$Matrix", name := "noteLooked", desc := "(I)V" } : Jvm.MethodName)) ∈ WS := ws_c2 158 rfl rfl
theorem wd_493 : (Jvm.Cond.instanceMethod ({ cls := "BitDesk$Matrix", name := "noteLooked", desc := "(I)V" } : Jvm.MethodName)) ∈ WS := ws_c2 159 rfl rfl
theorem wd_494 : (Jvm.Cond.selects "BitDesk$Matrix" ({ cls := "BitDesk$Matrix", name := "noteLooked", desc := "(I)V" } : Jvm.MethodName) ({ cls := "BitDesk$Matrix", name := "noteLooked", desc := "(I)V" } : Jvm.MethodName)) ∈ WS := ws_c2 160 rfl rfl
theorem lk_X2_35 : LkV RX2 35 jX2_noteLooked 1 := ⟨⟨wd_492, ⟨rfl, (by rw [cwd_nil rfl]; exact wd_495)⟩, wd_98, ⟨by decide +kernel, by decide +kernel⟩, by decide +kernel⟩, wd_493, wd_494⟩
theorem wd_240 : (Jvm.Cond.methodLink "BitDesk$Multiplier" (3 : Nat) ({ cls := "java/lang/Object", name := "<init>", desc := "()V" } : Jvm.MethodName)) ∈ WS := ws_c1 146 rfl rfl
theorem wd_241 : (Jvm.Cond.fieldLink "BitDesk$Multiplier" (9 : Nat) "BitDesk$Multiplier" "table" "[I") ∈ WS := ws_c1 147 rfl rfl
theorem fp_X3_9 : FP RX3 9 3 0 (.array .int) true := ⟨RX3, TX3, 8, tyX3, rfl, by decide, rfl, rfl, (Or.inl wd_241), inW3, tyX3_ok, nmX3, rfl, tyX3_ok 0 (by decide), rfl⟩
theorem wd_242 : (Jvm.Cond.fieldLink "BitDesk$Multiplier" (15 : Nat) "BitDesk$Multiplier" "first" "[I") ∈ WS := ws_c1 148 rfl rfl
theorem fp_X3_15 : FP RX3 15 3 1 (.array .int) true := ⟨RX3, TX3, 8, tyX3, rfl, by decide, rfl, rfl, (Or.inl wd_242), inW3, tyX3_ok, nmX3, rfl, tyX3_ok 1 (by decide), rfl⟩
theorem wd_243 : (Jvm.Cond.fieldLink "BitDesk$Multiplier" (18 : Nat) "BitDesk$Multiplier" "second" "[I") ∈ WS := ws_c1 149 rfl rfl
theorem fp_X3_18 : FP RX3 18 3 2 (.array .int) true := ⟨RX3, TX3, 8, tyX3, rfl, by decide, rfl, rfl, (Or.inl wd_243), inW3, tyX3_ok, nmX3, rfl, tyX3_ok 2 (by decide), rfl⟩
theorem fk_X3_21 : FK RX3 21 5 1 (.int) := ⟨RX5, TX5, 5, rfl, by decide, rfl, rfl, (Or.inr ⟨_, wn_f12⟩), inW5⟩
theorem wd_244 : (Jvm.Cond.fieldLink "BitDesk$Multiplier" (27 : Nat) "BitDesk$Multiplier" "size" "I") ∈ WS := ws_c1 150 rfl rfl
theorem fp_X3_27 : FP RX3 27 3 3 (.int) false := ⟨RX3, TX3, 8, tyX3, rfl, by decide, rfl, rfl, (Or.inl wd_244), inW3, tyX3_ok, nmX3, rfl, tyX3_ok 3 (by decide), rfl⟩
theorem fk_X3_28 : FK RX3 28 5 2 (.int) := ⟨RX5, TX5, 5, rfl, by decide, rfl, rfl, (Or.inr ⟨_, wn_f15⟩), inW5⟩
theorem wd_245 : (Jvm.Cond.fieldLink "BitDesk$Multiplier" (31 : Nat) "BitDesk$Multiplier" "block" "I") ∈ WS := ws_c1 151 rfl rfl
theorem fp_X3_31 : FP RX3 31 3 4 (.int) false := ⟨RX3, TX3, 8, tyX3, rfl, by decide, rfl, rfl, (Or.inl wd_245), inW3, tyX3_ok, nmX3, rfl, tyX3_ok 4 (by decide), rfl⟩
theorem wd_246 : (Jvm.Cond.fieldLink "BitDesk$Multiplier" (32 : Nat) "BitDesk$Multiplier" "isField" "Z") ∈ WS := ws_c1 152 rfl rfl
theorem fp_X3_32 : FP RX3 32 3 5 (.boolean) false := ⟨RX3, TX3, 8, tyX3, rfl, by decide, rfl, rfl, (Or.inl wd_246), inW3, tyX3_ok, nmX3, rfl, tyX3_ok 5 (by decide), rfl⟩
theorem wd_247 : (Jvm.Cond.fieldLink "BitDesk$Multiplier" (36 : Nat) "BitDesk$Multiplier" "entriesMade" "I") ∈ WS := ws_c1 153 rfl rfl
theorem fp_X3_36 : FP RX3 36 3 6 (.int) false := ⟨RX3, TX3, 8, tyX3, rfl, by decide, rfl, rfl, (Or.inl wd_247), inW3, tyX3_ok, nmX3, rfl, tyX3_ok 6 (by decide), rfl⟩
theorem wd_249 : (Jvm.Cond.fieldLink "BitDesk$Multiplier" (39 : Nat) "BitDesk$Multiplier" "entriesTaken" "I") ∈ WS := ws_c1 155 rfl rfl
theorem fp_X3_39 : FP RX3 39 3 7 (.int) false := ⟨RX3, TX3, 8, tyX3, rfl, by decide, rfl, rfl, (Or.inl wd_249), inW3, tyX3_ok, nmX3, rfl, tyX3_ok 7 (by decide), rfl⟩
theorem fk_X3_27 : FK RX3 27 3 3 (.int) := ⟨RX3, TX3, 8, rfl, by decide, rfl, rfl, (Or.inl wd_244), inW3⟩
theorem fk_X3_31 : FK RX3 31 3 4 (.int) := ⟨RX3, TX3, 8, rfl, by decide, rfl, rfl, (Or.inl wd_245), inW3⟩
theorem wd_431 : (Jvm.Cond.code ({ cls := "java/lang/Math", name := "min", desc := "(II)I" } : Jvm.MethodName) prog_14_method_69_code (2 : Nat) (Option.some Jvm.ClassFile.FieldType.int)) ∈ WS := ws_c2 97 rfl rfl
theorem wd_1085 : (Jvm.Cond.methodLink "BitDesk$Multiplier" (42 : Nat) ({ cls := "java/lang/Math", name := "min", desc := "(II)I" } : Jvm.MethodName)) ∈ WS := ws_c5 31 rfl rfl
theorem wd_430 : (Jvm.Cond.static ({ cls := "java/lang/Math", name := "min", desc := "(II)I" } : Jvm.MethodName)) ∈ WS := ws_c2 96 rfl rfl
theorem lk_X3_42 : LkS RX3 42 jJ9_min_7cf53 2 := ⟨⟨wd_1085, ⟨rfl, (by rw [cwd_nil rfl]; exact wd_431)⟩, wd_107, ⟨by decide +kernel, by decide +kernel⟩, by decide +kernel⟩, wd_430⟩
theorem wd_1089 : (Jvm.Cond.code ({ cls := "BitDesk$Multiplier", name := "fillTable", desc := "([III)V" } : Jvm.MethodName) prog_5_method_5_code (7 : Nat) (Option.none : Option Jvm.ClassFile.FieldType)) ∈ WS := ws_c5 35 rfl rfl
theorem wd_1086 : (Jvm.Cond.methodLink "BitDesk$Multiplier" (48 : Nat) ({ cls := "BitDesk$Multiplier", name := "fillTable", desc := "([III)V" } : Jvm.MethodName)) ∈ WS := ws_c5 32 rfl rfl
theorem wd_1088 : (Jvm.Cond.instanceMethod ({ cls := "BitDesk$Multiplier", name := "fillTable", desc := "([III)V" } : Jvm.MethodName)) ∈ WS := ws_c5 34 rfl rfl
theorem wd_40 : (Jvm.Cond.selects "BitDesk$Multiplier" (⟨"BitDesk$Multiplier", "fillTable", "([III)V"⟩ : Jvm.MethodName) (⟨"BitDesk$Multiplier", "fillTable", "([III)V"⟩ : Jvm.MethodName)) ∈ WS := ws_c0 40 rfl rfl
theorem lk_X3_48 : LkV RX3 48 jX3_fillTable 3 := ⟨⟨wd_1086, ⟨rfl, (by rw [cwd_nil rfl]; exact wd_1089)⟩, wd_100, ⟨by decide +kernel, by decide +kernel⟩, by decide +kernel⟩, wd_1088, wd_40⟩
theorem wd_1097 : (Jvm.Cond.code ({ cls := "BitDesk$Multiplier", name := "takeEntries", desc := "([I[III)V" } : Jvm.MethodName) prog_5_method_6_code (7 : Nat) (Option.none : Option Jvm.ClassFile.FieldType)) ∈ WS := ws_c5 43 rfl rfl
theorem wd_1094 : (Jvm.Cond.methodLink "BitDesk$Multiplier" (52 : Nat) ({ cls := "BitDesk$Multiplier", name := "takeEntries", desc := "([I[III)V" } : Jvm.MethodName)) ∈ WS := ws_c5 40 rfl rfl
theorem wd_1096 : (Jvm.Cond.instanceMethod ({ cls := "BitDesk$Multiplier", name := "takeEntries", desc := "([I[III)V" } : Jvm.MethodName)) ∈ WS := ws_c5 42 rfl rfl
theorem wd_42 : (Jvm.Cond.selects "BitDesk$Multiplier" (⟨"BitDesk$Multiplier", "takeEntries", "([I[III)V"⟩ : Jvm.MethodName) (⟨"BitDesk$Multiplier", "takeEntries", "([I[III)V"⟩ : Jvm.MethodName)) ∈ WS := ws_c0 42 rfl rfl
theorem lk_X3_52 : LkV RX3 52 jX3_takeEntries 4 := ⟨⟨wd_1094, ⟨rfl, (by rw [cwd_nil rfl]; exact wd_1097)⟩, wd_100, ⟨by decide +kernel, by decide +kernel⟩, by decide +kernel⟩, wd_1096, wd_42⟩
theorem fk_X3_15 : FK RX3 15 3 1 (.array .int) := ⟨RX3, TX3, 8, rfl, by decide, rfl, rfl, (Or.inl wd_242), inW3⟩
theorem fk_X3_18 : FK RX3 18 3 2 (.array .int) := ⟨RX3, TX3, 8, rfl, by decide, rfl, rfl, (Or.inl wd_243), inW3⟩
theorem wd_1084 : (Jvm.Cond.code ({ cls := "BitDesk$Multiplier", name := "multiply", desc := "([I[I[I)V" } : Jvm.MethodName) prog_5_method_3_code (6 : Nat) (Option.none : Option Jvm.ClassFile.FieldType)) ∈ WS := ws_c5 30 rfl rfl
theorem wd_1115 : (Jvm.Cond.methodLink "BitDesk$Multiplier" (56 : Nat) ({ cls := "BitDesk$Multiplier", name := "multiply", desc := "([I[I[I)V" } : Jvm.MethodName)) ∈ WS := ws_c5 61 rfl rfl
theorem wd_1082 : (Jvm.Cond.instanceMethod ({ cls := "BitDesk$Multiplier", name := "multiply", desc := "([I[I[I)V" } : Jvm.MethodName)) ∈ WS := ws_c5 28 rfl rfl
theorem wd_1083 : (Jvm.Cond.selects "BitDesk$Multiplier" ({ cls := "BitDesk$Multiplier", name := "multiply", desc := "([I[I[I)V" } : Jvm.MethodName) ({ cls := "BitDesk$Multiplier", name := "multiply", desc := "([I[I[I)V" } : Jvm.MethodName)) ∈ WS := ws_c5 29 rfl rfl
theorem lk_X3_56 : LkV RX3 56 jX3_multiply 3 := ⟨⟨wd_1115, ⟨rfl, (by rw [cwd_nil rfl]; exact wd_1084)⟩, wd_100, ⟨by decide +kernel, by decide +kernel⟩, by decide +kernel⟩, wd_1082, wd_1083⟩
theorem lk_X3_60 : LkSN RX3 60 jX6_hasOne 2 := ⟨⟨⟨_, wn_m7⟩, ⟨rfl, (by rw [cwd_nil rfl]; exact wd_661)⟩, wd_95, ⟨by decide +kernel, by decide +kernel⟩, by decide +kernel⟩, wd_660⟩
theorem fk_X3_9 : FK RX3 9 3 0 (.array .int) := ⟨RX3, TX3, 8, rfl, by decide, rfl, rfl, (Or.inl wd_241), inW3⟩
theorem wd_1093 : (Jvm.Cond.code ({ cls := "BitDesk$Multiplier", name := "joined", desc := "(II)I" } : Jvm.MethodName) prog_5_method_7_code (3 : Nat) (Option.some Jvm.ClassFile.FieldType.int)) ∈ WS := ws_c5 39 rfl rfl
theorem wd_1090 : (Jvm.Cond.methodLink "BitDesk$Multiplier" (64 : Nat) ({ cls := "BitDesk$Multiplier", name := "joined", desc := "(II)I" } : Jvm.MethodName)) ∈ WS := ws_c5 36 rfl rfl
theorem wd_1092 : (Jvm.Cond.instanceMethod ({ cls := "BitDesk$Multiplier", name := "joined", desc := "(II)I" } : Jvm.MethodName)) ∈ WS := ws_c5 38 rfl rfl
theorem wd_41 : (Jvm.Cond.selects "BitDesk$Multiplier" (⟨"BitDesk$Multiplier", "joined", "(II)I"⟩ : Jvm.MethodName) (⟨"BitDesk$Multiplier", "joined", "(II)I"⟩ : Jvm.MethodName)) ∈ WS := ws_c0 41 rfl rfl
theorem lk_X3_64 : LkV RX3 64 jX3_joined 2 := ⟨⟨wd_1090, ⟨rfl, (by rw [cwd_nil rfl]; exact wd_1093)⟩, wd_100, ⟨by decide +kernel, by decide +kernel⟩, by decide +kernel⟩, wd_1092, wd_41⟩
theorem fk_X3_36 : FK RX3 36 3 6 (.int) := ⟨RX3, TX3, 8, rfl, by decide, rfl, rfl, (Or.inl wd_247), inW3⟩
theorem wd_479 : (Jvm.Cond.code ({ cls := "BitDesk", name := "lowest", desc := "(I)I" } : Jvm.MethodName) prog_1_method_86_code (1 : Nat) (Option.some Jvm.ClassFile.FieldType.int)) ∈ WS := ws_c2 145 rfl rfl
theorem wd_478 : (Jvm.Cond.static ({ cls := "BitDesk", name := "lowest", desc := "(I)I" } : Jvm.MethodName)) ∈ WS := ws_c2 144 rfl rfl
theorem lk_X3_67 : LkSN RX3 67 jX6_lowest 1 := ⟨⟨⟨_, wn_m6⟩, ⟨rfl, (by rw [cwd_nil rfl]; exact wd_479)⟩, wd_95, ⟨by decide +kernel, by decide +kernel⟩, by decide +kernel⟩, wd_478⟩
theorem fk_X3_39 : FK RX3 39 3 7 (.int) := ⟨RX3, TX3, 8, rfl, by decide, rfl, rfl, (Or.inl wd_249), inW3⟩
theorem fk_X3_32 : FK RX3 32 3 5 (.boolean) := ⟨RX3, TX3, 8, rfl, by decide, rfl, rfl, (Or.inl wd_246), inW3⟩
theorem wd_128 : (Jvm.Cond.methodLink "BitDesk$Reader" (3 : Nat) ({ cls := "java/lang/Object", name := "<init>", desc := "()V" } : Jvm.MethodName)) ∈ WS := ws_c1 34 rfl rfl
theorem wd_129 : (Jvm.Cond.fieldLink "BitDesk$Reader" (9 : Nat) "BitDesk$Reader" "text" "[I") ∈ WS := ws_c1 35 rfl rfl
theorem fp_X4_9 : FP RX4 9 4 0 (.array .int) true := ⟨RX4, TX4, 7, tyX4, rfl, by decide, rfl, rfl, (Or.inl wd_129), inW4, tyX4_ok, nmX4, rfl, tyX4_ok 0 (by decide), rfl⟩
theorem wd_343 : (Jvm.Cond.constantLong "BitDesk$Reader" (15 : Nat) (255 : Int64)) ∈ WS := ws_c2 9 rfl rfl
theorem wd_130 : (Jvm.Cond.fieldLink "BitDesk$Reader" (17 : Nat) "BitDesk$Reader" "length" "I") ∈ WS := ws_c1 36 rfl rfl
theorem fk_X4_17 : FK RX4 17 4 1 (.int) := ⟨RX4, TX4, 7, rfl, by decide, rfl, rfl, (Or.inl wd_130), inW4⟩
theorem fk_X4_9 : FK RX4 9 4 0 (.array .int) := ⟨RX4, TX4, 7, rfl, by decide, rfl, rfl, (Or.inl wd_129), inW4⟩
theorem fp_X4_17 : FP RX4 17 4 1 (.int) false := ⟨RX4, TX4, 7, tyX4, rfl, by decide, rfl, rfl, (Or.inl wd_130), inW4, tyX4_ok, nmX4, rfl, tyX4_ok 1 (by decide), rfl⟩
theorem wd_131 : (Jvm.Cond.fieldLink "BitDesk$Reader" (21 : Nat) "BitDesk$Reader" "position" "I") ∈ WS := ws_c1 37 rfl rfl
theorem fp_X4_21 : FP RX4 21 4 2 (.int) false := ⟨RX4, TX4, 7, tyX4, rfl, by decide, rfl, rfl, (Or.inl wd_131), inW4, tyX4_ok, nmX4, rfl, tyX4_ok 2 (by decide), rfl⟩
theorem wd_133 : (Jvm.Cond.fieldLink "BitDesk$Reader" (24 : Nat) "BitDesk$Reader" "statement" "I") ∈ WS := ws_c1 39 rfl rfl
theorem fp_X4_24 : FP RX4 24 4 4 (.int) false := ⟨RX4, TX4, 7, tyX4, rfl, by decide, rfl, rfl, (Or.inl wd_133), inW4, tyX4_ok, nmX4, rfl, tyX4_ok 4 (by decide), rfl⟩
theorem wd_135 : (Jvm.Cond.fieldLink "BitDesk$Reader" (27 : Nat) "BitDesk$Reader" "error" "I") ∈ WS := ws_c1 41 rfl rfl
theorem fp_X4_27 : FP RX4 27 4 5 (.int) false := ⟨RX4, TX4, 7, tyX4, rfl, by decide, rfl, rfl, (Or.inl wd_135), inW4, tyX4_ok, nmX4, rfl, tyX4_ok 5 (by decide), rfl⟩
theorem wd_137 : (Jvm.Cond.fieldLink "BitDesk$Reader" (30 : Nat) "BitDesk$Reader" "errorPosition" "I") ∈ WS := ws_c1 43 rfl rfl
theorem fp_X4_30 : FP RX4 30 4 6 (.int) false := ⟨RX4, TX4, 7, tyX4, rfl, by decide, rfl, rfl, (Or.inl wd_137), inW4, tyX4_ok, nmX4, rfl, tyX4_ok 6 (by decide), rfl⟩
theorem wd_355 : (Jvm.Cond.code ({ cls := "BitDesk$Reader", name := "readSize", desc := "(LBitDesk$State;)V" } : Jvm.MethodName) prog_6_method_4_code (2 : Nat) (Option.none : Option Jvm.ClassFile.FieldType)) ∈ WS := ws_c2 21 rfl rfl
theorem wd_352 : (Jvm.Cond.methodLink "BitDesk$Reader" (33 : Nat) ({ cls := "BitDesk$Reader", name := "readSize", desc := "(LBitDesk$State;)V" } : Jvm.MethodName)) ∈ WS := ws_c2 18 rfl rfl
theorem wd_354 : (Jvm.Cond.instanceMethod ({ cls := "BitDesk$Reader", name := "readSize", desc := "(LBitDesk$State;)V" } : Jvm.MethodName)) ∈ WS := ws_c2 20 rfl rfl
theorem wd_0 : (Jvm.Cond.selects "BitDesk$Reader" (⟨"BitDesk$Reader", "readSize", "(LBitDesk$State;)V"⟩ : Jvm.MethodName) (⟨"BitDesk$Reader", "readSize", "(LBitDesk$State;)V"⟩ : Jvm.MethodName)) ∈ WS := ws_c0 0 rfl rfl
theorem lk_X4_33 : LkV RX4 33 jX4_readSize 1 := ⟨⟨wd_352, ⟨rfl, (by rw [cwd_nil rfl]; exact wd_355)⟩, wd_96, ⟨by decide +kernel, by decide +kernel⟩, by decide +kernel⟩, wd_354, wd_0⟩
theorem wd_443 : (Jvm.Cond.code ({ cls := "BitDesk$Reader", name := "hasMore", desc := "()Z" } : Jvm.MethodName) prog_6_method_11_code (1 : Nat) (Option.some Jvm.ClassFile.FieldType.boolean)) ∈ WS := ws_c2 109 rfl rfl
theorem wd_440 : (Jvm.Cond.methodLink "BitDesk$Reader" (37 : Nat) ({ cls := "BitDesk$Reader", name := "hasMore", desc := "()Z" } : Jvm.MethodName)) ∈ WS := ws_c2 106 rfl rfl
theorem wd_442 : (Jvm.Cond.instanceMethod ({ cls := "BitDesk$Reader", name := "hasMore", desc := "()Z" } : Jvm.MethodName)) ∈ WS := ws_c2 108 rfl rfl
theorem wd_7 : (Jvm.Cond.selects "BitDesk$Reader" (⟨"BitDesk$Reader", "hasMore", "()Z"⟩ : Jvm.MethodName) (⟨"BitDesk$Reader", "hasMore", "()Z"⟩ : Jvm.MethodName)) ∈ WS := ws_c0 7 rfl rfl
theorem lk_X4_37 : LkV RX4 37 jX4_hasMore 0 := ⟨⟨wd_440, ⟨rfl, (by rw [cwd_nil rfl]; exact wd_443)⟩, wd_96, ⟨by decide +kernel, by decide +kernel⟩, by decide +kernel⟩, wd_442, wd_7⟩
theorem wd_447 : (Jvm.Cond.code ({ cls := "BitDesk$Reader", name := "takeSemicolon", desc := "()V" } : Jvm.MethodName) prog_6_method_12_code (1 : Nat) (Option.none : Option Jvm.ClassFile.FieldType)) ∈ WS := ws_c2 113 rfl rfl
theorem wd_444 : (Jvm.Cond.methodLink "BitDesk$Reader" (41 : Nat) ({ cls := "BitDesk$Reader", name := "takeSemicolon", desc := "()V" } : Jvm.MethodName)) ∈ WS := ws_c2 110 rfl rfl
theorem wd_446 : (Jvm.Cond.instanceMethod ({ cls := "BitDesk$Reader", name := "takeSemicolon", desc := "()V" } : Jvm.MethodName)) ∈ WS := ws_c2 112 rfl rfl
theorem wd_8 : (Jvm.Cond.selects "BitDesk$Reader" (⟨"BitDesk$Reader", "takeSemicolon", "()V"⟩ : Jvm.MethodName) (⟨"BitDesk$Reader", "takeSemicolon", "()V"⟩ : Jvm.MethodName)) ∈ WS := ws_c0 8 rfl rfl
theorem lk_X4_41 : LkV RX4 41 jX4_takeSemicolon 0 := ⟨⟨wd_444, ⟨rfl, (by rw [cwd_nil rfl]; exact wd_447)⟩, wd_96, ⟨by decide +kernel, by decide +kernel⟩, by decide +kernel⟩, wd_446, wd_8⟩
theorem fk_X4_27 : FK RX4 27 4 5 (.int) := ⟨RX4, TX4, 7, rfl, by decide, rfl, rfl, (Or.inl wd_135), inW4⟩
theorem wd_451 : (Jvm.Cond.code ({ cls := "BitDesk$Reader", name := "readStatement", desc := "(LBitDesk$State;)V" } : Jvm.MethodName) prog_6_method_5_code (2 : Nat) (Option.none : Option Jvm.ClassFile.FieldType)) ∈ WS := ws_c2 117 rfl rfl
theorem wd_448 : (Jvm.Cond.methodLink "BitDesk$Reader" (44 : Nat) ({ cls := "BitDesk$Reader", name := "readStatement", desc := "(LBitDesk$State;)V" } : Jvm.MethodName)) ∈ WS := ws_c2 114 rfl rfl
theorem wd_450 : (Jvm.Cond.instanceMethod ({ cls := "BitDesk$Reader", name := "readStatement", desc := "(LBitDesk$State;)V" } : Jvm.MethodName)) ∈ WS := ws_c2 116 rfl rfl
theorem wd_9 : (Jvm.Cond.selects "BitDesk$Reader" (⟨"BitDesk$Reader", "readStatement", "(LBitDesk$State;)V"⟩ : Jvm.MethodName) (⟨"BitDesk$Reader", "readStatement", "(LBitDesk$State;)V"⟩ : Jvm.MethodName)) ∈ WS := ws_c0 9 rfl rfl
theorem lk_X4_44 : LkV RX4 44 jX4_readStatement 1 := ⟨⟨wd_448, ⟨rfl, (by rw [cwd_nil rfl]; exact wd_451)⟩, wd_96, ⟨by decide +kernel, by decide +kernel⟩, by decide +kernel⟩, wd_450, wd_9⟩
theorem fk_X4_47 : FK RX4 47 5 0 (.array (.object "BitDesk$Matrix")) := ⟨RX5, TX5, 5, rfl, by decide, rfl, rfl, (Or.inr ⟨_, wn_f10⟩), inW5⟩
theorem fk_X4_53 : FK RX4 53 5 1 (.int) := ⟨RX5, TX5, 5, rfl, by decide, rfl, rfl, (Or.inr ⟨_, wn_f14⟩), inW5⟩
theorem wd_491 : (Jvm.Cond.code ({ cls := "BitDesk$Matrix", name := "noteMadeAnew", desc := "(I)V" } : Jvm.MethodName) prog_4_method_5_code (2 : Nat) (Option.none : Option Jvm.ClassFile.FieldType)) ∈ WS := ws_c2 157 rfl rfl
theorem wd_488 : (Jvm.Cond.methodLink "BitDesk$Reader" (56 : Nat) ({ cls := "BitDesk$Matrix", name := "noteMadeAnew", desc := "(I)V" } : Jvm.MethodName)) ∈ WS := ws_c2 154 rfl rfl
theorem wd_489 : (Jvm.Cond.instanceMethod ({ cls := "BitDesk$Matrix", name := "noteMadeAnew", desc := "(I)V" } : Jvm.MethodName)) ∈ WS := ws_c2 155 rfl rfl
theorem wd_490 : (Jvm.Cond.selects "BitDesk$Matrix" ({ cls := "BitDesk$Matrix", name := "noteMadeAnew", desc := "(I)V" } : Jvm.MethodName) ({ cls := "BitDesk$Matrix", name := "noteMadeAnew", desc := "(I)V" } : Jvm.MethodName)) ∈ WS := ws_c2 156 rfl rfl
theorem lk_X4_56 : LkV RX4 56 jX2_noteMadeAnew 1 := ⟨⟨wd_488, ⟨rfl, (by rw [cwd_nil rfl]; exact wd_491)⟩, wd_98, ⟨by decide +kernel, by decide +kernel⟩, by decide +kernel⟩, wd_489, wd_490⟩
theorem wd_359 : (Jvm.Cond.code ({ cls := "BitDesk$Reader", name := "takeWord", desc := "()V" } : Jvm.MethodName) prog_6_method_13_code (1 : Nat) (Option.none : Option Jvm.ClassFile.FieldType)) ∈ WS := ws_c2 25 rfl rfl
theorem wd_356 : (Jvm.Cond.methodLink "BitDesk$Reader" (62 : Nat) ({ cls := "BitDesk$Reader", name := "takeWord", desc := "()V" } : Jvm.MethodName)) ∈ WS := ws_c2 22 rfl rfl
theorem wd_358 : (Jvm.Cond.instanceMethod ({ cls := "BitDesk$Reader", name := "takeWord", desc := "()V" } : Jvm.MethodName)) ∈ WS := ws_c2 24 rfl rfl
theorem wd_1 : (Jvm.Cond.selects "BitDesk$Reader" (⟨"BitDesk$Reader", "takeWord", "()V"⟩ : Jvm.MethodName) (⟨"BitDesk$Reader", "takeWord", "()V"⟩ : Jvm.MethodName)) ∈ WS := ws_c0 1 rfl rfl
theorem lk_X4_62 : LkV RX4 62 jX4_takeWord 0 := ⟨⟨wd_356, ⟨rfl, (by rw [cwd_nil rfl]; exact wd_359)⟩, wd_96, ⟨by decide +kernel, by decide +kernel⟩, by decide +kernel⟩, wd_358, wd_1⟩
theorem wd_368 : (Jvm.Cond.code ({ cls := "BitDesk$Reader", name := "isWord", desc := "(Ljava/lang/String;)Z" } : Jvm.MethodName) prog_6_method_18_code (3 : Nat) (Option.some Jvm.ClassFile.FieldType.boolean)) ∈ WS := ws_c2 34 rfl rfl
theorem wd_365 : (Jvm.Cond.methodLink "BitDesk$Reader" (66 : Nat) ({ cls := "BitDesk$Reader", name := "isWord", desc := "(Ljava/lang/String;)Z" } : Jvm.MethodName)) ∈ WS := ws_c2 31 rfl rfl
theorem wd_367 : (Jvm.Cond.instanceMethod ({ cls := "BitDesk$Reader", name := "isWord", desc := "(Ljava/lang/String;)Z" } : Jvm.MethodName)) ∈ WS := ws_c2 33 rfl rfl
theorem wd_3 : (Jvm.Cond.selects "BitDesk$Reader" (⟨"BitDesk$Reader", "isWord", "(Ljava/lang/String;)Z"⟩ : Jvm.MethodName) (⟨"BitDesk$Reader", "isWord", "(Ljava/lang/String;)Z"⟩ : Jvm.MethodName)) ∈ WS := ws_c0 3 rfl rfl
theorem lk_X4_66 : LkV RX4 66 jX4_isWord 1 := ⟨⟨wd_365, ⟨rfl, (by rw [cwd_nil rfl]; exact wd_368)⟩, wd_96, ⟨by decide +kernel, by decide +kernel⟩, by decide +kernel⟩, wd_367, wd_3⟩
theorem wd_132 : (Jvm.Cond.fieldLink "BitDesk$Reader" (70 : Nat) "BitDesk$Reader" "start" "I") ∈ WS := ws_c1 38 rfl rfl
theorem fk_X4_70 : FK RX4 70 4 3 (.int) := ⟨RX4, TX4, 7, rfl, by decide, rfl, rfl, (Or.inl wd_132), inW4⟩
theorem wd_420 : (Jvm.Cond.code ({ cls := "BitDesk$Reader", name := "fail", desc := "(II)V" } : Jvm.MethodName) prog_6_method_19_code (3 : Nat) (Option.none : Option Jvm.ClassFile.FieldType)) ∈ WS := ws_c2 86 rfl rfl
theorem wd_417 : (Jvm.Cond.methodLink "BitDesk$Reader" (73 : Nat) ({ cls := "BitDesk$Reader", name := "fail", desc := "(II)V" } : Jvm.MethodName)) ∈ WS := ws_c2 83 rfl rfl
theorem wd_419 : (Jvm.Cond.instanceMethod ({ cls := "BitDesk$Reader", name := "fail", desc := "(II)V" } : Jvm.MethodName)) ∈ WS := ws_c2 85 rfl rfl
theorem wd_4 : (Jvm.Cond.selects "BitDesk$Reader" (⟨"BitDesk$Reader", "fail", "(II)V"⟩ : Jvm.MethodName) (⟨"BitDesk$Reader", "fail", "(II)V"⟩ : Jvm.MethodName)) ∈ WS := ws_c0 4 rfl rfl
theorem lk_X4_73 : LkV RX4 73 jX4_fail 2 := ⟨⟨wd_417, ⟨rfl, (by rw [cwd_nil rfl]; exact wd_420)⟩, wd_96, ⟨by decide +kernel, by decide +kernel⟩, by decide +kernel⟩, wd_419, wd_4⟩
theorem wd_424 : (Jvm.Cond.code ({ cls := "BitDesk$Reader", name := "takeNumber", desc := "(II)I" } : Jvm.MethodName) prog_6_method_15_code (5 : Nat) (Option.some Jvm.ClassFile.FieldType.int)) ∈ WS := ws_c2 90 rfl rfl
theorem wd_421 : (Jvm.Cond.methodLink "BitDesk$Reader" (77 : Nat) ({ cls := "BitDesk$Reader", name := "takeNumber", desc := "(II)I" } : Jvm.MethodName)) ∈ WS := ws_c2 87 rfl rfl
theorem wd_423 : (Jvm.Cond.instanceMethod ({ cls := "BitDesk$Reader", name := "takeNumber", desc := "(II)I" } : Jvm.MethodName)) ∈ WS := ws_c2 89 rfl rfl
theorem wd_5 : (Jvm.Cond.selects "BitDesk$Reader" (⟨"BitDesk$Reader", "takeNumber", "(II)I"⟩ : Jvm.MethodName) (⟨"BitDesk$Reader", "takeNumber", "(II)I"⟩ : Jvm.MethodName)) ∈ WS := ws_c0 5 rfl rfl
theorem lk_X4_77 : LkV RX4 77 jX4_takeNumber 2 := ⟨⟨wd_421, ⟨rfl, (by rw [cwd_nil rfl]; exact wd_424)⟩, wd_96, ⟨by decide +kernel, by decide +kernel⟩, by decide +kernel⟩, wd_423, wd_5⟩
theorem wd_435 : (Jvm.Cond.code ({ cls := "BitDesk$State", name := "makeEmpty", desc := "(I)V" } : Jvm.MethodName) prog_7_method_2_code (3 : Nat) (Option.none : Option Jvm.ClassFile.FieldType)) ∈ WS := ws_c2 101 rfl rfl
theorem wd_432 : (Jvm.Cond.methodLink "BitDesk$Reader" (81 : Nat) ({ cls := "BitDesk$State", name := "makeEmpty", desc := "(I)V" } : Jvm.MethodName)) ∈ WS := ws_c2 98 rfl rfl
theorem wd_433 : (Jvm.Cond.instanceMethod ({ cls := "BitDesk$State", name := "makeEmpty", desc := "(I)V" } : Jvm.MethodName)) ∈ WS := ws_c2 99 rfl rfl
theorem wd_434 : (Jvm.Cond.selects "BitDesk$State" ({ cls := "BitDesk$State", name := "makeEmpty", desc := "(I)V" } : Jvm.MethodName) ({ cls := "BitDesk$State", name := "makeEmpty", desc := "(I)V" } : Jvm.MethodName)) ∈ WS := ws_c2 100 rfl rfl
theorem lk_X4_81 : LkV RX4 81 jX5_makeEmpty 1 := ⟨⟨wd_432, ⟨rfl, (by rw [cwd_nil rfl]; exact wd_435)⟩, wd_97, ⟨by decide +kernel, by decide +kernel⟩, by decide +kernel⟩, wd_433, wd_434⟩
theorem wd_456 : (Jvm.Cond.code ({ cls := "BitDesk$Reader", name := "readEdge", desc := "(LBitDesk$State;)V" } : Jvm.MethodName) prog_6_method_6_code (5 : Nat) (Option.none : Option Jvm.ClassFile.FieldType)) ∈ WS := ws_c2 122 rfl rfl
theorem wd_453 : (Jvm.Cond.methodLink "BitDesk$Reader" (86 : Nat) ({ cls := "BitDesk$Reader", name := "readEdge", desc := "(LBitDesk$State;)V" } : Jvm.MethodName)) ∈ WS := ws_c2 119 rfl rfl
theorem wd_455 : (Jvm.Cond.instanceMethod ({ cls := "BitDesk$Reader", name := "readEdge", desc := "(LBitDesk$State;)V" } : Jvm.MethodName)) ∈ WS := ws_c2 121 rfl rfl
theorem wd_10 : (Jvm.Cond.selects "BitDesk$Reader" (⟨"BitDesk$Reader", "readEdge", "(LBitDesk$State;)V"⟩ : Jvm.MethodName) (⟨"BitDesk$Reader", "readEdge", "(LBitDesk$State;)V"⟩ : Jvm.MethodName)) ∈ WS := ws_c0 10 rfl rfl
theorem lk_X4_86 : LkV RX4 86 jX4_readEdge 1 := ⟨⟨wd_453, ⟨rfl, (by rw [cwd_nil rfl]; exact wd_456)⟩, wd_96, ⟨by decide +kernel, by decide +kernel⟩, by decide +kernel⟩, wd_455, wd_10⟩
theorem wd_461 : (Jvm.Cond.code ({ cls := "BitDesk$Reader", name := "readRow", desc := "(LBitDesk$State;)V" } : Jvm.MethodName) prog_6_method_7_code (4 : Nat) (Option.none : Option Jvm.ClassFile.FieldType)) ∈ WS := ws_c2 127 rfl rfl
theorem wd_458 : (Jvm.Cond.methodLink "BitDesk$Reader" (91 : Nat) ({ cls := "BitDesk$Reader", name := "readRow", desc := "(LBitDesk$State;)V" } : Jvm.MethodName)) ∈ WS := ws_c2 124 rfl rfl
theorem wd_460 : (Jvm.Cond.instanceMethod ({ cls := "BitDesk$Reader", name := "readRow", desc := "(LBitDesk$State;)V" } : Jvm.MethodName)) ∈ WS := ws_c2 126 rfl rfl
theorem wd_11 : (Jvm.Cond.selects "BitDesk$Reader" (⟨"BitDesk$Reader", "readRow", "(LBitDesk$State;)V"⟩ : Jvm.MethodName) (⟨"BitDesk$Reader", "readRow", "(LBitDesk$State;)V"⟩ : Jvm.MethodName)) ∈ WS := ws_c0 11 rfl rfl
theorem lk_X4_91 : LkV RX4 91 jX4_readRow 1 := ⟨⟨wd_458, ⟨rfl, (by rw [cwd_nil rfl]; exact wd_461)⟩, wd_96, ⟨by decide +kernel, by decide +kernel⟩, by decide +kernel⟩, wd_460, wd_11⟩
theorem wd_470 : (Jvm.Cond.code ({ cls := "BitDesk$Reader", name := "readFill", desc := "(LBitDesk$State;)V" } : Jvm.MethodName) prog_6_method_9_code (4 : Nat) (Option.none : Option Jvm.ClassFile.FieldType)) ∈ WS := ws_c2 136 rfl rfl
theorem wd_467 : (Jvm.Cond.methodLink "BitDesk$Reader" (96 : Nat) ({ cls := "BitDesk$Reader", name := "readFill", desc := "(LBitDesk$State;)V" } : Jvm.MethodName)) ∈ WS := ws_c2 133 rfl rfl
theorem wd_469 : (Jvm.Cond.instanceMethod ({ cls := "BitDesk$Reader", name := "readFill", desc := "(LBitDesk$State;)V" } : Jvm.MethodName)) ∈ WS := ws_c2 135 rfl rfl
theorem wd_13 : (Jvm.Cond.selects "BitDesk$Reader" (⟨"BitDesk$Reader", "readFill", "(LBitDesk$State;)V"⟩ : Jvm.MethodName) (⟨"BitDesk$Reader", "readFill", "(LBitDesk$State;)V"⟩ : Jvm.MethodName)) ∈ WS := ws_c0 13 rfl rfl
theorem lk_X4_96 : LkV RX4 96 jX4_readFill 1 := ⟨⟨wd_467, ⟨rfl, (by rw [cwd_nil rfl]; exact wd_470)⟩, wd_96, ⟨by decide +kernel, by decide +kernel⟩, by decide +kernel⟩, wd_469, wd_13⟩
theorem wd_486 : (Jvm.Cond.code ({ cls := "BitDesk$Reader", name := "readKeep", desc := "(LBitDesk$State;)V" } : Jvm.MethodName) prog_6_method_8_code (3 : Nat) (Option.none : Option Jvm.ClassFile.FieldType)) ∈ WS := ws_c2 152 rfl rfl
theorem wd_483 : (Jvm.Cond.methodLink "BitDesk$Reader" (101 : Nat) ({ cls := "BitDesk$Reader", name := "readKeep", desc := "(LBitDesk$State;)V" } : Jvm.MethodName)) ∈ WS := ws_c2 149 rfl rfl
theorem wd_485 : (Jvm.Cond.instanceMethod ({ cls := "BitDesk$Reader", name := "readKeep", desc := "(LBitDesk$State;)V" } : Jvm.MethodName)) ∈ WS := ws_c2 151 rfl rfl
theorem wd_15 : (Jvm.Cond.selects "BitDesk$Reader" (⟨"BitDesk$Reader", "readKeep", "(LBitDesk$State;)V"⟩ : Jvm.MethodName) (⟨"BitDesk$Reader", "readKeep", "(LBitDesk$State;)V"⟩ : Jvm.MethodName)) ∈ WS := ws_c0 15 rfl rfl
theorem lk_X4_101 : LkV RX4 101 jX4_readKeep 1 := ⟨⟨wd_483, ⟨rfl, (by rw [cwd_nil rfl]; exact wd_486)⟩, wd_96, ⟨by decide +kernel, by decide +kernel⟩, by decide +kernel⟩, wd_485, wd_15⟩
theorem fp_X4_106 : FP RX4 106 5 2 (.int) false := ⟨RX5, TX5, 5, tyX5, rfl, by decide, rfl, rfl, (Or.inr ⟨_, wn_f16⟩), inW5, tyX5_ok, nmX5, rfl, tyX5_ok 2 (by decide), rfl⟩
theorem fk_X4_108 : FK RX4 108 2 0 (.array .int) := ⟨RX2, TX2, 5, rfl, by decide, rfl, rfl, (Or.inr ⟨_, wn_f3⟩), inW2⟩
theorem wd_465 : (Jvm.Cond.code ({ cls := "BitDesk$Reader", name := "takeBits", desc := "(I)I" } : Jvm.MethodName) prog_6_method_16_code (5 : Nat) (Option.some Jvm.ClassFile.FieldType.int)) ∈ WS := ws_c2 131 rfl rfl
theorem wd_462 : (Jvm.Cond.methodLink "BitDesk$Reader" (111 : Nat) ({ cls := "BitDesk$Reader", name := "takeBits", desc := "(I)I" } : Jvm.MethodName)) ∈ WS := ws_c2 128 rfl rfl
theorem wd_464 : (Jvm.Cond.instanceMethod ({ cls := "BitDesk$Reader", name := "takeBits", desc := "(I)I" } : Jvm.MethodName)) ∈ WS := ws_c2 130 rfl rfl
theorem wd_12 : (Jvm.Cond.selects "BitDesk$Reader" (⟨"BitDesk$Reader", "takeBits", "(I)I"⟩ : Jvm.MethodName) (⟨"BitDesk$Reader", "takeBits", "(I)I"⟩ : Jvm.MethodName)) ∈ WS := ws_c0 12 rfl rfl
theorem lk_X4_111 : LkV RX4 111 jX4_takeBits 1 := ⟨⟨wd_462, ⟨rfl, (by rw [cwd_nil rfl]; exact wd_465)⟩, wd_96, ⟨by decide +kernel, by decide +kernel⟩, by decide +kernel⟩, wd_464, wd_12⟩
theorem fk_X4_115 : FK RX4 115 2 1 (.boolean) := ⟨RX2, TX2, 5, rfl, by decide, rfl, rfl, (Or.inr ⟨_, wn_f5⟩), inW2⟩
theorem fp_X4_115 : FP RX4 115 2 1 (.boolean) false := ⟨RX2, TX2, 5, tyX2, rfl, by decide, rfl, rfl, (Or.inr ⟨_, wn_f5⟩), inW2, tyX2_ok, nmX2, rfl, tyX2_ok 1 (by decide), rfl⟩
theorem wd_474 : (Jvm.Cond.code ({ cls := "BitDesk$Reader", name := "rowOfKind", desc := "(II)I" } : Jvm.MethodName) prog_6_method_10_code (3 : Nat) (Option.some Jvm.ClassFile.FieldType.int)) ∈ WS := ws_c2 140 rfl rfl
theorem wd_471 : (Jvm.Cond.methodLink "BitDesk$Reader" (119 : Nat) ({ cls := "BitDesk$Reader", name := "rowOfKind", desc := "(II)I" } : Jvm.MethodName)) ∈ WS := ws_c2 137 rfl rfl
theorem wd_473 : (Jvm.Cond.instanceMethod ({ cls := "BitDesk$Reader", name := "rowOfKind", desc := "(II)I" } : Jvm.MethodName)) ∈ WS := ws_c2 139 rfl rfl
theorem wd_14 : (Jvm.Cond.selects "BitDesk$Reader" (⟨"BitDesk$Reader", "rowOfKind", "(II)I"⟩ : Jvm.MethodName) (⟨"BitDesk$Reader", "rowOfKind", "(II)I"⟩ : Jvm.MethodName)) ∈ WS := ws_c0 14 rfl rfl
theorem lk_X4_119 : LkV RX4 119 jX4_rowOfKind 2 := ⟨⟨wd_471, ⟨rfl, (by rw [cwd_nil rfl]; exact wd_474)⟩, wd_96, ⟨by decide +kernel, by decide +kernel⟩, by decide +kernel⟩, wd_473, wd_14⟩
theorem lk_X4_126 : LkSN RX4 126 jX6_lowest 1 := ⟨⟨⟨_, wn_m0⟩, ⟨rfl, (by rw [cwd_nil rfl]; exact wd_479)⟩, wd_95, ⟨by decide +kernel, by decide +kernel⟩, by decide +kernel⟩, wd_478⟩
theorem wd_363 : (Jvm.Cond.code ({ cls := "BitDesk$Reader", name := "skipSpaces", desc := "()V" } : Jvm.MethodName) prog_6_method_17_code (1 : Nat) (Option.none : Option Jvm.ClassFile.FieldType)) ∈ WS := ws_c2 29 rfl rfl
theorem wd_360 : (Jvm.Cond.methodLink "BitDesk$Reader" (133 : Nat) ({ cls := "BitDesk$Reader", name := "skipSpaces", desc := "()V" } : Jvm.MethodName)) ∈ WS := ws_c2 26 rfl rfl
theorem wd_362 : (Jvm.Cond.instanceMethod ({ cls := "BitDesk$Reader", name := "skipSpaces", desc := "()V" } : Jvm.MethodName)) ∈ WS := ws_c2 28 rfl rfl
theorem wd_2 : (Jvm.Cond.selects "BitDesk$Reader" (⟨"BitDesk$Reader", "skipSpaces", "()V"⟩ : Jvm.MethodName) (⟨"BitDesk$Reader", "skipSpaces", "()V"⟩ : Jvm.MethodName)) ∈ WS := ws_c0 2 rfl rfl
theorem lk_X4_133 : LkV RX4 133 jX4_skipSpaces 0 := ⟨⟨wd_360, ⟨rfl, (by rw [cwd_nil rfl]; exact wd_363)⟩, wd_96, ⟨by decide +kernel, by decide +kernel⟩, by decide +kernel⟩, wd_362, wd_2⟩
theorem fk_X4_21 : FK RX4 21 4 2 (.int) := ⟨RX4, TX4, 7, rfl, by decide, rfl, rfl, (Or.inl wd_131), inW4⟩
theorem fk_X4_24 : FK RX4 24 4 4 (.int) := ⟨RX4, TX4, 7, rfl, by decide, rfl, rfl, (Or.inl wd_133), inW4⟩
theorem fp_X4_70 : FP RX4 70 4 3 (.int) false := ⟨RX4, TX4, 7, tyX4, rfl, by decide, rfl, rfl, (Or.inl wd_132), inW4, tyX4_ok, nmX4, rfl, tyX4_ok 3 (by decide), rfl⟩
theorem wd_428 : (Jvm.Cond.code ({ cls := "BitDesk$Reader", name := "takeDigits", desc := "()V" } : Jvm.MethodName) prog_6_method_14_code (1 : Nat) (Option.none : Option Jvm.ClassFile.FieldType)) ∈ WS := ws_c2 94 rfl rfl
theorem wd_425 : (Jvm.Cond.methodLink "BitDesk$Reader" (136 : Nat) ({ cls := "BitDesk$Reader", name := "takeDigits", desc := "()V" } : Jvm.MethodName)) ∈ WS := ws_c2 91 rfl rfl
theorem wd_427 : (Jvm.Cond.instanceMethod ({ cls := "BitDesk$Reader", name := "takeDigits", desc := "()V" } : Jvm.MethodName)) ∈ WS := ws_c2 93 rfl rfl
theorem wd_6 : (Jvm.Cond.selects "BitDesk$Reader" (⟨"BitDesk$Reader", "takeDigits", "()V"⟩ : Jvm.MethodName) (⟨"BitDesk$Reader", "takeDigits", "()V"⟩ : Jvm.MethodName)) ∈ WS := ws_c0 6 rfl rfl
theorem lk_X4_136 : LkV RX4 136 jX4_takeDigits 0 := ⟨⟨wd_425, ⟨rfl, (by rw [cwd_nil rfl]; exact wd_428)⟩, wd_96, ⟨by decide +kernel, by decide +kernel⟩, by decide +kernel⟩, wd_427, wd_6⟩
theorem wd_429 : (Jvm.Cond.methodLink "BitDesk$Reader" (139 : Nat) ({ cls := "java/lang/Math", name := "min", desc := "(II)I" } : Jvm.MethodName)) ∈ WS := ws_c2 95 rfl rfl
theorem lk_X4_139 : LkS RX4 139 jJ9_min_7cf53 2 := ⟨⟨wd_429, ⟨rfl, (by rw [cwd_nil rfl]; exact wd_431)⟩, wd_107, ⟨by decide +kernel, by decide +kernel⟩, by decide +kernel⟩, wd_430⟩
theorem wd_372 : (Jvm.Cond.code ({ cls := "java/lang/String", name := "length", desc := "()I" } : Jvm.MethodName) prog_16_method_54_code (1 : Nat) (Option.some Jvm.ClassFile.FieldType.int)) ∈ WS := ws_c2 38 rfl rfl
theorem wd_369 : (Jvm.Cond.methodLink "BitDesk$Reader" (144 : Nat) ({ cls := "java/lang/String", name := "length", desc := "()I" } : Jvm.MethodName)) ∈ WS := ws_c2 35 rfl rfl
theorem wd_370 : (Jvm.Cond.instanceMethod ({ cls := "java/lang/String", name := "length", desc := "()I" } : Jvm.MethodName)) ∈ WS := ws_c2 36 rfl rfl
theorem wd_371 : (Jvm.Cond.selects "java/lang/String" ({ cls := "java/lang/String", name := "length", desc := "()I" } : Jvm.MethodName) ({ cls := "java/lang/String", name := "length", desc := "()I" } : Jvm.MethodName)) ∈ WS := ws_c2 37 rfl rfl
theorem lk_X4_144 : LkV RX4 144 jJ0_length_8abf5 0 := ⟨⟨wd_369, ⟨rfl, (by rw [cwd_nil rfl]; exact wd_372)⟩, wd_103, ⟨by decide +kernel, by decide +kernel⟩, by decide +kernel⟩, wd_370, wd_371⟩
theorem wd_382 : (Jvm.Cond.code ({ cls := "java/lang/String", name := "charAt", desc := "(I)C" } : Jvm.MethodName) prog_16_method_56_code (2 : Nat) (Option.some Jvm.ClassFile.FieldType.char)) ∈ WS := ws_c2 48 rfl rfl
theorem wd_379 : (Jvm.Cond.methodLink "BitDesk$Reader" (149 : Nat) ({ cls := "java/lang/String", name := "charAt", desc := "(I)C" } : Jvm.MethodName)) ∈ WS := ws_c2 45 rfl rfl
theorem wd_380 : (Jvm.Cond.instanceMethod ({ cls := "java/lang/String", name := "charAt", desc := "(I)C" } : Jvm.MethodName)) ∈ WS := ws_c2 46 rfl rfl
theorem wd_381 : (Jvm.Cond.selects "java/lang/String" ({ cls := "java/lang/String", name := "charAt", desc := "(I)C" } : Jvm.MethodName) ({ cls := "java/lang/String", name := "charAt", desc := "(I)C" } : Jvm.MethodName)) ∈ WS := ws_c2 47 rfl rfl
theorem lk_X4_149 : LkV RX4 149 jJ0_charAt_5068e 1 := ⟨⟨wd_379, ⟨rfl, (by rw [cwd_nil rfl]; exact wd_382)⟩, wd_103, ⟨by decide +kernel, by decide +kernel⟩, by decide +kernel⟩, wd_380, wd_381⟩
theorem wd_160 : (Jvm.Cond.methodLink "BitDesk$State" (3 : Nat) ({ cls := "java/lang/Object", name := "<init>", desc := "()V" } : Jvm.MethodName)) ∈ WS := ws_c1 66 rfl rfl
theorem wd_161 : (Jvm.Cond.classLink "BitDesk$State" (9 : Nat) "BitDesk$Matrix") ∈ WS := ws_c1 67 rfl rfl
theorem wd_191 : (Jvm.Cond.fieldLink "BitDesk$State" (11 : Nat) "BitDesk$State" "slots" "[LBitDesk$Matrix;") ∈ WS := ws_c1 97 rfl rfl
theorem fp_X5_11 : FP RX5 11 5 0 (.array (.object "BitDesk$Matrix")) true := ⟨RX5, TX5, 5, tyX5, rfl, by decide, rfl, rfl, (Or.inl wd_191), inW5, tyX5_ok, nmX5, rfl, tyX5_ok 0 (by decide), rfl⟩
theorem fk_X5_11 : FK RX5 11 5 0 (.array (.object "BitDesk$Matrix")) := ⟨RX5, TX5, 5, rfl, by decide, rfl, rfl, (Or.inl wd_191), inW5⟩
theorem wd_163 : (Jvm.Cond.instantiable "BitDesk$Matrix" (5 : Nat)) ∈ WS := ws_c1 69 rfl rfl
theorem wd_166 : (Jvm.Cond.code ({ cls := "BitDesk$Matrix", name := "<init>", desc := "()V" } : Jvm.MethodName) prog_4_method_1_code (1 : Nat) (Option.none : Option Jvm.ClassFile.FieldType)) ∈ WS := ws_c1 72 rfl rfl
theorem wd_164 : (Jvm.Cond.methodLink "BitDesk$State" (17 : Nat) ({ cls := "BitDesk$Matrix", name := "<init>", desc := "()V" } : Jvm.MethodName)) ∈ WS := ws_c1 70 rfl rfl
theorem wd_165 : (Jvm.Cond.instanceMethod ({ cls := "BitDesk$Matrix", name := "<init>", desc := "()V" } : Jvm.MethodName)) ∈ WS := ws_c1 71 rfl rfl
theorem lk_X5_17 : LkI RX5 17 jX2_init 0 := ⟨⟨wd_164, ⟨rfl, (by rw [cwd_nil rfl]; exact wd_166)⟩, wd_98, ⟨by decide +kernel, by decide +kernel⟩, by decide +kernel⟩, wd_165, rfl, rfl⟩
theorem wd_194 : (Jvm.Cond.fieldLink "BitDesk$State" (18 : Nat) "BitDesk$State" "size" "I") ∈ WS := ws_c1 100 rfl rfl
theorem fp_X5_18 : FP RX5 18 5 1 (.int) false := ⟨RX5, TX5, 5, tyX5, rfl, by decide, rfl, rfl, (Or.inl wd_194), inW5, tyX5_ok, nmX5, rfl, tyX5_ok 1 (by decide), rfl⟩
theorem wd_198 : (Jvm.Cond.fieldLink "BitDesk$State" (22 : Nat) "BitDesk$State" "block" "I") ∈ WS := ws_c1 104 rfl rfl
theorem fp_X5_22 : FP RX5 22 5 2 (.int) false := ⟨RX5, TX5, 5, tyX5, rfl, by decide, rfl, rfl, (Or.inl wd_198), inW5, tyX5_ok, nmX5, rfl, tyX5_ok 2 (by decide), rfl⟩
theorem wd_439 : (Jvm.Cond.code ({ cls := "BitDesk$Matrix", name := "makeEmpty", desc := "()V" } : Jvm.MethodName) prog_4_method_2_code (2 : Nat) (Option.none : Option Jvm.ClassFile.FieldType)) ∈ WS := ws_c2 105 rfl rfl
theorem wd_436 : (Jvm.Cond.methodLink "BitDesk$State" (25 : Nat) ({ cls := "BitDesk$Matrix", name := "makeEmpty", desc := "()V" } : Jvm.MethodName)) ∈ WS := ws_c2 102 rfl rfl
theorem wd_437 : (Jvm.Cond.instanceMethod ({ cls := "BitDesk$Matrix", name := "makeEmpty", desc := "()V" } : Jvm.MethodName)) ∈ WS := ws_c2 103 rfl rfl
theorem wd_438 : (Jvm.Cond.selects "BitDesk$Matrix" ({ cls := "BitDesk$Matrix", name := "makeEmpty", desc := "()V" } : Jvm.MethodName) ({ cls := "BitDesk$Matrix", name := "makeEmpty", desc := "()V" } : Jvm.MethodName)) ∈ WS := ws_c2 104 rfl rfl
theorem lk_X5_25 : LkV RX5 25 jX2_makeEmpty 0 := ⟨⟨wd_436, ⟨rfl, (by rw [cwd_nil rfl]; exact wd_439)⟩, wd_98, ⟨by decide +kernel, by decide +kernel⟩, by decide +kernel⟩, wd_437, wd_438⟩
theorem wd_202 : (Jvm.Cond.fieldLink "BitDesk$State" (28 : Nat) "BitDesk$State" "entriesMade" "I") ∈ WS := ws_c1 108 rfl rfl
theorem fp_X5_28 : FP RX5 28 5 3 (.int) false := ⟨RX5, TX5, 5, tyX5, rfl, by decide, rfl, rfl, (Or.inl wd_202), inW5, tyX5_ok, nmX5, rfl, tyX5_ok 3 (by decide), rfl⟩
theorem wd_204 : (Jvm.Cond.fieldLink "BitDesk$State" (31 : Nat) "BitDesk$State" "entriesTaken" "I") ∈ WS := ws_c1 110 rfl rfl
theorem fp_X5_31 : FP RX5 31 5 4 (.int) false := ⟨RX5, TX5, 5, tyX5, rfl, by decide, rfl, rfl, (Or.inl wd_204), inW5, tyX5_ok, nmX5, rfl, tyX5_ok 4 (by decide), rfl⟩
theorem wd_507 : (Jvm.Cond.code ({ cls := "BitDesk$Matrix", name := "takeFrom", desc := "(LBitDesk$Matrix;)V" } : Jvm.MethodName) prog_4_method_3_code (2 : Nat) (Option.none : Option Jvm.ClassFile.FieldType)) ∈ WS := ws_c2 173 rfl rfl
theorem wd_504 : (Jvm.Cond.methodLink "BitDesk$State" (34 : Nat) ({ cls := "BitDesk$Matrix", name := "takeFrom", desc := "(LBitDesk$Matrix;)V" } : Jvm.MethodName)) ∈ WS := ws_c2 170 rfl rfl
theorem wd_505 : (Jvm.Cond.instanceMethod ({ cls := "BitDesk$Matrix", name := "takeFrom", desc := "(LBitDesk$Matrix;)V" } : Jvm.MethodName)) ∈ WS := ws_c2 171 rfl rfl
theorem wd_506 : (Jvm.Cond.selects "BitDesk$Matrix" ({ cls := "BitDesk$Matrix", name := "takeFrom", desc := "(LBitDesk$Matrix;)V" } : Jvm.MethodName) ({ cls := "BitDesk$Matrix", name := "takeFrom", desc := "(LBitDesk$Matrix;)V" } : Jvm.MethodName)) ∈ WS := ws_c2 172 rfl rfl
theorem lk_X5_34 : LkV RX5 34 jX2_takeFrom 1 := ⟨⟨wd_504, ⟨rfl, (by rw [cwd_nil rfl]; exact wd_507)⟩, wd_98, ⟨by decide +kernel, by decide +kernel⟩, by decide +kernel⟩, wd_505, wd_506⟩
theorem fk_X5_18 : FK RX5 18 5 1 (.int) := ⟨RX5, TX5, 5, rfl, by decide, rfl, rfl, (Or.inl wd_194), inW5⟩
theorem fk_X5_22 : FK RX5 22 5 2 (.int) := ⟨RX5, TX5, 5, rfl, by decide, rfl, rfl, (Or.inl wd_198), inW5⟩
theorem fk_X5_28 : FK RX5 28 5 3 (.int) := ⟨RX5, TX5, 5, rfl, by decide, rfl, rfl, (Or.inl wd_202), inW5⟩
theorem fk_X5_31 : FK RX5 31 5 4 (.int) := ⟨RX5, TX5, 5, rfl, by decide, rfl, rfl, (Or.inl wd_204), inW5⟩
theorem wd_120 : (Jvm.Cond.methodLink "BitDesk" (1 : Nat) ({ cls := "java/lang/Object", name := "<init>", desc := "()V" } : Jvm.MethodName)) ∈ WS := ws_c1 26 rfl rfl
theorem wd_123 : (Jvm.Cond.classLink "BitDesk" (7 : Nat) "BitDesk$Reader") ∈ WS := ws_c1 29 rfl rfl
theorem wd_124 : (Jvm.Cond.instantiable "BitDesk$Reader" (7 : Nat)) ∈ WS := ws_c1 30 rfl rfl
theorem wd_127 : (Jvm.Cond.code ({ cls := "BitDesk$Reader", name := "<init>", desc := "()V" } : Jvm.MethodName) prog_6_method_1_code (1 : Nat) (Option.none : Option Jvm.ClassFile.FieldType)) ∈ WS := ws_c1 33 rfl rfl
theorem wd_125 : (Jvm.Cond.methodLink "BitDesk" (9 : Nat) ({ cls := "BitDesk$Reader", name := "<init>", desc := "()V" } : Jvm.MethodName)) ∈ WS := ws_c1 31 rfl rfl
theorem wd_126 : (Jvm.Cond.instanceMethod ({ cls := "BitDesk$Reader", name := "<init>", desc := "()V" } : Jvm.MethodName)) ∈ WS := ws_c1 32 rfl rfl
theorem lk_X6_9 : LkI RX6 9 jX4_init 0 := ⟨⟨wd_125, ⟨rfl, (by rw [cwd_nil rfl]; exact wd_127)⟩, wd_96, ⟨by decide +kernel, by decide +kernel⟩, by decide +kernel⟩, wd_126, rfl, rfl⟩
theorem wd_289 : (Jvm.Cond.fieldLink "BitDesk" (10 : Nat) "BitDesk" "reader" "LBitDesk$Reader;") ∈ WS := ws_c1 195 rfl rfl
theorem fp_X6_10 : FP RX6 10 6 0 (.object "BitDesk$Reader") true := ⟨RX6, TX6, 15, tyX6, rfl, by decide, rfl, rfl, (Or.inl wd_289), inW6, tyX6_ok, nmX6, rfl, tyX6_ok 0 (by decide), rfl⟩
theorem wd_155 : (Jvm.Cond.classLink "BitDesk" (16 : Nat) "BitDesk$State") ∈ WS := ws_c1 61 rfl rfl
theorem wd_156 : (Jvm.Cond.instantiable "BitDesk$State" (5 : Nat)) ∈ WS := ws_c1 62 rfl rfl
theorem wd_159 : (Jvm.Cond.code ({ cls := "BitDesk$State", name := "<init>", desc := "()V" } : Jvm.MethodName) prog_7_method_1_code (2 : Nat) (Option.none : Option Jvm.ClassFile.FieldType)) ∈ WS := ws_c1 65 rfl rfl
theorem wd_157 : (Jvm.Cond.methodLink "BitDesk" (18 : Nat) ({ cls := "BitDesk$State", name := "<init>", desc := "()V" } : Jvm.MethodName)) ∈ WS := ws_c1 63 rfl rfl
theorem wd_158 : (Jvm.Cond.instanceMethod ({ cls := "BitDesk$State", name := "<init>", desc := "()V" } : Jvm.MethodName)) ∈ WS := ws_c1 64 rfl rfl
theorem lk_X6_18 : LkI RX6 18 jX5_init 0 := ⟨⟨wd_157, ⟨rfl, (by rw [cwd_nil rfl]; exact wd_159)⟩, wd_97, ⟨by decide +kernel, by decide +kernel⟩, by decide +kernel⟩, wd_158, rfl, rfl⟩
theorem wd_290 : (Jvm.Cond.fieldLink "BitDesk" (19 : Nat) "BitDesk" "state" "LBitDesk$State;") ∈ WS := ws_c1 196 rfl rfl
theorem fp_X6_19 : FP RX6 19 6 1 (.object "BitDesk$State") true := ⟨RX6, TX6, 15, tyX6, rfl, by decide, rfl, rfl, (Or.inl wd_290), inW6, tyX6_ok, nmX6, rfl, tyX6_ok 1 (by decide), rfl⟩
theorem wd_291 : (Jvm.Cond.fieldLink "BitDesk" (23 : Nat) "BitDesk" "described" "LBitDesk$State;") ∈ WS := ws_c1 197 rfl rfl
theorem fp_X6_23 : FP RX6 23 6 2 (.object "BitDesk$State") true := ⟨RX6, TX6, 15, tyX6, rfl, by decide, rfl, rfl, (Or.inl wd_291), inW6, tyX6_ok, nmX6, rfl, tyX6_ok 2 (by decide), rfl⟩
theorem wd_292 : (Jvm.Cond.fieldLink "BitDesk" (26 : Nat) "BitDesk" "past" "[LBitDesk$State;") ∈ WS := ws_c1 198 rfl rfl
theorem fp_X6_26 : FP RX6 26 6 3 (.array (.object "BitDesk$State")) true := ⟨RX6, TX6, 15, tyX6, rfl, by decide, rfl, rfl, (Or.inl wd_292), inW6, tyX6_ok, nmX6, rfl, tyX6_ok 3 (by decide), rfl⟩
theorem fk_X6_26 : FK RX6 26 6 3 (.array (.object "BitDesk$State")) := ⟨RX6, TX6, 15, rfl, by decide, rfl, rfl, (Or.inl wd_292), inW6⟩
theorem wd_295 : (Jvm.Cond.fieldLink "BitDesk" (30 : Nat) "BitDesk" "snapshots" "[LBitDesk$State;") ∈ WS := ws_c1 201 rfl rfl
theorem fp_X6_30 : FP RX6 30 6 6 (.array (.object "BitDesk$State")) true := ⟨RX6, TX6, 15, tyX6, rfl, by decide, rfl, rfl, (Or.inl wd_295), inW6, tyX6_ok, nmX6, rfl, tyX6_ok 6 (by decide), rfl⟩
theorem fk_X6_30 : FK RX6 30 6 6 (.array (.object "BitDesk$State")) := ⟨RX6, TX6, 15, rfl, by decide, rfl, rfl, (Or.inl wd_295), inW6⟩
theorem wd_296 : (Jvm.Cond.fieldLink "BitDesk" (33 : Nat) "BitDesk" "isSaved" "[Z") ∈ WS := ws_c1 202 rfl rfl
theorem fp_X6_33 : FP RX6 33 6 7 (.array .boolean) true := ⟨RX6, TX6, 15, tyX6, rfl, by decide, rfl, rfl, (Or.inl wd_296), inW6, tyX6_ok, nmX6, rfl, tyX6_ok 7 (by decide), rfl⟩
theorem wd_218 : (Jvm.Cond.classLink "BitDesk" (37 : Nat) "BitDesk$Closure") ∈ WS := ws_c1 124 rfl rfl
theorem wd_297 : (Jvm.Cond.fieldLink "BitDesk" (39 : Nat) "BitDesk" "closures" "[LBitDesk$Closure;") ∈ WS := ws_c1 203 rfl rfl
theorem fp_X6_39 : FP RX6 39 6 8 (.array (.object "BitDesk$Closure")) true := ⟨RX6, TX6, 15, tyX6, rfl, by decide, rfl, rfl, (Or.inl wd_297), inW6, tyX6_ok, nmX6, rfl, tyX6_ok 8 (by decide), rfl⟩
theorem fk_X6_39 : FK RX6 39 6 8 (.array (.object "BitDesk$Closure")) := ⟨RX6, TX6, 15, rfl, by decide, rfl, rfl, (Or.inl wd_297), inW6⟩
theorem wd_220 : (Jvm.Cond.instantiable "BitDesk$Closure" (2 : Nat)) ∈ WS := ws_c1 126 rfl rfl
theorem wd_223 : (Jvm.Cond.code ({ cls := "BitDesk$Closure", name := "<init>", desc := "()V" } : Jvm.MethodName) prog_2_method_1_code (1 : Nat) (Option.none : Option Jvm.ClassFile.FieldType)) ∈ WS := ws_c1 129 rfl rfl
theorem wd_221 : (Jvm.Cond.methodLink "BitDesk" (43 : Nat) ({ cls := "BitDesk$Closure", name := "<init>", desc := "()V" } : Jvm.MethodName)) ∈ WS := ws_c1 127 rfl rfl
theorem wd_222 : (Jvm.Cond.instanceMethod ({ cls := "BitDesk$Closure", name := "<init>", desc := "()V" } : Jvm.MethodName)) ∈ WS := ws_c1 128 rfl rfl
theorem lk_X6_43 : LkI RX6 43 jX0_init 0 := ⟨⟨wd_221, ⟨rfl, (by rw [cwd_nil rfl]; exact wd_223)⟩, wd_99, ⟨by decide +kernel, by decide +kernel⟩, by decide +kernel⟩, wd_222, rfl, rfl⟩
theorem wd_235 : (Jvm.Cond.classLink "BitDesk" (44 : Nat) "BitDesk$Multiplier") ∈ WS := ws_c1 141 rfl rfl
theorem wd_236 : (Jvm.Cond.instantiable "BitDesk$Multiplier" (8 : Nat)) ∈ WS := ws_c1 142 rfl rfl
theorem wd_239 : (Jvm.Cond.code ({ cls := "BitDesk$Multiplier", name := "<init>", desc := "()V" } : Jvm.MethodName) prog_5_method_1_code (1 : Nat) (Option.none : Option Jvm.ClassFile.FieldType)) ∈ WS := ws_c1 145 rfl rfl
theorem wd_237 : (Jvm.Cond.methodLink "BitDesk" (46 : Nat) ({ cls := "BitDesk$Multiplier", name := "<init>", desc := "()V" } : Jvm.MethodName)) ∈ WS := ws_c1 143 rfl rfl
theorem wd_238 : (Jvm.Cond.instanceMethod ({ cls := "BitDesk$Multiplier", name := "<init>", desc := "()V" } : Jvm.MethodName)) ∈ WS := ws_c1 144 rfl rfl
theorem lk_X6_46 : LkI RX6 46 jX3_init 0 := ⟨⟨wd_237, ⟨rfl, (by rw [cwd_nil rfl]; exact wd_239)⟩, wd_100, ⟨by decide +kernel, by decide +kernel⟩, by decide +kernel⟩, wd_238, rfl, rfl⟩
theorem wd_298 : (Jvm.Cond.fieldLink "BitDesk" (47 : Nat) "BitDesk" "multiplier" "LBitDesk$Multiplier;") ∈ WS := ws_c1 204 rfl rfl
theorem fp_X6_47 : FP RX6 47 6 9 (.object "BitDesk$Multiplier") true := ⟨RX6, TX6, 15, tyX6, rfl, by decide, rfl, rfl, (Or.inl wd_298), inW6, tyX6_ok, nmX6, rfl, tyX6_ok 9 (by decide), rfl⟩
theorem wd_268 : (Jvm.Cond.classLink "BitDesk" (51 : Nat) "BitDesk$Elimination") ∈ WS := ws_c1 174 rfl rfl
theorem wd_269 : (Jvm.Cond.instantiable "BitDesk$Elimination" (4 : Nat)) ∈ WS := ws_c1 175 rfl rfl
theorem wd_272 : (Jvm.Cond.code ({ cls := "BitDesk$Elimination", name := "<init>", desc := "()V" } : Jvm.MethodName) prog_3_method_1_code (1 : Nat) (Option.none : Option Jvm.ClassFile.FieldType)) ∈ WS := ws_c1 178 rfl rfl
theorem wd_270 : (Jvm.Cond.methodLink "BitDesk" (53 : Nat) ({ cls := "BitDesk$Elimination", name := "<init>", desc := "()V" } : Jvm.MethodName)) ∈ WS := ws_c1 176 rfl rfl
theorem wd_271 : (Jvm.Cond.instanceMethod ({ cls := "BitDesk$Elimination", name := "<init>", desc := "()V" } : Jvm.MethodName)) ∈ WS := ws_c1 177 rfl rfl
theorem lk_X6_53 : LkI RX6 53 jX1_init 0 := ⟨⟨wd_270, ⟨rfl, (by rw [cwd_nil rfl]; exact wd_272)⟩, wd_101, ⟨by decide +kernel, by decide +kernel⟩, by decide +kernel⟩, wd_271, rfl, rfl⟩
theorem wd_299 : (Jvm.Cond.fieldLink "BitDesk" (54 : Nat) "BitDesk" "elimination" "LBitDesk$Elimination;") ∈ WS := ws_c1 205 rfl rfl
theorem fp_X6_54 : FP RX6 54 6 10 (.object "BitDesk$Elimination") true := ⟨RX6, TX6, 15, tyX6, rfl, by decide, rfl, rfl, (Or.inl wd_299), inW6, tyX6_ok, nmX6, rfl, tyX6_ok 10 (by decide), rfl⟩
theorem wd_300 : (Jvm.Cond.fieldLink "BitDesk" (58 : Nat) "BitDesk" "made" "[I") ∈ WS := ws_c1 206 rfl rfl
theorem fp_X6_58 : FP RX6 58 6 11 (.array .int) true := ⟨RX6, TX6, 15, tyX6, rfl, by decide, rfl, rfl, (Or.inl wd_300), inW6, tyX6_ok, nmX6, rfl, tyX6_ok 11 (by decide), rfl⟩
theorem wd_301 : (Jvm.Cond.fieldLink "BitDesk" (62 : Nat) "BitDesk" "levels" "[I") ∈ WS := ws_c1 207 rfl rfl
theorem fp_X6_62 : FP RX6 62 6 12 (.array .int) true := ⟨RX6, TX6, 15, tyX6, rfl, by decide, rfl, rfl, (Or.inl wd_301), inW6, tyX6_ok, nmX6, rfl, tyX6_ok 12 (by decide), rfl⟩
theorem wd_302 : (Jvm.Cond.fieldLink "BitDesk" (65 : Nat) "BitDesk" "output" "[I") ∈ WS := ws_c1 208 rfl rfl
theorem fp_X6_65 : FP RX6 65 6 13 (.array .int) true := ⟨RX6, TX6, 15, tyX6, rfl, by decide, rfl, rfl, (Or.inl wd_302), inW6, tyX6_ok, nmX6, rfl, tyX6_ok 13 (by decide), rfl⟩
theorem fk_X6_10 : FK RX6 10 6 0 (.object "BitDesk$Reader") := ⟨RX6, TX6, 15, rfl, by decide, rfl, rfl, (Or.inl wd_289), inW6⟩
theorem wd_342 : (Jvm.Cond.code ({ cls := "BitDesk$Reader", name := "addBytes", desc := "(J)I" } : Jvm.MethodName) prog_6_method_2_code (6 : Nat) (Option.some Jvm.ClassFile.FieldType.int)) ∈ WS := ws_c2 8 rfl rfl
theorem wd_339 : (Jvm.Cond.methodLink "BitDesk" (68 : Nat) ({ cls := "BitDesk$Reader", name := "addBytes", desc := "(J)I" } : Jvm.MethodName)) ∈ WS := ws_c2 5 rfl rfl
theorem wd_340 : (Jvm.Cond.instanceMethod ({ cls := "BitDesk$Reader", name := "addBytes", desc := "(J)I" } : Jvm.MethodName)) ∈ WS := ws_c2 6 rfl rfl
theorem wd_341 : (Jvm.Cond.selects "BitDesk$Reader" ({ cls := "BitDesk$Reader", name := "addBytes", desc := "(J)I" } : Jvm.MethodName) ({ cls := "BitDesk$Reader", name := "addBytes", desc := "(J)I" } : Jvm.MethodName)) ∈ WS := ws_c2 7 rfl rfl
theorem lk_X6_68 : LkV RX6 68 jX4_addBytes 1 := ⟨⟨wd_339, ⟨rfl, (by rw [cwd_nil rfl]; exact wd_342)⟩, wd_96, ⟨by decide +kernel, by decide +kernel⟩, by decide +kernel⟩, wd_340, wd_341⟩
theorem fk_X6_23 : FK RX6 23 6 2 (.object "BitDesk$State") := ⟨RX6, TX6, 15, rfl, by decide, rfl, rfl, (Or.inl wd_291), inW6⟩
theorem wd_351 : (Jvm.Cond.code ({ cls := "BitDesk$Reader", name := "readInto", desc := "(LBitDesk$State;)V" } : Jvm.MethodName) prog_6_method_3_code (3 : Nat) (Option.none : Option Jvm.ClassFile.FieldType)) ∈ WS := ws_c2 17 rfl rfl
theorem wd_348 : (Jvm.Cond.methodLink "BitDesk" (72 : Nat) ({ cls := "BitDesk$Reader", name := "readInto", desc := "(LBitDesk$State;)V" } : Jvm.MethodName)) ∈ WS := ws_c2 14 rfl rfl
theorem wd_349 : (Jvm.Cond.instanceMethod ({ cls := "BitDesk$Reader", name := "readInto", desc := "(LBitDesk$State;)V" } : Jvm.MethodName)) ∈ WS := ws_c2 15 rfl rfl
theorem wd_350 : (Jvm.Cond.selects "BitDesk$Reader" ({ cls := "BitDesk$Reader", name := "readInto", desc := "(LBitDesk$State;)V" } : Jvm.MethodName) ({ cls := "BitDesk$Reader", name := "readInto", desc := "(LBitDesk$State;)V" } : Jvm.MethodName)) ∈ WS := ws_c2 16 rfl rfl
theorem lk_X6_72 : LkV RX6 72 jX4_readInto 1 := ⟨⟨wd_348, ⟨rfl, (by rw [cwd_nil rfl]; exact wd_351)⟩, wd_96, ⟨by decide +kernel, by decide +kernel⟩, by decide +kernel⟩, wd_349, wd_350⟩
theorem fk_X6_76 : FK RX6 76 4 5 (.int) := ⟨RX4, TX4, 7, rfl, by decide, rfl, rfl, (Or.inr ⟨_, wn_f1⟩), inW4⟩
theorem fk_X6_80 : FK RX6 80 4 6 (.int) := ⟨RX4, TX4, 7, rfl, by decide, rfl, rfl, (Or.inr ⟨_, wn_f2⟩), inW4⟩
theorem wd_499 : (Jvm.Cond.code ({ cls := "BitDesk", name := "replaceState", desc := "(LBitDesk$State;)V" } : Jvm.MethodName) prog_1_method_68_code (2 : Nat) (Option.none : Option Jvm.ClassFile.FieldType)) ∈ WS := ws_c2 165 rfl rfl
theorem wd_496 : (Jvm.Cond.methodLink "BitDesk" (83 : Nat) ({ cls := "BitDesk", name := "replaceState", desc := "(LBitDesk$State;)V" } : Jvm.MethodName)) ∈ WS := ws_c2 162 rfl rfl
theorem wd_498 : (Jvm.Cond.instanceMethod ({ cls := "BitDesk", name := "replaceState", desc := "(LBitDesk$State;)V" } : Jvm.MethodName)) ∈ WS := ws_c2 164 rfl rfl
theorem wd_16 : (Jvm.Cond.selects "BitDesk" (⟨"BitDesk", "replaceState", "(LBitDesk$State;)V"⟩ : Jvm.MethodName) (⟨"BitDesk", "replaceState", "(LBitDesk$State;)V"⟩ : Jvm.MethodName)) ∈ WS := ws_c0 16 rfl rfl
theorem lk_X6_83 : LkV RX6 83 jX6_replaceState 1 := ⟨⟨wd_496, ⟨rfl, (by rw [cwd_nil rfl]; exact wd_499)⟩, wd_95, ⟨by decide +kernel, by decide +kernel⟩, by decide +kernel⟩, wd_498, wd_16⟩
theorem wd_303 : (Jvm.Cond.fieldLink "BitDesk" (86 : Nat) "BitDesk" "outputLength" "I") ∈ WS := ws_c1 209 rfl rfl
theorem fp_X6_86 : FP RX6 86 6 14 (.int) false := ⟨RX6, TX6, 15, tyX6, rfl, by decide, rfl, rfl, (Or.inl wd_303), inW6, tyX6_ok, nmX6, rfl, tyX6_ok 14 (by decide), rfl⟩
theorem fk_X6_19 : FK RX6 19 6 1 (.object "BitDesk$State") := ⟨RX6, TX6, 15, rfl, by decide, rfl, rfl, (Or.inl wd_290), inW6⟩
theorem fk_X6_89 : FK RX6 89 5 1 (.int) := ⟨RX5, TX5, 5, rfl, by decide, rfl, rfl, (Or.inr ⟨_, wn_f13⟩), inW5⟩
theorem fk_X6_92 : FK RX6 92 4 4 (.int) := ⟨RX4, TX4, 7, rfl, by decide, rfl, rfl, (Or.inr ⟨_, wn_f0⟩), inW4⟩
theorem wd_543 : (Jvm.Cond.code ({ cls := "BitDesk", name := "needRange", desc := "(III)V" } : Jvm.MethodName) prog_1_method_64_code (4 : Nat) (Option.none : Option Jvm.ClassFile.FieldType)) ∈ WS := ws_c2 209 rfl rfl
theorem wd_540 : (Jvm.Cond.methodLink "BitDesk" (95 : Nat) ({ cls := "BitDesk", name := "needRange", desc := "(III)V" } : Jvm.MethodName)) ∈ WS := ws_c2 206 rfl rfl
theorem wd_542 : (Jvm.Cond.instanceMethod ({ cls := "BitDesk", name := "needRange", desc := "(III)V" } : Jvm.MethodName)) ∈ WS := ws_c2 208 rfl rfl
theorem wd_18 : (Jvm.Cond.selects "BitDesk" (⟨"BitDesk", "needRange", "(III)V"⟩ : Jvm.MethodName) (⟨"BitDesk", "needRange", "(III)V"⟩ : Jvm.MethodName)) ∈ WS := ws_c0 18 rfl rfl
theorem lk_X6_95 : LkV RX6 95 jX6_needRange 3 := ⟨⟨wd_540, ⟨rfl, (by rw [cwd_nil rfl]; exact wd_543)⟩, wd_95, ⟨by decide +kernel, by decide +kernel⟩, by decide +kernel⟩, wd_542, wd_18⟩
theorem fk_X6_99 : FK RX6 99 5 2 (.int) := ⟨RX5, TX5, 5, rfl, by decide, rfl, rfl, (Or.inr ⟨_, wn_f17⟩), inW5⟩
theorem wd_613 : (Jvm.Cond.code ({ cls := "BitDesk", name := "keptSlots", desc := "()I" } : Jvm.MethodName) prog_1_method_66_code (3 : Nat) (Option.some Jvm.ClassFile.FieldType.int)) ∈ WS := ws_c3 39 rfl rfl
theorem wd_610 : (Jvm.Cond.methodLink "BitDesk" (102 : Nat) ({ cls := "BitDesk", name := "keptSlots", desc := "()I" } : Jvm.MethodName)) ∈ WS := ws_c3 36 rfl rfl
theorem wd_612 : (Jvm.Cond.instanceMethod ({ cls := "BitDesk", name := "keptSlots", desc := "()I" } : Jvm.MethodName)) ∈ WS := ws_c3 38 rfl rfl
theorem wd_20 : (Jvm.Cond.selects "BitDesk" (⟨"BitDesk", "keptSlots", "()I"⟩ : Jvm.MethodName) (⟨"BitDesk", "keptSlots", "()I"⟩ : Jvm.MethodName)) ∈ WS := ws_c0 20 rfl rfl
theorem lk_X6_102 : LkV RX6 102 jX6_keptSlots 0 := ⟨⟨wd_610, ⟨rfl, (by rw [cwd_nil rfl]; exact wd_613)⟩, wd_95, ⟨by decide +kernel, by decide +kernel⟩, by decide +kernel⟩, wd_612, wd_20⟩
theorem wd_294 : (Jvm.Cond.fieldLink "BitDesk" (106 : Nat) "BitDesk" "pastCount" "I") ∈ WS := ws_c1 200 rfl rfl
theorem fk_X6_106 : FK RX6 106 6 5 (.int) := ⟨RX6, TX6, 15, rfl, by decide, rfl, rfl, (Or.inl wd_294), inW6⟩
theorem wd_625 : (Jvm.Cond.code ({ cls := "BitDesk", name := "needCell", desc := "(III)V" } : Jvm.MethodName) prog_1_method_63_code (4 : Nat) (Option.none : Option Jvm.ClassFile.FieldType)) ∈ WS := ws_c3 51 rfl rfl
theorem wd_622 : (Jvm.Cond.methodLink "BitDesk" (109 : Nat) ({ cls := "BitDesk", name := "needCell", desc := "(III)V" } : Jvm.MethodName)) ∈ WS := ws_c3 48 rfl rfl
theorem wd_624 : (Jvm.Cond.instanceMethod ({ cls := "BitDesk", name := "needCell", desc := "(III)V" } : Jvm.MethodName)) ∈ WS := ws_c3 50 rfl rfl
theorem wd_21 : (Jvm.Cond.selects "BitDesk" (⟨"BitDesk", "needCell", "(III)V"⟩ : Jvm.MethodName) (⟨"BitDesk", "needCell", "(III)V"⟩ : Jvm.MethodName)) ∈ WS := ws_c0 21 rfl rfl
theorem lk_X6_109 : LkV RX6 109 jX6_needCell 3 := ⟨⟨wd_622, ⟨rfl, (by rw [cwd_nil rfl]; exact wd_625)⟩, wd_95, ⟨by decide +kernel, by decide +kernel⟩, by decide +kernel⟩, wd_624, wd_21⟩
theorem wd_658 : (Jvm.Cond.code ({ cls := "BitDesk", name := "rowsOf", desc := "(I)[I" } : Jvm.MethodName) prog_1_method_65_code (2 : Nat) (Option.some (Jvm.ClassFile.FieldType.array Jvm.ClassFile.FieldType.int))) ∈ WS := ws_c3 84 rfl rfl
theorem wd_655 : (Jvm.Cond.methodLink "BitDesk" (112 : Nat) ({ cls := "BitDesk", name := "rowsOf", desc := "(I)[I" } : Jvm.MethodName)) ∈ WS := ws_c3 81 rfl rfl
theorem wd_657 : (Jvm.Cond.instanceMethod ({ cls := "BitDesk", name := "rowsOf", desc := "(I)[I" } : Jvm.MethodName)) ∈ WS := ws_c3 83 rfl rfl
theorem wd_25 : (Jvm.Cond.selects "BitDesk" (⟨"BitDesk", "rowsOf", "(I)[I"⟩ : Jvm.MethodName) (⟨"BitDesk", "rowsOf", "(I)[I"⟩ : Jvm.MethodName)) ∈ WS := ws_c0 25 rfl rfl
theorem lk_X6_112 : LkV RX6 112 jX6_rowsOf 1 := ⟨⟨wd_655, ⟨rfl, (by rw [cwd_nil rfl]; exact wd_658)⟩, wd_95, ⟨by decide +kernel, by decide +kernel⟩, by decide +kernel⟩, wd_657, wd_25⟩
theorem wd_659 : (Jvm.Cond.methodLink "BitDesk" (116 : Nat) ({ cls := "BitDesk", name := "hasOne", desc := "(II)Z" } : Jvm.MethodName)) ∈ WS := ws_c3 85 rfl rfl
theorem lk_X6_116 : LkS RX6 116 jX6_hasOne 2 := ⟨⟨wd_659, ⟨rfl, (by rw [cwd_nil rfl]; exact wd_661)⟩, wd_95, ⟨by decide +kernel, by decide +kernel⟩, by decide +kernel⟩, wd_660⟩
theorem wd_629 : (Jvm.Cond.code ({ cls := "BitDesk", name := "needRow", desc := "(II)V" } : Jvm.MethodName) prog_1_method_62_code (3 : Nat) (Option.none : Option Jvm.ClassFile.FieldType)) ∈ WS := ws_c3 55 rfl rfl
theorem wd_626 : (Jvm.Cond.methodLink "BitDesk" (120 : Nat) ({ cls := "BitDesk", name := "needRow", desc := "(II)V" } : Jvm.MethodName)) ∈ WS := ws_c3 52 rfl rfl
theorem wd_628 : (Jvm.Cond.instanceMethod ({ cls := "BitDesk", name := "needRow", desc := "(II)V" } : Jvm.MethodName)) ∈ WS := ws_c3 54 rfl rfl
theorem wd_22 : (Jvm.Cond.selects "BitDesk" (⟨"BitDesk", "needRow", "(II)V"⟩ : Jvm.MethodName) (⟨"BitDesk", "needRow", "(II)V"⟩ : Jvm.MethodName)) ∈ WS := ws_c0 22 rfl rfl
theorem lk_X6_120 : LkV RX6 120 jX6_needRow 2 := ⟨⟨wd_626, ⟨rfl, (by rw [cwd_nil rfl]; exact wd_629)⟩, wd_95, ⟨by decide +kernel, by decide +kernel⟩, by decide +kernel⟩, wd_628, wd_22⟩
theorem wd_671 : (Jvm.Cond.code ({ cls := "BitDesk", name := "unsigned", desc := "(I)J" } : Jvm.MethodName) prog_1_method_84_code (1 : Nat) (Option.some Jvm.ClassFile.FieldType.long)) ∈ WS := ws_c3 97 rfl rfl
theorem wd_669 : (Jvm.Cond.methodLink "BitDesk" (124 : Nat) ({ cls := "BitDesk", name := "unsigned", desc := "(I)J" } : Jvm.MethodName)) ∈ WS := ws_c3 95 rfl rfl
theorem wd_670 : (Jvm.Cond.static ({ cls := "BitDesk", name := "unsigned", desc := "(I)J" } : Jvm.MethodName)) ∈ WS := ws_c3 96 rfl rfl
theorem lk_X6_124 : LkS RX6 124 jX6_unsigned 1 := ⟨⟨wd_669, ⟨rfl, (by rw [cwd_nil rfl]; exact wd_671)⟩, wd_95, ⟨by decide +kernel, by decide +kernel⟩, by decide +kernel⟩, wd_670⟩
theorem wd_680 : (Jvm.Cond.methodLink "BitDesk" (128 : Nat) ({ cls := "BitDesk", name := "lowest", desc := "(I)I" } : Jvm.MethodName)) ∈ WS := ws_c3 106 rfl rfl
theorem lk_X6_128 : LkS RX6 128 jX6_lowest 1 := ⟨⟨wd_680, ⟨rfl, (by rw [cwd_nil rfl]; exact wd_479)⟩, wd_95, ⟨by decide +kernel, by decide +kernel⟩, by decide +kernel⟩, wd_478⟩
theorem wd_681 : (Jvm.Cond.methodLink "BitDesk" (132 : Nat) ({ cls := "java/lang/Integer", name := "bitCount", desc := "(I)I" } : Jvm.MethodName)) ∈ WS := ws_c3 107 rfl rfl
theorem lk_X6_132 : LkS RX6 132 jJ6_bitCount_0f7a4 1 := ⟨⟨wd_681, ⟨rfl, (by rw [cwd_nil rfl]; exact wd_683)⟩, wd_114, ⟨by decide +kernel, by decide +kernel⟩, by decide +kernel⟩, wd_682⟩
theorem wd_696 : (Jvm.Cond.code ({ cls := "BitDesk", name := "oneAt", desc := "(II)I" } : Jvm.MethodName) prog_1_method_88_code (4 : Nat) (Option.some Jvm.ClassFile.FieldType.int)) ∈ WS := ws_c3 122 rfl rfl
theorem wd_694 : (Jvm.Cond.methodLink "BitDesk" (137 : Nat) ({ cls := "BitDesk", name := "oneAt", desc := "(II)I" } : Jvm.MethodName)) ∈ WS := ws_c3 120 rfl rfl
theorem wd_695 : (Jvm.Cond.static ({ cls := "BitDesk", name := "oneAt", desc := "(II)I" } : Jvm.MethodName)) ∈ WS := ws_c3 121 rfl rfl
theorem lk_X6_137 : LkS RX6 137 jX6_oneAt 2 := ⟨⟨wd_694, ⟨rfl, (by rw [cwd_nil rfl]; exact wd_696)⟩, wd_95, ⟨by decide +kernel, by decide +kernel⟩, by decide +kernel⟩, wd_695⟩
theorem wd_633 : (Jvm.Cond.code ({ cls := "BitDesk", name := "needSlot", desc := "(I)V" } : Jvm.MethodName) prog_1_method_60_code (2 : Nat) (Option.none : Option Jvm.ClassFile.FieldType)) ∈ WS := ws_c3 59 rfl rfl
theorem wd_630 : (Jvm.Cond.methodLink "BitDesk" (141 : Nat) ({ cls := "BitDesk", name := "needSlot", desc := "(I)V" } : Jvm.MethodName)) ∈ WS := ws_c3 56 rfl rfl
theorem wd_632 : (Jvm.Cond.instanceMethod ({ cls := "BitDesk", name := "needSlot", desc := "(I)V" } : Jvm.MethodName)) ∈ WS := ws_c3 58 rfl rfl
theorem wd_23 : (Jvm.Cond.selects "BitDesk" (⟨"BitDesk", "needSlot", "(I)V"⟩ : Jvm.MethodName) (⟨"BitDesk", "needSlot", "(I)V"⟩ : Jvm.MethodName)) ∈ WS := ws_c0 23 rfl rfl
theorem lk_X6_141 : LkV RX6 141 jX6_needSlot 1 := ⟨⟨wd_630, ⟨rfl, (by rw [cwd_nil rfl]; exact wd_633)⟩, wd_95, ⟨by decide +kernel, by decide +kernel⟩, by decide +kernel⟩, wd_632, wd_23⟩
theorem wd_706 : (Jvm.Cond.code ({ cls := "BitDesk", name := "onesOf", desc := "([II)I" } : Jvm.MethodName) prog_1_method_89_code (4 : Nat) (Option.some Jvm.ClassFile.FieldType.int)) ∈ WS := ws_c3 132 rfl rfl
theorem wd_704 : (Jvm.Cond.methodLink "BitDesk" (145 : Nat) ({ cls := "BitDesk", name := "onesOf", desc := "([II)I" } : Jvm.MethodName)) ∈ WS := ws_c3 130 rfl rfl
theorem wd_705 : (Jvm.Cond.static ({ cls := "BitDesk", name := "onesOf", desc := "([II)I" } : Jvm.MethodName)) ∈ WS := ws_c3 131 rfl rfl
theorem lk_X6_145 : LkS RX6 145 jX6_onesOf 2 := ⟨⟨wd_704, ⟨rfl, (by rw [cwd_nil rfl]; exact wd_706)⟩, wd_95, ⟨by decide +kernel, by decide +kernel⟩, by decide +kernel⟩, wd_705⟩
theorem wd_714 : (Jvm.Cond.methodLink "BitDesk" (149 : Nat) ({ cls := "BitDesk", name := "columnOf", desc := "([III)I" } : Jvm.MethodName)) ∈ WS := ws_c3 140 rfl rfl
theorem lk_X6_149 : LkS RX6 149 jX6_columnOf 3 := ⟨⟨wd_714, ⟨rfl, (by rw [cwd_nil rfl]; exact wd_716)⟩, wd_95, ⟨by decide +kernel, by decide +kernel⟩, by decide +kernel⟩, wd_715⟩
theorem wd_727 : (Jvm.Cond.code ({ cls := "BitDesk", name := "firstEqual", desc := "([II)I" } : Jvm.MethodName) prog_1_method_74_code (4 : Nat) (Option.some Jvm.ClassFile.FieldType.int)) ∈ WS := ws_c3 153 rfl rfl
theorem wd_724 : (Jvm.Cond.methodLink "BitDesk" (153 : Nat) ({ cls := "BitDesk", name := "firstEqual", desc := "([II)I" } : Jvm.MethodName)) ∈ WS := ws_c3 150 rfl rfl
theorem wd_726 : (Jvm.Cond.instanceMethod ({ cls := "BitDesk", name := "firstEqual", desc := "([II)I" } : Jvm.MethodName)) ∈ WS := ws_c3 152 rfl rfl
theorem wd_26 : (Jvm.Cond.selects "BitDesk" (⟨"BitDesk", "firstEqual", "([II)I"⟩ : Jvm.MethodName) (⟨"BitDesk", "firstEqual", "([II)I"⟩ : Jvm.MethodName)) ∈ WS := ws_c0 26 rfl rfl
theorem lk_X6_153 : LkV RX6 153 jX6_firstEqual 2 := ⟨⟨wd_724, ⟨rfl, (by rw [cwd_nil rfl]; exact wd_727)⟩, wd_95, ⟨by decide +kernel, by decide +kernel⟩, by decide +kernel⟩, wd_726, wd_26⟩
theorem wd_738 : (Jvm.Cond.code ({ cls := "BitDesk", name := "firstRows", desc := "([II)I" } : Jvm.MethodName) prog_1_method_75_code (5 : Nat) (Option.some Jvm.ClassFile.FieldType.int)) ∈ WS := ws_c3 164 rfl rfl
theorem wd_735 : (Jvm.Cond.methodLink "BitDesk" (156 : Nat) ({ cls := "BitDesk", name := "firstRows", desc := "([II)I" } : Jvm.MethodName)) ∈ WS := ws_c3 161 rfl rfl
theorem wd_737 : (Jvm.Cond.instanceMethod ({ cls := "BitDesk", name := "firstRows", desc := "([II)I" } : Jvm.MethodName)) ∈ WS := ws_c3 163 rfl rfl
theorem wd_27 : (Jvm.Cond.selects "BitDesk" (⟨"BitDesk", "firstRows", "([II)I"⟩ : Jvm.MethodName) (⟨"BitDesk", "firstRows", "([II)I"⟩ : Jvm.MethodName)) ∈ WS := ws_c0 27 rfl rfl
theorem lk_X6_156 : LkV RX6 156 jX6_firstRows 2 := ⟨⟨wd_735, ⟨rfl, (by rw [cwd_nil rfl]; exact wd_738)⟩, wd_95, ⟨by decide +kernel, by decide +kernel⟩, by decide +kernel⟩, wd_737, wd_27⟩
theorem wd_703 : (Jvm.Cond.code ({ cls := "BitDesk", name := "ones", desc := "(I)I" } : Jvm.MethodName) prog_1_method_11_code (2 : Nat) (Option.some Jvm.ClassFile.FieldType.int)) ∈ WS := ws_c3 129 rfl rfl
theorem wd_767 : (Jvm.Cond.methodLink "BitDesk" (159 : Nat) ({ cls := "BitDesk", name := "ones", desc := "(I)I" } : Jvm.MethodName)) ∈ WS := ws_c3 193 rfl rfl
theorem wd_701 : (Jvm.Cond.instanceMethod ({ cls := "BitDesk", name := "ones", desc := "(I)I" } : Jvm.MethodName)) ∈ WS := ws_c3 127 rfl rfl
theorem wd_702 : (Jvm.Cond.selects "BitDesk" ({ cls := "BitDesk", name := "ones", desc := "(I)I" } : Jvm.MethodName) ({ cls := "BitDesk", name := "ones", desc := "(I)I" } : Jvm.MethodName)) ∈ WS := ws_c3 128 rfl rfl
theorem lk_X6_159 : LkV RX6 159 jX6_ones 1 := ⟨⟨wd_767, ⟨rfl, (by rw [cwd_nil rfl]; exact wd_703)⟩, wd_95, ⟨by decide +kernel, by decide +kernel⟩, by decide +kernel⟩, wd_701, wd_702⟩
theorem wd_785 : (Jvm.Cond.code ({ cls := "BitDesk", name := "closureOf", desc := "(I)LBitDesk$Closure;" } : Jvm.MethodName) prog_1_method_70_code (3 : Nat) (Option.some (Jvm.ClassFile.FieldType.object "BitDesk$Closure"))) ∈ WS := ws_c3 211 rfl rfl
theorem wd_782 : (Jvm.Cond.methodLink "BitDesk" (162 : Nat) ({ cls := "BitDesk", name := "closureOf", desc := "(I)LBitDesk$Closure;" } : Jvm.MethodName)) ∈ WS := ws_c3 208 rfl rfl
theorem wd_784 : (Jvm.Cond.instanceMethod ({ cls := "BitDesk", name := "closureOf", desc := "(I)LBitDesk$Closure;" } : Jvm.MethodName)) ∈ WS := ws_c3 210 rfl rfl
theorem wd_28 : (Jvm.Cond.selects "BitDesk" (⟨"BitDesk", "closureOf", "(I)LBitDesk$Closure;"⟩ : Jvm.MethodName) (⟨"BitDesk", "closureOf", "(I)LBitDesk$Closure;"⟩ : Jvm.MethodName)) ∈ WS := ws_c0 28 rfl rfl
theorem lk_X6_162 : LkV RX6 162 jX6_closureOf 1 := ⟨⟨wd_782, ⟨rfl, (by rw [cwd_nil rfl]; exact wd_785)⟩, wd_95, ⟨by decide +kernel, by decide +kernel⟩, by decide +kernel⟩, wd_784, wd_28⟩
theorem fk_X6_166 : FK RX6 166 0 0 (.array .int) := ⟨RX0, TX0, 2, rfl, by decide, rfl, rfl, (Or.inr ⟨_, wn_f20⟩), inW0⟩
theorem wd_805 : (Jvm.Cond.code ({ cls := "BitDesk", name := "pairs", desc := "(I)I" } : Jvm.MethodName) prog_1_method_22_code (2 : Nat) (Option.some Jvm.ClassFile.FieldType.int)) ∈ WS := ws_c3 231 rfl rfl
theorem wd_813 : (Jvm.Cond.methodLink "BitDesk" (169 : Nat) ({ cls := "BitDesk", name := "pairs", desc := "(I)I" } : Jvm.MethodName)) ∈ WS := ws_c3 239 rfl rfl
theorem wd_803 : (Jvm.Cond.instanceMethod ({ cls := "BitDesk", name := "pairs", desc := "(I)I" } : Jvm.MethodName)) ∈ WS := ws_c3 229 rfl rfl
theorem wd_804 : (Jvm.Cond.selects "BitDesk" ({ cls := "BitDesk", name := "pairs", desc := "(I)I" } : Jvm.MethodName) ({ cls := "BitDesk", name := "pairs", desc := "(I)I" } : Jvm.MethodName)) ∈ WS := ws_c3 230 rfl rfl
theorem lk_X6_169 : LkV RX6 169 jX6_pairs 1 := ⟨⟨wd_813, ⟨rfl, (by rw [cwd_nil rfl]; exact wd_805)⟩, wd_95, ⟨by decide +kernel, by decide +kernel⟩, by decide +kernel⟩, wd_803, wd_804⟩
theorem wd_824 : (Jvm.Cond.code ({ cls := "BitDesk$Closure", name := "lowestMutual", desc := "(II)I" } : Jvm.MethodName) prog_2_method_4_code (3 : Nat) (Option.some Jvm.ClassFile.FieldType.int)) ∈ WS := ws_c4 10 rfl rfl
theorem wd_821 : (Jvm.Cond.methodLink "BitDesk" (172 : Nat) ({ cls := "BitDesk$Closure", name := "lowestMutual", desc := "(II)I" } : Jvm.MethodName)) ∈ WS := ws_c4 7 rfl rfl
theorem wd_822 : (Jvm.Cond.instanceMethod ({ cls := "BitDesk$Closure", name := "lowestMutual", desc := "(II)I" } : Jvm.MethodName)) ∈ WS := ws_c4 8 rfl rfl
theorem wd_823 : (Jvm.Cond.selects "BitDesk$Closure" ({ cls := "BitDesk$Closure", name := "lowestMutual", desc := "(II)I" } : Jvm.MethodName) ({ cls := "BitDesk$Closure", name := "lowestMutual", desc := "(II)I" } : Jvm.MethodName)) ∈ WS := ws_c4 9 rfl rfl
theorem lk_X6_172 : LkV RX6 172 jX0_lowestMutual 2 := ⟨⟨wd_821, ⟨rfl, (by rw [cwd_nil rfl]; exact wd_824)⟩, wd_99, ⟨by decide +kernel, by decide +kernel⟩, by decide +kernel⟩, wd_822, wd_823⟩
theorem wd_846 : (Jvm.Cond.code ({ cls := "BitDesk", name := "fewestEdges", desc := "([III)I" } : Jvm.MethodName) prog_1_method_77_code (6 : Nat) (Option.some Jvm.ClassFile.FieldType.int)) ∈ WS := ws_c4 32 rfl rfl
theorem wd_843 : (Jvm.Cond.methodLink "BitDesk" (175 : Nat) ({ cls := "BitDesk", name := "fewestEdges", desc := "([III)I" } : Jvm.MethodName)) ∈ WS := ws_c4 29 rfl rfl
theorem wd_845 : (Jvm.Cond.instanceMethod ({ cls := "BitDesk", name := "fewestEdges", desc := "([III)I" } : Jvm.MethodName)) ∈ WS := ws_c4 31 rfl rfl
theorem wd_29 : (Jvm.Cond.selects "BitDesk" (⟨"BitDesk", "fewestEdges", "([III)I"⟩ : Jvm.MethodName) (⟨"BitDesk", "fewestEdges", "([III)I"⟩ : Jvm.MethodName)) ∈ WS := ws_c0 29 rfl rfl
theorem lk_X6_175 : LkV RX6 175 jX6_fewestEdges 3 := ⟨⟨wd_843, ⟨rfl, (by rw [cwd_nil rfl]; exact wd_846)⟩, wd_95, ⟨by decide +kernel, by decide +kernel⟩, by decide +kernel⟩, wd_845, wd_29⟩
theorem wd_842 : (Jvm.Cond.code ({ cls := "BitDesk", name := "distance", desc := "(III)I" } : Jvm.MethodName) prog_1_method_26_code (4 : Nat) (Option.some Jvm.ClassFile.FieldType.int)) ∈ WS := ws_c4 28 rfl rfl
theorem wd_858 : (Jvm.Cond.methodLink "BitDesk" (178 : Nat) ({ cls := "BitDesk", name := "distance", desc := "(III)I" } : Jvm.MethodName)) ∈ WS := ws_c4 44 rfl rfl
theorem wd_840 : (Jvm.Cond.instanceMethod ({ cls := "BitDesk", name := "distance", desc := "(III)I" } : Jvm.MethodName)) ∈ WS := ws_c4 26 rfl rfl
theorem wd_841 : (Jvm.Cond.selects "BitDesk" ({ cls := "BitDesk", name := "distance", desc := "(III)I" } : Jvm.MethodName) ({ cls := "BitDesk", name := "distance", desc := "(III)I" } : Jvm.MethodName)) ∈ WS := ws_c4 27 rfl rfl
theorem lk_X6_178 : LkV RX6 178 jX6_distance 3 := ⟨⟨wd_858, ⟨rfl, (by rw [cwd_nil rfl]; exact wd_842)⟩, wd_95, ⟨by decide +kernel, by decide +kernel⟩, by decide +kernel⟩, wd_840, wd_841⟩
theorem wd_862 : (Jvm.Cond.code ({ cls := "BitDesk", name := "fillLevels", desc := "([III)V" } : Jvm.MethodName) prog_1_method_78_code (7 : Nat) (Option.none : Option Jvm.ClassFile.FieldType)) ∈ WS := ws_c4 48 rfl rfl
theorem wd_859 : (Jvm.Cond.methodLink "BitDesk" (182 : Nat) ({ cls := "BitDesk", name := "fillLevels", desc := "([III)V" } : Jvm.MethodName)) ∈ WS := ws_c4 45 rfl rfl
theorem wd_861 : (Jvm.Cond.instanceMethod ({ cls := "BitDesk", name := "fillLevels", desc := "([III)V" } : Jvm.MethodName)) ∈ WS := ws_c4 47 rfl rfl
theorem wd_31 : (Jvm.Cond.selects "BitDesk" (⟨"BitDesk", "fillLevels", "([III)V"⟩ : Jvm.MethodName) (⟨"BitDesk", "fillLevels", "([III)V"⟩ : Jvm.MethodName)) ∈ WS := ws_c0 31 rfl rfl
theorem lk_X6_182 : LkV RX6 182 jX6_fillLevels 3 := ⟨⟨wd_859, ⟨rfl, (by rw [cwd_nil rfl]; exact wd_862)⟩, wd_95, ⟨by decide +kernel, by decide +kernel⟩, by decide +kernel⟩, wd_861, wd_31⟩
theorem fk_X6_62 : FK RX6 62 6 12 (.array .int) := ⟨RX6, TX6, 15, rfl, by decide, rfl, rfl, (Or.inl wd_301), inW6⟩
theorem wd_863 : (Jvm.Cond.methodLink "BitDesk" (186 : Nat) ({ cls := "BitDesk", name := "lowestOne", desc := "(I)I" } : Jvm.MethodName)) ∈ WS := ws_c4 49 rfl rfl
theorem lk_X6_186 : LkS RX6 186 jX6_lowestOne 1 := ⟨⟨wd_863, ⟨rfl, (by rw [cwd_nil rfl]; exact wd_828)⟩, wd_95, ⟨by decide +kernel, by decide +kernel⟩, by decide +kernel⟩, wd_827⟩
theorem wd_850 : (Jvm.Cond.code ({ cls := "BitDesk", name := "joinedRows", desc := "([II)I" } : Jvm.MethodName) prog_1_method_76_code (5 : Nat) (Option.some Jvm.ClassFile.FieldType.int)) ∈ WS := ws_c4 36 rfl rfl
theorem wd_847 : (Jvm.Cond.methodLink "BitDesk" (189 : Nat) ({ cls := "BitDesk", name := "joinedRows", desc := "([II)I" } : Jvm.MethodName)) ∈ WS := ws_c4 33 rfl rfl
theorem wd_849 : (Jvm.Cond.instanceMethod ({ cls := "BitDesk", name := "joinedRows", desc := "([II)I" } : Jvm.MethodName)) ∈ WS := ws_c4 35 rfl rfl
theorem wd_30 : (Jvm.Cond.selects "BitDesk" (⟨"BitDesk", "joinedRows", "([II)I"⟩ : Jvm.MethodName) (⟨"BitDesk", "joinedRows", "([II)I"⟩ : Jvm.MethodName)) ∈ WS := ws_c0 30 rfl rfl
theorem lk_X6_189 : LkV RX6 189 jX6_joinedRows 2 := ⟨⟨wd_847, ⟨rfl, (by rw [cwd_nil rfl]; exact wd_850)⟩, wd_95, ⟨by decide +kernel, by decide +kernel⟩, by decide +kernel⟩, wd_849, wd_30⟩
theorem wd_892 : (Jvm.Cond.methodLink "BitDesk" (192 : Nat) ({ cls := "BitDesk$Closure", name := "nodesTo", desc := "(II)I" } : Jvm.MethodName)) ∈ WS := ws_c4 78 rfl rfl
theorem lk_X6_192 : LkV RX6 192 jX0_nodesTo 2 := ⟨⟨wd_892, ⟨rfl, (by rw [cwd_nil rfl]; exact wd_895)⟩, wd_99, ⟨by decide +kernel, by decide +kernel⟩, by decide +kernel⟩, wd_893, wd_894⟩
theorem wd_896 : (Jvm.Cond.methodLink "BitDesk" (195 : Nat) ({ cls := "BitDesk$Closure", name := "gainWith", desc := "(III)I" } : Jvm.MethodName)) ∈ WS := ws_c4 82 rfl rfl
theorem lk_X6_195 : LkV RX6 195 jX0_gainWith 3 := ⟨⟨wd_896, ⟨rfl, (by rw [cwd_nil rfl]; exact wd_899)⟩, wd_99, ⟨by decide +kernel, by decide +kernel⟩, by decide +kernel⟩, wd_897, wd_898⟩
theorem wd_911 : (Jvm.Cond.code ({ cls := "BitDesk", name := "lossWithout", desc := "(III)I" } : Jvm.MethodName) prog_1_method_79_code (4 : Nat) (Option.some Jvm.ClassFile.FieldType.int)) ∈ WS := ws_c4 97 rfl rfl
theorem wd_908 : (Jvm.Cond.methodLink "BitDesk" (198 : Nat) ({ cls := "BitDesk", name := "lossWithout", desc := "(III)I" } : Jvm.MethodName)) ∈ WS := ws_c4 94 rfl rfl
theorem wd_910 : (Jvm.Cond.instanceMethod ({ cls := "BitDesk", name := "lossWithout", desc := "(III)I" } : Jvm.MethodName)) ∈ WS := ws_c4 96 rfl rfl
theorem wd_32 : (Jvm.Cond.selects "BitDesk" (⟨"BitDesk", "lossWithout", "(III)I"⟩ : Jvm.MethodName) (⟨"BitDesk", "lossWithout", "(III)I"⟩ : Jvm.MethodName)) ∈ WS := ws_c0 32 rfl rfl
theorem lk_X6_198 : LkV RX6 198 jX6_lossWithout 3 := ⟨⟨wd_908, ⟨rfl, (by rw [cwd_nil rfl]; exact wd_911)⟩, wd_95, ⟨by decide +kernel, by decide +kernel⟩, by decide +kernel⟩, wd_910, wd_32⟩
theorem wd_930 : (Jvm.Cond.code ({ cls := "BitDesk", name := "edgeNumber", desc := "(II)I" } : Jvm.MethodName) prog_1_method_83_code (2 : Nat) (Option.some Jvm.ClassFile.FieldType.int)) ∈ WS := ws_c4 116 rfl rfl
theorem wd_928 : (Jvm.Cond.methodLink "BitDesk" (201 : Nat) ({ cls := "BitDesk", name := "edgeNumber", desc := "(II)I" } : Jvm.MethodName)) ∈ WS := ws_c4 114 rfl rfl
theorem wd_929 : (Jvm.Cond.static ({ cls := "BitDesk", name := "edgeNumber", desc := "(II)I" } : Jvm.MethodName)) ∈ WS := ws_c4 115 rfl rfl
theorem lk_X6_201 : LkS RX6 201 jX6_edgeNumber 2 := ⟨⟨wd_928, ⟨rfl, (by rw [cwd_nil rfl]; exact wd_930)⟩, wd_95, ⟨by decide +kernel, by decide +kernel⟩, by decide +kernel⟩, wd_929⟩
theorem fk_X6_54 : FK RX6 54 6 10 (.object "BitDesk$Elimination") := ⟨RX6, TX6, 15, rfl, by decide, rfl, rfl, (Or.inl wd_299), inW6⟩
theorem wd_955 : (Jvm.Cond.code ({ cls := "BitDesk$Elimination", name := "eliminate", desc := "([III)V" } : Jvm.MethodName) prog_3_method_2_code (5 : Nat) (Option.none : Option Jvm.ClassFile.FieldType)) ∈ WS := ws_c4 141 rfl rfl
theorem wd_952 : (Jvm.Cond.methodLink "BitDesk" (204 : Nat) ({ cls := "BitDesk$Elimination", name := "eliminate", desc := "([III)V" } : Jvm.MethodName)) ∈ WS := ws_c4 138 rfl rfl
theorem wd_953 : (Jvm.Cond.instanceMethod ({ cls := "BitDesk$Elimination", name := "eliminate", desc := "([III)V" } : Jvm.MethodName)) ∈ WS := ws_c4 139 rfl rfl
theorem wd_954 : (Jvm.Cond.selects "BitDesk$Elimination" ({ cls := "BitDesk$Elimination", name := "eliminate", desc := "([III)V" } : Jvm.MethodName) ({ cls := "BitDesk$Elimination", name := "eliminate", desc := "([III)V" } : Jvm.MethodName)) ∈ WS := ws_c4 140 rfl rfl
theorem lk_X6_204 : LkV RX6 204 jX1_eliminate 3 := ⟨⟨wd_952, ⟨rfl, (by rw [cwd_nil rfl]; exact wd_955)⟩, wd_101, ⟨by decide +kernel, by decide +kernel⟩, by decide +kernel⟩, wd_953, wd_954⟩
theorem fk_X6_207 : FK RX6 207 1 3 (.int) := ⟨RX1, TX1, 4, rfl, by decide, rfl, rfl, (Or.inr ⟨_, wn_f25⟩), inW1⟩
theorem wd_984 : (Jvm.Cond.code ({ cls := "BitDesk$Elimination", name := "isSolvable", desc := "(I)Z" } : Jvm.MethodName) prog_3_method_4_code (3 : Nat) (Option.some Jvm.ClassFile.FieldType.boolean)) ∈ WS := ws_c4 170 rfl rfl
theorem wd_981 : (Jvm.Cond.methodLink "BitDesk" (210 : Nat) ({ cls := "BitDesk$Elimination", name := "isSolvable", desc := "(I)Z" } : Jvm.MethodName)) ∈ WS := ws_c4 167 rfl rfl
theorem wd_982 : (Jvm.Cond.instanceMethod ({ cls := "BitDesk$Elimination", name := "isSolvable", desc := "(I)Z" } : Jvm.MethodName)) ∈ WS := ws_c4 168 rfl rfl
theorem wd_983 : (Jvm.Cond.selects "BitDesk$Elimination" ({ cls := "BitDesk$Elimination", name := "isSolvable", desc := "(I)Z" } : Jvm.MethodName) ({ cls := "BitDesk$Elimination", name := "isSolvable", desc := "(I)Z" } : Jvm.MethodName)) ∈ WS := ws_c4 169 rfl rfl
theorem lk_X6_210 : LkV RX6 210 jX1_isSolvable 1 := ⟨⟨wd_981, ⟨rfl, (by rw [cwd_nil rfl]; exact wd_984)⟩, wd_101, ⟨by decide +kernel, by decide +kernel⟩, by decide +kernel⟩, wd_982, wd_983⟩
theorem wd_988 : (Jvm.Cond.code ({ cls := "BitDesk$Elimination", name := "solution", desc := "()I" } : Jvm.MethodName) prog_3_method_5_code (3 : Nat) (Option.some Jvm.ClassFile.FieldType.int)) ∈ WS := ws_c4 174 rfl rfl
theorem wd_985 : (Jvm.Cond.methodLink "BitDesk" (214 : Nat) ({ cls := "BitDesk$Elimination", name := "solution", desc := "()I" } : Jvm.MethodName)) ∈ WS := ws_c4 171 rfl rfl
theorem wd_986 : (Jvm.Cond.instanceMethod ({ cls := "BitDesk$Elimination", name := "solution", desc := "()I" } : Jvm.MethodName)) ∈ WS := ws_c4 172 rfl rfl
theorem wd_987 : (Jvm.Cond.selects "BitDesk$Elimination" ({ cls := "BitDesk$Elimination", name := "solution", desc := "()I" } : Jvm.MethodName) ({ cls := "BitDesk$Elimination", name := "solution", desc := "()I" } : Jvm.MethodName)) ∈ WS := ws_c4 173 rfl rfl
theorem lk_X6_214 : LkV RX6 214 jX1_solution 0 := ⟨⟨wd_985, ⟨rfl, (by rw [cwd_nil rfl]; exact wd_988)⟩, wd_101, ⟨by decide +kernel, by decide +kernel⟩, by decide +kernel⟩, wd_986, wd_987⟩
theorem wd_989 : (Jvm.Cond.constantLong "BitDesk" (217 : Nat) (-1 : Int64)) ∈ WS := ws_c4 175 rfl rfl
theorem wd_1007 : (Jvm.Cond.code ({ cls := "BitDesk$Elimination", name := "pivotAt", desc := "(I)I" } : Jvm.MethodName) prog_3_method_6_code (2 : Nat) (Option.some Jvm.ClassFile.FieldType.int)) ∈ WS := ws_c4 193 rfl rfl
theorem wd_1004 : (Jvm.Cond.methodLink "BitDesk" (219 : Nat) ({ cls := "BitDesk$Elimination", name := "pivotAt", desc := "(I)I" } : Jvm.MethodName)) ∈ WS := ws_c4 190 rfl rfl
theorem wd_1005 : (Jvm.Cond.instanceMethod ({ cls := "BitDesk$Elimination", name := "pivotAt", desc := "(I)I" } : Jvm.MethodName)) ∈ WS := ws_c4 191 rfl rfl
theorem wd_1006 : (Jvm.Cond.selects "BitDesk$Elimination" ({ cls := "BitDesk$Elimination", name := "pivotAt", desc := "(I)I" } : Jvm.MethodName) ({ cls := "BitDesk$Elimination", name := "pivotAt", desc := "(I)I" } : Jvm.MethodName)) ∈ WS := ws_c4 192 rfl rfl
theorem lk_X6_219 : LkV RX6 219 jX1_pivotAt 1 := ⟨⟨wd_1004, ⟨rfl, (by rw [cwd_nil rfl]; exact wd_1007)⟩, wd_101, ⟨by decide +kernel, by decide +kernel⟩, by decide +kernel⟩, wd_1005, wd_1006⟩
theorem wd_1018 : (Jvm.Cond.code ({ cls := "BitDesk", name := "remember", desc := "()V" } : Jvm.MethodName) prog_1_method_67_code (1 : Nat) (Option.none : Option Jvm.ClassFile.FieldType)) ∈ WS := ws_c4 204 rfl rfl
theorem wd_1015 : (Jvm.Cond.methodLink "BitDesk" (222 : Nat) ({ cls := "BitDesk", name := "remember", desc := "()V" } : Jvm.MethodName)) ∈ WS := ws_c4 201 rfl rfl
theorem wd_1017 : (Jvm.Cond.instanceMethod ({ cls := "BitDesk", name := "remember", desc := "()V" } : Jvm.MethodName)) ∈ WS := ws_c4 203 rfl rfl
theorem wd_37 : (Jvm.Cond.selects "BitDesk" (⟨"BitDesk", "remember", "()V"⟩ : Jvm.MethodName) (⟨"BitDesk", "remember", "()V"⟩ : Jvm.MethodName)) ∈ WS := ws_c0 37 rfl rfl
theorem lk_X6_222 : LkV RX6 222 jX6_remember 0 := ⟨⟨wd_1015, ⟨rfl, (by rw [cwd_nil rfl]; exact wd_1018)⟩, wd_95, ⟨by decide +kernel, by decide +kernel⟩, by decide +kernel⟩, wd_1017, wd_37⟩
theorem fk_X6_225 : FK RX6 225 5 0 (.array (.object "BitDesk$Matrix")) := ⟨RX5, TX5, 5, rfl, by decide, rfl, rfl, (Or.inr ⟨_, wn_f11⟩), inW5⟩
theorem fk_X6_229 : FK RX6 229 2 0 (.array .int) := ⟨RX2, TX2, 5, rfl, by decide, rfl, rfl, (Or.inr ⟨_, wn_f4⟩), inW2⟩
theorem wd_1020 : (Jvm.Cond.methodLink "BitDesk" (234 : Nat) ({ cls := "BitDesk$Matrix", name := "noteLooked", desc := "(I)V" } : Jvm.MethodName)) ∈ WS := ws_c4 206 rfl rfl
theorem lk_X6_234 : LkV RX6 234 jX2_noteLooked 1 := ⟨⟨wd_1020, ⟨rfl, (by rw [cwd_nil rfl]; exact wd_495)⟩, wd_98, ⟨by decide +kernel, by decide +kernel⟩, by decide +kernel⟩, wd_493, wd_494⟩
theorem wd_1024 : (Jvm.Cond.code ({ cls := "BitDesk$Closure", name := "extend", desc := "(III)I" } : Jvm.MethodName) prog_2_method_6_code (7 : Nat) (Option.some Jvm.ClassFile.FieldType.int)) ∈ WS := ws_c4 210 rfl rfl
theorem wd_1021 : (Jvm.Cond.methodLink "BitDesk" (237 : Nat) ({ cls := "BitDesk$Closure", name := "extend", desc := "(III)I" } : Jvm.MethodName)) ∈ WS := ws_c4 207 rfl rfl
theorem wd_1022 : (Jvm.Cond.instanceMethod ({ cls := "BitDesk$Closure", name := "extend", desc := "(III)I" } : Jvm.MethodName)) ∈ WS := ws_c4 208 rfl rfl
theorem wd_1023 : (Jvm.Cond.selects "BitDesk$Closure" ({ cls := "BitDesk$Closure", name := "extend", desc := "(III)I" } : Jvm.MethodName) ({ cls := "BitDesk$Closure", name := "extend", desc := "(III)I" } : Jvm.MethodName)) ∈ WS := ws_c4 209 rfl rfl
theorem lk_X6_237 : LkV RX6 237 jX0_extend 3 := ⟨⟨wd_1021, ⟨rfl, (by rw [cwd_nil rfl]; exact wd_1024)⟩, wd_99, ⟨by decide +kernel, by decide +kernel⟩, by decide +kernel⟩, wd_1022, wd_1023⟩
theorem wd_1029 : (Jvm.Cond.code ({ cls := "BitDesk$Closure", name := "mend", desc := "(I[II)I" } : Jvm.MethodName) prog_2_method_7_code (7 : Nat) (Option.some Jvm.ClassFile.FieldType.int)) ∈ WS := ws_c4 215 rfl rfl
theorem wd_1026 : (Jvm.Cond.methodLink "BitDesk" (240 : Nat) ({ cls := "BitDesk$Closure", name := "mend", desc := "(I[II)I" } : Jvm.MethodName)) ∈ WS := ws_c4 212 rfl rfl
theorem wd_1027 : (Jvm.Cond.instanceMethod ({ cls := "BitDesk$Closure", name := "mend", desc := "(I[II)I" } : Jvm.MethodName)) ∈ WS := ws_c4 213 rfl rfl
theorem wd_1028 : (Jvm.Cond.selects "BitDesk$Closure" ({ cls := "BitDesk$Closure", name := "mend", desc := "(I[II)I" } : Jvm.MethodName) ({ cls := "BitDesk$Closure", name := "mend", desc := "(I[II)I" } : Jvm.MethodName)) ∈ WS := ws_c4 214 rfl rfl
theorem lk_X6_240 : LkV RX6 240 jX0_mend 3 := ⟨⟨wd_1026, ⟨rfl, (by rw [cwd_nil rfl]; exact wd_1029)⟩, wd_99, ⟨by decide +kernel, by decide +kernel⟩, by decide +kernel⟩, wd_1027, wd_1028⟩
theorem wd_1040 : (Jvm.Cond.code ({ cls := "BitDesk", name := "noteChange", desc := "(I)V" } : Jvm.MethodName) prog_1_method_72_code (2 : Nat) (Option.none : Option Jvm.ClassFile.FieldType)) ∈ WS := ws_c4 226 rfl rfl
theorem wd_1037 : (Jvm.Cond.methodLink "BitDesk" (244 : Nat) ({ cls := "BitDesk", name := "noteChange", desc := "(I)V" } : Jvm.MethodName)) ∈ WS := ws_c4 223 rfl rfl
theorem wd_1039 : (Jvm.Cond.instanceMethod ({ cls := "BitDesk", name := "noteChange", desc := "(I)V" } : Jvm.MethodName)) ∈ WS := ws_c4 225 rfl rfl
theorem wd_38 : (Jvm.Cond.selects "BitDesk" (⟨"BitDesk", "noteChange", "(I)V"⟩ : Jvm.MethodName) (⟨"BitDesk", "noteChange", "(I)V"⟩ : Jvm.MethodName)) ∈ WS := ws_c0 38 rfl rfl
theorem lk_X6_244 : LkV RX6 244 jX6_noteChange 1 := ⟨⟨wd_1037, ⟨rfl, (by rw [cwd_nil rfl]; exact wd_1040)⟩, wd_95, ⟨by decide +kernel, by decide +kernel⟩, by decide +kernel⟩, wd_1039, wd_38⟩
theorem wd_1052 : (Jvm.Cond.code ({ cls := "BitDesk", name := "store", desc := "([II)I" } : Jvm.MethodName) prog_1_method_71_code (3 : Nat) (Option.some Jvm.ClassFile.FieldType.int)) ∈ WS := ws_c4 238 rfl rfl
theorem wd_1049 : (Jvm.Cond.methodLink "BitDesk" (247 : Nat) ({ cls := "BitDesk", name := "store", desc := "([II)I" } : Jvm.MethodName)) ∈ WS := ws_c4 235 rfl rfl
theorem wd_1051 : (Jvm.Cond.instanceMethod ({ cls := "BitDesk", name := "store", desc := "([II)I" } : Jvm.MethodName)) ∈ WS := ws_c4 237 rfl rfl
theorem wd_39 : (Jvm.Cond.selects "BitDesk" (⟨"BitDesk", "store", "([II)I"⟩ : Jvm.MethodName) (⟨"BitDesk", "store", "([II)I"⟩ : Jvm.MethodName)) ∈ WS := ws_c0 39 rfl rfl
theorem lk_X6_247 : LkV RX6 247 jX6_store 2 := ⟨⟨wd_1049, ⟨rfl, (by rw [cwd_nil rfl]; exact wd_1052)⟩, wd_95, ⟨by decide +kernel, by decide +kernel⟩, by decide +kernel⟩, wd_1051, wd_39⟩
theorem fk_X6_58 : FK RX6 58 6 11 (.array .int) := ⟨RX6, TX6, 15, rfl, by decide, rfl, rfl, (Or.inl wd_300), inW6⟩
theorem wd_1069 : (Jvm.Cond.code ({ cls := "BitDesk", name := "combined", desc := "(III)I" } : Jvm.MethodName) prog_1_method_81_code (3 : Nat) (Option.some Jvm.ClassFile.FieldType.int)) ∈ WS := ws_c5 15 rfl rfl
theorem wd_1067 : (Jvm.Cond.methodLink "BitDesk" (250 : Nat) ({ cls := "BitDesk", name := "combined", desc := "(III)I" } : Jvm.MethodName)) ∈ WS := ws_c5 13 rfl rfl
theorem wd_1068 : (Jvm.Cond.static ({ cls := "BitDesk", name := "combined", desc := "(III)I" } : Jvm.MethodName)) ∈ WS := ws_c5 14 rfl rfl
theorem lk_X6_250 : LkS RX6 250 jX6_combined 3 := ⟨⟨wd_1067, ⟨rfl, (by rw [cwd_nil rfl]; exact wd_1069)⟩, wd_95, ⟨by decide +kernel, by decide +kernel⟩, by decide +kernel⟩, wd_1068⟩
theorem fk_X6_47 : FK RX6 47 6 9 (.object "BitDesk$Multiplier") := ⟨RX6, TX6, 15, rfl, by decide, rfl, rfl, (Or.inl wd_298), inW6⟩
theorem wd_1080 : (Jvm.Cond.code ({ cls := "BitDesk$Multiplier", name := "begin", desc := "(LBitDesk$State;Z)V" } : Jvm.MethodName) prog_5_method_2_code (3 : Nat) (Option.none : Option Jvm.ClassFile.FieldType)) ∈ WS := ws_c5 26 rfl rfl
theorem wd_1077 : (Jvm.Cond.methodLink "BitDesk" (253 : Nat) ({ cls := "BitDesk$Multiplier", name := "begin", desc := "(LBitDesk$State;Z)V" } : Jvm.MethodName)) ∈ WS := ws_c5 23 rfl rfl
theorem wd_1078 : (Jvm.Cond.instanceMethod ({ cls := "BitDesk$Multiplier", name := "begin", desc := "(LBitDesk$State;Z)V" } : Jvm.MethodName)) ∈ WS := ws_c5 24 rfl rfl
theorem wd_1079 : (Jvm.Cond.selects "BitDesk$Multiplier" ({ cls := "BitDesk$Multiplier", name := "begin", desc := "(LBitDesk$State;Z)V" } : Jvm.MethodName) ({ cls := "BitDesk$Multiplier", name := "begin", desc := "(LBitDesk$State;Z)V" } : Jvm.MethodName)) ∈ WS := ws_c5 25 rfl rfl
theorem lk_X6_253 : LkV RX6 253 jX3_begin 2 := ⟨⟨wd_1077, ⟨rfl, (by rw [cwd_nil rfl]; exact wd_1080)⟩, wd_100, ⟨by decide +kernel, by decide +kernel⟩, by decide +kernel⟩, wd_1078, wd_1079⟩
theorem wd_1081 : (Jvm.Cond.methodLink "BitDesk" (257 : Nat) ({ cls := "BitDesk$Multiplier", name := "multiply", desc := "([I[I[I)V" } : Jvm.MethodName)) ∈ WS := ws_c5 27 rfl rfl
theorem lk_X6_257 : LkV RX6 257 jX3_multiply 3 := ⟨⟨wd_1081, ⟨rfl, (by rw [cwd_nil rfl]; exact wd_1084)⟩, wd_100, ⟨by decide +kernel, by decide +kernel⟩, by decide +kernel⟩, wd_1082, wd_1083⟩
theorem wd_1102 : (Jvm.Cond.code ({ cls := "BitDesk", name := "noteWork", desc := "()V" } : Jvm.MethodName) prog_1_method_73_code (1 : Nat) (Option.none : Option Jvm.ClassFile.FieldType)) ∈ WS := ws_c5 48 rfl rfl
theorem wd_1099 : (Jvm.Cond.methodLink "BitDesk" (261 : Nat) ({ cls := "BitDesk", name := "noteWork", desc := "()V" } : Jvm.MethodName)) ∈ WS := ws_c5 45 rfl rfl
theorem wd_1101 : (Jvm.Cond.instanceMethod ({ cls := "BitDesk", name := "noteWork", desc := "()V" } : Jvm.MethodName)) ∈ WS := ws_c5 47 rfl rfl
theorem wd_43 : (Jvm.Cond.selects "BitDesk" (⟨"BitDesk", "noteWork", "()V"⟩ : Jvm.MethodName) (⟨"BitDesk", "noteWork", "()V"⟩ : Jvm.MethodName)) ∈ WS := ws_c0 43 rfl rfl
theorem lk_X6_261 : LkV RX6 261 jX6_noteWork 0 := ⟨⟨wd_1099, ⟨rfl, (by rw [cwd_nil rfl]; exact wd_1102)⟩, wd_95, ⟨by decide +kernel, by decide +kernel⟩, by decide +kernel⟩, wd_1101, wd_43⟩
theorem wd_1110 : (Jvm.Cond.constant "BitDesk" (264 : Nat) (1000000 : Int32)) ∈ WS := ws_c5 56 rfl rfl
theorem wd_1114 : (Jvm.Cond.code ({ cls := "BitDesk$Multiplier", name := "raise", desc := "([II)[I" } : Jvm.MethodName) prog_5_method_4_code (7 : Nat) (Option.some (Jvm.ClassFile.FieldType.array Jvm.ClassFile.FieldType.int))) ∈ WS := ws_c5 60 rfl rfl
theorem wd_1111 : (Jvm.Cond.methodLink "BitDesk" (265 : Nat) ({ cls := "BitDesk$Multiplier", name := "raise", desc := "([II)[I" } : Jvm.MethodName)) ∈ WS := ws_c5 57 rfl rfl
theorem wd_1112 : (Jvm.Cond.instanceMethod ({ cls := "BitDesk$Multiplier", name := "raise", desc := "([II)[I" } : Jvm.MethodName)) ∈ WS := ws_c5 58 rfl rfl
theorem wd_1113 : (Jvm.Cond.selects "BitDesk$Multiplier" ({ cls := "BitDesk$Multiplier", name := "raise", desc := "([II)[I" } : Jvm.MethodName) ({ cls := "BitDesk$Multiplier", name := "raise", desc := "([II)[I" } : Jvm.MethodName)) ∈ WS := ws_c5 59 rfl rfl
theorem lk_X6_265 : LkV RX6 265 jX3_raise 2 := ⟨⟨wd_1111, ⟨rfl, (by rw [cwd_nil rfl]; exact wd_1114)⟩, wd_100, ⟨by decide +kernel, by decide +kernel⟩, by decide +kernel⟩, wd_1112, wd_1113⟩
theorem wd_1127 : (Jvm.Cond.code ({ cls := "BitDesk$Elimination", name := "eliminateBesideUnit", desc := "([II)V" } : Jvm.MethodName) prog_3_method_3_code (4 : Nat) (Option.none : Option Jvm.ClassFile.FieldType)) ∈ WS := ws_c5 73 rfl rfl
theorem wd_1124 : (Jvm.Cond.methodLink "BitDesk" (269 : Nat) ({ cls := "BitDesk$Elimination", name := "eliminateBesideUnit", desc := "([II)V" } : Jvm.MethodName)) ∈ WS := ws_c5 70 rfl rfl
theorem wd_1125 : (Jvm.Cond.instanceMethod ({ cls := "BitDesk$Elimination", name := "eliminateBesideUnit", desc := "([II)V" } : Jvm.MethodName)) ∈ WS := ws_c5 71 rfl rfl
theorem wd_1126 : (Jvm.Cond.selects "BitDesk$Elimination" ({ cls := "BitDesk$Elimination", name := "eliminateBesideUnit", desc := "([II)V" } : Jvm.MethodName) ({ cls := "BitDesk$Elimination", name := "eliminateBesideUnit", desc := "([II)V" } : Jvm.MethodName)) ∈ WS := ws_c5 72 rfl rfl
theorem lk_X6_269 : LkV RX6 269 jX1_eliminateBesideUnit 2 := ⟨⟨wd_1124, ⟨rfl, (by rw [cwd_nil rfl]; exact wd_1127)⟩, wd_101, ⟨by decide +kernel, by decide +kernel⟩, by decide +kernel⟩, wd_1125, wd_1126⟩
theorem fk_X6_273 : FK RX6 273 1 1 (.array .int) := ⟨RX1, TX1, 4, rfl, by decide, rfl, rfl, (Or.inr ⟨_, wn_f24⟩), inW1⟩
theorem wd_912 : (Jvm.Cond.methodLink "BitDesk" (276 : Nat) ({ cls := "java/lang/System", name := "arraycopy", desc := "(Ljava/lang/Object;ILjava/lang/Object;II)V" } : Jvm.MethodName)) ∈ WS := ws_c4 98 rfl rfl
theorem wd_1145 : (Jvm.Cond.code ({ cls := "BitDesk", name := "dropNeedless", desc := "([II)V" } : Jvm.MethodName) prog_1_method_80_code (5 : Nat) (Option.none : Option Jvm.ClassFile.FieldType)) ∈ WS := ws_c5 91 rfl rfl
theorem wd_1142 : (Jvm.Cond.methodLink "BitDesk" (282 : Nat) ({ cls := "BitDesk", name := "dropNeedless", desc := "([II)V" } : Jvm.MethodName)) ∈ WS := ws_c5 88 rfl rfl
theorem wd_1144 : (Jvm.Cond.instanceMethod ({ cls := "BitDesk", name := "dropNeedless", desc := "([II)V" } : Jvm.MethodName)) ∈ WS := ws_c5 90 rfl rfl
theorem wd_44 : (Jvm.Cond.selects "BitDesk" (⟨"BitDesk", "dropNeedless", "([II)V"⟩ : Jvm.MethodName) (⟨"BitDesk", "dropNeedless", "([II)V"⟩ : Jvm.MethodName)) ∈ WS := ws_c0 44 rfl rfl
theorem lk_X6_282 : LkV RX6 282 jX6_dropNeedless 2 := ⟨⟨wd_1142, ⟨rfl, (by rw [cwd_nil rfl]; exact wd_1145)⟩, wd_95, ⟨by decide +kernel, by decide +kernel⟩, by decide +kernel⟩, wd_1144, wd_44⟩
theorem wd_1156 : (Jvm.Cond.code ({ cls := "BitDesk", name := "exchanged", desc := "(III)I" } : Jvm.MethodName) prog_1_method_82_code (3 : Nat) (Option.some Jvm.ClassFile.FieldType.int)) ∈ WS := ws_c5 102 rfl rfl
theorem wd_1154 : (Jvm.Cond.methodLink "BitDesk" (285 : Nat) ({ cls := "BitDesk", name := "exchanged", desc := "(III)I" } : Jvm.MethodName)) ∈ WS := ws_c5 100 rfl rfl
theorem wd_1155 : (Jvm.Cond.static ({ cls := "BitDesk", name := "exchanged", desc := "(III)I" } : Jvm.MethodName)) ∈ WS := ws_c5 101 rfl rfl
theorem lk_X6_285 : LkS RX6 285 jX6_exchanged 3 := ⟨⟨wd_1154, ⟨rfl, (by rw [cwd_nil rfl]; exact wd_1156)⟩, wd_95, ⟨by decide +kernel, by decide +kernel⟩, by decide +kernel⟩, wd_1155⟩
theorem fp_X6_288 : FP RX6 288 2 1 (.boolean) false := ⟨RX2, TX2, 5, tyX2, rfl, by decide, rfl, rfl, (Or.inr ⟨_, wn_f6⟩), inW2, tyX2_ok, nmX2, rfl, tyX2_ok 1 (by decide), rfl⟩
theorem wd_1041 : (Jvm.Cond.methodLink "BitDesk" (292 : Nat) ({ cls := "BitDesk$Matrix", name := "noteMadeAnew", desc := "(I)V" } : Jvm.MethodName)) ∈ WS := ws_c4 227 rfl rfl
theorem lk_X6_292 : LkV RX6 292 jX2_noteMadeAnew 1 := ⟨⟨wd_1041, ⟨rfl, (by rw [cwd_nil rfl]; exact wd_491)⟩, wd_98, ⟨by decide +kernel, by decide +kernel⟩, by decide +kernel⟩, wd_489, wd_490⟩
theorem fp_X6_99 : FP RX6 99 5 2 (.int) false := ⟨RX5, TX5, 5, tyX5, rfl, by decide, rfl, rfl, (Or.inr ⟨_, wn_f17⟩), inW5, tyX5_ok, nmX5, rfl, tyX5_ok 2 (by decide), rfl⟩
theorem fk_X6_288 : FK RX6 288 2 1 (.boolean) := ⟨RX2, TX2, 5, rfl, by decide, rfl, rfl, (Or.inr ⟨_, wn_f6⟩), inW2⟩
theorem fk_X6_295 : FK RX6 295 2 2 (.int) := ⟨RX2, TX2, 5, rfl, by decide, rfl, rfl, (Or.inr ⟨_, wn_f7⟩), inW2⟩
theorem fk_X6_298 : FK RX6 298 2 3 (.int) := ⟨RX2, TX2, 5, rfl, by decide, rfl, rfl, (Or.inr ⟨_, wn_f8⟩), inW2⟩
theorem fk_X6_301 : FK RX6 301 2 4 (.int) := ⟨RX2, TX2, 5, rfl, by decide, rfl, rfl, (Or.inr ⟨_, wn_f9⟩), inW2⟩
theorem fk_X6_304 : FK RX6 304 5 3 (.int) := ⟨RX5, TX5, 5, rfl, by decide, rfl, rfl, (Or.inr ⟨_, wn_f18⟩), inW5⟩
theorem fk_X6_307 : FK RX6 307 5 4 (.int) := ⟨RX5, TX5, 5, rfl, by decide, rfl, rfl, (Or.inr ⟨_, wn_f19⟩), inW5⟩
theorem fk_X6_86 : FK RX6 86 6 14 (.int) := ⟨RX6, TX6, 15, rfl, by decide, rfl, rfl, (Or.inl wd_303), inW6⟩
theorem fk_X6_65 : FK RX6 65 6 13 (.array .int) := ⟨RX6, TX6, 15, rfl, by decide, rfl, rfl, (Or.inl wd_302), inW6⟩
theorem fp_X6_106 : FP RX6 106 6 5 (.int) false := ⟨RX6, TX6, 15, tyX6, rfl, by decide, rfl, rfl, (Or.inl wd_294), inW6, tyX6_ok, nmX6, rfl, tyX6_ok 5 (by decide), rfl⟩
theorem wd_293 : (Jvm.Cond.fieldLink "BitDesk" (310 : Nat) "BitDesk" "pastNext" "I") ∈ WS := ws_c1 199 rfl rfl
theorem fk_X6_310 : FK RX6 310 6 4 (.int) := ⟨RX6, TX6, 15, rfl, by decide, rfl, rfl, (Or.inl wd_293), inW6⟩
theorem fp_X6_310 : FP RX6 310 6 4 (.int) false := ⟨RX6, TX6, 15, tyX6, rfl, by decide, rfl, rfl, (Or.inl wd_293), inW6, tyX6_ok, nmX6, rfl, tyX6_ok 4 (by decide), rfl⟩
theorem wd_503 : (Jvm.Cond.code ({ cls := "BitDesk$State", name := "takeFrom", desc := "(LBitDesk$State;)V" } : Jvm.MethodName) prog_7_method_3_code (3 : Nat) (Option.none : Option Jvm.ClassFile.FieldType)) ∈ WS := ws_c2 169 rfl rfl
theorem wd_500 : (Jvm.Cond.methodLink "BitDesk" (313 : Nat) ({ cls := "BitDesk$State", name := "takeFrom", desc := "(LBitDesk$State;)V" } : Jvm.MethodName)) ∈ WS := ws_c2 166 rfl rfl
theorem wd_501 : (Jvm.Cond.instanceMethod ({ cls := "BitDesk$State", name := "takeFrom", desc := "(LBitDesk$State;)V" } : Jvm.MethodName)) ∈ WS := ws_c2 167 rfl rfl
theorem wd_502 : (Jvm.Cond.selects "BitDesk$State" ({ cls := "BitDesk$State", name := "takeFrom", desc := "(LBitDesk$State;)V" } : Jvm.MethodName) ({ cls := "BitDesk$State", name := "takeFrom", desc := "(LBitDesk$State;)V" } : Jvm.MethodName)) ∈ WS := ws_c2 168 rfl rfl
theorem lk_X6_313 : LkV RX6 313 jX5_takeFrom 1 := ⟨⟨wd_500, ⟨rfl, (by rw [cwd_nil rfl]; exact wd_503)⟩, wd_97, ⟨by decide +kernel, by decide +kernel⟩, by decide +kernel⟩, wd_501, wd_502⟩
theorem wd_514 : (Jvm.Cond.code ({ cls := "BitDesk", name := "dropClosures", desc := "()V" } : Jvm.MethodName) prog_1_method_69_code (2 : Nat) (Option.none : Option Jvm.ClassFile.FieldType)) ∈ WS := ws_c2 180 rfl rfl
theorem wd_511 : (Jvm.Cond.methodLink "BitDesk" (316 : Nat) ({ cls := "BitDesk", name := "dropClosures", desc := "()V" } : Jvm.MethodName)) ∈ WS := ws_c2 177 rfl rfl
theorem wd_513 : (Jvm.Cond.instanceMethod ({ cls := "BitDesk", name := "dropClosures", desc := "()V" } : Jvm.MethodName)) ∈ WS := ws_c2 179 rfl rfl
theorem wd_17 : (Jvm.Cond.selects "BitDesk" (⟨"BitDesk", "dropClosures", "()V"⟩ : Jvm.MethodName) (⟨"BitDesk", "dropClosures", "()V"⟩ : Jvm.MethodName)) ∈ WS := ws_c0 17 rfl rfl
theorem lk_X6_316 : LkV RX6 316 jX6_dropClosures 0 := ⟨⟨wd_511, ⟨rfl, (by rw [cwd_nil rfl]; exact wd_514)⟩, wd_95, ⟨by decide +kernel, by decide +kernel⟩, by decide +kernel⟩, wd_513, wd_17⟩
theorem fk_X6_33 : FK RX6 33 6 7 (.array .boolean) := ⟨RX6, TX6, 15, rfl, by decide, rfl, rfl, (Or.inl wd_296), inW6⟩
theorem wd_634 : (Jvm.Cond.classLink "BitDesk" (319 : Nat) "java/lang/IndexOutOfBoundsException") ∈ WS := ws_c3 60 rfl rfl
theorem wd_653 : (Jvm.Cond.code ({ cls := "BitDesk", name := "needNode", desc := "(I)V" } : Jvm.MethodName) prog_1_method_61_code (2 : Nat) (Option.none : Option Jvm.ClassFile.FieldType)) ∈ WS := ws_c3 79 rfl rfl
theorem wd_650 : (Jvm.Cond.methodLink "BitDesk" (328 : Nat) ({ cls := "BitDesk", name := "needNode", desc := "(I)V" } : Jvm.MethodName)) ∈ WS := ws_c3 76 rfl rfl
theorem wd_652 : (Jvm.Cond.instanceMethod ({ cls := "BitDesk", name := "needNode", desc := "(I)V" } : Jvm.MethodName)) ∈ WS := ws_c3 78 rfl rfl
theorem wd_24 : (Jvm.Cond.selects "BitDesk" (⟨"BitDesk", "needNode", "(I)V"⟩ : Jvm.MethodName) (⟨"BitDesk", "needNode", "(I)V"⟩ : Jvm.MethodName)) ∈ WS := ws_c0 24 rfl rfl
theorem lk_X6_328 : LkV RX6 328 jX6_needNode 1 := ⟨⟨wd_650, ⟨rfl, (by rw [cwd_nil rfl]; exact wd_653)⟩, wd_95, ⟨by decide +kernel, by decide +kernel⟩, by decide +kernel⟩, wd_652, wd_24⟩
theorem wd_544 : (Jvm.Cond.classLink "BitDesk" (331 : Nat) "java/lang/IllegalArgumentException") ∈ WS := ws_c2 210 rfl rfl
theorem wd_1019 : (Jvm.Cond.methodLink "BitDesk" (336 : Nat) ({ cls := "java/lang/Math", name := "min", desc := "(II)I" } : Jvm.MethodName)) ∈ WS := ws_c4 205 rfl rfl
theorem lk_X6_336 : LkS RX6 336 jJ9_min_7cf53 2 := ⟨⟨wd_1019, ⟨rfl, (by rw [cwd_nil rfl]; exact wd_431)⟩, wd_107, ⟨by decide +kernel, by decide +kernel⟩, by decide +kernel⟩, wd_430⟩
theorem fp_X6_341 : FP RX6 341 0 1 (.boolean) false := ⟨RX0, TX0, 2, tyX0, rfl, by decide, rfl, rfl, (Or.inr ⟨_, wn_f21⟩), inW0, tyX0_ok, nmX0, rfl, tyX0_ok 1 (by decide), rfl⟩
theorem fk_X6_341 : FK RX6 341 0 1 (.boolean) := ⟨RX0, TX0, 2, rfl, by decide, rfl, rfl, (Or.inr ⟨_, wn_f21⟩), inW0⟩
theorem wd_789 : (Jvm.Cond.code ({ cls := "BitDesk$Closure", name := "makeFrom", desc := "([II)V" } : Jvm.MethodName) prog_2_method_2_code (5 : Nat) (Option.none : Option Jvm.ClassFile.FieldType)) ∈ WS := ws_c3 215 rfl rfl
theorem wd_786 : (Jvm.Cond.methodLink "BitDesk" (344 : Nat) ({ cls := "BitDesk$Closure", name := "makeFrom", desc := "([II)V" } : Jvm.MethodName)) ∈ WS := ws_c3 212 rfl rfl
theorem wd_787 : (Jvm.Cond.instanceMethod ({ cls := "BitDesk$Closure", name := "makeFrom", desc := "([II)V" } : Jvm.MethodName)) ∈ WS := ws_c3 213 rfl rfl
theorem wd_788 : (Jvm.Cond.selects "BitDesk$Closure" ({ cls := "BitDesk$Closure", name := "makeFrom", desc := "([II)V" } : Jvm.MethodName) ({ cls := "BitDesk$Closure", name := "makeFrom", desc := "([II)V" } : Jvm.MethodName)) ∈ WS := ws_c3 214 rfl rfl
theorem lk_X6_344 : LkV RX6 344 jX0_makeFrom 2 := ⟨⟨wd_786, ⟨rfl, (by rw [cwd_nil rfl]; exact wd_789)⟩, wd_99, ⟨by decide +kernel, by decide +kernel⟩, by decide +kernel⟩, wd_787, wd_788⟩
theorem fk_X6_347 : FK RX6 347 3 6 (.int) := ⟨RX3, TX3, 8, rfl, by decide, rfl, rfl, (Or.inr ⟨_, wn_f22⟩), inW3⟩
theorem fp_X6_304 : FP RX6 304 5 3 (.int) false := ⟨RX5, TX5, 5, tyX5, rfl, by decide, rfl, rfl, (Or.inr ⟨_, wn_f18⟩), inW5, tyX5_ok, nmX5, rfl, tyX5_ok 3 (by decide), rfl⟩
theorem fk_X6_348 : FK RX6 348 3 7 (.int) := ⟨RX3, TX3, 8, rfl, by decide, rfl, rfl, (Or.inr ⟨_, wn_f23⟩), inW3⟩
theorem fp_X6_307 : FP RX6 307 5 4 (.int) false := ⟨RX5, TX5, 5, tyX5, rfl, by decide, rfl, rfl, (Or.inr ⟨_, wn_f19⟩), inW5, tyX5_ok, nmX5, rfl, tyX5_ok 4 (by decide), rfl⟩
theorem wd_916 : (Jvm.Cond.code ({ cls := "BitDesk$Closure", name := "lossBy", desc := "([IIII)I" } : Jvm.MethodName) prog_2_method_8_code (8 : Nat) (Option.some Jvm.ClassFile.FieldType.int)) ∈ WS := ws_c4 102 rfl rfl
theorem wd_913 : (Jvm.Cond.methodLink "BitDesk" (349 : Nat) ({ cls := "BitDesk$Closure", name := "lossBy", desc := "([IIII)I" } : Jvm.MethodName)) ∈ WS := ws_c4 99 rfl rfl
theorem wd_914 : (Jvm.Cond.instanceMethod ({ cls := "BitDesk$Closure", name := "lossBy", desc := "([IIII)I" } : Jvm.MethodName)) ∈ WS := ws_c4 100 rfl rfl
theorem wd_915 : (Jvm.Cond.selects "BitDesk$Closure" ({ cls := "BitDesk$Closure", name := "lossBy", desc := "([IIII)I" } : Jvm.MethodName) ({ cls := "BitDesk$Closure", name := "lossBy", desc := "([IIII)I" } : Jvm.MethodName)) ∈ WS := ws_c4 101 rfl rfl
theorem lk_X6_349 : LkV RX6 349 jX0_lossBy 4 := ⟨⟨wd_913, ⟨rfl, (by rw [cwd_nil rfl]; exact wd_916)⟩, wd_99, ⟨by decide +kernel, by decide +kernel⟩, by decide +kernel⟩, wd_914, wd_915⟩
theorem wd_1146 : (Jvm.Cond.methodLink "BitDesk" (353 : Nat) ({ cls := "BitDesk", name := "reachedFrom", desc := "([III)I" } : Jvm.MethodName)) ∈ WS := ws_c5 92 rfl rfl
theorem lk_X6_353 : LkS RX6 353 jX6_reachedFrom 3 := ⟨⟨wd_1146, ⟨rfl, (by rw [cwd_nil rfl]; exact wd_919)⟩, wd_95, ⟨by decide +kernel, by decide +kernel⟩, by decide +kernel⟩, wd_918⟩
theorem wd_672 : (Jvm.Cond.constantLong "BitDesk" (356 : Nat) (4294967295 : Int64)) ∈ WS := ws_c3 98 rfl rfl
theorem wd_1211 : (Jvm.Cond.methodLink "BitDeskModel" (3 : Nat) ({ cls := "java/lang/Object", name := "<init>", desc := "()V" } : Jvm.MethodName)) ∈ WS := ws_c5 157 rfl rfl
theorem wd_1216 : (Jvm.Cond.fieldLink "BitDeskModel" (9 : Nat) "BitDeskModel" "now" "[J") ∈ WS := ws_c5 162 rfl rfl
theorem fp_X7_9 : FP RX7 9 7 0 (.array .long) true := ⟨RX7, TX7, 25, tyX7, rfl, by decide, rfl, rfl, (Or.inl wd_1216), inW7, tyX7_ok, nmX7, rfl, tyX7_ok 0 (by decide), rfl⟩
theorem wd_1217 : (Jvm.Cond.fieldLink "BitDeskModel" (13 : Nat) "BitDeskModel" "read" "[J") ∈ WS := ws_c5 163 rfl rfl
theorem fp_X7_13 : FP RX7 13 7 1 (.array .long) true := ⟨RX7, TX7, 25, tyX7, rfl, by decide, rfl, rfl, (Or.inl wd_1217), inW7, tyX7_ok, nmX7, rfl, tyX7_ok 1 (by decide), rfl⟩
theorem wd_1218 : (Jvm.Cond.fieldLink "BitDeskModel" (16 : Nat) "BitDeskModel" "past" "[J") ∈ WS := ws_c5 164 rfl rfl
theorem fp_X7_16 : FP RX7 16 7 2 (.array .long) true := ⟨RX7, TX7, 25, tyX7, rfl, by decide, rfl, rfl, (Or.inl wd_1218), inW7, tyX7_ok, nmX7, rfl, tyX7_ok 2 (by decide), rfl⟩
theorem wd_1219 : (Jvm.Cond.fieldLink "BitDeskModel" (19 : Nat) "BitDeskModel" "copies" "[J") ∈ WS := ws_c5 165 rfl rfl
theorem fp_X7_19 : FP RX7 19 7 3 (.array .long) true := ⟨RX7, TX7, 25, tyX7, rfl, by decide, rfl, rfl, (Or.inl wd_1219), inW7, tyX7_ok, nmX7, rfl, tyX7_ok 3 (by decide), rfl⟩
theorem wd_1220 : (Jvm.Cond.fieldLink "BitDeskModel" (22 : Nat) "BitDeskModel" "isSaved" "[Z") ∈ WS := ws_c5 166 rfl rfl
theorem fp_X7_22 : FP RX7 22 7 4 (.array .boolean) true := ⟨RX7, TX7, 25, tyX7, rfl, by decide, rfl, rfl, (Or.inl wd_1220), inW7, tyX7_ok, nmX7, rfl, tyX7_ok 4 (by decide), rfl⟩
theorem wd_1223 : (Jvm.Cond.fieldLink "BitDeskModel" (26 : Nat) "BitDeskModel" "buffer" "[B") ∈ WS := ws_c5 169 rfl rfl
theorem fp_X7_26 : FP RX7 26 7 7 (.array .byte) true := ⟨RX7, TX7, 25, tyX7, rfl, by decide, rfl, rfl, (Or.inl wd_1223), inW7, tyX7_ok, nmX7, rfl, tyX7_ok 7 (by decide), rfl⟩
theorem wd_1231 : (Jvm.Cond.fieldLink "BitDeskModel" (30 : Nat) "BitDeskModel" "lastStatement" "I") ∈ WS := ws_c5 177 rfl rfl
theorem fp_X7_30 : FP RX7 30 7 15 (.int) false := ⟨RX7, TX7, 25, tyX7, rfl, by decide, rfl, rfl, (Or.inl wd_1231), inW7, tyX7_ok, nmX7, rfl, tyX7_ok 15 (by decide), rfl⟩
theorem wd_1232 : (Jvm.Cond.fieldLink "BitDeskModel" (34 : Nat) "BitDeskModel" "hand" "[J") ∈ WS := ws_c5 178 rfl rfl
theorem fp_X7_34 : FP RX7 34 7 16 (.array .long) true := ⟨RX7, TX7, 25, tyX7, rfl, by decide, rfl, rfl, (Or.inl wd_1232), inW7, tyX7_ok, nmX7, rfl, tyX7_ok 16 (by decide), rfl⟩
theorem wd_1233 : (Jvm.Cond.fieldLink "BitDeskModel" (37 : Nat) "BitDeskModel" "other" "[J") ∈ WS := ws_c5 179 rfl rfl
theorem fp_X7_37 : FP RX7 37 7 17 (.array .long) true := ⟨RX7, TX7, 25, tyX7, rfl, by decide, rfl, rfl, (Or.inl wd_1233), inW7, tyX7_ok, nmX7, rfl, tyX7_ok 17 (by decide), rfl⟩
theorem wd_1234 : (Jvm.Cond.fieldLink "BitDeskModel" (40 : Nat) "BitDeskModel" "third" "[J") ∈ WS := ws_c5 180 rfl rfl
theorem fp_X7_40 : FP RX7 40 7 18 (.array .long) true := ⟨RX7, TX7, 25, tyX7, rfl, by decide, rfl, rfl, (Or.inl wd_1234), inW7, tyX7_ok, nmX7, rfl, tyX7_ok 18 (by decide), rfl⟩
theorem wd_1235 : (Jvm.Cond.fieldLink "BitDeskModel" (43 : Nat) "BitDeskModel" "far" "[I") ∈ WS := ws_c5 181 rfl rfl
theorem fp_X7_43 : FP RX7 43 7 19 (.array .int) true := ⟨RX7, TX7, 25, tyX7, rfl, by decide, rfl, rfl, (Or.inl wd_1235), inW7, tyX7_ok, nmX7, rfl, tyX7_ok 19 (by decide), rfl⟩
theorem wd_1236 : (Jvm.Cond.fieldLink "BitDeskModel" (47 : Nat) "BitDeskModel" "beside" "[J") ∈ WS := ws_c5 182 rfl rfl
theorem fp_X7_47 : FP RX7 47 7 20 (.array .long) true := ⟨RX7, TX7, 25, tyX7, rfl, by decide, rfl, rfl, (Or.inl wd_1236), inW7, tyX7_ok, nmX7, rfl, tyX7_ok 20 (by decide), rfl⟩
theorem wd_1237 : (Jvm.Cond.fieldLink "BitDeskModel" (50 : Nat) "BitDeskModel" "pivots" "[I") ∈ WS := ws_c5 183 rfl rfl
theorem fp_X7_50 : FP RX7 50 7 21 (.array .int) true := ⟨RX7, TX7, 25, tyX7, rfl, by decide, rfl, rfl, (Or.inl wd_1237), inW7, tyX7_ok, nmX7, rfl, tyX7_ok 21 (by decide), rfl⟩
theorem wd_1239 : (Jvm.Cond.fieldLink "BitDeskModel" (53 : Nat) "BitDeskModel" "output" "[B") ∈ WS := ws_c5 185 rfl rfl
theorem fp_X7_53 : FP RX7 53 7 23 (.array .byte) true := ⟨RX7, TX7, 25, tyX7, rfl, by decide, rfl, rfl, (Or.inl wd_1239), inW7, tyX7_ok, nmX7, rfl, tyX7_ok 23 (by decide), rfl⟩
theorem fk_X7_9 : FK RX7 9 7 0 (.array .long) := ⟨RX7, TX7, 25, rfl, by decide, rfl, rfl, (Or.inl wd_1216), inW7⟩
theorem wd_1214 : (Jvm.Cond.code ({ cls := "BitDeskModel", name := "begins", desc := "([JI)V" } : Jvm.MethodName) prog_9_method_5_code (3 : Nat) (Option.none : Option Jvm.ClassFile.FieldType)) ∈ WS := ws_c5 160 rfl rfl
theorem wd_1212 : (Jvm.Cond.methodLink "BitDeskModel" (56 : Nat) ({ cls := "BitDeskModel", name := "begins", desc := "([JI)V" } : Jvm.MethodName)) ∈ WS := ws_c5 158 rfl rfl
theorem wd_1213 : (Jvm.Cond.static ({ cls := "BitDeskModel", name := "begins", desc := "([JI)V" } : Jvm.MethodName)) ∈ WS := ws_c5 159 rfl rfl
theorem lk_X7_56 : LkS RX7 56 jX7_begins 2 := ⟨⟨wd_1212, ⟨rfl, (by rw [cwd_nil rfl]; exact wd_1214)⟩, wd_102, ⟨by decide +kernel, by decide +kernel⟩, by decide +kernel⟩, wd_1213⟩
theorem wd_1222 : (Jvm.Cond.fieldLink "BitDeskModel" (60 : Nat) "BitDeskModel" "thrown" "I") ∈ WS := ws_c5 168 rfl rfl
theorem fk_X7_60 : FK RX7 60 7 6 (.int) := ⟨RX7, TX7, 25, rfl, by decide, rfl, rfl, (Or.inl wd_1222), inW7⟩
theorem wd_1215 : (Jvm.Cond.constantLong "BitDeskModel" (63 : Nat) (4 : Int64)) ∈ WS := ws_c5 161 rfl rfl
theorem fp_X7_60 : FP RX7 60 7 6 (.int) false := ⟨RX7, TX7, 25, tyX7, rfl, by decide, rfl, rfl, (Or.inl wd_1222), inW7, tyX7_ok, nmX7, rfl, tyX7_ok 6 (by decide), rfl⟩
theorem wd_1444 : (Jvm.Cond.constantLong "BitDeskModel" (65 : Nat) (5 : Int64)) ∈ WS := ws_c6 150 rfl rfl
theorem wd_1329 : (Jvm.Cond.code ({ cls := "BitDeskModel", name := "in", desc := "(JJJ)Z" } : Jvm.MethodName) prog_9_method_3_code (6 : Nat) (Option.some Jvm.ClassFile.FieldType.boolean)) ∈ WS := ws_c6 35 rfl rfl
theorem wd_1327 : (Jvm.Cond.methodLink "BitDeskModel" (67 : Nat) ({ cls := "BitDeskModel", name := "in", desc := "(JJJ)Z" } : Jvm.MethodName)) ∈ WS := ws_c6 33 rfl rfl
theorem wd_1328 : (Jvm.Cond.static ({ cls := "BitDeskModel", name := "in", desc := "(JJJ)Z" } : Jvm.MethodName)) ∈ WS := ws_c6 34 rfl rfl
theorem lk_X7_67 : LkS RX7 67 jX7_in 3 := ⟨⟨wd_1327, ⟨rfl, (by rw [cwd_nil rfl]; exact wd_1329)⟩, wd_102, ⟨by decide +kernel, by decide +kernel⟩, by decide +kernel⟩, wd_1328⟩
theorem wd_1407 : (Jvm.Cond.code ({ cls := "BitDeskModel", name := "size", desc := "()I" } : Jvm.MethodName) prog_9_method_7_code (1 : Nat) (Option.some Jvm.ClassFile.FieldType.int)) ∈ WS := ws_c6 113 rfl rfl
theorem wd_1404 : (Jvm.Cond.methodLink "BitDeskModel" (71 : Nat) ({ cls := "BitDeskModel", name := "size", desc := "()I" } : Jvm.MethodName)) ∈ WS := ws_c6 110 rfl rfl
theorem wd_1406 : (Jvm.Cond.instanceMethod ({ cls := "BitDeskModel", name := "size", desc := "()I" } : Jvm.MethodName)) ∈ WS := ws_c6 112 rfl rfl
theorem wd_62 : (Jvm.Cond.selects "BitDeskModel" (⟨"BitDeskModel", "size", "()I"⟩ : Jvm.MethodName) (⟨"BitDeskModel", "size", "()I"⟩ : Jvm.MethodName)) ∈ WS := ws_c0 62 rfl rfl
theorem lk_X7_71 : LkV RX7 71 jX7_size 0 := ⟨⟨wd_1404, ⟨rfl, (by rw [cwd_nil rfl]; exact wd_1407)⟩, wd_102, ⟨by decide +kernel, by decide +kernel⟩, by decide +kernel⟩, wd_1406, wd_62⟩
theorem wd_1304 : (Jvm.Cond.constantLong "BitDeskModel" (75 : Nat) (255 : Int64)) ∈ WS := ws_c6 10 rfl rfl
theorem wd_1303 : (Jvm.Cond.code ({ cls := "BitDeskModel", name := "byteOf", desc := "(JI)I" } : Jvm.MethodName) prog_9_method_15_code (3 : Nat) (Option.some Jvm.ClassFile.FieldType.int)) ∈ WS := ws_c6 9 rfl rfl
theorem wd_1301 : (Jvm.Cond.methodLink "BitDeskModel" (77 : Nat) ({ cls := "BitDeskModel", name := "byteOf", desc := "(JI)I" } : Jvm.MethodName)) ∈ WS := ws_c6 7 rfl rfl
theorem wd_1302 : (Jvm.Cond.static ({ cls := "BitDeskModel", name := "byteOf", desc := "(JI)I" } : Jvm.MethodName)) ∈ WS := ws_c6 8 rfl rfl
theorem lk_X7_77 : LkS RX7 77 jX7_byteOf 2 := ⟨⟨wd_1301, ⟨rfl, (by rw [cwd_nil rfl]; exact wd_1303)⟩, wd_102, ⟨by decide +kernel, by decide +kernel⟩, by decide +kernel⟩, wd_1302⟩
theorem wd_1224 : (Jvm.Cond.fieldLink "BitDeskModel" (81 : Nat) "BitDeskModel" "length" "I") ∈ WS := ws_c5 170 rfl rfl
theorem fk_X7_81 : FK RX7 81 7 8 (.int) := ⟨RX7, TX7, 25, rfl, by decide, rfl, rfl, (Or.inl wd_1224), inW7⟩
theorem fk_X7_26 : FK RX7 26 7 7 (.array .byte) := ⟨RX7, TX7, 25, rfl, by decide, rfl, rfl, (Or.inl wd_1223), inW7⟩
theorem fp_X7_81 : FP RX7 81 7 8 (.int) false := ⟨RX7, TX7, 25, tyX7, rfl, by decide, rfl, rfl, (Or.inl wd_1224), inW7, tyX7_ok, nmX7, rfl, tyX7_ok 8 (by decide), rfl⟩
theorem wd_1225 : (Jvm.Cond.fieldLink "BitDeskModel" (84 : Nat) "BitDeskModel" "at" "I") ∈ WS := ws_c5 171 rfl rfl
theorem fk_X7_84 : FK RX7 84 7 9 (.int) := ⟨RX7, TX7, 25, rfl, by decide, rfl, rfl, (Or.inl wd_1225), inW7⟩
theorem wd_1324 : (Jvm.Cond.code ({ cls := "BitDeskModel", name := "here", desc := "()I" } : Jvm.MethodName) prog_9_method_17_code (1 : Nat) (Option.some Jvm.ClassFile.FieldType.int)) ∈ WS := ws_c6 30 rfl rfl
theorem wd_1321 : (Jvm.Cond.methodLink "BitDeskModel" (87 : Nat) ({ cls := "BitDeskModel", name := "here", desc := "()I" } : Jvm.MethodName)) ∈ WS := ws_c6 27 rfl rfl
theorem wd_1323 : (Jvm.Cond.instanceMethod ({ cls := "BitDeskModel", name := "here", desc := "()I" } : Jvm.MethodName)) ∈ WS := ws_c6 29 rfl rfl
theorem wd_48 : (Jvm.Cond.selects "BitDeskModel" (⟨"BitDeskModel", "here", "()I"⟩ : Jvm.MethodName) (⟨"BitDeskModel", "here", "()I"⟩ : Jvm.MethodName)) ∈ WS := ws_c0 48 rfl rfl
theorem lk_X7_87 : LkV RX7 87 jX7_here 0 := ⟨⟨wd_1321, ⟨rfl, (by rw [cwd_nil rfl]; exact wd_1324)⟩, wd_102, ⟨by decide +kernel, by decide +kernel⟩, by decide +kernel⟩, wd_1323, wd_48⟩
theorem fp_X7_84 : FP RX7 84 7 9 (.int) false := ⟨RX7, TX7, 25, tyX7, rfl, by decide, rfl, rfl, (Or.inl wd_1225), inW7, tyX7_ok, nmX7, rfl, tyX7_ok 9 (by decide), rfl⟩
theorem wd_1226 : (Jvm.Cond.fieldLink "BitDeskModel" (90 : Nat) "BitDeskModel" "begin" "I") ∈ WS := ws_c5 172 rfl rfl
theorem fp_X7_90 : FP RX7 90 7 10 (.int) false := ⟨RX7, TX7, 25, tyX7, rfl, by decide, rfl, rfl, (Or.inl wd_1226), inW7, tyX7_ok, nmX7, rfl, tyX7_ok 10 (by decide), rfl⟩
theorem wd_1227 : (Jvm.Cond.fieldLink "BitDeskModel" (93 : Nat) "BitDeskModel" "error" "I") ∈ WS := ws_c5 173 rfl rfl
theorem fk_X7_93 : FK RX7 93 7 11 (.int) := ⟨RX7, TX7, 25, rfl, by decide, rfl, rfl, (Or.inl wd_1227), inW7⟩
theorem fp_X7_93 : FP RX7 93 7 11 (.int) false := ⟨RX7, TX7, 25, tyX7, rfl, by decide, rfl, rfl, (Or.inl wd_1227), inW7, tyX7_ok, nmX7, rfl, tyX7_ok 11 (by decide), rfl⟩
theorem fk_X7_90 : FK RX7 90 7 10 (.int) := ⟨RX7, TX7, 25, rfl, by decide, rfl, rfl, (Or.inl wd_1226), inW7⟩
theorem wd_1228 : (Jvm.Cond.fieldLink "BitDeskModel" (96 : Nat) "BitDeskModel" "errorAt" "I") ∈ WS := ws_c5 174 rfl rfl
theorem fp_X7_96 : FP RX7 96 7 12 (.int) false := ⟨RX7, TX7, 25, tyX7, rfl, by decide, rfl, rfl, (Or.inl wd_1228), inW7, tyX7_ok, nmX7, rfl, tyX7_ok 12 (by decide), rfl⟩
theorem wd_1320 : (Jvm.Cond.code ({ cls := "BitDeskModel", name := "next", desc := "()I" } : Jvm.MethodName) prog_9_method_18_code (1 : Nat) (Option.some Jvm.ClassFile.FieldType.int)) ∈ WS := ws_c6 26 rfl rfl
theorem wd_1317 : (Jvm.Cond.methodLink "BitDeskModel" (99 : Nat) ({ cls := "BitDeskModel", name := "next", desc := "()I" } : Jvm.MethodName)) ∈ WS := ws_c6 23 rfl rfl
theorem wd_1319 : (Jvm.Cond.instanceMethod ({ cls := "BitDeskModel", name := "next", desc := "()I" } : Jvm.MethodName)) ∈ WS := ws_c6 25 rfl rfl
theorem wd_47 : (Jvm.Cond.selects "BitDeskModel" (⟨"BitDeskModel", "next", "()I"⟩ : Jvm.MethodName) (⟨"BitDeskModel", "next", "()I"⟩ : Jvm.MethodName)) ∈ WS := ws_c0 47 rfl rfl
theorem lk_X7_99 : LkV RX7 99 jX7_next 0 := ⟨⟨wd_1317, ⟨rfl, (by rw [cwd_nil rfl]; exact wd_1320)⟩, wd_102, ⟨by decide +kernel, by decide +kernel⟩, by decide +kernel⟩, wd_1319, wd_47⟩
theorem wd_1325 : (Jvm.Cond.constantLong "BitDeskModel" (102 : Nat) (97 : Int64)) ∈ WS := ws_c6 31 rfl rfl
theorem wd_1326 : (Jvm.Cond.constantLong "BitDeskModel" (104 : Nat) (122 : Int64)) ∈ WS := ws_c6 32 rfl rfl
theorem wd_1335 : (Jvm.Cond.methodLink "BitDeskModel" (106 : Nat) ({ cls := "java/lang/String", name := "length", desc := "()I" } : Jvm.MethodName)) ∈ WS := ws_c6 41 rfl rfl
theorem lk_X7_106 : LkV RX7 106 jJ0_length_8abf5 0 := ⟨⟨wd_1335, ⟨rfl, (by rw [cwd_nil rfl]; exact wd_372)⟩, wd_103, ⟨by decide +kernel, by decide +kernel⟩, by decide +kernel⟩, wd_370, wd_371⟩
theorem wd_1336 : (Jvm.Cond.methodLink "BitDeskModel" (110 : Nat) ({ cls := "java/lang/String", name := "charAt", desc := "(I)C" } : Jvm.MethodName)) ∈ WS := ws_c6 42 rfl rfl
theorem lk_X7_110 : LkV RX7 110 jJ0_charAt_5068e 1 := ⟨⟨wd_1336, ⟨rfl, (by rw [cwd_nil rfl]; exact wd_382)⟩, wd_103, ⟨by decide +kernel, by decide +kernel⟩, by decide +kernel⟩, wd_380, wd_381⟩
theorem wd_1345 : (Jvm.Cond.constantLong "BitDeskModel" (114 : Nat) (48 : Int64)) ∈ WS := ws_c6 51 rfl rfl
theorem wd_1346 : (Jvm.Cond.constantLong "BitDeskModel" (116 : Nat) (57 : Int64)) ∈ WS := ws_c6 52 rfl rfl
theorem wd_1340 : (Jvm.Cond.code ({ cls := "BitDeskModel", name := "fails", desc := "(I)V" } : Jvm.MethodName) prog_9_method_19_code (2 : Nat) (Option.none : Option Jvm.ClassFile.FieldType)) ∈ WS := ws_c6 46 rfl rfl
theorem wd_1337 : (Jvm.Cond.methodLink "BitDeskModel" (118 : Nat) ({ cls := "BitDeskModel", name := "fails", desc := "(I)V" } : Jvm.MethodName)) ∈ WS := ws_c6 43 rfl rfl
theorem wd_1339 : (Jvm.Cond.instanceMethod ({ cls := "BitDeskModel", name := "fails", desc := "(I)V" } : Jvm.MethodName)) ∈ WS := ws_c6 45 rfl rfl
theorem wd_50 : (Jvm.Cond.selects "BitDeskModel" (⟨"BitDeskModel", "fails", "(I)V"⟩ : Jvm.MethodName) (⟨"BitDeskModel", "fails", "(I)V"⟩ : Jvm.MethodName)) ∈ WS := ws_c0 50 rfl rfl
theorem lk_X7_118 : LkV RX7 118 jX7_fails 1 := ⟨⟨wd_1337, ⟨rfl, (by rw [cwd_nil rfl]; exact wd_1340)⟩, wd_102, ⟨by decide +kernel, by decide +kernel⟩, by decide +kernel⟩, wd_1339, wd_50⟩
theorem wd_1347 : (Jvm.Cond.constant "BitDeskModel" (122 : Nat) (10000000 : Int32)) ∈ WS := ws_c6 53 rfl rfl
theorem wd_1348 : (Jvm.Cond.methodLink "BitDeskModel" (123 : Nat) ({ cls := "java/lang/Math", name := "min", desc := "(II)I" } : Jvm.MethodName)) ∈ WS := ws_c6 54 rfl rfl
theorem lk_X7_123 : LkS RX7 123 jJ9_min_7cf53 2 := ⟨⟨wd_1348, ⟨rfl, (by rw [cwd_nil rfl]; exact wd_431)⟩, wd_107, ⟨by decide +kernel, by decide +kernel⟩, by decide +kernel⟩, wd_430⟩
theorem wd_1344 : (Jvm.Cond.code ({ cls := "BitDeskModel", name := "number", desc := "(II)I" } : Jvm.MethodName) prog_9_method_22_code (4 : Nat) (Option.some Jvm.ClassFile.FieldType.int)) ∈ WS := ws_c6 50 rfl rfl
theorem wd_1341 : (Jvm.Cond.methodLink "BitDeskModel" (129 : Nat) ({ cls := "BitDeskModel", name := "number", desc := "(II)I" } : Jvm.MethodName)) ∈ WS := ws_c6 47 rfl rfl
theorem wd_1343 : (Jvm.Cond.instanceMethod ({ cls := "BitDeskModel", name := "number", desc := "(II)I" } : Jvm.MethodName)) ∈ WS := ws_c6 49 rfl rfl
theorem wd_51 : (Jvm.Cond.selects "BitDeskModel" (⟨"BitDeskModel", "number", "(II)I"⟩ : Jvm.MethodName) (⟨"BitDeskModel", "number", "(II)I"⟩ : Jvm.MethodName)) ∈ WS := ws_c0 51 rfl rfl
theorem lk_X7_129 : LkV RX7 129 jX7_number 2 := ⟨⟨wd_1341, ⟨rfl, (by rw [cwd_nil rfl]; exact wd_1344)⟩, wd_102, ⟨by decide +kernel, by decide +kernel⟩, by decide +kernel⟩, wd_1343, wd_51⟩
theorem fk_X7_13 : FK RX7 13 7 1 (.array .long) := ⟨RX7, TX7, 25, rfl, by decide, rfl, rfl, (Or.inl wd_1217), inW7⟩
theorem wd_1316 : (Jvm.Cond.code ({ cls := "BitDeskModel", name := "reads", desc := "()V" } : Jvm.MethodName) prog_9_method_20_code (1 : Nat) (Option.none : Option Jvm.ClassFile.FieldType)) ∈ WS := ws_c6 22 rfl rfl
theorem wd_1313 : (Jvm.Cond.methodLink "BitDeskModel" (132 : Nat) ({ cls := "BitDeskModel", name := "reads", desc := "()V" } : Jvm.MethodName)) ∈ WS := ws_c6 19 rfl rfl
theorem wd_1315 : (Jvm.Cond.instanceMethod ({ cls := "BitDeskModel", name := "reads", desc := "()V" } : Jvm.MethodName)) ∈ WS := ws_c6 21 rfl rfl
theorem wd_46 : (Jvm.Cond.selects "BitDeskModel" (⟨"BitDeskModel", "reads", "()V"⟩ : Jvm.MethodName) (⟨"BitDeskModel", "reads", "()V"⟩ : Jvm.MethodName)) ∈ WS := ws_c0 46 rfl rfl
theorem lk_X7_132 : LkV RX7 132 jX7_reads 0 := ⟨⟨wd_1313, ⟨rfl, (by rw [cwd_nil rfl]; exact wd_1316)⟩, wd_102, ⟨by decide +kernel, by decide +kernel⟩, by decide +kernel⟩, wd_1315, wd_46⟩
theorem wd_1334 : (Jvm.Cond.code ({ cls := "BitDeskModel", name := "isWord", desc := "(Ljava/lang/String;)Z" } : Jvm.MethodName) prog_9_method_21_code (4 : Nat) (Option.some Jvm.ClassFile.FieldType.boolean)) ∈ WS := ws_c6 40 rfl rfl
theorem wd_1331 : (Jvm.Cond.methodLink "BitDeskModel" (136 : Nat) ({ cls := "BitDeskModel", name := "isWord", desc := "(Ljava/lang/String;)Z" } : Jvm.MethodName)) ∈ WS := ws_c6 37 rfl rfl
theorem wd_1333 : (Jvm.Cond.instanceMethod ({ cls := "BitDeskModel", name := "isWord", desc := "(Ljava/lang/String;)Z" } : Jvm.MethodName)) ∈ WS := ws_c6 39 rfl rfl
theorem wd_49 : (Jvm.Cond.selects "BitDeskModel" (⟨"BitDeskModel", "isWord", "(Ljava/lang/String;)Z"⟩ : Jvm.MethodName) (⟨"BitDeskModel", "isWord", "(Ljava/lang/String;)Z"⟩ : Jvm.MethodName)) ∈ WS := ws_c0 49 rfl rfl
theorem lk_X7_136 : LkV RX7 136 jX7_isWord 1 := ⟨⟨wd_1331, ⟨rfl, (by rw [cwd_nil rfl]; exact wd_1334)⟩, wd_102, ⟨by decide +kernel, by decide +kernel⟩, by decide +kernel⟩, wd_1333, wd_49⟩
theorem wd_1365 : (Jvm.Cond.code ({ cls := "BitDeskModel", name := "readSlot", desc := "()I" } : Jvm.MethodName) prog_9_method_23_code (1 : Nat) (Option.some Jvm.ClassFile.FieldType.int)) ∈ WS := ws_c6 71 rfl rfl
theorem wd_1362 : (Jvm.Cond.methodLink "BitDeskModel" (140 : Nat) ({ cls := "BitDeskModel", name := "readSlot", desc := "()I" } : Jvm.MethodName)) ∈ WS := ws_c6 68 rfl rfl
theorem wd_1364 : (Jvm.Cond.instanceMethod ({ cls := "BitDeskModel", name := "readSlot", desc := "()I" } : Jvm.MethodName)) ∈ WS := ws_c6 70 rfl rfl
theorem wd_55 : (Jvm.Cond.selects "BitDeskModel" (⟨"BitDeskModel", "readSlot", "()I"⟩ : Jvm.MethodName) (⟨"BitDeskModel", "readSlot", "()I"⟩ : Jvm.MethodName)) ∈ WS := ws_c0 55 rfl rfl
theorem lk_X7_140 : LkV RX7 140 jX7_readSlot 0 := ⟨⟨wd_1362, ⟨rfl, (by rw [cwd_nil rfl]; exact wd_1365)⟩, wd_102, ⟨by decide +kernel, by decide +kernel⟩, by decide +kernel⟩, wd_1364, wd_55⟩
theorem wd_1369 : (Jvm.Cond.code ({ cls := "BitDeskModel", name := "readNode", desc := "()I" } : Jvm.MethodName) prog_9_method_24_code (1 : Nat) (Option.some Jvm.ClassFile.FieldType.int)) ∈ WS := ws_c6 75 rfl rfl
theorem wd_1366 : (Jvm.Cond.methodLink "BitDeskModel" (143 : Nat) ({ cls := "BitDeskModel", name := "readNode", desc := "()I" } : Jvm.MethodName)) ∈ WS := ws_c6 72 rfl rfl
theorem wd_1368 : (Jvm.Cond.instanceMethod ({ cls := "BitDeskModel", name := "readNode", desc := "()I" } : Jvm.MethodName)) ∈ WS := ws_c6 74 rfl rfl
theorem wd_56 : (Jvm.Cond.selects "BitDeskModel" (⟨"BitDeskModel", "readNode", "()I"⟩ : Jvm.MethodName) (⟨"BitDeskModel", "readNode", "()I"⟩ : Jvm.MethodName)) ∈ WS := ws_c0 56 rfl rfl
theorem lk_X7_143 : LkV RX7 143 jX7_readNode 0 := ⟨⟨wd_1366, ⟨rfl, (by rw [cwd_nil rfl]; exact wd_1369)⟩, wd_102, ⟨by decide +kernel, by decide +kernel⟩, by decide +kernel⟩, wd_1368, wd_56⟩
theorem wd_1383 : (Jvm.Cond.code ({ cls := "BitDeskModel", name := "kindHere", desc := "()I" } : Jvm.MethodName) prog_9_method_29_code (1 : Nat) (Option.some Jvm.ClassFile.FieldType.int)) ∈ WS := ws_c6 89 rfl rfl
theorem wd_1380 : (Jvm.Cond.methodLink "BitDeskModel" (154 : Nat) ({ cls := "BitDeskModel", name := "kindHere", desc := "()I" } : Jvm.MethodName)) ∈ WS := ws_c6 86 rfl rfl
theorem wd_1382 : (Jvm.Cond.instanceMethod ({ cls := "BitDeskModel", name := "kindHere", desc := "()I" } : Jvm.MethodName)) ∈ WS := ws_c6 88 rfl rfl
theorem wd_59 : (Jvm.Cond.selects "BitDeskModel" (⟨"BitDeskModel", "kindHere", "()I"⟩ : Jvm.MethodName) (⟨"BitDeskModel", "kindHere", "()I"⟩ : Jvm.MethodName)) ∈ WS := ws_c0 59 rfl rfl
theorem lk_X7_154 : LkV RX7 154 jX7_kindHere 0 := ⟨⟨wd_1380, ⟨rfl, (by rw [cwd_nil rfl]; exact wd_1383)⟩, wd_102, ⟨by decide +kernel, by decide +kernel⟩, by decide +kernel⟩, wd_1382, wd_59⟩
theorem wd_1390 : (Jvm.Cond.code ({ cls := "BitDeskModel", name := "filled", desc := "(III)J" } : Jvm.MethodName) prog_9_method_28_code (5 : Nat) (Option.some Jvm.ClassFile.FieldType.long)) ∈ WS := ws_c6 96 rfl rfl
theorem wd_1388 : (Jvm.Cond.methodLink "BitDeskModel" (157 : Nat) ({ cls := "BitDeskModel", name := "filled", desc := "(III)J" } : Jvm.MethodName)) ∈ WS := ws_c6 94 rfl rfl
theorem wd_1389 : (Jvm.Cond.static ({ cls := "BitDeskModel", name := "filled", desc := "(III)J" } : Jvm.MethodName)) ∈ WS := ws_c6 95 rfl rfl
theorem lk_X7_157 : LkS RX7 157 jX7_filled 3 := ⟨⟨wd_1388, ⟨rfl, (by rw [cwd_nil rfl]; exact wd_1390)⟩, wd_102, ⟨by decide +kernel, by decide +kernel⟩, by decide +kernel⟩, wd_1389⟩
theorem wd_1361 : (Jvm.Cond.code ({ cls := "BitDeskModel", name := "edgePart", desc := "()V" } : Jvm.MethodName) prog_9_method_26_code (4 : Nat) (Option.none : Option Jvm.ClassFile.FieldType)) ∈ WS := ws_c6 67 rfl rfl
theorem wd_1358 : (Jvm.Cond.methodLink "BitDeskModel" (163 : Nat) ({ cls := "BitDeskModel", name := "edgePart", desc := "()V" } : Jvm.MethodName)) ∈ WS := ws_c6 64 rfl rfl
theorem wd_1360 : (Jvm.Cond.instanceMethod ({ cls := "BitDeskModel", name := "edgePart", desc := "()V" } : Jvm.MethodName)) ∈ WS := ws_c6 66 rfl rfl
theorem wd_54 : (Jvm.Cond.selects "BitDeskModel" (⟨"BitDeskModel", "edgePart", "()V"⟩ : Jvm.MethodName) (⟨"BitDeskModel", "edgePart", "()V"⟩ : Jvm.MethodName)) ∈ WS := ws_c0 54 rfl rfl
theorem lk_X7_163 : LkV RX7 163 jX7_edgePart 0 := ⟨⟨wd_1358, ⟨rfl, (by rw [cwd_nil rfl]; exact wd_1361)⟩, wd_102, ⟨by decide +kernel, by decide +kernel⟩, by decide +kernel⟩, wd_1360, wd_54⟩
theorem wd_1374 : (Jvm.Cond.code ({ cls := "BitDeskModel", name := "rowPart", desc := "()V" } : Jvm.MethodName) prog_9_method_27_code (7 : Nat) (Option.none : Option Jvm.ClassFile.FieldType)) ∈ WS := ws_c6 80 rfl rfl
theorem wd_1371 : (Jvm.Cond.methodLink "BitDeskModel" (168 : Nat) ({ cls := "BitDeskModel", name := "rowPart", desc := "()V" } : Jvm.MethodName)) ∈ WS := ws_c6 77 rfl rfl
theorem wd_1373 : (Jvm.Cond.instanceMethod ({ cls := "BitDeskModel", name := "rowPart", desc := "()V" } : Jvm.MethodName)) ∈ WS := ws_c6 79 rfl rfl
theorem wd_57 : (Jvm.Cond.selects "BitDeskModel" (⟨"BitDeskModel", "rowPart", "()V"⟩ : Jvm.MethodName) (⟨"BitDeskModel", "rowPart", "()V"⟩ : Jvm.MethodName)) ∈ WS := ws_c0 57 rfl rfl
theorem lk_X7_168 : LkV RX7 168 jX7_rowPart 0 := ⟨⟨wd_1371, ⟨rfl, (by rw [cwd_nil rfl]; exact wd_1374)⟩, wd_102, ⟨by decide +kernel, by decide +kernel⟩, by decide +kernel⟩, wd_1373, wd_57⟩
theorem wd_1379 : (Jvm.Cond.code ({ cls := "BitDeskModel", name := "fillPart", desc := "()V" } : Jvm.MethodName) prog_9_method_30_code (5 : Nat) (Option.none : Option Jvm.ClassFile.FieldType)) ∈ WS := ws_c6 85 rfl rfl
theorem wd_1376 : (Jvm.Cond.methodLink "BitDeskModel" (173 : Nat) ({ cls := "BitDeskModel", name := "fillPart", desc := "()V" } : Jvm.MethodName)) ∈ WS := ws_c6 82 rfl rfl
theorem wd_1378 : (Jvm.Cond.instanceMethod ({ cls := "BitDeskModel", name := "fillPart", desc := "()V" } : Jvm.MethodName)) ∈ WS := ws_c6 84 rfl rfl
theorem wd_58 : (Jvm.Cond.selects "BitDeskModel" (⟨"BitDeskModel", "fillPart", "()V"⟩ : Jvm.MethodName) (⟨"BitDeskModel", "fillPart", "()V"⟩ : Jvm.MethodName)) ∈ WS := ws_c0 58 rfl rfl
theorem lk_X7_173 : LkV RX7 173 jX7_fillPart 0 := ⟨⟨wd_1376, ⟨rfl, (by rw [cwd_nil rfl]; exact wd_1379)⟩, wd_102, ⟨by decide +kernel, by decide +kernel⟩, by decide +kernel⟩, wd_1378, wd_58⟩
theorem wd_1395 : (Jvm.Cond.code ({ cls := "BitDeskModel", name := "keepPart", desc := "()V" } : Jvm.MethodName) prog_9_method_31_code (2 : Nat) (Option.none : Option Jvm.ClassFile.FieldType)) ∈ WS := ws_c6 101 rfl rfl
theorem wd_1392 : (Jvm.Cond.methodLink "BitDeskModel" (178 : Nat) ({ cls := "BitDeskModel", name := "keepPart", desc := "()V" } : Jvm.MethodName)) ∈ WS := ws_c6 98 rfl rfl
theorem wd_1394 : (Jvm.Cond.instanceMethod ({ cls := "BitDeskModel", name := "keepPart", desc := "()V" } : Jvm.MethodName)) ∈ WS := ws_c6 100 rfl rfl
theorem wd_60 : (Jvm.Cond.selects "BitDeskModel" (⟨"BitDeskModel", "keepPart", "()V"⟩ : Jvm.MethodName) (⟨"BitDeskModel", "keepPart", "()V"⟩ : Jvm.MethodName)) ∈ WS := ws_c0 60 rfl rfl
theorem lk_X7_178 : LkV RX7 178 jX7_keepPart 0 := ⟨⟨wd_1392, ⟨rfl, (by rw [cwd_nil rfl]; exact wd_1395)⟩, wd_102, ⟨by decide +kernel, by decide +kernel⟩, by decide +kernel⟩, wd_1394, wd_60⟩
theorem wd_1229 : (Jvm.Cond.fieldLink "BitDeskModel" (183 : Nat) "BitDeskModel" "statement" "I") ∈ WS := ws_c5 175 rfl rfl
theorem fk_X7_183 : FK RX7 183 7 13 (.int) := ⟨RX7, TX7, 25, rfl, by decide, rfl, rfl, (Or.inl wd_1229), inW7⟩
theorem fp_X7_183 : FP RX7 183 7 13 (.int) false := ⟨RX7, TX7, 25, tyX7, rfl, by decide, rfl, rfl, (Or.inl wd_1229), inW7, tyX7_ok, nmX7, rfl, tyX7_ok 13 (by decide), rfl⟩
theorem wd_1312 : (Jvm.Cond.code ({ cls := "BitDeskModel", name := "sizePart", desc := "()V" } : Jvm.MethodName) prog_9_method_25_code (1 : Nat) (Option.none : Option Jvm.ClassFile.FieldType)) ∈ WS := ws_c6 18 rfl rfl
theorem wd_1309 : (Jvm.Cond.methodLink "BitDeskModel" (186 : Nat) ({ cls := "BitDeskModel", name := "sizePart", desc := "()V" } : Jvm.MethodName)) ∈ WS := ws_c6 15 rfl rfl
theorem wd_1311 : (Jvm.Cond.instanceMethod ({ cls := "BitDeskModel", name := "sizePart", desc := "()V" } : Jvm.MethodName)) ∈ WS := ws_c6 17 rfl rfl
theorem wd_45 : (Jvm.Cond.selects "BitDeskModel" (⟨"BitDeskModel", "sizePart", "()V"⟩ : Jvm.MethodName) (⟨"BitDeskModel", "sizePart", "()V"⟩ : Jvm.MethodName)) ∈ WS := ws_c0 45 rfl rfl
theorem lk_X7_186 : LkV RX7 186 jX7_sizePart 0 := ⟨⟨wd_1309, ⟨rfl, (by rw [cwd_nil rfl]; exact wd_1312)⟩, wd_102, ⟨by decide +kernel, by decide +kernel⟩, by decide +kernel⟩, wd_1311, wd_45⟩
theorem wd_1352 : (Jvm.Cond.code ({ cls := "BitDeskModel", name := "isMore", desc := "()Z" } : Jvm.MethodName) prog_9_method_33_code (1 : Nat) (Option.some Jvm.ClassFile.FieldType.boolean)) ∈ WS := ws_c6 58 rfl rfl
theorem wd_1349 : (Jvm.Cond.methodLink "BitDeskModel" (189 : Nat) ({ cls := "BitDeskModel", name := "isMore", desc := "()Z" } : Jvm.MethodName)) ∈ WS := ws_c6 55 rfl rfl
theorem wd_1351 : (Jvm.Cond.instanceMethod ({ cls := "BitDeskModel", name := "isMore", desc := "()Z" } : Jvm.MethodName)) ∈ WS := ws_c6 57 rfl rfl
theorem wd_52 : (Jvm.Cond.selects "BitDeskModel" (⟨"BitDeskModel", "isMore", "()Z"⟩ : Jvm.MethodName) (⟨"BitDeskModel", "isMore", "()Z"⟩ : Jvm.MethodName)) ∈ WS := ws_c0 52 rfl rfl
theorem lk_X7_189 : LkV RX7 189 jX7_isMore 0 := ⟨⟨wd_1349, ⟨rfl, (by rw [cwd_nil rfl]; exact wd_1352)⟩, wd_102, ⟨by decide +kernel, by decide +kernel⟩, by decide +kernel⟩, wd_1351, wd_52⟩
theorem wd_1356 : (Jvm.Cond.code ({ cls := "BitDeskModel", name := "statement", desc := "()V" } : Jvm.MethodName) prog_9_method_32_code (1 : Nat) (Option.none : Option Jvm.ClassFile.FieldType)) ∈ WS := ws_c6 62 rfl rfl
theorem wd_1353 : (Jvm.Cond.methodLink "BitDeskModel" (193 : Nat) ({ cls := "BitDeskModel", name := "statement", desc := "()V" } : Jvm.MethodName)) ∈ WS := ws_c6 59 rfl rfl
theorem wd_1355 : (Jvm.Cond.instanceMethod ({ cls := "BitDeskModel", name := "statement", desc := "()V" } : Jvm.MethodName)) ∈ WS := ws_c6 61 rfl rfl
theorem wd_53 : (Jvm.Cond.selects "BitDeskModel" (⟨"BitDeskModel", "statement", "()V"⟩ : Jvm.MethodName) (⟨"BitDeskModel", "statement", "()V"⟩ : Jvm.MethodName)) ∈ WS := ws_c0 53 rfl rfl
theorem lk_X7_193 : LkV RX7 193 jX7_statement 0 := ⟨⟨wd_1353, ⟨rfl, (by rw [cwd_nil rfl]; exact wd_1356)⟩, wd_102, ⟨by decide +kernel, by decide +kernel⟩, by decide +kernel⟩, wd_1355, wd_53⟩
theorem wd_1230 : (Jvm.Cond.fieldLink "BitDeskModel" (195 : Nat) "BitDeskModel" "lastError" "I") ∈ WS := ws_c5 176 rfl rfl
theorem fp_X7_195 : FP RX7 195 7 14 (.int) false := ⟨RX7, TX7, 25, tyX7, rfl, by decide, rfl, rfl, (Or.inl wd_1230), inW7, tyX7_ok, nmX7, rfl, tyX7_ok 14 (by decide), rfl⟩
theorem fk_X7_96 : FK RX7 96 7 12 (.int) := ⟨RX7, TX7, 25, rfl, by decide, rfl, rfl, (Or.inl wd_1228), inW7⟩
theorem wd_1399 : (Jvm.Cond.code ({ cls := "BitDeskModel", name := "copies", desc := "([JI[JI)V" } : Jvm.MethodName) prog_9_method_4_code (5 : Nat) (Option.none : Option Jvm.ClassFile.FieldType)) ∈ WS := ws_c6 105 rfl rfl
theorem wd_1397 : (Jvm.Cond.methodLink "BitDeskModel" (198 : Nat) ({ cls := "BitDeskModel", name := "copies", desc := "([JI[JI)V" } : Jvm.MethodName)) ∈ WS := ws_c6 103 rfl rfl
theorem wd_1398 : (Jvm.Cond.static ({ cls := "BitDeskModel", name := "copies", desc := "([JI[JI)V" } : Jvm.MethodName)) ∈ WS := ws_c6 104 rfl rfl
theorem lk_X7_198 : LkS RX7 198 jX7_copies 4 := ⟨⟨wd_1397, ⟨rfl, (by rw [cwd_nil rfl]; exact wd_1399)⟩, wd_102, ⟨by decide +kernel, by decide +kernel⟩, by decide +kernel⟩, wd_1398⟩
theorem wd_1221 : (Jvm.Cond.fieldLink "BitDeskModel" (201 : Nat) "BitDeskModel" "pastMany" "I") ∈ WS := ws_c5 167 rfl rfl
theorem fp_X7_201 : FP RX7 201 7 5 (.int) false := ⟨RX7, TX7, 25, tyX7, rfl, by decide, rfl, rfl, (Or.inl wd_1221), inW7, tyX7_ok, nmX7, rfl, tyX7_ok 5 (by decide), rfl⟩
theorem wd_1403 : (Jvm.Cond.code ({ cls := "BitDeskModel", name := "madeAnew", desc := "(I)V" } : Jvm.MethodName) prog_9_method_93_code (2 : Nat) (Option.none : Option Jvm.ClassFile.FieldType)) ∈ WS := ws_c6 109 rfl rfl
theorem wd_1400 : (Jvm.Cond.methodLink "BitDeskModel" (204 : Nat) ({ cls := "BitDeskModel", name := "madeAnew", desc := "(I)V" } : Jvm.MethodName)) ∈ WS := ws_c6 106 rfl rfl
theorem wd_1402 : (Jvm.Cond.instanceMethod ({ cls := "BitDeskModel", name := "madeAnew", desc := "(I)V" } : Jvm.MethodName)) ∈ WS := ws_c6 108 rfl rfl
theorem wd_61 : (Jvm.Cond.selects "BitDeskModel" (⟨"BitDeskModel", "madeAnew", "(I)V"⟩ : Jvm.MethodName) (⟨"BitDeskModel", "madeAnew", "(I)V"⟩ : Jvm.MethodName)) ∈ WS := ws_c0 61 rfl rfl
theorem lk_X7_204 : LkV RX7 204 jX7_madeAnew 1 := ⟨⟨wd_1400, ⟨rfl, (by rw [cwd_nil rfl]; exact wd_1403)⟩, wd_102, ⟨by decide +kernel, by decide +kernel⟩, by decide +kernel⟩, wd_1402, wd_61⟩
theorem fk_X7_195 : FK RX7 195 7 14 (.int) := ⟨RX7, TX7, 25, rfl, by decide, rfl, rfl, (Or.inl wd_1230), inW7⟩
theorem fk_X7_30 : FK RX7 30 7 15 (.int) := ⟨RX7, TX7, 25, rfl, by decide, rfl, rfl, (Or.inl wd_1231), inW7⟩
theorem wd_1424 : (Jvm.Cond.constantLong "BitDeskModel" (207 : Nat) (3 : Int64)) ∈ WS := ws_c6 130 rfl rfl
theorem wd_1428 : (Jvm.Cond.code ({ cls := "BitDeskModel", name := "isThrown", desc := "(ZI)Z" } : Jvm.MethodName) prog_9_method_6_code (3 : Nat) (Option.some Jvm.ClassFile.FieldType.boolean)) ∈ WS := ws_c6 134 rfl rfl
theorem wd_1425 : (Jvm.Cond.methodLink "BitDeskModel" (209 : Nat) ({ cls := "BitDeskModel", name := "isThrown", desc := "(ZI)Z" } : Jvm.MethodName)) ∈ WS := ws_c6 131 rfl rfl
theorem wd_1427 : (Jvm.Cond.instanceMethod ({ cls := "BitDeskModel", name := "isThrown", desc := "(ZI)Z" } : Jvm.MethodName)) ∈ WS := ws_c6 133 rfl rfl
theorem wd_64 : (Jvm.Cond.selects "BitDeskModel" (⟨"BitDeskModel", "isThrown", "(ZI)Z"⟩ : Jvm.MethodName) (⟨"BitDeskModel", "isThrown", "(ZI)Z"⟩ : Jvm.MethodName)) ∈ WS := ws_c0 64 rfl rfl
theorem lk_X7_209 : LkV RX7 209 jX7_isThrown 2 := ⟨⟨wd_1425, ⟨rfl, (by rw [cwd_nil rfl]; exact wd_1428)⟩, wd_102, ⟨by decide +kernel, by decide +kernel⟩, by decide +kernel⟩, wd_1427, wd_64⟩
theorem wd_1432 : (Jvm.Cond.code ({ cls := "BitDeskModel", name := "keptMany", desc := "()I" } : Jvm.MethodName) prog_9_method_37_code (3 : Nat) (Option.some Jvm.ClassFile.FieldType.int)) ∈ WS := ws_c6 138 rfl rfl
theorem wd_1429 : (Jvm.Cond.methodLink "BitDeskModel" (213 : Nat) ({ cls := "BitDeskModel", name := "keptMany", desc := "()I" } : Jvm.MethodName)) ∈ WS := ws_c6 135 rfl rfl
theorem wd_1431 : (Jvm.Cond.instanceMethod ({ cls := "BitDeskModel", name := "keptMany", desc := "()I" } : Jvm.MethodName)) ∈ WS := ws_c6 137 rfl rfl
theorem wd_65 : (Jvm.Cond.selects "BitDeskModel" (⟨"BitDeskModel", "keptMany", "()I"⟩ : Jvm.MethodName) (⟨"BitDeskModel", "keptMany", "()I"⟩ : Jvm.MethodName)) ∈ WS := ws_c0 65 rfl rfl
theorem lk_X7_213 : LkV RX7 213 jX7_keptMany 0 := ⟨⟨wd_1429, ⟨rfl, (by rw [cwd_nil rfl]; exact wd_1432)⟩, wd_102, ⟨by decide +kernel, by decide +kernel⟩, by decide +kernel⟩, wd_1431, wd_65⟩
theorem fk_X7_201 : FK RX7 201 7 5 (.int) := ⟨RX7, TX7, 25, rfl, by decide, rfl, rfl, (Or.inl wd_1221), inW7⟩
theorem wd_1443 : (Jvm.Cond.code ({ cls := "BitDeskModel", name := "isSlot", desc := "(I)Z" } : Jvm.MethodName) prog_9_method_8_code (1 : Nat) (Option.some Jvm.ClassFile.FieldType.boolean)) ∈ WS := ws_c6 149 rfl rfl
theorem wd_1441 : (Jvm.Cond.methodLink "BitDeskModel" (216 : Nat) ({ cls := "BitDeskModel", name := "isSlot", desc := "(I)Z" } : Jvm.MethodName)) ∈ WS := ws_c6 147 rfl rfl
theorem wd_1442 : (Jvm.Cond.static ({ cls := "BitDeskModel", name := "isSlot", desc := "(I)Z" } : Jvm.MethodName)) ∈ WS := ws_c6 148 rfl rfl
theorem lk_X7_216 : LkS RX7 216 jX7_isSlot 1 := ⟨⟨wd_1441, ⟨rfl, (by rw [cwd_nil rfl]; exact wd_1443)⟩, wd_102, ⟨by decide +kernel, by decide +kernel⟩, by decide +kernel⟩, wd_1442⟩
theorem wd_1448 : (Jvm.Cond.code ({ cls := "BitDeskModel", name := "isNode", desc := "(I)Z" } : Jvm.MethodName) prog_9_method_9_code (2 : Nat) (Option.some Jvm.ClassFile.FieldType.boolean)) ∈ WS := ws_c6 154 rfl rfl
theorem wd_1445 : (Jvm.Cond.methodLink "BitDeskModel" (220 : Nat) ({ cls := "BitDeskModel", name := "isNode", desc := "(I)Z" } : Jvm.MethodName)) ∈ WS := ws_c6 151 rfl rfl
theorem wd_1447 : (Jvm.Cond.instanceMethod ({ cls := "BitDeskModel", name := "isNode", desc := "(I)Z" } : Jvm.MethodName)) ∈ WS := ws_c6 153 rfl rfl
theorem wd_67 : (Jvm.Cond.selects "BitDeskModel" (⟨"BitDeskModel", "isNode", "(I)Z"⟩ : Jvm.MethodName) (⟨"BitDeskModel", "isNode", "(I)Z"⟩ : Jvm.MethodName)) ∈ WS := ws_c0 67 rfl rfl
theorem lk_X7_220 : LkV RX7 220 jX7_isNode 1 := ⟨⟨wd_1445, ⟨rfl, (by rw [cwd_nil rfl]; exact wd_1448)⟩, wd_102, ⟨by decide +kernel, by decide +kernel⟩, by decide +kernel⟩, wd_1447, wd_67⟩
theorem wd_1440 : (Jvm.Cond.code ({ cls := "BitDeskModel", name := "areIn", desc := "(II)Z" } : Jvm.MethodName) prog_9_method_39_code (3 : Nat) (Option.some Jvm.ClassFile.FieldType.boolean)) ∈ WS := ws_c6 146 rfl rfl
theorem wd_1437 : (Jvm.Cond.methodLink "BitDeskModel" (223 : Nat) ({ cls := "BitDeskModel", name := "areIn", desc := "(II)Z" } : Jvm.MethodName)) ∈ WS := ws_c6 143 rfl rfl
theorem wd_1439 : (Jvm.Cond.instanceMethod ({ cls := "BitDeskModel", name := "areIn", desc := "(II)Z" } : Jvm.MethodName)) ∈ WS := ws_c6 145 rfl rfl
theorem wd_66 : (Jvm.Cond.selects "BitDeskModel" (⟨"BitDeskModel", "areIn", "(II)Z"⟩ : Jvm.MethodName) (⟨"BitDeskModel", "areIn", "(II)Z"⟩ : Jvm.MethodName)) ∈ WS := ws_c0 66 rfl rfl
theorem lk_X7_223 : LkV RX7 223 jX7_areIn 2 := ⟨⟨wd_1437, ⟨rfl, (by rw [cwd_nil rfl]; exact wd_1440)⟩, wd_102, ⟨by decide +kernel, by decide +kernel⟩, by decide +kernel⟩, wd_1439, wd_66⟩
theorem wd_1452 : (Jvm.Cond.code ({ cls := "BitDeskModel", name := "rowOf", desc := "(II)J" } : Jvm.MethodName) prog_9_method_10_code (3 : Nat) (Option.some Jvm.ClassFile.FieldType.long)) ∈ WS := ws_c6 158 rfl rfl
theorem wd_1449 : (Jvm.Cond.methodLink "BitDeskModel" (227 : Nat) ({ cls := "BitDeskModel", name := "rowOf", desc := "(II)J" } : Jvm.MethodName)) ∈ WS := ws_c6 155 rfl rfl
theorem wd_1451 : (Jvm.Cond.instanceMethod ({ cls := "BitDeskModel", name := "rowOf", desc := "(II)J" } : Jvm.MethodName)) ∈ WS := ws_c6 157 rfl rfl
theorem wd_68 : (Jvm.Cond.selects "BitDeskModel" (⟨"BitDeskModel", "rowOf", "(II)J"⟩ : Jvm.MethodName) (⟨"BitDeskModel", "rowOf", "(II)J"⟩ : Jvm.MethodName)) ∈ WS := ws_c0 68 rfl rfl
theorem lk_X7_227 : LkV RX7 227 jX7_rowOf 2 := ⟨⟨wd_1449, ⟨rfl, (by rw [cwd_nil rfl]; exact wd_1452)⟩, wd_102, ⟨by decide +kernel, by decide +kernel⟩, by decide +kernel⟩, wd_1451, wd_68⟩
theorem wd_1455 : (Jvm.Cond.code ({ cls := "BitDeskModel", name := "one", desc := "(JI)I" } : Jvm.MethodName) prog_9_method_12_code (3 : Nat) (Option.some Jvm.ClassFile.FieldType.int)) ∈ WS := ws_c6 161 rfl rfl
theorem wd_1453 : (Jvm.Cond.methodLink "BitDeskModel" (231 : Nat) ({ cls := "BitDeskModel", name := "one", desc := "(JI)I" } : Jvm.MethodName)) ∈ WS := ws_c6 159 rfl rfl
theorem wd_1454 : (Jvm.Cond.static ({ cls := "BitDeskModel", name := "one", desc := "(JI)I" } : Jvm.MethodName)) ∈ WS := ws_c6 160 rfl rfl
theorem lk_X7_231 : LkS RX7 231 jX7_one 2 := ⟨⟨wd_1453, ⟨rfl, (by rw [cwd_nil rfl]; exact wd_1455)⟩, wd_102, ⟨by decide +kernel, by decide +kernel⟩, by decide +kernel⟩, wd_1454⟩
theorem wd_1466 : (Jvm.Cond.code ({ cls := "BitDeskModel", name := "bitsOf", desc := "(J)I" } : Jvm.MethodName) prog_9_method_13_code (5 : Nat) (Option.some Jvm.ClassFile.FieldType.int)) ∈ WS := ws_c6 172 rfl rfl
theorem wd_1464 : (Jvm.Cond.methodLink "BitDeskModel" (234 : Nat) ({ cls := "BitDeskModel", name := "bitsOf", desc := "(J)I" } : Jvm.MethodName)) ∈ WS := ws_c6 170 rfl rfl
theorem wd_1465 : (Jvm.Cond.static ({ cls := "BitDeskModel", name := "bitsOf", desc := "(J)I" } : Jvm.MethodName)) ∈ WS := ws_c6 171 rfl rfl
theorem lk_X7_234 : LkS RX7 234 jX7_bitsOf 1 := ⟨⟨wd_1464, ⟨rfl, (by rw [cwd_nil rfl]; exact wd_1466)⟩, wd_102, ⟨by decide +kernel, by decide +kernel⟩, by decide +kernel⟩, wd_1465⟩
theorem wd_1478 : (Jvm.Cond.code ({ cls := "BitDeskModel", name := "onesOf", desc := "(I)I" } : Jvm.MethodName) prog_9_method_44_code (4 : Nat) (Option.some Jvm.ClassFile.FieldType.int)) ∈ WS := ws_c6 184 rfl rfl
theorem wd_1475 : (Jvm.Cond.methodLink "BitDeskModel" (238 : Nat) ({ cls := "BitDeskModel", name := "onesOf", desc := "(I)I" } : Jvm.MethodName)) ∈ WS := ws_c6 181 rfl rfl
theorem wd_1477 : (Jvm.Cond.instanceMethod ({ cls := "BitDeskModel", name := "onesOf", desc := "(I)I" } : Jvm.MethodName)) ∈ WS := ws_c6 183 rfl rfl
theorem wd_69 : (Jvm.Cond.selects "BitDeskModel" (⟨"BitDeskModel", "onesOf", "(I)I"⟩ : Jvm.MethodName) (⟨"BitDeskModel", "onesOf", "(I)I"⟩ : Jvm.MethodName)) ∈ WS := ws_c0 69 rfl rfl
theorem lk_X7_238 : LkV RX7 238 jX7_onesOf 1 := ⟨⟨wd_1475, ⟨rfl, (by rw [cwd_nil rfl]; exact wd_1478)⟩, wd_102, ⟨by decide +kernel, by decide +kernel⟩, by decide +kernel⟩, wd_1477, wd_69⟩
theorem wd_1490 : (Jvm.Cond.code ({ cls := "BitDeskModel", name := "firstAs", desc := "(II)I" } : Jvm.MethodName) prog_9_method_47_code (4 : Nat) (Option.some Jvm.ClassFile.FieldType.int)) ∈ WS := ws_c6 196 rfl rfl
theorem wd_1487 : (Jvm.Cond.methodLink "BitDeskModel" (242 : Nat) ({ cls := "BitDeskModel", name := "firstAs", desc := "(II)I" } : Jvm.MethodName)) ∈ WS := ws_c6 193 rfl rfl
theorem wd_1489 : (Jvm.Cond.instanceMethod ({ cls := "BitDeskModel", name := "firstAs", desc := "(II)I" } : Jvm.MethodName)) ∈ WS := ws_c6 195 rfl rfl
theorem wd_70 : (Jvm.Cond.selects "BitDeskModel" (⟨"BitDeskModel", "firstAs", "(II)I"⟩ : Jvm.MethodName) (⟨"BitDeskModel", "firstAs", "(II)I"⟩ : Jvm.MethodName)) ∈ WS := ws_c0 70 rfl rfl
theorem lk_X7_242 : LkV RX7 242 jX7_firstAs 2 := ⟨⟨wd_1487, ⟨rfl, (by rw [cwd_nil rfl]; exact wd_1490)⟩, wd_102, ⟨by decide +kernel, by decide +kernel⟩, by decide +kernel⟩, wd_1489, wd_70⟩
theorem wd_1498 : (Jvm.Cond.code ({ cls := "BitDeskModel", name := "all", desc := "()J" } : Jvm.MethodName) prog_9_method_14_code (1 : Nat) (Option.some Jvm.ClassFile.FieldType.long)) ∈ WS := ws_c6 204 rfl rfl
theorem wd_1495 : (Jvm.Cond.methodLink "BitDeskModel" (245 : Nat) ({ cls := "BitDeskModel", name := "all", desc := "()J" } : Jvm.MethodName)) ∈ WS := ws_c6 201 rfl rfl
theorem wd_1497 : (Jvm.Cond.instanceMethod ({ cls := "BitDeskModel", name := "all", desc := "()J" } : Jvm.MethodName)) ∈ WS := ws_c6 203 rfl rfl
theorem wd_71 : (Jvm.Cond.selects "BitDeskModel" (⟨"BitDeskModel", "all", "()J"⟩ : Jvm.MethodName) (⟨"BitDeskModel", "all", "()J"⟩ : Jvm.MethodName)) ∈ WS := ws_c0 71 rfl rfl
theorem lk_X7_245 : LkV RX7 245 jX7_all 0 := ⟨⟨wd_1495, ⟨rfl, (by rw [cwd_nil rfl]; exact wd_1498)⟩, wd_102, ⟨by decide +kernel, by decide +kernel⟩, by decide +kernel⟩, wd_1497, wd_71⟩
theorem wd_1506 : (Jvm.Cond.code ({ cls := "BitDeskModel", name := "classesAhead", desc := "(II)I" } : Jvm.MethodName) prog_9_method_50_code (5 : Nat) (Option.some Jvm.ClassFile.FieldType.int)) ∈ WS := ws_c6 212 rfl rfl
theorem wd_1503 : (Jvm.Cond.methodLink "BitDeskModel" (249 : Nat) ({ cls := "BitDeskModel", name := "classesAhead", desc := "(II)I" } : Jvm.MethodName)) ∈ WS := ws_c6 209 rfl rfl
theorem wd_1505 : (Jvm.Cond.instanceMethod ({ cls := "BitDeskModel", name := "classesAhead", desc := "(II)I" } : Jvm.MethodName)) ∈ WS := ws_c6 211 rfl rfl
theorem wd_72 : (Jvm.Cond.selects "BitDeskModel" (⟨"BitDeskModel", "classesAhead", "(II)I"⟩ : Jvm.MethodName) (⟨"BitDeskModel", "classesAhead", "(II)I"⟩ : Jvm.MethodName)) ∈ WS := ws_c0 72 rfl rfl
theorem lk_X7_249 : LkV RX7 249 jX7_classesAhead 2 := ⟨⟨wd_1503, ⟨rfl, (by rw [cwd_nil rfl]; exact wd_1506)⟩, wd_102, ⟨by decide +kernel, by decide +kernel⟩, by decide +kernel⟩, wd_1505, wd_72⟩
theorem fk_X7_34 : FK RX7 34 7 16 (.array .long) := ⟨RX7, TX7, 25, rfl, by decide, rfl, rfl, (Or.inl wd_1232), inW7⟩
theorem wd_1534 : (Jvm.Cond.code ({ cls := "BitDeskModel", name := "takes", desc := "(I[J)V" } : Jvm.MethodName) prog_9_method_56_code (4 : Nat) (Option.none : Option Jvm.ClassFile.FieldType)) ∈ WS := ws_c7 0 rfl rfl
theorem wd_1531 : (Jvm.Cond.methodLink "BitDeskModel" (252 : Nat) ({ cls := "BitDeskModel", name := "takes", desc := "(I[J)V" } : Jvm.MethodName)) ∈ WS := ws_c6 237 rfl rfl
theorem wd_1533 : (Jvm.Cond.instanceMethod ({ cls := "BitDeskModel", name := "takes", desc := "(I[J)V" } : Jvm.MethodName)) ∈ WS := ws_c6 239 rfl rfl
theorem wd_74 : (Jvm.Cond.selects "BitDeskModel" (⟨"BitDeskModel", "takes", "(I[J)V"⟩ : Jvm.MethodName) (⟨"BitDeskModel", "takes", "(I[J)V"⟩ : Jvm.MethodName)) ∈ WS := ws_c0 74 rfl rfl
theorem lk_X7_252 : LkV RX7 252 jX7_takes 2 := ⟨⟨wd_1531, ⟨rfl, (by rw [cwd_nil rfl]; exact wd_1534)⟩, wd_102, ⟨by decide +kernel, by decide +kernel⟩, by decide +kernel⟩, wd_1533, wd_74⟩
theorem wd_1538 : (Jvm.Cond.code ({ cls := "BitDeskModel", name := "closes", desc := "([J)V" } : Jvm.MethodName) prog_9_method_57_code (4 : Nat) (Option.none : Option Jvm.ClassFile.FieldType)) ∈ WS := ws_c7 4 rfl rfl
theorem wd_1535 : (Jvm.Cond.methodLink "BitDeskModel" (256 : Nat) ({ cls := "BitDeskModel", name := "closes", desc := "([J)V" } : Jvm.MethodName)) ∈ WS := ws_c7 1 rfl rfl
theorem wd_1537 : (Jvm.Cond.instanceMethod ({ cls := "BitDeskModel", name := "closes", desc := "([J)V" } : Jvm.MethodName)) ∈ WS := ws_c7 3 rfl rfl
theorem wd_75 : (Jvm.Cond.selects "BitDeskModel" (⟨"BitDeskModel", "closes", "([J)V"⟩ : Jvm.MethodName) (⟨"BitDeskModel", "closes", "([J)V"⟩ : Jvm.MethodName)) ∈ WS := ws_c0 75 rfl rfl
theorem lk_X7_256 : LkV RX7 256 jX7_closes 1 := ⟨⟨wd_1535, ⟨rfl, (by rw [cwd_nil rfl]; exact wd_1538)⟩, wd_102, ⟨by decide +kernel, by decide +kernel⟩, by decide +kernel⟩, wd_1537, wd_75⟩
theorem wd_1530 : (Jvm.Cond.code ({ cls := "BitDeskModel", name := "closure", desc := "(I)V" } : Jvm.MethodName) prog_9_method_58_code (2 : Nat) (Option.none : Option Jvm.ClassFile.FieldType)) ∈ WS := ws_c6 236 rfl rfl
theorem wd_1527 : (Jvm.Cond.methodLink "BitDeskModel" (260 : Nat) ({ cls := "BitDeskModel", name := "closure", desc := "(I)V" } : Jvm.MethodName)) ∈ WS := ws_c6 233 rfl rfl
theorem wd_1529 : (Jvm.Cond.instanceMethod ({ cls := "BitDeskModel", name := "closure", desc := "(I)V" } : Jvm.MethodName)) ∈ WS := ws_c6 235 rfl rfl
theorem wd_73 : (Jvm.Cond.selects "BitDeskModel" (⟨"BitDeskModel", "closure", "(I)V"⟩ : Jvm.MethodName) (⟨"BitDeskModel", "closure", "(I)V"⟩ : Jvm.MethodName)) ∈ WS := ws_c0 73 rfl rfl
theorem lk_X7_260 : LkV RX7 260 jX7_closure 1 := ⟨⟨wd_1527, ⟨rfl, (by rw [cwd_nil rfl]; exact wd_1530)⟩, wd_102, ⟨by decide +kernel, by decide +kernel⟩, by decide +kernel⟩, wd_1529, wd_73⟩
theorem wd_1554 : (Jvm.Cond.code ({ cls := "BitDeskModel", name := "sumOf", desc := "([J)I" } : Jvm.MethodName) prog_9_method_59_code (4 : Nat) (Option.some Jvm.ClassFile.FieldType.int)) ∈ WS := ws_c7 20 rfl rfl
theorem wd_1551 : (Jvm.Cond.methodLink "BitDeskModel" (263 : Nat) ({ cls := "BitDeskModel", name := "sumOf", desc := "([J)I" } : Jvm.MethodName)) ∈ WS := ws_c7 17 rfl rfl
theorem wd_1553 : (Jvm.Cond.instanceMethod ({ cls := "BitDeskModel", name := "sumOf", desc := "([J)I" } : Jvm.MethodName)) ∈ WS := ws_c7 19 rfl rfl
theorem wd_77 : (Jvm.Cond.selects "BitDeskModel" (⟨"BitDeskModel", "sumOf", "([J)I"⟩ : Jvm.MethodName) (⟨"BitDeskModel", "sumOf", "([J)I"⟩ : Jvm.MethodName)) ∈ WS := ws_c0 77 rfl rfl
theorem lk_X7_263 : LkV RX7 263 jX7_sumOf 1 := ⟨⟨wd_1551, ⟨rfl, (by rw [cwd_nil rfl]; exact wd_1554)⟩, wd_102, ⟨by decide +kernel, by decide +kernel⟩, by decide +kernel⟩, wd_1553, wd_77⟩
theorem wd_1550 : (Jvm.Cond.code ({ cls := "BitDeskModel", name := "pairsOf", desc := "(I)I" } : Jvm.MethodName) prog_9_method_62_code (2 : Nat) (Option.some Jvm.ClassFile.FieldType.int)) ∈ WS := ws_c7 16 rfl rfl
theorem wd_1547 : (Jvm.Cond.methodLink "BitDeskModel" (267 : Nat) ({ cls := "BitDeskModel", name := "pairsOf", desc := "(I)I" } : Jvm.MethodName)) ∈ WS := ws_c7 13 rfl rfl
theorem wd_1549 : (Jvm.Cond.instanceMethod ({ cls := "BitDeskModel", name := "pairsOf", desc := "(I)I" } : Jvm.MethodName)) ∈ WS := ws_c7 15 rfl rfl
theorem wd_76 : (Jvm.Cond.selects "BitDeskModel" (⟨"BitDeskModel", "pairsOf", "(I)I"⟩ : Jvm.MethodName) (⟨"BitDeskModel", "pairsOf", "(I)I"⟩ : Jvm.MethodName)) ∈ WS := ws_c0 76 rfl rfl
theorem lk_X7_267 : LkV RX7 267 jX7_pairsOf 1 := ⟨⟨wd_1547, ⟨rfl, (by rw [cwd_nil rfl]; exact wd_1550)⟩, wd_102, ⟨by decide +kernel, by decide +kernel⟩, by decide +kernel⟩, wd_1549, wd_76⟩
theorem wd_1566 : (Jvm.Cond.code ({ cls := "BitDeskModel", name := "componentOf", desc := "(I)I" } : Jvm.MethodName) prog_9_method_65_code (3 : Nat) (Option.some Jvm.ClassFile.FieldType.int)) ∈ WS := ws_c7 32 rfl rfl
theorem wd_1563 : (Jvm.Cond.methodLink "BitDeskModel" (270 : Nat) ({ cls := "BitDeskModel", name := "componentOf", desc := "(I)I" } : Jvm.MethodName)) ∈ WS := ws_c7 29 rfl rfl
theorem wd_1565 : (Jvm.Cond.instanceMethod ({ cls := "BitDeskModel", name := "componentOf", desc := "(I)I" } : Jvm.MethodName)) ∈ WS := ws_c7 31 rfl rfl
theorem wd_78 : (Jvm.Cond.selects "BitDeskModel" (⟨"BitDeskModel", "componentOf", "(I)I"⟩ : Jvm.MethodName) (⟨"BitDeskModel", "componentOf", "(I)I"⟩ : Jvm.MethodName)) ∈ WS := ws_c0 78 rfl rfl
theorem lk_X7_270 : LkV RX7 270 jX7_componentOf 1 := ⟨⟨wd_1563, ⟨rfl, (by rw [cwd_nil rfl]; exact wd_1566)⟩, wd_102, ⟨by decide +kernel, by decide +kernel⟩, by decide +kernel⟩, wd_1565, wd_78⟩
theorem fk_X7_43 : FK RX7 43 7 19 (.array .int) := ⟨RX7, TX7, 25, rfl, by decide, rfl, rfl, (Or.inl wd_1235), inW7⟩
theorem wd_1578 : (Jvm.Cond.code ({ cls := "BitDeskModel", name := "measures", desc := "(II)V" } : Jvm.MethodName) prog_9_method_68_code (6 : Nat) (Option.none : Option Jvm.ClassFile.FieldType)) ∈ WS := ws_c7 44 rfl rfl
theorem wd_1575 : (Jvm.Cond.methodLink "BitDeskModel" (273 : Nat) ({ cls := "BitDeskModel", name := "measures", desc := "(II)V" } : Jvm.MethodName)) ∈ WS := ws_c7 41 rfl rfl
theorem wd_1577 : (Jvm.Cond.instanceMethod ({ cls := "BitDeskModel", name := "measures", desc := "(II)V" } : Jvm.MethodName)) ∈ WS := ws_c7 43 rfl rfl
theorem wd_79 : (Jvm.Cond.selects "BitDeskModel" (⟨"BitDeskModel", "measures", "(II)V"⟩ : Jvm.MethodName) (⟨"BitDeskModel", "measures", "(II)V"⟩ : Jvm.MethodName)) ∈ WS := ws_c0 79 rfl rfl
theorem lk_X7_273 : LkV RX7 273 jX7_measures 2 := ⟨⟨wd_1575, ⟨rfl, (by rw [cwd_nil rfl]; exact wd_1578)⟩, wd_102, ⟨by decide +kernel, by decide +kernel⟩, by decide +kernel⟩, wd_1577, wd_79⟩
theorem wd_1590 : (Jvm.Cond.code ({ cls := "BitDeskModel", name := "aroundOf", desc := "(II)I" } : Jvm.MethodName) prog_9_method_71_code (5 : Nat) (Option.some Jvm.ClassFile.FieldType.int)) ∈ WS := ws_c7 56 rfl rfl
theorem wd_1587 : (Jvm.Cond.methodLink "BitDeskModel" (277 : Nat) ({ cls := "BitDeskModel", name := "aroundOf", desc := "(II)I" } : Jvm.MethodName)) ∈ WS := ws_c7 53 rfl rfl
theorem wd_1589 : (Jvm.Cond.instanceMethod ({ cls := "BitDeskModel", name := "aroundOf", desc := "(II)I" } : Jvm.MethodName)) ∈ WS := ws_c7 55 rfl rfl
theorem wd_80 : (Jvm.Cond.selects "BitDeskModel" (⟨"BitDeskModel", "aroundOf", "(II)I"⟩ : Jvm.MethodName) (⟨"BitDeskModel", "aroundOf", "(II)I"⟩ : Jvm.MethodName)) ∈ WS := ws_c0 80 rfl rfl
theorem lk_X7_277 : LkV RX7 277 jX7_aroundOf 2 := ⟨⟨wd_1587, ⟨rfl, (by rw [cwd_nil rfl]; exact wd_1590)⟩, wd_102, ⟨by decide +kernel, by decide +kernel⟩, by decide +kernel⟩, wd_1589, wd_80⟩
theorem wd_1602 : (Jvm.Cond.code ({ cls := "BitDeskModel", name := "free", desc := "(IJ)I" } : Jvm.MethodName) prog_9_method_74_code (7 : Nat) (Option.some Jvm.ClassFile.FieldType.int)) ∈ WS := ws_c7 68 rfl rfl
theorem wd_1599 : (Jvm.Cond.methodLink "BitDeskModel" (280 : Nat) ({ cls := "BitDeskModel", name := "free", desc := "(IJ)I" } : Jvm.MethodName)) ∈ WS := ws_c7 65 rfl rfl
theorem wd_1601 : (Jvm.Cond.instanceMethod ({ cls := "BitDeskModel", name := "free", desc := "(IJ)I" } : Jvm.MethodName)) ∈ WS := ws_c7 67 rfl rfl
theorem wd_81 : (Jvm.Cond.selects "BitDeskModel" (⟨"BitDeskModel", "free", "(IJ)I"⟩ : Jvm.MethodName) (⟨"BitDeskModel", "free", "(IJ)I"⟩ : Jvm.MethodName)) ∈ WS := ws_c0 81 rfl rfl
theorem lk_X7_280 : LkV RX7 280 jX7_free 2 := ⟨⟨wd_1599, ⟨rfl, (by rw [cwd_nil rfl]; exact wd_1602)⟩, wd_102, ⟨by decide +kernel, by decide +kernel⟩, by decide +kernel⟩, wd_1601, wd_81⟩
theorem wd_1610 : (Jvm.Cond.code ({ cls := "BitDeskModel", name := "pairsTurned", desc := "(III)I" } : Jvm.MethodName) prog_9_method_76_code (4 : Nat) (Option.some Jvm.ClassFile.FieldType.int)) ∈ WS := ws_c7 76 rfl rfl
theorem wd_1607 : (Jvm.Cond.methodLink "BitDeskModel" (284 : Nat) ({ cls := "BitDeskModel", name := "pairsTurned", desc := "(III)I" } : Jvm.MethodName)) ∈ WS := ws_c7 73 rfl rfl
theorem wd_1609 : (Jvm.Cond.instanceMethod ({ cls := "BitDeskModel", name := "pairsTurned", desc := "(III)I" } : Jvm.MethodName)) ∈ WS := ws_c7 75 rfl rfl
theorem wd_82 : (Jvm.Cond.selects "BitDeskModel" (⟨"BitDeskModel", "pairsTurned", "(III)I"⟩ : Jvm.MethodName) (⟨"BitDeskModel", "pairsTurned", "(III)I"⟩ : Jvm.MethodName)) ∈ WS := ws_c0 82 rfl rfl
theorem lk_X7_284 : LkV RX7 284 jX7_pairsTurned 3 := ⟨⟨wd_1607, ⟨rfl, (by rw [cwd_nil rfl]; exact wd_1610)⟩, wd_102, ⟨by decide +kernel, by decide +kernel⟩, by decide +kernel⟩, wd_1609, wd_82⟩
theorem wd_1625 : (Jvm.Cond.code ({ cls := "java/lang/Math", name := "abs", desc := "(I)I" } : Jvm.MethodName) prog_14_method_59_code (1 : Nat) (Option.some Jvm.ClassFile.FieldType.int)) ∈ WS := ws_c7 91 rfl rfl
theorem wd_1623 : (Jvm.Cond.methodLink "BitDeskModel" (288 : Nat) ({ cls := "java/lang/Math", name := "abs", desc := "(I)I" } : Jvm.MethodName)) ∈ WS := ws_c7 89 rfl rfl
theorem wd_1624 : (Jvm.Cond.static ({ cls := "java/lang/Math", name := "abs", desc := "(I)I" } : Jvm.MethodName)) ∈ WS := ws_c7 90 rfl rfl
theorem lk_X7_288 : LkS RX7 288 jJ9_abs_0f7a4 1 := ⟨⟨wd_1623, ⟨rfl, (by rw [cwd_nil rfl]; exact wd_1625)⟩, wd_107, ⟨by decide +kernel, by decide +kernel⟩, by decide +kernel⟩, wd_1624⟩
theorem wd_1628 : (Jvm.Cond.code ({ cls := "java/lang/Math", name := "max", desc := "(II)I" } : Jvm.MethodName) prog_14_method_65_code (2 : Nat) (Option.some Jvm.ClassFile.FieldType.int)) ∈ WS := ws_c7 94 rfl rfl
theorem wd_1626 : (Jvm.Cond.methodLink "BitDeskModel" (291 : Nat) ({ cls := "java/lang/Math", name := "max", desc := "(II)I" } : Jvm.MethodName)) ∈ WS := ws_c7 92 rfl rfl
theorem wd_1627 : (Jvm.Cond.static ({ cls := "java/lang/Math", name := "max", desc := "(II)I" } : Jvm.MethodName)) ∈ WS := ws_c7 93 rfl rfl
theorem lk_X7_291 : LkS RX7 291 jJ9_max_7cf53 2 := ⟨⟨wd_1626, ⟨rfl, (by rw [cwd_nil rfl]; exact wd_1628)⟩, wd_107, ⟨by decide +kernel, by decide +kernel⟩, by decide +kernel⟩, wd_1627⟩
theorem wd_1622 : (Jvm.Cond.code ({ cls := "BitDeskModel", name := "mostTurned", desc := "(II)I" } : Jvm.MethodName) prog_9_method_79_code (8 : Nat) (Option.some Jvm.ClassFile.FieldType.int)) ∈ WS := ws_c7 88 rfl rfl
theorem wd_1619 : (Jvm.Cond.methodLink "BitDeskModel" (294 : Nat) ({ cls := "BitDeskModel", name := "mostTurned", desc := "(II)I" } : Jvm.MethodName)) ∈ WS := ws_c7 85 rfl rfl
theorem wd_1621 : (Jvm.Cond.instanceMethod ({ cls := "BitDeskModel", name := "mostTurned", desc := "(II)I" } : Jvm.MethodName)) ∈ WS := ws_c7 87 rfl rfl
theorem wd_83 : (Jvm.Cond.selects "BitDeskModel" (⟨"BitDeskModel", "mostTurned", "(II)I"⟩ : Jvm.MethodName) (⟨"BitDeskModel", "mostTurned", "(II)I"⟩ : Jvm.MethodName)) ∈ WS := ws_c0 83 rfl rfl
theorem lk_X7_294 : LkV RX7 294 jX7_mostTurned 2 := ⟨⟨wd_1619, ⟨rfl, (by rw [cwd_nil rfl]; exact wd_1622)⟩, wd_102, ⟨by decide +kernel, by decide +kernel⟩, by decide +kernel⟩, wd_1621, wd_83⟩
theorem fk_X7_47 : FK RX7 47 7 20 (.array .long) := ⟨RX7, TX7, 25, rfl, by decide, rfl, rfl, (Or.inl wd_1236), inW7⟩
theorem wd_1238 : (Jvm.Cond.fieldLink "BitDeskModel" (297 : Nat) "BitDeskModel" "pivotMany" "I") ∈ WS := ws_c5 184 rfl rfl
theorem fp_X7_297 : FP RX7 297 7 22 (.int) false := ⟨RX7, TX7, 25, tyX7, rfl, by decide, rfl, rfl, (Or.inl wd_1238), inW7, tyX7_ok, nmX7, rfl, tyX7_ok 22 (by decide), rfl⟩
theorem fk_X7_297 : FK RX7 297 7 22 (.int) := ⟨RX7, TX7, 25, rfl, by decide, rfl, rfl, (Or.inl wd_1238), inW7⟩
theorem wd_1648 : (Jvm.Cond.code ({ cls := "BitDeskModel", name := "changes", desc := "(II)V" } : Jvm.MethodName) prog_9_method_83_code (7 : Nat) (Option.none : Option Jvm.ClassFile.FieldType)) ∈ WS := ws_c7 114 rfl rfl
theorem wd_1645 : (Jvm.Cond.methodLink "BitDeskModel" (300 : Nat) ({ cls := "BitDeskModel", name := "changes", desc := "(II)V" } : Jvm.MethodName)) ∈ WS := ws_c7 111 rfl rfl
theorem wd_1647 : (Jvm.Cond.instanceMethod ({ cls := "BitDeskModel", name := "changes", desc := "(II)V" } : Jvm.MethodName)) ∈ WS := ws_c7 113 rfl rfl
theorem wd_85 : (Jvm.Cond.selects "BitDeskModel" (⟨"BitDeskModel", "changes", "(II)V"⟩ : Jvm.MethodName) (⟨"BitDeskModel", "changes", "(II)V"⟩ : Jvm.MethodName)) ∈ WS := ws_c0 85 rfl rfl
theorem lk_X7_300 : LkV RX7 300 jX7_changes 2 := ⟨⟨wd_1645, ⟨rfl, (by rw [cwd_nil rfl]; exact wd_1648)⟩, wd_102, ⟨by decide +kernel, by decide +kernel⟩, by decide +kernel⟩, wd_1647, wd_85⟩
theorem fk_X7_50 : FK RX7 50 7 21 (.array .int) := ⟨RX7, TX7, 25, rfl, by decide, rfl, rfl, (Or.inl wd_1237), inW7⟩
theorem wd_1644 : (Jvm.Cond.code ({ cls := "BitDeskModel", name := "reduces", desc := "(I)V" } : Jvm.MethodName) prog_9_method_84_code (5 : Nat) (Option.none : Option Jvm.ClassFile.FieldType)) ∈ WS := ws_c7 110 rfl rfl
theorem wd_1641 : (Jvm.Cond.methodLink "BitDeskModel" (303 : Nat) ({ cls := "BitDeskModel", name := "reduces", desc := "(I)V" } : Jvm.MethodName)) ∈ WS := ws_c7 107 rfl rfl
theorem wd_1643 : (Jvm.Cond.instanceMethod ({ cls := "BitDeskModel", name := "reduces", desc := "(I)V" } : Jvm.MethodName)) ∈ WS := ws_c7 109 rfl rfl
theorem wd_84 : (Jvm.Cond.selects "BitDeskModel" (⟨"BitDeskModel", "reduces", "(I)V"⟩ : Jvm.MethodName) (⟨"BitDeskModel", "reduces", "(I)V"⟩ : Jvm.MethodName)) ∈ WS := ws_c0 84 rfl rfl
theorem lk_X7_303 : LkV RX7 303 jX7_reduces 1 := ⟨⟨wd_1641, ⟨rfl, (by rw [cwd_nil rfl]; exact wd_1644)⟩, wd_102, ⟨by decide +kernel, by decide +kernel⟩, by decide +kernel⟩, wd_1643, wd_84⟩
theorem wd_1657 : (Jvm.Cond.constantLong "BitDeskModel" (306 : Nat) (-1 : Int64)) ∈ WS := ws_c7 123 rfl rfl
theorem wd_1656 : (Jvm.Cond.code ({ cls := "BitDeskModel", name := "solved", desc := "(IJ)J" } : Jvm.MethodName) prog_9_method_86_code (7 : Nat) (Option.some Jvm.ClassFile.FieldType.long)) ∈ WS := ws_c7 122 rfl rfl
theorem wd_1653 : (Jvm.Cond.methodLink "BitDeskModel" (308 : Nat) ({ cls := "BitDeskModel", name := "solved", desc := "(IJ)J" } : Jvm.MethodName)) ∈ WS := ws_c7 119 rfl rfl
theorem wd_1655 : (Jvm.Cond.instanceMethod ({ cls := "BitDeskModel", name := "solved", desc := "(IJ)J" } : Jvm.MethodName)) ∈ WS := ws_c7 121 rfl rfl
theorem wd_86 : (Jvm.Cond.selects "BitDeskModel" (⟨"BitDeskModel", "solved", "(IJ)J"⟩ : Jvm.MethodName) (⟨"BitDeskModel", "solved", "(IJ)J"⟩ : Jvm.MethodName)) ∈ WS := ws_c0 86 rfl rfl
theorem lk_X7_308 : LkV RX7 308 jX7_solved 2 := ⟨⟨wd_1653, ⟨rfl, (by rw [cwd_nil rfl]; exact wd_1656)⟩, wd_102, ⟨by decide +kernel, by decide +kernel⟩, by decide +kernel⟩, wd_1655, wd_86⟩
theorem fk_X7_16 : FK RX7 16 7 2 (.array .long) := ⟨RX7, TX7, 25, rfl, by decide, rfl, rfl, (Or.inl wd_1218), inW7⟩
theorem wd_1411 : (Jvm.Cond.code ({ cls := "BitDeskModel", name := "looks", desc := "(II)V" } : Jvm.MethodName) prog_9_method_92_code (3 : Nat) (Option.none : Option Jvm.ClassFile.FieldType)) ∈ WS := ws_c6 117 rfl rfl
theorem wd_1408 : (Jvm.Cond.methodLink "BitDeskModel" (312 : Nat) ({ cls := "BitDeskModel", name := "looks", desc := "(II)V" } : Jvm.MethodName)) ∈ WS := ws_c6 114 rfl rfl
theorem wd_1410 : (Jvm.Cond.instanceMethod ({ cls := "BitDeskModel", name := "looks", desc := "(II)V" } : Jvm.MethodName)) ∈ WS := ws_c6 116 rfl rfl
theorem wd_63 : (Jvm.Cond.selects "BitDeskModel" (⟨"BitDeskModel", "looks", "(II)V"⟩ : Jvm.MethodName) (⟨"BitDeskModel", "looks", "(II)V"⟩ : Jvm.MethodName)) ∈ WS := ws_c0 63 rfl rfl
theorem lk_X7_312 : LkV RX7 312 jX7_looks 2 := ⟨⟨wd_1408, ⟨rfl, (by rw [cwd_nil rfl]; exact wd_1411)⟩, wd_102, ⟨by decide +kernel, by decide +kernel⟩, by decide +kernel⟩, wd_1410, wd_63⟩
theorem wd_1677 : (Jvm.Cond.code ({ cls := "BitDeskModel", name := "keeps", desc := "()V" } : Jvm.MethodName) prog_9_method_90_code (2 : Nat) (Option.none : Option Jvm.ClassFile.FieldType)) ∈ WS := ws_c7 143 rfl rfl
theorem wd_1674 : (Jvm.Cond.methodLink "BitDeskModel" (315 : Nat) ({ cls := "BitDeskModel", name := "keeps", desc := "()V" } : Jvm.MethodName)) ∈ WS := ws_c7 140 rfl rfl
theorem wd_1676 : (Jvm.Cond.instanceMethod ({ cls := "BitDeskModel", name := "keeps", desc := "()V" } : Jvm.MethodName)) ∈ WS := ws_c7 142 rfl rfl
theorem wd_87 : (Jvm.Cond.selects "BitDeskModel" (⟨"BitDeskModel", "keeps", "()V"⟩ : Jvm.MethodName) (⟨"BitDeskModel", "keeps", "()V"⟩ : Jvm.MethodName)) ∈ WS := ws_c0 87 rfl rfl
theorem lk_X7_315 : LkV RX7 315 jX7_keeps 0 := ⟨⟨wd_1674, ⟨rfl, (by rw [cwd_nil rfl]; exact wd_1677)⟩, wd_102, ⟨by decide +kernel, by decide +kernel⟩, by decide +kernel⟩, wd_1676, wd_87⟩
theorem fk_X7_37 : FK RX7 37 7 17 (.array .long) := ⟨RX7, TX7, 25, rfl, by decide, rfl, rfl, (Or.inl wd_1233), inW7⟩
theorem wd_1681 : (Jvm.Cond.code ({ cls := "BitDeskModel", name := "setsRow", desc := "(IIJ)V" } : Jvm.MethodName) prog_9_method_11_code (5 : Nat) (Option.none : Option Jvm.ClassFile.FieldType)) ∈ WS := ws_c7 147 rfl rfl
theorem wd_1678 : (Jvm.Cond.methodLink "BitDeskModel" (318 : Nat) ({ cls := "BitDeskModel", name := "setsRow", desc := "(IIJ)V" } : Jvm.MethodName)) ∈ WS := ws_c7 144 rfl rfl
theorem wd_1680 : (Jvm.Cond.instanceMethod ({ cls := "BitDeskModel", name := "setsRow", desc := "(IIJ)V" } : Jvm.MethodName)) ∈ WS := ws_c7 146 rfl rfl
theorem wd_88 : (Jvm.Cond.selects "BitDeskModel" (⟨"BitDeskModel", "setsRow", "(IIJ)V"⟩ : Jvm.MethodName) (⟨"BitDeskModel", "setsRow", "(IIJ)V"⟩ : Jvm.MethodName)) ∈ WS := ws_c0 88 rfl rfl
theorem lk_X7_318 : LkV RX7 318 jX7_setsRow 3 := ⟨⟨wd_1678, ⟨rfl, (by rw [cwd_nil rfl]; exact wd_1681)⟩, wd_102, ⟨by decide +kernel, by decide +kernel⟩, by decide +kernel⟩, wd_1680, wd_88⟩
theorem wd_1693 : (Jvm.Cond.code ({ cls := "BitDeskModel", name := "lays", desc := "([JI)I" } : Jvm.MethodName) prog_9_method_96_code (4 : Nat) (Option.some Jvm.ClassFile.FieldType.int)) ∈ WS := ws_c7 159 rfl rfl
theorem wd_1690 : (Jvm.Cond.methodLink "BitDeskModel" (322 : Nat) ({ cls := "BitDeskModel", name := "lays", desc := "([JI)I" } : Jvm.MethodName)) ∈ WS := ws_c7 156 rfl rfl
theorem wd_1692 : (Jvm.Cond.instanceMethod ({ cls := "BitDeskModel", name := "lays", desc := "([JI)I" } : Jvm.MethodName)) ∈ WS := ws_c7 158 rfl rfl
theorem wd_89 : (Jvm.Cond.selects "BitDeskModel" (⟨"BitDeskModel", "lays", "([JI)I"⟩ : Jvm.MethodName) (⟨"BitDeskModel", "lays", "([JI)I"⟩ : Jvm.MethodName)) ∈ WS := ws_c0 89 rfl rfl
theorem lk_X7_322 : LkV RX7 322 jX7_lays 2 := ⟨⟨wd_1690, ⟨rfl, (by rw [cwd_nil rfl]; exact wd_1693)⟩, wd_102, ⟨by decide +kernel, by decide +kernel⟩, by decide +kernel⟩, wd_1692, wd_89⟩
theorem wd_1704 : (Jvm.Cond.code ({ cls := "BitDeskModel", name := "combined", desc := "(JJI)J" } : Jvm.MethodName) prog_9_method_99_code (5 : Nat) (Option.some Jvm.ClassFile.FieldType.long)) ∈ WS := ws_c7 170 rfl rfl
theorem wd_1702 : (Jvm.Cond.methodLink "BitDeskModel" (326 : Nat) ({ cls := "BitDeskModel", name := "combined", desc := "(JJI)J" } : Jvm.MethodName)) ∈ WS := ws_c7 168 rfl rfl
theorem wd_1703 : (Jvm.Cond.static ({ cls := "BitDeskModel", name := "combined", desc := "(JJI)J" } : Jvm.MethodName)) ∈ WS := ws_c7 169 rfl rfl
theorem lk_X7_326 : LkS RX7 326 jX7_combined 3 := ⟨⟨wd_1702, ⟨rfl, (by rw [cwd_nil rfl]; exact wd_1704)⟩, wd_102, ⟨by decide +kernel, by decide +kernel⟩, by decide +kernel⟩, wd_1703⟩
theorem wd_1716 : (Jvm.Cond.code ({ cls := "BitDeskModel", name := "counts", desc := "([J)V" } : Jvm.MethodName) prog_9_method_101_code (8 : Nat) (Option.none : Option Jvm.ClassFile.FieldType)) ∈ WS := ws_c7 182 rfl rfl
theorem wd_1713 : (Jvm.Cond.methodLink "BitDeskModel" (330 : Nat) ({ cls := "BitDeskModel", name := "counts", desc := "([J)V" } : Jvm.MethodName)) ∈ WS := ws_c7 179 rfl rfl
theorem wd_1715 : (Jvm.Cond.instanceMethod ({ cls := "BitDeskModel", name := "counts", desc := "([J)V" } : Jvm.MethodName)) ∈ WS := ws_c7 181 rfl rfl
theorem wd_91 : (Jvm.Cond.selects "BitDeskModel" (⟨"BitDeskModel", "counts", "([J)V"⟩ : Jvm.MethodName) (⟨"BitDeskModel", "counts", "([J)V"⟩ : Jvm.MethodName)) ∈ WS := ws_c0 91 rfl rfl
theorem lk_X7_330 : LkV RX7 330 jX7_counts 1 := ⟨⟨wd_1713, ⟨rfl, (by rw [cwd_nil rfl]; exact wd_1716)⟩, wd_102, ⟨by decide +kernel, by decide +kernel⟩, by decide +kernel⟩, wd_1715, wd_91⟩
theorem fk_X7_40 : FK RX7 40 7 18 (.array .long) := ⟨RX7, TX7, 25, rfl, by decide, rfl, rfl, (Or.inl wd_1234), inW7⟩
theorem wd_1712 : (Jvm.Cond.code ({ cls := "BitDeskModel", name := "multiplies", desc := "([J[J[JZ)V" } : Jvm.MethodName) prog_9_method_102_code (9 : Nat) (Option.none : Option Jvm.ClassFile.FieldType)) ∈ WS := ws_c7 178 rfl rfl
theorem wd_1709 : (Jvm.Cond.methodLink "BitDeskModel" (333 : Nat) ({ cls := "BitDeskModel", name := "multiplies", desc := "([J[J[JZ)V" } : Jvm.MethodName)) ∈ WS := ws_c7 175 rfl rfl
theorem wd_1711 : (Jvm.Cond.instanceMethod ({ cls := "BitDeskModel", name := "multiplies", desc := "([J[J[JZ)V" } : Jvm.MethodName)) ∈ WS := ws_c7 177 rfl rfl
theorem wd_90 : (Jvm.Cond.selects "BitDeskModel" (⟨"BitDeskModel", "multiplies", "([J[J[JZ)V"⟩ : Jvm.MethodName) (⟨"BitDeskModel", "multiplies", "([J[J[JZ)V"⟩ : Jvm.MethodName)) ∈ WS := ws_c0 90 rfl rfl
theorem lk_X7_333 : LkV RX7 333 jX7_multiplies 4 := ⟨⟨wd_1709, ⟨rfl, (by rw [cwd_nil rfl]; exact wd_1712)⟩, wd_102, ⟨by decide +kernel, by decide +kernel⟩, by decide +kernel⟩, wd_1711, wd_90⟩
theorem wd_1721 : (Jvm.Cond.constantLong "BitDeskModel" (337 : Nat) (1000000 : Int64)) ∈ WS := ws_c7 187 rfl rfl
theorem wd_1725 : (Jvm.Cond.code ({ cls := "BitDeskModel", name := "moves", desc := "([J[J)V" } : Jvm.MethodName) prog_9_method_104_code (4 : Nat) (Option.none : Option Jvm.ClassFile.FieldType)) ∈ WS := ws_c7 191 rfl rfl
theorem wd_1722 : (Jvm.Cond.methodLink "BitDeskModel" (339 : Nat) ({ cls := "BitDeskModel", name := "moves", desc := "([J[J)V" } : Jvm.MethodName)) ∈ WS := ws_c7 188 rfl rfl
theorem wd_1724 : (Jvm.Cond.instanceMethod ({ cls := "BitDeskModel", name := "moves", desc := "([J[J)V" } : Jvm.MethodName)) ∈ WS := ws_c7 190 rfl rfl
theorem wd_92 : (Jvm.Cond.selects "BitDeskModel" (⟨"BitDeskModel", "moves", "([J[J)V"⟩ : Jvm.MethodName) (⟨"BitDeskModel", "moves", "([J[J)V"⟩ : Jvm.MethodName)) ∈ WS := ws_c0 92 rfl rfl
theorem lk_X7_339 : LkV RX7 339 jX7_moves 2 := ⟨⟨wd_1722, ⟨rfl, (by rw [cwd_nil rfl]; exact wd_1725)⟩, wd_102, ⟨by decide +kernel, by decide +kernel⟩, by decide +kernel⟩, wd_1724, wd_92⟩
theorem wd_1741 : (Jvm.Cond.code ({ cls := "BitDeskModel", name := "isSame", desc := "([J[J)Z" } : Jvm.MethodName) prog_9_method_108_code (4 : Nat) (Option.some Jvm.ClassFile.FieldType.boolean)) ∈ WS := ws_c7 207 rfl rfl
theorem wd_1738 : (Jvm.Cond.methodLink "BitDeskModel" (343 : Nat) ({ cls := "BitDeskModel", name := "isSame", desc := "([J[J)Z" } : Jvm.MethodName)) ∈ WS := ws_c7 204 rfl rfl
theorem wd_1740 : (Jvm.Cond.instanceMethod ({ cls := "BitDeskModel", name := "isSame", desc := "([J[J)Z" } : Jvm.MethodName)) ∈ WS := ws_c7 206 rfl rfl
theorem wd_93 : (Jvm.Cond.selects "BitDeskModel" (⟨"BitDeskModel", "isSame", "([J[J)Z"⟩ : Jvm.MethodName) (⟨"BitDeskModel", "isSame", "([J[J)Z"⟩ : Jvm.MethodName)) ∈ WS := ws_c0 93 rfl rfl
theorem lk_X7_343 : LkV RX7 343 jX7_isSame 2 := ⟨⟨wd_1738, ⟨rfl, (by rw [cwd_nil rfl]; exact wd_1741)⟩, wd_102, ⟨by decide +kernel, by decide +kernel⟩, by decide +kernel⟩, wd_1740, wd_93⟩
theorem wd_1748 : (Jvm.Cond.code ({ cls := "BitDeskModel", name := "exchanged", desc := "(JII)J" } : Jvm.MethodName) prog_9_method_110_code (5 : Nat) (Option.some Jvm.ClassFile.FieldType.long)) ∈ WS := ws_c7 214 rfl rfl
theorem wd_1746 : (Jvm.Cond.methodLink "BitDeskModel" (347 : Nat) ({ cls := "BitDeskModel", name := "exchanged", desc := "(JII)J" } : Jvm.MethodName)) ∈ WS := ws_c7 212 rfl rfl
theorem wd_1747 : (Jvm.Cond.static ({ cls := "BitDeskModel", name := "exchanged", desc := "(JII)J" } : Jvm.MethodName)) ∈ WS := ws_c7 213 rfl rfl
theorem lk_X7_347 : LkS RX7 347 jX7_exchanged 3 := ⟨⟨wd_1746, ⟨rfl, (by rw [cwd_nil rfl]; exact wd_1748)⟩, wd_102, ⟨by decide +kernel, by decide +kernel⟩, by decide +kernel⟩, wd_1747⟩
theorem wd_1757 : (Jvm.Cond.constantLong "BitDeskModel" (351 : Nat) (8 : Int64)) ∈ WS := ws_c7 223 rfl rfl
theorem wd_1762 : (Jvm.Cond.constantLong "BitDeskModel" (353 : Nat) (2 : Int64)) ∈ WS := ws_c7 228 rfl rfl
theorem wd_1240 : (Jvm.Cond.fieldLink "BitDeskModel" (355 : Nat) "BitDeskModel" "written" "I") ∈ WS := ws_c5 186 rfl rfl
theorem fp_X7_355 : FP RX7 355 7 24 (.int) false := ⟨RX7, TX7, 25, tyX7, rfl, by decide, rfl, rfl, (Or.inl wd_1240), inW7, tyX7_ok, nmX7, rfl, tyX7_ok 24 (by decide), rfl⟩
theorem fk_X7_355 : FK RX7 355 7 24 (.int) := ⟨RX7, TX7, 25, rfl, by decide, rfl, rfl, (Or.inl wd_1240), inW7⟩
theorem fk_X7_53 : FK RX7 53 7 23 (.array .byte) := ⟨RX7, TX7, 25, rfl, by decide, rfl, rfl, (Or.inl wd_1239), inW7⟩
theorem fk_X7_19 : FK RX7 19 7 3 (.array .long) := ⟨RX7, TX7, 25, rfl, by decide, rfl, rfl, (Or.inl wd_1219), inW7⟩
theorem fk_X7_22 : FK RX7 22 7 4 (.array .boolean) := ⟨RX7, TX7, 25, rfl, by decide, rfl, rfl, (Or.inl wd_1220), inW7⟩
theorem wd_684 : (Jvm.Cond.constant "java/lang/Integer" (265 : Nat) (1431655765 : Int32)) ∈ WS := ws_c3 110 rfl rfl
theorem wd_685 : (Jvm.Cond.constant "java/lang/Integer" (266 : Nat) (858993459 : Int32)) ∈ WS := ws_c3 111 rfl rfl
theorem wd_686 : (Jvm.Cond.constant "java/lang/Integer" (267 : Nat) (252645135 : Int32)) ∈ WS := ws_c3 112 rfl rfl
theorem wd_1786 : (Jvm.Cond.fieldLink "java/lang/String" (9 : Nat) "java/lang/String" "value" "[B") ∈ WS := ws_c8 12 rfl rfl
theorem wd_376 : (Jvm.Cond.code ({ cls := "java/lang/String", name := "coder", desc := "()B" } : Jvm.MethodName) prog_16_method_152_code (1 : Nat) (Option.some Jvm.ClassFile.FieldType.byte)) ∈ WS := ws_c2 42 rfl rfl
theorem wd_373 : (Jvm.Cond.methodLink "java/lang/String" (335 : Nat) ({ cls := "java/lang/String", name := "coder", desc := "()B" } : Jvm.MethodName)) ∈ WS := ws_c2 39 rfl rfl
theorem wd_374 : (Jvm.Cond.instanceMethod ({ cls := "java/lang/String", name := "coder", desc := "()B" } : Jvm.MethodName)) ∈ WS := ws_c2 40 rfl rfl
theorem wd_375 : (Jvm.Cond.selects "java/lang/String" ({ cls := "java/lang/String", name := "coder", desc := "()B" } : Jvm.MethodName) ({ cls := "java/lang/String", name := "coder", desc := "()B" } : Jvm.MethodName)) ∈ WS := ws_c2 41 rfl rfl
theorem lk_J0_335 : LkV RJ0 335 jJ0_coder_7d493 0 := ⟨⟨wd_373, ⟨rfl, (by rw [cwd_nil rfl]; exact wd_376)⟩, wd_103, ⟨by decide +kernel, by decide +kernel⟩, by decide +kernel⟩, wd_374, wd_375⟩
theorem wd_386 : (Jvm.Cond.code ({ cls := "java/lang/String", name := "isLatin1", desc := "()Z" } : Jvm.MethodName) prog_16_method_154_code (1 : Nat) (Option.some Jvm.ClassFile.FieldType.boolean)) ∈ WS := ws_c2 52 rfl rfl
theorem wd_383 : (Jvm.Cond.methodLink "java/lang/String" (492 : Nat) ({ cls := "java/lang/String", name := "isLatin1", desc := "()Z" } : Jvm.MethodName)) ∈ WS := ws_c2 49 rfl rfl
theorem wd_384 : (Jvm.Cond.instanceMethod ({ cls := "java/lang/String", name := "isLatin1", desc := "()Z" } : Jvm.MethodName)) ∈ WS := ws_c2 50 rfl rfl
theorem wd_385 : (Jvm.Cond.selects "java/lang/String" ({ cls := "java/lang/String", name := "isLatin1", desc := "()Z" } : Jvm.MethodName) ({ cls := "java/lang/String", name := "isLatin1", desc := "()Z" } : Jvm.MethodName)) ∈ WS := ws_c2 51 rfl rfl
theorem lk_J0_492 : LkV RJ0 492 jJ0_isLatin1_aae02 0 := ⟨⟨wd_383, ⟨rfl, (by rw [cwd_nil rfl]; exact wd_386)⟩, wd_103, ⟨by decide +kernel, by decide +kernel⟩, by decide +kernel⟩, wd_384, wd_385⟩
theorem wd_389 : (Jvm.Cond.code ({ cls := "java/lang/StringLatin1", name := "charAt", desc := "([BI)C" } : Jvm.MethodName) prog_17_method_2_code (2 : Nat) (Option.some Jvm.ClassFile.FieldType.char)) ∈ WS := ws_c2 55 rfl rfl
theorem wd_387 : (Jvm.Cond.methodLink "java/lang/String" (495 : Nat) ({ cls := "java/lang/StringLatin1", name := "charAt", desc := "([BI)C" } : Jvm.MethodName)) ∈ WS := ws_c2 53 rfl rfl
theorem wd_388 : (Jvm.Cond.static ({ cls := "java/lang/StringLatin1", name := "charAt", desc := "([BI)C" } : Jvm.MethodName)) ∈ WS := ws_c2 54 rfl rfl
theorem lk_J0_495 : LkS RJ0 495 jJ1_charAt_3b067 2 := ⟨⟨wd_387, ⟨rfl, (by rw [cwd_nil rfl]; exact wd_389)⟩, wd_104, ⟨by decide +kernel, by decide +kernel⟩, by decide +kernel⟩, wd_388⟩
theorem wd_400 : (Jvm.Cond.code ({ cls := "java/lang/StringUTF16", name := "charAt", desc := "([BI)C" } : Jvm.MethodName) prog_18_method_83_code (2 : Nat) (Option.some Jvm.ClassFile.FieldType.char)) ∈ WS := ws_c2 66 rfl rfl
theorem wd_398 : (Jvm.Cond.methodLink "java/lang/String" (498 : Nat) ({ cls := "java/lang/StringUTF16", name := "charAt", desc := "([BI)C" } : Jvm.MethodName)) ∈ WS := ws_c2 64 rfl rfl
theorem wd_399 : (Jvm.Cond.static ({ cls := "java/lang/StringUTF16", name := "charAt", desc := "([BI)C" } : Jvm.MethodName)) ∈ WS := ws_c2 65 rfl rfl
theorem lk_J0_498 : LkS RJ0 498 jJ2_charAt_3b067 2 := ⟨⟨wd_398, ⟨rfl, (by rw [cwd_nil rfl]; exact wd_400)⟩, wd_106, ⟨by decide +kernel, by decide +kernel⟩, by decide +kernel⟩, wd_399⟩
theorem wd_377 : (Jvm.Cond.fieldLink "java/lang/String" (38 : Nat) "java/lang/String" "COMPACT_STRINGS" "Z") ∈ WS := ws_c2 43 rfl rfl
theorem wd_1787 : (Jvm.Cond.fieldLink "java/lang/String" (15 : Nat) "java/lang/String" "coder" "B") ∈ WS := ws_c8 13 rfl rfl
theorem wd_393 : (Jvm.Cond.fieldLink "java/lang/String" (1053 : Nat) "jdk/internal/util/Preconditions" "SIOOBE_FORMATTER" "Ljava/util/function/BiFunction;") ∈ WS := ws_c2 59 rfl rfl
theorem wd_397 : (Jvm.Cond.code ({ cls := "jdk/internal/util/Preconditions", name := "checkIndex", desc := "(IILjava/util/function/BiFunction;)I" } : Jvm.MethodName) prog_21_method_11_code (3 : Nat) (Option.some Jvm.ClassFile.FieldType.int)) ∈ WS := ws_c2 63 rfl rfl
theorem wd_395 : (Jvm.Cond.methodLink "java/lang/String" (1059 : Nat) ({ cls := "jdk/internal/util/Preconditions", name := "checkIndex", desc := "(IILjava/util/function/BiFunction;)I" } : Jvm.MethodName)) ∈ WS := ws_c2 61 rfl rfl
theorem wd_396 : (Jvm.Cond.static ({ cls := "jdk/internal/util/Preconditions", name := "checkIndex", desc := "(IILjava/util/function/BiFunction;)I" } : Jvm.MethodName)) ∈ WS := ws_c2 62 rfl rfl
theorem lk_J0_1059 : LkS RJ0 1059 jJ3_checkIndex_8e157 3 := ⟨⟨wd_395, ⟨rfl, (by rw [cwd_nil rfl]; exact wd_397)⟩, wd_105, ⟨by decide +kernel, by decide +kernel⟩, by decide +kernel⟩, wd_396⟩
theorem wd_392 : (Jvm.Cond.code ({ cls := "java/lang/String", name := "checkIndex", desc := "(II)V" } : Jvm.MethodName) prog_16_method_155_code (2 : Nat) (Option.none : Option Jvm.ClassFile.FieldType)) ∈ WS := ws_c2 58 rfl rfl
theorem wd_390 : (Jvm.Cond.methodLink "java/lang/StringLatin1" (9 : Nat) ({ cls := "java/lang/String", name := "checkIndex", desc := "(II)V" } : Jvm.MethodName)) ∈ WS := ws_c2 56 rfl rfl
theorem wd_391 : (Jvm.Cond.static ({ cls := "java/lang/String", name := "checkIndex", desc := "(II)V" } : Jvm.MethodName)) ∈ WS := ws_c2 57 rfl rfl
theorem lk_J1_9 : LkS RJ1 9 jJ0_checkIndex_df160 2 := ⟨⟨wd_390, ⟨rfl, (by rw [cwd_nil rfl]; exact wd_392)⟩, wd_103, ⟨by decide +kernel, by decide +kernel⟩, by decide +kernel⟩, wd_391⟩
theorem wd_411 : (Jvm.Cond.fieldLink "java/lang/StringUTF16" (44 : Nat) "java/lang/StringUTF16" "$assertionsDisabled" "Z") ∈ WS := ws_c2 77 rfl rfl
theorem wd_406 : (Jvm.Cond.code ({ cls := "java/lang/StringUTF16", name := "length", desc := "([B)I" } : Jvm.MethodName) prog_18_method_6_code (1 : Nat) (Option.some Jvm.ClassFile.FieldType.int)) ∈ WS := ws_c2 72 rfl rfl
theorem wd_404 : (Jvm.Cond.methodLink "java/lang/StringUTF16" (48 : Nat) ({ cls := "java/lang/StringUTF16", name := "length", desc := "([B)I" } : Jvm.MethodName)) ∈ WS := ws_c2 70 rfl rfl
theorem wd_405 : (Jvm.Cond.static ({ cls := "java/lang/StringUTF16", name := "length", desc := "([B)I" } : Jvm.MethodName)) ∈ WS := ws_c2 71 rfl rfl
theorem lk_J2_48 : LkS RJ2 48 jJ2_length_9d52b 1 := ⟨⟨wd_404, ⟨rfl, (by rw [cwd_nil rfl]; exact wd_406)⟩, wd_106, ⟨by decide +kernel, by decide +kernel⟩, by decide +kernel⟩, wd_405⟩
theorem wd_413 : (Jvm.Cond.fieldLink "java/lang/StringUTF16" (59 : Nat) "java/lang/StringUTF16" "HI_BYTE_SHIFT" "I") ∈ WS := ws_c2 79 rfl rfl
theorem wd_415 : (Jvm.Cond.fieldLink "java/lang/StringUTF16" (63 : Nat) "java/lang/StringUTF16" "LO_BYTE_SHIFT" "I") ∈ WS := ws_c2 81 rfl rfl
theorem wd_403 : (Jvm.Cond.code ({ cls := "java/lang/StringUTF16", name := "checkIndex", desc := "(I[B)V" } : Jvm.MethodName) prog_18_method_91_code (2 : Nat) (Option.none : Option Jvm.ClassFile.FieldType)) ∈ WS := ws_c2 69 rfl rfl
theorem wd_401 : (Jvm.Cond.methodLink "java/lang/StringUTF16" (67 : Nat) ({ cls := "java/lang/StringUTF16", name := "checkIndex", desc := "(I[B)V" } : Jvm.MethodName)) ∈ WS := ws_c2 67 rfl rfl
theorem wd_402 : (Jvm.Cond.static ({ cls := "java/lang/StringUTF16", name := "checkIndex", desc := "(I[B)V" } : Jvm.MethodName)) ∈ WS := ws_c2 68 rfl rfl
theorem lk_J2_67 : LkS RJ2 67 jJ2_checkIndex_2214a 2 := ⟨⟨wd_401, ⟨rfl, (by rw [cwd_nil rfl]; exact wd_403)⟩, wd_106, ⟨by decide +kernel, by decide +kernel⟩, by decide +kernel⟩, wd_402⟩
theorem wd_410 : (Jvm.Cond.code ({ cls := "java/lang/StringUTF16", name := "getChar", desc := "([BI)C" } : Jvm.MethodName) prog_18_method_5_code (2 : Nat) (Option.some Jvm.ClassFile.FieldType.char)) ∈ WS := ws_c2 76 rfl rfl
theorem wd_408 : (Jvm.Cond.methodLink "java/lang/StringUTF16" (71 : Nat) ({ cls := "java/lang/StringUTF16", name := "getChar", desc := "([BI)C" } : Jvm.MethodName)) ∈ WS := ws_c2 74 rfl rfl
theorem wd_409 : (Jvm.Cond.static ({ cls := "java/lang/StringUTF16", name := "getChar", desc := "([BI)C" } : Jvm.MethodName)) ∈ WS := ws_c2 75 rfl rfl
theorem lk_J2_71 : LkS RJ2 71 jJ2_getChar_3b067 2 := ⟨⟨wd_408, ⟨rfl, (by rw [cwd_nil rfl]; exact wd_410)⟩, wd_106, ⟨by decide +kernel, by decide +kernel⟩, by decide +kernel⟩, wd_409⟩
theorem wd_407 : (Jvm.Cond.methodLink "java/lang/StringUTF16" (414 : Nat) ({ cls := "java/lang/String", name := "checkIndex", desc := "(II)V" } : Jvm.MethodName)) ∈ WS := ws_c2 73 rfl rfl
theorem lk_J2_414 : LkS RJ2 414 jJ0_checkIndex_df160 2 := ⟨⟨wd_407, ⟨rfl, (by rw [cwd_nil rfl]; exact wd_392)⟩, wd_103, ⟨by decide +kernel, by decide +kernel⟩, by decide +kernel⟩, wd_391⟩
