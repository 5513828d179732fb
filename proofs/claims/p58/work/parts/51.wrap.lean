/-! the law's wrappers -/
section
variable {l : Launch} {M M1 : Mem}
theorem wl_13 : (Jvm.Cond.classLink "BitDeskLaw" (13 : Nat) "java/lang/IllegalArgumentException") ∈ WS := ws_c2 201 rfl rfl
theorem hn_count_1 : Hnd jL_count 4 xIA 12 := ⟨Or.inr rfl, [], (0, 9, 12, 13), [], rfl, fun z hz => absurd hz List.not_mem_nil, by decide, by decide, wl_13, rfl⟩
theorem w_count {x0 : Int32} {v : Int32} (h : EvR l jX6_count 7 120 1 6 [.ref 0, .int x0] M (.inl (some (.int v))) M1) (hk : (mK M)[0]? = some (.inr 6)) (ho : (mK M1)[212]? = some (kL 1)) : EvR l jL_count 8 141 1 6 [.ref 0, .int x0, .ref 212] M (.inl (some (.int 0))) (pL M1 212 0 v.toInt64) := by
  refine ev_introW rfl (nb rfl) (by decide) ?_
  refine g_aload_n (pc := 0) dL_count_0 rfl trivial ?_
  refine g_iconst (pc := 1) (v := 0) dL_count_1 rfl ?_
  refine g_aload_n (pc := 2) dL_count_2 rfl trivial ?_
  refine g_iload_n (pc := 3) dL_count_3 rfl ?_
  refine g_tV_r (pc := 4) (As := [_]) dL_count_4 rfl (h) rfl rfl hk rfl rfl lk_L_7 rfl (nb rfl) ⟨nb rfl, nb rfl⟩ (by decide) ?_
  refine g_i2l (pc := 7) dL_count_7 rfl ?_
  refine g_lastore (pc := 8) dL_count_8 ho rfl (nb rfl) (nl rfl) ?_
  refine g_goto (pc := 9) (tgt := 15) dL_count_9 rfl ?_
  refine g_iconst (pc := 15) (v := 0) dL_count_15 rfl ?_
  refine g_ireturn (pc := 16) dL_count_16 rfl rfl ?_
  exact ⟨rfl, rfl⟩
theorem wx_count {x0 : Int32} (h : EvR l jX6_count 7 120 1 6 [.ref 0, .int x0] M (.inr xIA) M1) (hk : (mK M)[0]? = some (.inr 6)) : EvR l jL_count 8 141 1 6 [.ref 0, .int x0, .ref 212] M (.inl (some (.int 1))) M1 := by
  refine ev_introW rfl (nb rfl) (by decide) ?_
  refine g_aload_n (pc := 0) dL_count_0 rfl trivial ?_
  refine g_iconst (pc := 1) (v := 0) dL_count_1 rfl ?_
  refine g_aload_n (pc := 2) dL_count_2 rfl trivial ?_
  refine g_iload_n (pc := 3) dL_count_3 rfl ?_
  refine g_tVn_x (pc := 4) (As := [_]) (hpc := 12) dL_count_4 rfl (h) rfl rfl hk rfl rfl lk_L_7 rfl (nb rfl) ⟨nb rfl, nb rfl⟩ (hn_count_1) dL_count_12 (by decide) ?_
  refine g_iconst (pc := 13) (v := 1) dL_count_13 rfl ?_
  refine g_ireturn (pc := 14) dL_count_14 rfl rfl ?_
  exact ⟨rfl, rfl⟩
theorem wl_19 : (Jvm.Cond.classLink "BitDeskLaw" (19 : Nat) "java/lang/IndexOutOfBoundsException") ∈ WS := ws_c3 43 rfl rfl
theorem hn_bit_1 : Hnd jL_bit 7 xIO 15 := ⟨Or.inl rfl, [], (0, 12, 15, 19), [], rfl, fun z hz => absurd hz List.not_mem_nil, by decide, by decide, wl_19, rfl⟩
theorem w_bit {x0 : Int32} {x1 : Int32} {x2 : Int32} {v : Int32} (h : EvR l jX6_bit 9 160 3 18 [.ref 0, .int x0, .int x1, .int x2] M (.inl (some (.int v))) M1) (hk : (mK M)[0]? = some (.inr 6)) (ho : (mK M1)[212]? = some (kL 1)) : EvR l jL_bit 10 183 3 18 [.ref 0, .int x0, .int x1, .int x2, .ref 212] M (.inl (some (.int 0))) (pL M1 212 0 v.toInt64) := by
  refine ev_introW rfl (nb rfl) (by decide) ?_
  refine g_aload (pc := 0) dL_bit_0 rfl trivial ?_
  refine g_iconst (pc := 2) (v := 0) dL_bit_2 rfl ?_
  refine g_aload_n (pc := 3) dL_bit_3 rfl trivial ?_
  refine g_iload_n (pc := 4) dL_bit_4 rfl ?_
  refine g_iload_n (pc := 5) dL_bit_5 rfl ?_
  refine g_iload_n (pc := 6) dL_bit_6 rfl ?_
  refine g_tV_r (pc := 7) (As := [_, _, _]) dL_bit_7 rfl (h) rfl rfl hk rfl rfl lk_L_15 rfl (nb rfl) ⟨nb rfl, nb rfl⟩ (by decide) ?_
  refine g_i2l (pc := 10) dL_bit_10 rfl ?_
  refine g_lastore (pc := 11) dL_bit_11 ho rfl (nb rfl) (nl rfl) ?_
  refine g_goto (pc := 12) (tgt := 19) dL_bit_12 rfl ?_
  refine g_iconst (pc := 19) (v := 0) dL_bit_19 rfl ?_
  refine g_ireturn (pc := 20) dL_bit_20 rfl rfl ?_
  exact ⟨rfl, rfl⟩
theorem wx_bit {x0 : Int32} {x1 : Int32} {x2 : Int32} (h : EvR l jX6_bit 9 160 3 18 [.ref 0, .int x0, .int x1, .int x2] M (.inr xIO) M1) (hk : (mK M)[0]? = some (.inr 6)) : EvR l jL_bit 10 183 3 18 [.ref 0, .int x0, .int x1, .int x2, .ref 212] M (.inl (some (.int 1))) M1 := by
  refine ev_introW rfl (nb rfl) (by decide) ?_
  refine g_aload (pc := 0) dL_bit_0 rfl trivial ?_
  refine g_iconst (pc := 2) (v := 0) dL_bit_2 rfl ?_
  refine g_aload_n (pc := 3) dL_bit_3 rfl trivial ?_
  refine g_iload_n (pc := 4) dL_bit_4 rfl ?_
  refine g_iload_n (pc := 5) dL_bit_5 rfl ?_
  refine g_iload_n (pc := 6) dL_bit_6 rfl ?_
  refine g_tVw_x (pc := 7) (As := [_, _, _]) (hpc := 15) dL_bit_7 rfl (h) rfl rfl hk rfl rfl lk_L_15 rfl (nb rfl) ⟨nb rfl, nb rfl⟩ (hn_bit_1) dL_bit_15 (by decide) ?_
  refine g_iconst (pc := 17) (v := 1) dL_bit_17 rfl ?_
  refine g_ireturn (pc := 18) dL_bit_18 rfl rfl ?_
  exact ⟨rfl, rfl⟩
theorem hn_row_1 : Hnd jL_row 5 xIO 12 := ⟨Or.inl rfl, [], (0, 9, 12, 19), [], rfl, fun z hz => absurd hz List.not_mem_nil, by decide, by decide, wl_19, rfl⟩
theorem w_row {x0 : Int32} {x1 : Int32} {v : Int64} (h : EvR l jX6_row 8 140 2 12 [.ref 0, .int x0, .int x1] M (.inl (some (.long v))) M1) (hk : (mK M)[0]? = some (.inr 6)) (ho : (mK M1)[212]? = some (kL 1)) : EvR l jL_row 9 162 2 12 [.ref 0, .int x0, .int x1, .ref 212] M (.inl (some (.int 0))) (pL M1 212 0 v) := by
  refine ev_introW rfl (nb rfl) (by decide) ?_
  refine g_aload_n (pc := 0) dL_row_0 rfl trivial ?_
  refine g_iconst (pc := 1) (v := 0) dL_row_1 rfl ?_
  refine g_aload_n (pc := 2) dL_row_2 rfl trivial ?_
  refine g_iload_n (pc := 3) dL_row_3 rfl ?_
  refine g_iload_n (pc := 4) dL_row_4 rfl ?_
  refine g_tV_r (pc := 5) (As := [_, _]) dL_row_5 rfl (h) rfl rfl hk rfl rfl lk_L_21 rfl (nb rfl) ⟨nb rfl, nb rfl⟩ (by decide) ?_
  refine g_lastore (pc := 8) dL_row_8 ho rfl (nb rfl) (nl rfl) ?_
  refine g_goto (pc := 9) (tgt := 16) dL_row_9 rfl ?_
  refine g_iconst (pc := 16) (v := 0) dL_row_16 rfl ?_
  refine g_ireturn (pc := 17) dL_row_17 rfl rfl ?_
  exact ⟨rfl, rfl⟩
theorem wx_row {x0 : Int32} {x1 : Int32} (h : EvR l jX6_row 8 140 2 12 [.ref 0, .int x0, .int x1] M (.inr xIO) M1) (hk : (mK M)[0]? = some (.inr 6)) : EvR l jL_row 9 162 2 12 [.ref 0, .int x0, .int x1, .ref 212] M (.inl (some (.int 1))) M1 := by
  refine ev_introW rfl (nb rfl) (by decide) ?_
  refine g_aload_n (pc := 0) dL_row_0 rfl trivial ?_
  refine g_iconst (pc := 1) (v := 0) dL_row_1 rfl ?_
  refine g_aload_n (pc := 2) dL_row_2 rfl trivial ?_
  refine g_iload_n (pc := 3) dL_row_3 rfl ?_
  refine g_iload_n (pc := 4) dL_row_4 rfl ?_
  refine g_tVw_x (pc := 5) (As := [_, _]) (hpc := 12) dL_row_5 rfl (h) rfl rfl hk rfl rfl lk_L_21 rfl (nb rfl) ⟨nb rfl, nb rfl⟩ (hn_row_1) dL_row_12 (by decide) ?_
  refine g_iconst (pc := 14) (v := 1) dL_row_14 rfl ?_
  refine g_ireturn (pc := 15) dL_row_15 rfl rfl ?_
  exact ⟨rfl, rfl⟩
theorem hn_rank_1 : Hnd jL_rank 7 xIO 15 := ⟨Or.inl rfl, [], (0, 12, 15, 19), [(0, 12, 19, 13)], rfl, fun z hz => absurd hz List.not_mem_nil, by decide, by decide, wl_19, rfl⟩
theorem hn_rank_2 : Hnd jL_rank 7 xIA 19 := ⟨Or.inr rfl, [(0, 12, 15, 19)], (0, 12, 19, 13), [], rfl, fun z hz => by cases List.mem_singleton.mp hz; exact ⟨rfl, by decide, wl_19⟩, by decide, by decide, wl_13, rfl⟩
theorem w_rank {x0 : Int32} {x1 : Int32} {x2 : Int32} {v : Int32} (h : EvR l jX6_rank 8 140 3 18 [.ref 0, .int x0, .int x1, .int x2] M (.inl (some (.int v))) M1) (hk : (mK M)[0]? = some (.inr 6)) (ho : (mK M1)[212]? = some (kL 1)) : EvR l jL_rank 9 163 3 18 [.ref 0, .int x0, .int x1, .int x2, .ref 212] M (.inl (some (.int 0))) (pL M1 212 0 v.toInt64) := by
  refine ev_introW rfl (nb rfl) (by decide) ?_
  refine g_aload (pc := 0) dL_rank_0 rfl trivial ?_
  refine g_iconst (pc := 2) (v := 0) dL_rank_2 rfl ?_
  refine g_aload_n (pc := 3) dL_rank_3 rfl trivial ?_
  refine g_iload_n (pc := 4) dL_rank_4 rfl ?_
  refine g_iload_n (pc := 5) dL_rank_5 rfl ?_
  refine g_iload_n (pc := 6) dL_rank_6 rfl ?_
  refine g_tV_r (pc := 7) (As := [_, _, _]) dL_rank_7 rfl (h) rfl rfl hk rfl rfl lk_L_25 rfl (nb rfl) ⟨nb rfl, nb rfl⟩ (by decide) ?_
  refine g_i2l (pc := 10) dL_rank_10 rfl ?_
  refine g_lastore (pc := 11) dL_rank_11 ho rfl (nb rfl) (nl rfl) ?_
  refine g_goto (pc := 12) (tgt := 23) dL_rank_12 rfl ?_
  refine g_iconst (pc := 23) (v := 0) dL_rank_23 rfl ?_
  refine g_ireturn (pc := 24) dL_rank_24 rfl rfl ?_
  exact ⟨rfl, rfl⟩
theorem wx_rank {x0 : Int32} {x1 : Int32} {x2 : Int32} (h : EvR l jX6_rank 8 140 3 18 [.ref 0, .int x0, .int x1, .int x2] M (.inr xIO) M1) (hk : (mK M)[0]? = some (.inr 6)) : EvR l jL_rank 9 163 3 18 [.ref 0, .int x0, .int x1, .int x2, .ref 212] M (.inl (some (.int 1))) M1 := by
  refine ev_introW rfl (nb rfl) (by decide) ?_
  refine g_aload (pc := 0) dL_rank_0 rfl trivial ?_
  refine g_iconst (pc := 2) (v := 0) dL_rank_2 rfl ?_
  refine g_aload_n (pc := 3) dL_rank_3 rfl trivial ?_
  refine g_iload_n (pc := 4) dL_rank_4 rfl ?_
  refine g_iload_n (pc := 5) dL_rank_5 rfl ?_
  refine g_iload_n (pc := 6) dL_rank_6 rfl ?_
  refine g_tVw_x (pc := 7) (As := [_, _, _]) (hpc := 15) dL_rank_7 rfl (h) rfl rfl hk rfl rfl lk_L_25 rfl (nb rfl) ⟨nb rfl, nb rfl⟩ (hn_rank_1) dL_rank_15 (by decide) ?_
  refine g_iconst (pc := 17) (v := 1) dL_rank_17 rfl ?_
  refine g_ireturn (pc := 18) dL_rank_18 rfl rfl ?_
  exact ⟨rfl, rfl⟩
theorem wy_rank {x0 : Int32} {x1 : Int32} {x2 : Int32} (h : EvR l jX6_rank 8 140 3 18 [.ref 0, .int x0, .int x1, .int x2] M (.inr xIA) M1) (hk : (mK M)[0]? = some (.inr 6)) : EvR l jL_rank 9 163 3 18 [.ref 0, .int x0, .int x1, .int x2, .ref 212] M (.inl (some (.int 2))) M1 := by
  refine ev_introW rfl (nb rfl) (by decide) ?_
  refine g_aload (pc := 0) dL_rank_0 rfl trivial ?_
  refine g_iconst (pc := 2) (v := 0) dL_rank_2 rfl ?_
  refine g_aload_n (pc := 3) dL_rank_3 rfl trivial ?_
  refine g_iload_n (pc := 4) dL_rank_4 rfl ?_
  refine g_iload_n (pc := 5) dL_rank_5 rfl ?_
  refine g_iload_n (pc := 6) dL_rank_6 rfl ?_
  refine g_tVw_x (pc := 7) (As := [_, _, _]) (hpc := 19) dL_rank_7 rfl (h) rfl rfl hk rfl rfl lk_L_25 rfl (nb rfl) ⟨nb rfl, nb rfl⟩ (hn_rank_2) dL_rank_19 (by decide) ?_
  refine g_iconst (pc := 21) (v := 2) dL_rank_21 rfl ?_
  refine g_ireturn (pc := 22) dL_rank_22 rfl rfl ?_
  exact ⟨rfl, rfl⟩
theorem hn_select_1 : Hnd jL_select 7 xIO 15 := ⟨Or.inl rfl, [], (0, 12, 15, 19), [], rfl, fun z hz => absurd hz List.not_mem_nil, by decide, by decide, wl_19, rfl⟩
theorem w_select {x0 : Int32} {x1 : Int32} {x2 : Int32} {v : Int32} (h : EvR l jX6_select 8 140 2 12 [.ref 0, .int x0, .int x1, .int x2] M (.inl (some (.int v))) M1) (hk : (mK M)[0]? = some (.inr 6)) (ho : (mK M1)[212]? = some (kL 1)) : EvR l jL_select 9 163 2 12 [.ref 0, .int x0, .int x1, .int x2, .ref 212] M (.inl (some (.int 0))) (pL M1 212 0 v.toInt64) := by
  refine ev_introW rfl (nb rfl) (by decide) ?_
  refine g_aload (pc := 0) dL_select_0 rfl trivial ?_
  refine g_iconst (pc := 2) (v := 0) dL_select_2 rfl ?_
  refine g_aload_n (pc := 3) dL_select_3 rfl trivial ?_
  refine g_iload_n (pc := 4) dL_select_4 rfl ?_
  refine g_iload_n (pc := 5) dL_select_5 rfl ?_
  refine g_iload_n (pc := 6) dL_select_6 rfl ?_
  refine g_tV_r (pc := 7) (As := [_, _, _]) dL_select_7 rfl (h) rfl rfl hk rfl rfl lk_L_28 rfl (nb rfl) ⟨nb rfl, nb rfl⟩ (by decide) ?_
  refine g_i2l (pc := 10) dL_select_10 rfl ?_
  refine g_lastore (pc := 11) dL_select_11 ho rfl (nb rfl) (nl rfl) ?_
  refine g_goto (pc := 12) (tgt := 19) dL_select_12 rfl ?_
  refine g_iconst (pc := 19) (v := 0) dL_select_19 rfl ?_
  refine g_ireturn (pc := 20) dL_select_20 rfl rfl ?_
  exact ⟨rfl, rfl⟩
theorem wx_select {x0 : Int32} {x1 : Int32} {x2 : Int32} (h : EvR l jX6_select 8 140 2 12 [.ref 0, .int x0, .int x1, .int x2] M (.inr xIO) M1) (hk : (mK M)[0]? = some (.inr 6)) : EvR l jL_select 9 163 2 12 [.ref 0, .int x0, .int x1, .int x2, .ref 212] M (.inl (some (.int 1))) M1 := by
  refine ev_introW rfl (nb rfl) (by decide) ?_
  refine g_aload (pc := 0) dL_select_0 rfl trivial ?_
  refine g_iconst (pc := 2) (v := 0) dL_select_2 rfl ?_
  refine g_aload_n (pc := 3) dL_select_3 rfl trivial ?_
  refine g_iload_n (pc := 4) dL_select_4 rfl ?_
  refine g_iload_n (pc := 5) dL_select_5 rfl ?_
  refine g_iload_n (pc := 6) dL_select_6 rfl ?_
  refine g_tVw_x (pc := 7) (As := [_, _, _]) (hpc := 15) dL_select_7 rfl (h) rfl rfl hk rfl rfl lk_L_28 rfl (nb rfl) ⟨nb rfl, nb rfl⟩ (hn_select_1) dL_select_15 (by decide) ?_
  refine g_iconst (pc := 17) (v := 1) dL_select_17 rfl ?_
  refine g_ireturn (pc := 18) dL_select_18 rfl rfl ?_
  exact ⟨rfl, rfl⟩
theorem hn_ones_1 : Hnd jL_ones 4 xIO 12 := ⟨Or.inl rfl, [], (0, 9, 12, 19), [], rfl, fun z hz => absurd hz List.not_mem_nil, by decide, by decide, wl_19, rfl⟩
theorem w_ones {x0 : Int32} {v : Int32} (h : EvR l jX6_ones 7 120 1 6 [.ref 0, .int x0] M (.inl (some (.int v))) M1) (hk : (mK M)[0]? = some (.inr 6)) (ho : (mK M1)[212]? = some (kL 1)) : EvR l jL_ones 8 141 1 6 [.ref 0, .int x0, .ref 212] M (.inl (some (.int 0))) (pL M1 212 0 v.toInt64) := by
  refine ev_introW rfl (nb rfl) (by decide) ?_
  refine g_aload_n (pc := 0) dL_ones_0 rfl trivial ?_
  refine g_iconst (pc := 1) (v := 0) dL_ones_1 rfl ?_
  refine g_aload_n (pc := 2) dL_ones_2 rfl trivial ?_
  refine g_iload_n (pc := 3) dL_ones_3 rfl ?_
  refine g_tV_r (pc := 4) (As := [_]) dL_ones_4 rfl (h) rfl rfl hk rfl rfl lk_L_31 rfl (nb rfl) ⟨nb rfl, nb rfl⟩ (by decide) ?_
  refine g_i2l (pc := 7) dL_ones_7 rfl ?_
  refine g_lastore (pc := 8) dL_ones_8 ho rfl (nb rfl) (nl rfl) ?_
  refine g_goto (pc := 9) (tgt := 15) dL_ones_9 rfl ?_
  refine g_iconst (pc := 15) (v := 0) dL_ones_15 rfl ?_
  refine g_ireturn (pc := 16) dL_ones_16 rfl rfl ?_
  exact ⟨rfl, rfl⟩
theorem wx_ones {x0 : Int32} (h : EvR l jX6_ones 7 120 1 6 [.ref 0, .int x0] M (.inr xIO) M1) (hk : (mK M)[0]? = some (.inr 6)) : EvR l jL_ones 8 141 1 6 [.ref 0, .int x0, .ref 212] M (.inl (some (.int 1))) M1 := by
  refine ev_introW rfl (nb rfl) (by decide) ?_
  refine g_aload_n (pc := 0) dL_ones_0 rfl trivial ?_
  refine g_iconst (pc := 1) (v := 0) dL_ones_1 rfl ?_
  refine g_aload_n (pc := 2) dL_ones_2 rfl trivial ?_
  refine g_iload_n (pc := 3) dL_ones_3 rfl ?_
  refine g_tVn_x (pc := 4) (As := [_]) (hpc := 12) dL_ones_4 rfl (h) rfl rfl hk rfl rfl lk_L_31 rfl (nb rfl) ⟨nb rfl, nb rfl⟩ (hn_ones_1) dL_ones_12 (by decide) ?_
  refine g_iconst (pc := 13) (v := 1) dL_ones_13 rfl ?_
  refine g_ireturn (pc := 14) dL_ones_14 rfl rfl ?_
  exact ⟨rfl, rfl⟩
theorem hn_columnOnes_1 : Hnd jL_columnOnes 5 xIO 13 := ⟨Or.inl rfl, [], (0, 10, 13, 19), [], rfl, fun z hz => absurd hz List.not_mem_nil, by decide, by decide, wl_19, rfl⟩
theorem w_columnOnes {x0 : Int32} {x1 : Int32} {v : Int32} (h : EvR l jX6_columnOnes 8 140 2 12 [.ref 0, .int x0, .int x1] M (.inl (some (.int v))) M1) (hk : (mK M)[0]? = some (.inr 6)) (ho : (mK M1)[212]? = some (kL 1)) : EvR l jL_columnOnes 9 162 2 12 [.ref 0, .int x0, .int x1, .ref 212] M (.inl (some (.int 0))) (pL M1 212 0 v.toInt64) := by
  refine ev_introW rfl (nb rfl) (by decide) ?_
  refine g_aload_n (pc := 0) dL_columnOnes_0 rfl trivial ?_
  refine g_iconst (pc := 1) (v := 0) dL_columnOnes_1 rfl ?_
  refine g_aload_n (pc := 2) dL_columnOnes_2 rfl trivial ?_
  refine g_iload_n (pc := 3) dL_columnOnes_3 rfl ?_
  refine g_iload_n (pc := 4) dL_columnOnes_4 rfl ?_
  refine g_tV_r (pc := 5) (As := [_, _]) dL_columnOnes_5 rfl (h) rfl rfl hk rfl rfl lk_L_34 rfl (nb rfl) ⟨nb rfl, nb rfl⟩ (by decide) ?_
  refine g_i2l (pc := 8) dL_columnOnes_8 rfl ?_
  refine g_lastore (pc := 9) dL_columnOnes_9 ho rfl (nb rfl) (nl rfl) ?_
  refine g_goto (pc := 10) (tgt := 17) dL_columnOnes_10 rfl ?_
  refine g_iconst (pc := 17) (v := 0) dL_columnOnes_17 rfl ?_
  refine g_ireturn (pc := 18) dL_columnOnes_18 rfl rfl ?_
  exact ⟨rfl, rfl⟩
theorem wx_columnOnes {x0 : Int32} {x1 : Int32} (h : EvR l jX6_columnOnes 8 140 2 12 [.ref 0, .int x0, .int x1] M (.inr xIO) M1) (hk : (mK M)[0]? = some (.inr 6)) : EvR l jL_columnOnes 9 162 2 12 [.ref 0, .int x0, .int x1, .ref 212] M (.inl (some (.int 1))) M1 := by
  refine ev_introW rfl (nb rfl) (by decide) ?_
  refine g_aload_n (pc := 0) dL_columnOnes_0 rfl trivial ?_
  refine g_iconst (pc := 1) (v := 0) dL_columnOnes_1 rfl ?_
  refine g_aload_n (pc := 2) dL_columnOnes_2 rfl trivial ?_
  refine g_iload_n (pc := 3) dL_columnOnes_3 rfl ?_
  refine g_iload_n (pc := 4) dL_columnOnes_4 rfl ?_
  refine g_tVw_x (pc := 5) (As := [_, _]) (hpc := 13) dL_columnOnes_5 rfl (h) rfl rfl hk rfl rfl lk_L_34 rfl (nb rfl) ⟨nb rfl, nb rfl⟩ (hn_columnOnes_1) dL_columnOnes_13 (by decide) ?_
  refine g_iconst (pc := 15) (v := 1) dL_columnOnes_15 rfl ?_
  refine g_ireturn (pc := 16) dL_columnOnes_16 rfl rfl ?_
  exact ⟨rfl, rfl⟩
theorem hn_sameAs_1 : Hnd jL_sameAs 5 xIO 13 := ⟨Or.inl rfl, [], (0, 10, 13, 19), [], rfl, fun z hz => absurd hz List.not_mem_nil, by decide, by decide, wl_19, rfl⟩
theorem w_sameAs {x0 : Int32} {x1 : Int32} {v : Int32} (h : EvR l jX6_sameAs 8 140 2 12 [.ref 0, .int x0, .int x1] M (.inl (some (.int v))) M1) (hk : (mK M)[0]? = some (.inr 6)) (ho : (mK M1)[212]? = some (kL 1)) : EvR l jL_sameAs 9 162 2 12 [.ref 0, .int x0, .int x1, .ref 212] M (.inl (some (.int 0))) (pL M1 212 0 v.toInt64) := by
  refine ev_introW rfl (nb rfl) (by decide) ?_
  refine g_aload_n (pc := 0) dL_sameAs_0 rfl trivial ?_
  refine g_iconst (pc := 1) (v := 0) dL_sameAs_1 rfl ?_
  refine g_aload_n (pc := 2) dL_sameAs_2 rfl trivial ?_
  refine g_iload_n (pc := 3) dL_sameAs_3 rfl ?_
  refine g_iload_n (pc := 4) dL_sameAs_4 rfl ?_
  refine g_tV_r (pc := 5) (As := [_, _]) dL_sameAs_5 rfl (h) rfl rfl hk rfl rfl lk_L_38 rfl (nb rfl) ⟨nb rfl, nb rfl⟩ (by decide) ?_
  refine g_i2l (pc := 8) dL_sameAs_8 rfl ?_
  refine g_lastore (pc := 9) dL_sameAs_9 ho rfl (nb rfl) (nl rfl) ?_
  refine g_goto (pc := 10) (tgt := 17) dL_sameAs_10 rfl ?_
  refine g_iconst (pc := 17) (v := 0) dL_sameAs_17 rfl ?_
  refine g_ireturn (pc := 18) dL_sameAs_18 rfl rfl ?_
  exact ⟨rfl, rfl⟩
theorem wx_sameAs {x0 : Int32} {x1 : Int32} (h : EvR l jX6_sameAs 8 140 2 12 [.ref 0, .int x0, .int x1] M (.inr xIO) M1) (hk : (mK M)[0]? = some (.inr 6)) : EvR l jL_sameAs 9 162 2 12 [.ref 0, .int x0, .int x1, .ref 212] M (.inl (some (.int 1))) M1 := by
  refine ev_introW rfl (nb rfl) (by decide) ?_
  refine g_aload_n (pc := 0) dL_sameAs_0 rfl trivial ?_
  refine g_iconst (pc := 1) (v := 0) dL_sameAs_1 rfl ?_
  refine g_aload_n (pc := 2) dL_sameAs_2 rfl trivial ?_
  refine g_iload_n (pc := 3) dL_sameAs_3 rfl ?_
  refine g_iload_n (pc := 4) dL_sameAs_4 rfl ?_
  refine g_tVw_x (pc := 5) (As := [_, _]) (hpc := 13) dL_sameAs_5 rfl (h) rfl rfl hk rfl rfl lk_L_38 rfl (nb rfl) ⟨nb rfl, nb rfl⟩ (hn_sameAs_1) dL_sameAs_13 (by decide) ?_
  refine g_iconst (pc := 15) (v := 1) dL_sameAs_15 rfl ?_
  refine g_ireturn (pc := 16) dL_sameAs_16 rfl rfl ?_
  exact ⟨rfl, rfl⟩
theorem hn_classes_1 : Hnd jL_classes 4 xIO 12 := ⟨Or.inl rfl, [], (0, 9, 12, 19), [], rfl, fun z hz => absurd hz List.not_mem_nil, by decide, by decide, wl_19, rfl⟩
theorem w_classes {x0 : Int32} {v : Int32} (h : EvR l jX6_classes 7 120 1 6 [.ref 0, .int x0] M (.inl (some (.int v))) M1) (hk : (mK M)[0]? = some (.inr 6)) (ho : (mK M1)[212]? = some (kL 1)) : EvR l jL_classes 8 141 1 6 [.ref 0, .int x0, .ref 212] M (.inl (some (.int 0))) (pL M1 212 0 v.toInt64) := by
  refine ev_introW rfl (nb rfl) (by decide) ?_
  refine g_aload_n (pc := 0) dL_classes_0 rfl trivial ?_
  refine g_iconst (pc := 1) (v := 0) dL_classes_1 rfl ?_
  refine g_aload_n (pc := 2) dL_classes_2 rfl trivial ?_
  refine g_iload_n (pc := 3) dL_classes_3 rfl ?_
  refine g_tV_r (pc := 4) (As := [_]) dL_classes_4 rfl (h) rfl rfl hk rfl rfl lk_L_41 rfl (nb rfl) ⟨nb rfl, nb rfl⟩ (by decide) ?_
  refine g_i2l (pc := 7) dL_classes_7 rfl ?_
  refine g_lastore (pc := 8) dL_classes_8 ho rfl (nb rfl) (nl rfl) ?_
  refine g_goto (pc := 9) (tgt := 15) dL_classes_9 rfl ?_
  refine g_iconst (pc := 15) (v := 0) dL_classes_15 rfl ?_
  refine g_ireturn (pc := 16) dL_classes_16 rfl rfl ?_
  exact ⟨rfl, rfl⟩
theorem wx_classes {x0 : Int32} (h : EvR l jX6_classes 7 120 1 6 [.ref 0, .int x0] M (.inr xIO) M1) (hk : (mK M)[0]? = some (.inr 6)) : EvR l jL_classes 8 141 1 6 [.ref 0, .int x0, .ref 212] M (.inl (some (.int 1))) M1 := by
  refine ev_introW rfl (nb rfl) (by decide) ?_
  refine g_aload_n (pc := 0) dL_classes_0 rfl trivial ?_
  refine g_iconst (pc := 1) (v := 0) dL_classes_1 rfl ?_
  refine g_aload_n (pc := 2) dL_classes_2 rfl trivial ?_
  refine g_iload_n (pc := 3) dL_classes_3 rfl ?_
  refine g_tVn_x (pc := 4) (As := [_]) (hpc := 12) dL_classes_4 rfl (h) rfl rfl hk rfl rfl lk_L_41 rfl (nb rfl) ⟨nb rfl, nb rfl⟩ (hn_classes_1) dL_classes_12 (by decide) ?_
  refine g_iconst (pc := 13) (v := 1) dL_classes_13 rfl ?_
  refine g_ireturn (pc := 14) dL_classes_14 rfl rfl ?_
  exact ⟨rfl, rfl⟩
theorem hn_classOf_1 : Hnd jL_classOf 5 xIO 13 := ⟨Or.inl rfl, [], (0, 10, 13, 19), [], rfl, fun z hz => absurd hz List.not_mem_nil, by decide, by decide, wl_19, rfl⟩
theorem w_classOf {x0 : Int32} {x1 : Int32} {v : Int32} (h : EvR l jX6_classOf 8 140 2 12 [.ref 0, .int x0, .int x1] M (.inl (some (.int v))) M1) (hk : (mK M)[0]? = some (.inr 6)) (ho : (mK M1)[212]? = some (kL 1)) : EvR l jL_classOf 9 163 2 12 [.ref 0, .int x0, .int x1, .ref 212] M (.inl (some (.int 0))) (pL M1 212 0 v.toInt64) := by
  refine ev_introW rfl (nb rfl) (by decide) ?_
  refine g_aload_n (pc := 0) dL_classOf_0 rfl trivial ?_
  refine g_iconst (pc := 1) (v := 0) dL_classOf_1 rfl ?_
  refine g_aload_n (pc := 2) dL_classOf_2 rfl trivial ?_
  refine g_iload_n (pc := 3) dL_classOf_3 rfl ?_
  refine g_iload_n (pc := 4) dL_classOf_4 rfl ?_
  refine g_tV_r (pc := 5) (As := [_, _]) dL_classOf_5 rfl (h) rfl rfl hk rfl rfl lk_L_44 rfl (nb rfl) ⟨nb rfl, nb rfl⟩ (by decide) ?_
  refine g_i2l (pc := 8) dL_classOf_8 rfl ?_
  refine g_lastore (pc := 9) dL_classOf_9 ho rfl (nb rfl) (nl rfl) ?_
  refine g_goto (pc := 10) (tgt := 17) dL_classOf_10 rfl ?_
  refine g_iconst (pc := 17) (v := 0) dL_classOf_17 rfl ?_
  refine g_ireturn (pc := 18) dL_classOf_18 rfl rfl ?_
  exact ⟨rfl, rfl⟩
theorem wx_classOf {x0 : Int32} {x1 : Int32} (h : EvR l jX6_classOf 8 140 2 12 [.ref 0, .int x0, .int x1] M (.inr xIO) M1) (hk : (mK M)[0]? = some (.inr 6)) : EvR l jL_classOf 9 163 2 12 [.ref 0, .int x0, .int x1, .ref 212] M (.inl (some (.int 1))) M1 := by
  refine ev_introW rfl (nb rfl) (by decide) ?_
  refine g_aload_n (pc := 0) dL_classOf_0 rfl trivial ?_
  refine g_iconst (pc := 1) (v := 0) dL_classOf_1 rfl ?_
  refine g_aload_n (pc := 2) dL_classOf_2 rfl trivial ?_
  refine g_iload_n (pc := 3) dL_classOf_3 rfl ?_
  refine g_iload_n (pc := 4) dL_classOf_4 rfl ?_
  refine g_tVw_x (pc := 5) (As := [_, _]) (hpc := 13) dL_classOf_5 rfl (h) rfl rfl hk rfl rfl lk_L_44 rfl (nb rfl) ⟨nb rfl, nb rfl⟩ (hn_classOf_1) dL_classOf_13 (by decide) ?_
  refine g_iconst (pc := 15) (v := 1) dL_classOf_15 rfl ?_
  refine g_ireturn (pc := 16) dL_classOf_16 rfl rfl ?_
  exact ⟨rfl, rfl⟩
theorem hn_find_1 : Hnd jL_find 6 xIO 14 := ⟨Or.inl rfl, [], (0, 11, 14, 19), [], rfl, fun z hz => absurd hz List.not_mem_nil, by decide, by decide, wl_19, rfl⟩
theorem w_find {x0 : Int32} {x1 : Int64} {v : Int32} (h : EvR l jX6_find 7 120 1 6 [.ref 0, .int x0, .long x1] M (.inl (some (.int v))) M1) (hk : (mK M)[0]? = some (.inr 6)) (ho : (mK M1)[212]? = some (kL 1)) : EvR l jL_find 8 143 1 6 [.ref 0, .int x0, .long x1, .ref 212] M (.inl (some (.int 0))) (pL M1 212 0 v.toInt64) := by
  refine ev_introW rfl (nb rfl) (by decide) ?_
  refine g_aload (pc := 0) dL_find_0 rfl trivial ?_
  refine g_iconst (pc := 2) (v := 0) dL_find_2 rfl ?_
  refine g_aload_n (pc := 3) dL_find_3 rfl trivial ?_
  refine g_iload_n (pc := 4) dL_find_4 rfl ?_
  refine g_lload_n (pc := 5) dL_find_5 rfl ?_
  refine g_tV_r (pc := 6) (As := [_, _]) dL_find_6 rfl (h) rfl rfl hk rfl rfl lk_L_47 rfl (nb rfl) ⟨nb rfl, nb rfl⟩ (by decide) ?_
  refine g_i2l (pc := 9) dL_find_9 rfl ?_
  refine g_lastore (pc := 10) dL_find_10 ho rfl (nb rfl) (nl rfl) ?_
  refine g_goto (pc := 11) (tgt := 18) dL_find_11 rfl ?_
  refine g_iconst (pc := 18) (v := 0) dL_find_18 rfl ?_
  refine g_ireturn (pc := 19) dL_find_19 rfl rfl ?_
  exact ⟨rfl, rfl⟩
theorem wx_find {x0 : Int32} {x1 : Int64} (h : EvR l jX6_find 7 120 1 6 [.ref 0, .int x0, .long x1] M (.inr xIO) M1) (hk : (mK M)[0]? = some (.inr 6)) : EvR l jL_find 8 143 1 6 [.ref 0, .int x0, .long x1, .ref 212] M (.inl (some (.int 1))) M1 := by
  refine ev_introW rfl (nb rfl) (by decide) ?_
  refine g_aload (pc := 0) dL_find_0 rfl trivial ?_
  refine g_iconst (pc := 2) (v := 0) dL_find_2 rfl ?_
  refine g_aload_n (pc := 3) dL_find_3 rfl trivial ?_
  refine g_iload_n (pc := 4) dL_find_4 rfl ?_
  refine g_lload_n (pc := 5) dL_find_5 rfl ?_
  refine g_tVw_x (pc := 6) (As := [_, _]) (hpc := 14) dL_find_6 rfl (h) rfl rfl hk rfl rfl lk_L_47 rfl (nb rfl) ⟨nb rfl, nb rfl⟩ (hn_find_1) dL_find_14 (by decide) ?_
  refine g_iconst (pc := 16) (v := 1) dL_find_16 rfl ?_
  refine g_ireturn (pc := 17) dL_find_17 rfl rfl ?_
  exact ⟨rfl, rfl⟩
theorem hn_nearest_1 : Hnd jL_nearest 5 xIO 13 := ⟨Or.inl rfl, [], (0, 10, 13, 19), [], rfl, fun z hz => absurd hz List.not_mem_nil, by decide, by decide, wl_19, rfl⟩
theorem w_nearest {x0 : Int32} {x1 : Int32} {v : Int32} (h : EvR l jX6_nearest 8 140 2 12 [.ref 0, .int x0, .int x1] M (.inl (some (.int v))) M1) (hk : (mK M)[0]? = some (.inr 6)) (ho : (mK M1)[212]? = some (kL 1)) : EvR l jL_nearest 9 167 2 12 [.ref 0, .int x0, .int x1, .ref 212] M (.inl (some (.int 0))) (pL M1 212 0 v.toInt64) := by
  refine ev_introW rfl (nb rfl) (by decide) ?_
  refine g_aload_n (pc := 0) dL_nearest_0 rfl trivial ?_
  refine g_iconst (pc := 1) (v := 0) dL_nearest_1 rfl ?_
  refine g_aload_n (pc := 2) dL_nearest_2 rfl trivial ?_
  refine g_iload_n (pc := 3) dL_nearest_3 rfl ?_
  refine g_iload_n (pc := 4) dL_nearest_4 rfl ?_
  refine g_tV_r (pc := 5) (As := [_, _]) dL_nearest_5 rfl (h) rfl rfl hk rfl rfl lk_L_51 rfl (nb rfl) ⟨nb rfl, nb rfl⟩ (by decide) ?_
  refine g_i2l (pc := 8) dL_nearest_8 rfl ?_
  refine g_lastore (pc := 9) dL_nearest_9 ho rfl (nb rfl) (nl rfl) ?_
  refine g_goto (pc := 10) (tgt := 17) dL_nearest_10 rfl ?_
  refine g_iconst (pc := 17) (v := 0) dL_nearest_17 rfl ?_
  refine g_ireturn (pc := 18) dL_nearest_18 rfl rfl ?_
  exact ⟨rfl, rfl⟩
theorem wx_nearest {x0 : Int32} {x1 : Int32} (h : EvR l jX6_nearest 8 140 2 12 [.ref 0, .int x0, .int x1] M (.inr xIO) M1) (hk : (mK M)[0]? = some (.inr 6)) : EvR l jL_nearest 9 167 2 12 [.ref 0, .int x0, .int x1, .ref 212] M (.inl (some (.int 1))) M1 := by
  refine ev_introW rfl (nb rfl) (by decide) ?_
  refine g_aload_n (pc := 0) dL_nearest_0 rfl trivial ?_
  refine g_iconst (pc := 1) (v := 0) dL_nearest_1 rfl ?_
  refine g_aload_n (pc := 2) dL_nearest_2 rfl trivial ?_
  refine g_iload_n (pc := 3) dL_nearest_3 rfl ?_
  refine g_iload_n (pc := 4) dL_nearest_4 rfl ?_
  refine g_tVw_x (pc := 5) (As := [_, _]) (hpc := 13) dL_nearest_5 rfl (h) rfl rfl hk rfl rfl lk_L_51 rfl (nb rfl) ⟨nb rfl, nb rfl⟩ (hn_nearest_1) dL_nearest_13 (by decide) ?_
  refine g_iconst (pc := 15) (v := 1) dL_nearest_15 rfl ?_
  refine g_ireturn (pc := 16) dL_nearest_16 rfl rfl ?_
  exact ⟨rfl, rfl⟩
theorem hn_density_1 : Hnd jL_density 4 xIO 11 := ⟨Or.inl rfl, [], (0, 8, 11, 19), [], rfl, fun z hz => absurd hz List.not_mem_nil, by decide, by decide, wl_19, rfl⟩
theorem w_density {x0 : Int32} {v : UInt64} (h : EvR l jX6_density 8 150 1 6 [.ref 0, .int x0] M (.inl (some (.double v))) M1) (hk : (mK M)[0]? = some (.inr 6)) (ho : (mK M1)[213]? = some (.inl (.double, 1))) : EvR l jL_density 9 171 1 6 [.ref 0, .int x0, .ref 213] M (.inl (some (.int 0))) (sD M1 213 (fun_set (mD M1 213) 0 v)) := by
  refine ev_introW rfl (nb rfl) (by decide) ?_
  refine g_aload_n (pc := 0) dL_density_0 rfl trivial ?_
  refine g_iconst (pc := 1) (v := 0) dL_density_1 rfl ?_
  refine g_aload_n (pc := 2) dL_density_2 rfl trivial ?_
  refine g_iload_n (pc := 3) dL_density_3 rfl ?_
  refine g_tV_r (pc := 4) (As := [_]) dL_density_4 rfl (h) rfl rfl hk rfl rfl lk_L_54 rfl (nb rfl) ⟨nb rfl, nb rfl⟩ (by decide) ?_
  refine g_dastore (pc := 7) dL_density_7 ho rfl (nb rfl) (nl rfl) ?_
  refine g_goto (pc := 8) (tgt := 14) dL_density_8 rfl ?_
  refine g_iconst (pc := 14) (v := 0) dL_density_14 rfl ?_
  refine g_ireturn (pc := 15) dL_density_15 rfl rfl ?_
  exact ⟨rfl, rfl⟩
theorem wx_density {x0 : Int32} (h : EvR l jX6_density 8 150 1 6 [.ref 0, .int x0] M (.inr xIO) M1) (hk : (mK M)[0]? = some (.inr 6)) : EvR l jL_density 9 171 1 6 [.ref 0, .int x0, .ref 213] M (.inl (some (.int 1))) M1 := by
  refine ev_introW rfl (nb rfl) (by decide) ?_
  refine g_aload_n (pc := 0) dL_density_0 rfl trivial ?_
  refine g_iconst (pc := 1) (v := 0) dL_density_1 rfl ?_
  refine g_aload_n (pc := 2) dL_density_2 rfl trivial ?_
  refine g_iload_n (pc := 3) dL_density_3 rfl ?_
  refine g_tVn_x (pc := 4) (As := [_]) (hpc := 11) dL_density_4 rfl (h) rfl rfl hk rfl rfl lk_L_54 rfl (nb rfl) ⟨nb rfl, nb rfl⟩ (hn_density_1) dL_density_11 (by decide) ?_
  refine g_iconst (pc := 12) (v := 1) dL_density_12 rfl ?_
  refine g_ireturn (pc := 13) dL_density_13 rfl rfl ?_
  exact ⟨rfl, rfl⟩
theorem hn_isSymmetric_1 : Hnd jL_isSymmetric 4 xIO 19 := ⟨Or.inl rfl, [], (0, 16, 19, 19), [], rfl, fun z hz => absurd hz List.not_mem_nil, by decide, by decide, wl_19, rfl⟩
theorem w_isSymmetric {x0 : Int32} {v : Bool} (h : EvR l jX6_isSymmetric 7 120 1 6 [.ref 0, .int x0] M (.inl (some (.int (b1 v)))) M1) (hk : (mK M)[0]? = some (.inr 6)) (ho : (mK M1)[212]? = some (kL 1)) : EvR l jL_isSymmetric 8 143 1 6 [.ref 0, .int x0, .ref 212] M (.inl (some (.int 0))) (pL M1 212 0 (if v then 1 else 0)) := by
  refine ev_introW rfl (nb rfl) (by decide) ?_
  cases v
  · refine g_aload_n (pc := 0) dL_isSymmetric_0 rfl trivial ?_
    refine g_iconst (pc := 1) (v := 0) dL_isSymmetric_1 rfl ?_
    refine g_aload_n (pc := 2) dL_isSymmetric_2 rfl trivial ?_
    refine g_iload_n (pc := 3) dL_isSymmetric_3 rfl ?_
    refine g_tV_r (pc := 4) (As := [_]) dL_isSymmetric_4 rfl (h) rfl rfl hk rfl rfl lk_L_58 rfl (nb rfl) ⟨nb rfl, nb rfl⟩ (by decide) ?_
    refine g_if_eq (pc := 7) (tgt := 14) dL_isSymmetric_7 rfl (fun _ => ?_) (fun h7 => absurd (rfl) h7)
    refine g_lconst (pc := 14) (v := 0) dL_isSymmetric_14 rfl ?_
    refine g_lastore (pc := 15) dL_isSymmetric_15 ho rfl (nb rfl) (nl rfl) ?_
    refine g_goto (pc := 16) (tgt := 22) dL_isSymmetric_16 rfl ?_
    refine g_iconst (pc := 22) (v := 0) dL_isSymmetric_22 rfl ?_
    refine g_ireturn (pc := 23) dL_isSymmetric_23 rfl rfl ?_
    exact ⟨rfl, rfl⟩
  · refine g_aload_n (pc := 0) dL_isSymmetric_0 rfl trivial ?_
    refine g_iconst (pc := 1) (v := 0) dL_isSymmetric_1 rfl ?_
    refine g_aload_n (pc := 2) dL_isSymmetric_2 rfl trivial ?_
    refine g_iload_n (pc := 3) dL_isSymmetric_3 rfl ?_
    refine g_tV_r (pc := 4) (As := [_]) dL_isSymmetric_4 rfl (h) rfl rfl hk rfl rfl lk_L_58 rfl (nb rfl) ⟨nb rfl, nb rfl⟩ (by decide) ?_
    refine g_if_eq (pc := 7) (tgt := 14) dL_isSymmetric_7 rfl (fun h7 => absurd h7 ((by decide))) (fun _ => ?_)
    refine g_lconst (pc := 10) (v := 1) dL_isSymmetric_10 rfl ?_
    refine g_goto (pc := 11) (tgt := 15) dL_isSymmetric_11 rfl ?_
    refine g_lastore (pc := 15) dL_isSymmetric_15 ho rfl (nb rfl) (nl rfl) ?_
    refine g_goto (pc := 16) (tgt := 22) dL_isSymmetric_16 rfl ?_
    refine g_iconst (pc := 22) (v := 0) dL_isSymmetric_22 rfl ?_
    refine g_ireturn (pc := 23) dL_isSymmetric_23 rfl rfl ?_
    exact ⟨rfl, rfl⟩
theorem wx_isSymmetric {x0 : Int32} (h : EvR l jX6_isSymmetric 7 120 1 6 [.ref 0, .int x0] M (.inr xIO) M1) (hk : (mK M)[0]? = some (.inr 6)) : EvR l jL_isSymmetric 8 143 1 6 [.ref 0, .int x0, .ref 212] M (.inl (some (.int 1))) M1 := by
  refine ev_introW rfl (nb rfl) (by decide) ?_
  refine g_aload_n (pc := 0) dL_isSymmetric_0 rfl trivial ?_
  refine g_iconst (pc := 1) (v := 0) dL_isSymmetric_1 rfl ?_
  refine g_aload_n (pc := 2) dL_isSymmetric_2 rfl trivial ?_
  refine g_iload_n (pc := 3) dL_isSymmetric_3 rfl ?_
  refine g_tVn_x (pc := 4) (As := [_]) (hpc := 19) dL_isSymmetric_4 rfl (h) rfl rfl hk rfl rfl lk_L_58 rfl (nb rfl) ⟨nb rfl, nb rfl⟩ (hn_isSymmetric_1) dL_isSymmetric_19 (by decide) ?_
  refine g_iconst (pc := 20) (v := 1) dL_isSymmetric_20 rfl ?_
  refine g_ireturn (pc := 21) dL_isSymmetric_21 rfl rfl ?_
  exact ⟨rfl, rfl⟩
theorem hn_reaches_1 : Hnd jL_reaches 7 xIO 15 := ⟨Or.inl rfl, [], (0, 12, 15, 19), [], rfl, fun z hz => absurd hz List.not_mem_nil, by decide, by decide, wl_19, rfl⟩
theorem w_reaches {x0 : Int32} {x1 : Int32} {x2 : Int32} {v : Int32} (h : EvR l jX6_reaches 9 160 3 18 [.ref 0, .int x0, .int x1, .int x2] M (.inl (some (.int v))) M1) (hk : (mK M)[0]? = some (.inr 6)) (ho : (mK M1)[212]? = some (kL 1)) : EvR l jL_reaches 10 183 3 18 [.ref 0, .int x0, .int x1, .int x2, .ref 212] M (.inl (some (.int 0))) (pL M1 212 0 v.toInt64) := by
  refine ev_introW rfl (nb rfl) (by decide) ?_
  refine g_aload (pc := 0) dL_reaches_0 rfl trivial ?_
  refine g_iconst (pc := 2) (v := 0) dL_reaches_2 rfl ?_
  refine g_aload_n (pc := 3) dL_reaches_3 rfl trivial ?_
  refine g_iload_n (pc := 4) dL_reaches_4 rfl ?_
  refine g_iload_n (pc := 5) dL_reaches_5 rfl ?_
  refine g_iload_n (pc := 6) dL_reaches_6 rfl ?_
  refine g_tV_r (pc := 7) (As := [_, _, _]) dL_reaches_7 rfl (h) rfl rfl hk rfl rfl lk_L_62 rfl (nb rfl) ⟨nb rfl, nb rfl⟩ (by decide) ?_
  refine g_i2l (pc := 10) dL_reaches_10 rfl ?_
  refine g_lastore (pc := 11) dL_reaches_11 ho rfl (nb rfl) (nl rfl) ?_
  refine g_goto (pc := 12) (tgt := 19) dL_reaches_12 rfl ?_
  refine g_iconst (pc := 19) (v := 0) dL_reaches_19 rfl ?_
  refine g_ireturn (pc := 20) dL_reaches_20 rfl rfl ?_
  exact ⟨rfl, rfl⟩
theorem wx_reaches {x0 : Int32} {x1 : Int32} {x2 : Int32} (h : EvR l jX6_reaches 9 160 3 18 [.ref 0, .int x0, .int x1, .int x2] M (.inr xIO) M1) (hk : (mK M)[0]? = some (.inr 6)) : EvR l jL_reaches 10 183 3 18 [.ref 0, .int x0, .int x1, .int x2, .ref 212] M (.inl (some (.int 1))) M1 := by
  refine ev_introW rfl (nb rfl) (by decide) ?_
  refine g_aload (pc := 0) dL_reaches_0 rfl trivial ?_
  refine g_iconst (pc := 2) (v := 0) dL_reaches_2 rfl ?_
  refine g_aload_n (pc := 3) dL_reaches_3 rfl trivial ?_
  refine g_iload_n (pc := 4) dL_reaches_4 rfl ?_
  refine g_iload_n (pc := 5) dL_reaches_5 rfl ?_
  refine g_iload_n (pc := 6) dL_reaches_6 rfl ?_
  refine g_tVw_x (pc := 7) (As := [_, _, _]) (hpc := 15) dL_reaches_7 rfl (h) rfl rfl hk rfl rfl lk_L_62 rfl (nb rfl) ⟨nb rfl, nb rfl⟩ (hn_reaches_1) dL_reaches_15 (by decide) ?_
  refine g_iconst (pc := 17) (v := 1) dL_reaches_17 rfl ?_
  refine g_ireturn (pc := 18) dL_reaches_18 rfl rfl ?_
  exact ⟨rfl, rfl⟩
theorem hn_reached_1 : Hnd jL_reached 5 xIO 13 := ⟨Or.inl rfl, [], (0, 10, 13, 19), [], rfl, fun z hz => absurd hz List.not_mem_nil, by decide, by decide, wl_19, rfl⟩
theorem w_reached {x0 : Int32} {x1 : Int32} {v : Int32} (h : EvR l jX6_reached 8 140 2 12 [.ref 0, .int x0, .int x1] M (.inl (some (.int v))) M1) (hk : (mK M)[0]? = some (.inr 6)) (ho : (mK M1)[212]? = some (kL 1)) : EvR l jL_reached 9 162 2 12 [.ref 0, .int x0, .int x1, .ref 212] M (.inl (some (.int 0))) (pL M1 212 0 v.toInt64) := by
  refine ev_introW rfl (nb rfl) (by decide) ?_
  refine g_aload_n (pc := 0) dL_reached_0 rfl trivial ?_
  refine g_iconst (pc := 1) (v := 0) dL_reached_1 rfl ?_
  refine g_aload_n (pc := 2) dL_reached_2 rfl trivial ?_
  refine g_iload_n (pc := 3) dL_reached_3 rfl ?_
  refine g_iload_n (pc := 4) dL_reached_4 rfl ?_
  refine g_tV_r (pc := 5) (As := [_, _]) dL_reached_5 rfl (h) rfl rfl hk rfl rfl lk_L_65 rfl (nb rfl) ⟨nb rfl, nb rfl⟩ (by decide) ?_
  refine g_i2l (pc := 8) dL_reached_8 rfl ?_
  refine g_lastore (pc := 9) dL_reached_9 ho rfl (nb rfl) (nl rfl) ?_
  refine g_goto (pc := 10) (tgt := 17) dL_reached_10 rfl ?_
  refine g_iconst (pc := 17) (v := 0) dL_reached_17 rfl ?_
  refine g_ireturn (pc := 18) dL_reached_18 rfl rfl ?_
  exact ⟨rfl, rfl⟩
theorem wx_reached {x0 : Int32} {x1 : Int32} (h : EvR l jX6_reached 8 140 2 12 [.ref 0, .int x0, .int x1] M (.inr xIO) M1) (hk : (mK M)[0]? = some (.inr 6)) : EvR l jL_reached 9 162 2 12 [.ref 0, .int x0, .int x1, .ref 212] M (.inl (some (.int 1))) M1 := by
  refine ev_introW rfl (nb rfl) (by decide) ?_
  refine g_aload_n (pc := 0) dL_reached_0 rfl trivial ?_
  refine g_iconst (pc := 1) (v := 0) dL_reached_1 rfl ?_
  refine g_aload_n (pc := 2) dL_reached_2 rfl trivial ?_
  refine g_iload_n (pc := 3) dL_reached_3 rfl ?_
  refine g_iload_n (pc := 4) dL_reached_4 rfl ?_
  refine g_tVw_x (pc := 5) (As := [_, _]) (hpc := 13) dL_reached_5 rfl (h) rfl rfl hk rfl rfl lk_L_65 rfl (nb rfl) ⟨nb rfl, nb rfl⟩ (hn_reached_1) dL_reached_13 (by decide) ?_
  refine g_iconst (pc := 15) (v := 1) dL_reached_15 rfl ?_
  refine g_ireturn (pc := 16) dL_reached_16 rfl rfl ?_
  exact ⟨rfl, rfl⟩
theorem hn_pairs_1 : Hnd jL_pairs 4 xIO 12 := ⟨Or.inl rfl, [], (0, 9, 12, 19), [], rfl, fun z hz => absurd hz List.not_mem_nil, by decide, by decide, wl_19, rfl⟩
theorem w_pairs {x0 : Int32} {v : Int32} (h : EvR l jX6_pairs 7 120 1 6 [.ref 0, .int x0] M (.inl (some (.int v))) M1) (hk : (mK M)[0]? = some (.inr 6)) (ho : (mK M1)[212]? = some (kL 1)) : EvR l jL_pairs 8 141 1 6 [.ref 0, .int x0, .ref 212] M (.inl (some (.int 0))) (pL M1 212 0 v.toInt64) := by
  refine ev_introW rfl (nb rfl) (by decide) ?_
  refine g_aload_n (pc := 0) dL_pairs_0 rfl trivial ?_
  refine g_iconst (pc := 1) (v := 0) dL_pairs_1 rfl ?_
  refine g_aload_n (pc := 2) dL_pairs_2 rfl trivial ?_
  refine g_iload_n (pc := 3) dL_pairs_3 rfl ?_
  refine g_tV_r (pc := 4) (As := [_]) dL_pairs_4 rfl (h) rfl rfl hk rfl rfl lk_L_68 rfl (nb rfl) ⟨nb rfl, nb rfl⟩ (by decide) ?_
  refine g_i2l (pc := 7) dL_pairs_7 rfl ?_
  refine g_lastore (pc := 8) dL_pairs_8 ho rfl (nb rfl) (nl rfl) ?_
  refine g_goto (pc := 9) (tgt := 15) dL_pairs_9 rfl ?_
  refine g_iconst (pc := 15) (v := 0) dL_pairs_15 rfl ?_
  refine g_ireturn (pc := 16) dL_pairs_16 rfl rfl ?_
  exact ⟨rfl, rfl⟩
theorem wx_pairs {x0 : Int32} (h : EvR l jX6_pairs 7 120 1 6 [.ref 0, .int x0] M (.inr xIO) M1) (hk : (mK M)[0]? = some (.inr 6)) : EvR l jL_pairs 8 141 1 6 [.ref 0, .int x0, .ref 212] M (.inl (some (.int 1))) M1 := by
  refine ev_introW rfl (nb rfl) (by decide) ?_
  refine g_aload_n (pc := 0) dL_pairs_0 rfl trivial ?_
  refine g_iconst (pc := 1) (v := 0) dL_pairs_1 rfl ?_
  refine g_aload_n (pc := 2) dL_pairs_2 rfl trivial ?_
  refine g_iload_n (pc := 3) dL_pairs_3 rfl ?_
  refine g_tVn_x (pc := 4) (As := [_]) (hpc := 12) dL_pairs_4 rfl (h) rfl rfl hk rfl rfl lk_L_68 rfl (nb rfl) ⟨nb rfl, nb rfl⟩ (hn_pairs_1) dL_pairs_12 (by decide) ?_
  refine g_iconst (pc := 13) (v := 1) dL_pairs_13 rfl ?_
  refine g_ireturn (pc := 14) dL_pairs_14 rfl rfl ?_
  exact ⟨rfl, rfl⟩
theorem hn_meanReach_1 : Hnd jL_meanReach 4 xIO 12 := ⟨Or.inl rfl, [], (0, 9, 12, 19), [], rfl, fun z hz => absurd hz List.not_mem_nil, by decide, by decide, wl_19, rfl⟩
theorem w_meanReach {x0 : Int32} {v : UInt32} (h : EvR l jX6_meanReach 8 150 1 6 [.ref 0, .int x0] M (.inl (some (.float v))) M1) (hk : (mK M)[0]? = some (.inr 6)) (ho : (mK M1)[213]? = some (.inl (.double, 1))) (h64 : vf_n64 (FP.f2d v)) : EvR l jL_meanReach 9 171 1 6 [.ref 0, .int x0, .ref 213] M (.inl (some (.int 0))) (sD M1 213 (fun_set (mD M1 213) 0 (FP.f2d v))) := by
  refine ev_introW rfl (nb rfl) (by decide) ?_
  refine g_aload_n (pc := 0) dL_meanReach_0 rfl trivial ?_
  refine g_iconst (pc := 1) (v := 0) dL_meanReach_1 rfl ?_
  refine g_aload_n (pc := 2) dL_meanReach_2 rfl trivial ?_
  refine g_iload_n (pc := 3) dL_meanReach_3 rfl ?_
  refine g_tV_r (pc := 4) (As := [_]) dL_meanReach_4 rfl (h) rfl rfl hk rfl rfl lk_L_71 rfl (nb rfl) ⟨nb rfl, nb rfl⟩ (by decide) ?_
  refine g_f2d (pc := 7) dL_meanReach_7 h64 ?_
  refine g_dastore (pc := 8) dL_meanReach_8 ho rfl (nb rfl) (nl rfl) ?_
  refine g_goto (pc := 9) (tgt := 15) dL_meanReach_9 rfl ?_
  refine g_iconst (pc := 15) (v := 0) dL_meanReach_15 rfl ?_
  refine g_ireturn (pc := 16) dL_meanReach_16 rfl rfl ?_
  exact ⟨rfl, rfl⟩
theorem wx_meanReach {x0 : Int32} (h : EvR l jX6_meanReach 8 150 1 6 [.ref 0, .int x0] M (.inr xIO) M1) (hk : (mK M)[0]? = some (.inr 6)) : EvR l jL_meanReach 9 171 1 6 [.ref 0, .int x0, .ref 213] M (.inl (some (.int 1))) M1 := by
  refine ev_introW rfl (nb rfl) (by decide) ?_
  refine g_aload_n (pc := 0) dL_meanReach_0 rfl trivial ?_
  refine g_iconst (pc := 1) (v := 0) dL_meanReach_1 rfl ?_
  refine g_aload_n (pc := 2) dL_meanReach_2 rfl trivial ?_
  refine g_iload_n (pc := 3) dL_meanReach_3 rfl ?_
  refine g_tVn_x (pc := 4) (As := [_]) (hpc := 12) dL_meanReach_4 rfl (h) rfl rfl hk rfl rfl lk_L_71 rfl (nb rfl) ⟨nb rfl, nb rfl⟩ (hn_meanReach_1) dL_meanReach_12 (by decide) ?_
  refine g_iconst (pc := 13) (v := 1) dL_meanReach_13 rfl ?_
  refine g_ireturn (pc := 14) dL_meanReach_14 rfl rfl ?_
  exact ⟨rfl, rfl⟩
theorem hn_component_1 : Hnd jL_component 5 xIO 13 := ⟨Or.inl rfl, [], (0, 10, 13, 19), [], rfl, fun z hz => absurd hz List.not_mem_nil, by decide, by decide, wl_19, rfl⟩
theorem w_component {x0 : Int32} {x1 : Int32} {v : Int32} (h : EvR l jX6_component 8 140 2 12 [.ref 0, .int x0, .int x1] M (.inl (some (.int v))) M1) (hk : (mK M)[0]? = some (.inr 6)) (ho : (mK M1)[212]? = some (kL 1)) : EvR l jL_component 9 162 2 12 [.ref 0, .int x0, .int x1, .ref 212] M (.inl (some (.int 0))) (pL M1 212 0 v.toInt64) := by
  refine ev_introW rfl (nb rfl) (by decide) ?_
  refine g_aload_n (pc := 0) dL_component_0 rfl trivial ?_
  refine g_iconst (pc := 1) (v := 0) dL_component_1 rfl ?_
  refine g_aload_n (pc := 2) dL_component_2 rfl trivial ?_
  refine g_iload_n (pc := 3) dL_component_3 rfl ?_
  refine g_iload_n (pc := 4) dL_component_4 rfl ?_
  refine g_tV_r (pc := 5) (As := [_, _]) dL_component_5 rfl (h) rfl rfl hk rfl rfl lk_L_75 rfl (nb rfl) ⟨nb rfl, nb rfl⟩ (by decide) ?_
  refine g_i2l (pc := 8) dL_component_8 rfl ?_
  refine g_lastore (pc := 9) dL_component_9 ho rfl (nb rfl) (nl rfl) ?_
  refine g_goto (pc := 10) (tgt := 17) dL_component_10 rfl ?_
  refine g_iconst (pc := 17) (v := 0) dL_component_17 rfl ?_
  refine g_ireturn (pc := 18) dL_component_18 rfl rfl ?_
  exact ⟨rfl, rfl⟩
theorem wx_component {x0 : Int32} {x1 : Int32} (h : EvR l jX6_component 8 140 2 12 [.ref 0, .int x0, .int x1] M (.inr xIO) M1) (hk : (mK M)[0]? = some (.inr 6)) : EvR l jL_component 9 162 2 12 [.ref 0, .int x0, .int x1, .ref 212] M (.inl (some (.int 1))) M1 := by
  refine ev_introW rfl (nb rfl) (by decide) ?_
  refine g_aload_n (pc := 0) dL_component_0 rfl trivial ?_
  refine g_iconst (pc := 1) (v := 0) dL_component_1 rfl ?_
  refine g_aload_n (pc := 2) dL_component_2 rfl trivial ?_
  refine g_iload_n (pc := 3) dL_component_3 rfl ?_
  refine g_iload_n (pc := 4) dL_component_4 rfl ?_
  refine g_tVw_x (pc := 5) (As := [_, _]) (hpc := 13) dL_component_5 rfl (h) rfl rfl hk rfl rfl lk_L_75 rfl (nb rfl) ⟨nb rfl, nb rfl⟩ (hn_component_1) dL_component_13 (by decide) ?_
  refine g_iconst (pc := 15) (v := 1) dL_component_15 rfl ?_
  refine g_ireturn (pc := 16) dL_component_16 rfl rfl ?_
  exact ⟨rfl, rfl⟩
theorem hn_components_1 : Hnd jL_components 4 xIO 12 := ⟨Or.inl rfl, [], (0, 9, 12, 19), [], rfl, fun z hz => absurd hz List.not_mem_nil, by decide, by decide, wl_19, rfl⟩
theorem w_components {x0 : Int32} {v : Int32} (h : EvR l jX6_components 7 120 1 6 [.ref 0, .int x0] M (.inl (some (.int v))) M1) (hk : (mK M)[0]? = some (.inr 6)) (ho : (mK M1)[212]? = some (kL 1)) : EvR l jL_components 8 144 1 6 [.ref 0, .int x0, .ref 212] M (.inl (some (.int 0))) (pL M1 212 0 v.toInt64) := by
  refine ev_introW rfl (nb rfl) (by decide) ?_
  refine g_aload_n (pc := 0) dL_components_0 rfl trivial ?_
  refine g_iconst (pc := 1) (v := 0) dL_components_1 rfl ?_
  refine g_aload_n (pc := 2) dL_components_2 rfl trivial ?_
  refine g_iload_n (pc := 3) dL_components_3 rfl ?_
  refine g_tV_r (pc := 4) (As := [_]) dL_components_4 rfl (h) rfl rfl hk rfl rfl lk_L_78 rfl (nb rfl) ⟨nb rfl, nb rfl⟩ (by decide) ?_
  refine g_i2l (pc := 7) dL_components_7 rfl ?_
  refine g_lastore (pc := 8) dL_components_8 ho rfl (nb rfl) (nl rfl) ?_
  refine g_goto (pc := 9) (tgt := 15) dL_components_9 rfl ?_
  refine g_iconst (pc := 15) (v := 0) dL_components_15 rfl ?_
  refine g_ireturn (pc := 16) dL_components_16 rfl rfl ?_
  exact ⟨rfl, rfl⟩
theorem wx_components {x0 : Int32} (h : EvR l jX6_components 7 120 1 6 [.ref 0, .int x0] M (.inr xIO) M1) (hk : (mK M)[0]? = some (.inr 6)) : EvR l jL_components 8 144 1 6 [.ref 0, .int x0, .ref 212] M (.inl (some (.int 1))) M1 := by
  refine ev_introW rfl (nb rfl) (by decide) ?_
  refine g_aload_n (pc := 0) dL_components_0 rfl trivial ?_
  refine g_iconst (pc := 1) (v := 0) dL_components_1 rfl ?_
  refine g_aload_n (pc := 2) dL_components_2 rfl trivial ?_
  refine g_iload_n (pc := 3) dL_components_3 rfl ?_
  refine g_tVn_x (pc := 4) (As := [_]) (hpc := 12) dL_components_4 rfl (h) rfl rfl hk rfl rfl lk_L_78 rfl (nb rfl) ⟨nb rfl, nb rfl⟩ (hn_components_1) dL_components_12 (by decide) ?_
  refine g_iconst (pc := 13) (v := 1) dL_components_13 rfl ?_
  refine g_ireturn (pc := 14) dL_components_14 rfl rfl ?_
  exact ⟨rfl, rfl⟩
theorem hn_distance_1 : Hnd jL_distance 7 xIO 15 := ⟨Or.inl rfl, [], (0, 12, 15, 19), [], rfl, fun z hz => absurd hz List.not_mem_nil, by decide, by decide, wl_19, rfl⟩
theorem w_distance {x0 : Int32} {x1 : Int32} {x2 : Int32} {v : Int32} (h : EvR l jX6_distance 9 160 3 18 [.ref 0, .int x0, .int x1, .int x2] M (.inl (some (.int v))) M1) (hk : (mK M)[0]? = some (.inr 6)) (ho : (mK M1)[212]? = some (kL 1)) : EvR l jL_distance 10 183 3 18 [.ref 0, .int x0, .int x1, .int x2, .ref 212] M (.inl (some (.int 0))) (pL M1 212 0 v.toInt64) := by
  refine ev_introW rfl (nb rfl) (by decide) ?_
  refine g_aload (pc := 0) dL_distance_0 rfl trivial ?_
  refine g_iconst (pc := 2) (v := 0) dL_distance_2 rfl ?_
  refine g_aload_n (pc := 3) dL_distance_3 rfl trivial ?_
  refine g_iload_n (pc := 4) dL_distance_4 rfl ?_
  refine g_iload_n (pc := 5) dL_distance_5 rfl ?_
  refine g_iload_n (pc := 6) dL_distance_6 rfl ?_
  refine g_tV_r (pc := 7) (As := [_, _, _]) dL_distance_7 rfl (h) rfl rfl hk rfl rfl lk_L_81 rfl (nb rfl) ⟨nb rfl, nb rfl⟩ (by decide) ?_
  refine g_i2l (pc := 10) dL_distance_10 rfl ?_
  refine g_lastore (pc := 11) dL_distance_11 ho rfl (nb rfl) (nl rfl) ?_
  refine g_goto (pc := 12) (tgt := 19) dL_distance_12 rfl ?_
  refine g_iconst (pc := 19) (v := 0) dL_distance_19 rfl ?_
  refine g_ireturn (pc := 20) dL_distance_20 rfl rfl ?_
  exact ⟨rfl, rfl⟩
theorem wx_distance {x0 : Int32} {x1 : Int32} {x2 : Int32} (h : EvR l jX6_distance 9 160 3 18 [.ref 0, .int x0, .int x1, .int x2] M (.inr xIO) M1) (hk : (mK M)[0]? = some (.inr 6)) : EvR l jL_distance 10 183 3 18 [.ref 0, .int x0, .int x1, .int x2, .ref 212] M (.inl (some (.int 1))) M1 := by
  refine ev_introW rfl (nb rfl) (by decide) ?_
  refine g_aload (pc := 0) dL_distance_0 rfl trivial ?_
  refine g_iconst (pc := 2) (v := 0) dL_distance_2 rfl ?_
  refine g_aload_n (pc := 3) dL_distance_3 rfl trivial ?_
  refine g_iload_n (pc := 4) dL_distance_4 rfl ?_
  refine g_iload_n (pc := 5) dL_distance_5 rfl ?_
  refine g_iload_n (pc := 6) dL_distance_6 rfl ?_
  refine g_tVw_x (pc := 7) (As := [_, _, _]) (hpc := 15) dL_distance_7 rfl (h) rfl rfl hk rfl rfl lk_L_81 rfl (nb rfl) ⟨nb rfl, nb rfl⟩ (hn_distance_1) dL_distance_15 (by decide) ?_
  refine g_iconst (pc := 17) (v := 1) dL_distance_17 rfl ?_
  refine g_ireturn (pc := 18) dL_distance_18 rfl rfl ?_
  exact ⟨rfl, rfl⟩
theorem hn_stepAt_1 : Hnd jL_stepAt 9 xIO 17 := ⟨Or.inl rfl, [], (0, 14, 17, 19), [], rfl, fun z hz => absurd hz List.not_mem_nil, by decide, by decide, wl_19, rfl⟩
theorem w_stepAt {x0 : Int32} {x1 : Int32} {x2 : Int32} {x3 : Int32} {v : Int32} (h : EvR l jX6_stepAt 10 190 3 18 [.ref 0, .int x0, .int x1, .int x2, .int x3] M (.inl (some (.int v))) M1) (hk : (mK M)[0]? = some (.inr 6)) (ho : (mK M1)[212]? = some (kL 1)) : EvR l jL_stepAt 11 218 3 18 [.ref 0, .int x0, .int x1, .int x2, .int x3, .ref 212] M (.inl (some (.int 0))) (pL M1 212 0 v.toInt64) := by
  refine ev_introW rfl (nb rfl) (by decide) ?_
  refine g_aload (pc := 0) dL_stepAt_0 rfl trivial ?_
  refine g_iconst (pc := 2) (v := 0) dL_stepAt_2 rfl ?_
  refine g_aload_n (pc := 3) dL_stepAt_3 rfl trivial ?_
  refine g_iload_n (pc := 4) dL_stepAt_4 rfl ?_
  refine g_iload_n (pc := 5) dL_stepAt_5 rfl ?_
  refine g_iload_n (pc := 6) dL_stepAt_6 rfl ?_
  refine g_iload (pc := 7) dL_stepAt_7 rfl ?_
  refine g_tV_r (pc := 9) (As := [_, _, _, _]) dL_stepAt_9 rfl (h) rfl rfl hk rfl rfl lk_L_84 rfl (nb rfl) ⟨nb rfl, nb rfl⟩ (by decide) ?_
  refine g_i2l (pc := 12) dL_stepAt_12 rfl ?_
  refine g_lastore (pc := 13) dL_stepAt_13 ho rfl (nb rfl) (nl rfl) ?_
  refine g_goto (pc := 14) (tgt := 21) dL_stepAt_14 rfl ?_
  refine g_iconst (pc := 21) (v := 0) dL_stepAt_21 rfl ?_
  refine g_ireturn (pc := 22) dL_stepAt_22 rfl rfl ?_
  exact ⟨rfl, rfl⟩
theorem wx_stepAt {x0 : Int32} {x1 : Int32} {x2 : Int32} {x3 : Int32} (h : EvR l jX6_stepAt 10 190 3 18 [.ref 0, .int x0, .int x1, .int x2, .int x3] M (.inr xIO) M1) (hk : (mK M)[0]? = some (.inr 6)) : EvR l jL_stepAt 11 218 3 18 [.ref 0, .int x0, .int x1, .int x2, .int x3, .ref 212] M (.inl (some (.int 1))) M1 := by
  refine ev_introW rfl (nb rfl) (by decide) ?_
  refine g_aload (pc := 0) dL_stepAt_0 rfl trivial ?_
  refine g_iconst (pc := 2) (v := 0) dL_stepAt_2 rfl ?_
  refine g_aload_n (pc := 3) dL_stepAt_3 rfl trivial ?_
  refine g_iload_n (pc := 4) dL_stepAt_4 rfl ?_
  refine g_iload_n (pc := 5) dL_stepAt_5 rfl ?_
  refine g_iload_n (pc := 6) dL_stepAt_6 rfl ?_
  refine g_iload (pc := 7) dL_stepAt_7 rfl ?_
  refine g_tVw_x (pc := 9) (As := [_, _, _, _]) (hpc := 17) dL_stepAt_9 rfl (h) rfl rfl hk rfl rfl lk_L_84 rfl (nb rfl) ⟨nb rfl, nb rfl⟩ (hn_stepAt_1) dL_stepAt_17 (by decide) ?_
  refine g_iconst (pc := 19) (v := 1) dL_stepAt_19 rfl ?_
  refine g_ireturn (pc := 20) dL_stepAt_20 rfl rfl ?_
  exact ⟨rfl, rfl⟩
theorem hn_around_1 : Hnd jL_around 5 xIO 13 := ⟨Or.inl rfl, [], (0, 10, 13, 19), [], rfl, fun z hz => absurd hz List.not_mem_nil, by decide, by decide, wl_19, rfl⟩
theorem w_around {x0 : Int32} {x1 : Int32} {v : Int32} (h : EvR l jX6_around 8 140 2 12 [.ref 0, .int x0, .int x1] M (.inl (some (.int v))) M1) (hk : (mK M)[0]? = some (.inr 6)) (ho : (mK M1)[212]? = some (kL 1)) : EvR l jL_around 9 162 2 12 [.ref 0, .int x0, .int x1, .ref 212] M (.inl (some (.int 0))) (pL M1 212 0 v.toInt64) := by
  refine ev_introW rfl (nb rfl) (by decide) ?_
  refine g_aload_n (pc := 0) dL_around_0 rfl trivial ?_
  refine g_iconst (pc := 1) (v := 0) dL_around_1 rfl ?_
  refine g_aload_n (pc := 2) dL_around_2 rfl trivial ?_
  refine g_iload_n (pc := 3) dL_around_3 rfl ?_
  refine g_iload_n (pc := 4) dL_around_4 rfl ?_
  refine g_tV_r (pc := 5) (As := [_, _]) dL_around_5 rfl (h) rfl rfl hk rfl rfl lk_L_88 rfl (nb rfl) ⟨nb rfl, nb rfl⟩ (by decide) ?_
  refine g_i2l (pc := 8) dL_around_8 rfl ?_
  refine g_lastore (pc := 9) dL_around_9 ho rfl (nb rfl) (nl rfl) ?_
  refine g_goto (pc := 10) (tgt := 17) dL_around_10 rfl ?_
  refine g_iconst (pc := 17) (v := 0) dL_around_17 rfl ?_
  refine g_ireturn (pc := 18) dL_around_18 rfl rfl ?_
  exact ⟨rfl, rfl⟩
theorem wx_around {x0 : Int32} {x1 : Int32} (h : EvR l jX6_around 8 140 2 12 [.ref 0, .int x0, .int x1] M (.inr xIO) M1) (hk : (mK M)[0]? = some (.inr 6)) : EvR l jL_around 9 162 2 12 [.ref 0, .int x0, .int x1, .ref 212] M (.inl (some (.int 1))) M1 := by
  refine ev_introW rfl (nb rfl) (by decide) ?_
  refine g_aload_n (pc := 0) dL_around_0 rfl trivial ?_
  refine g_iconst (pc := 1) (v := 0) dL_around_1 rfl ?_
  refine g_aload_n (pc := 2) dL_around_2 rfl trivial ?_
  refine g_iload_n (pc := 3) dL_around_3 rfl ?_
  refine g_iload_n (pc := 4) dL_around_4 rfl ?_
  refine g_tVw_x (pc := 5) (As := [_, _]) (hpc := 13) dL_around_5 rfl (h) rfl rfl hk rfl rfl lk_L_88 rfl (nb rfl) ⟨nb rfl, nb rfl⟩ (hn_around_1) dL_around_13 (by decide) ?_
  refine g_iconst (pc := 15) (v := 1) dL_around_15 rfl ?_
  refine g_ireturn (pc := 16) dL_around_16 rfl rfl ?_
  exact ⟨rfl, rfl⟩
theorem hn_girth_1 : Hnd jL_girth 4 xIO 12 := ⟨Or.inl rfl, [], (0, 9, 12, 19), [], rfl, fun z hz => absurd hz List.not_mem_nil, by decide, by decide, wl_19, rfl⟩
theorem w_girth {x0 : Int32} {v : Int32} (h : EvR l jX6_girth 7 120 1 6 [.ref 0, .int x0] M (.inl (some (.int v))) M1) (hk : (mK M)[0]? = some (.inr 6)) (ho : (mK M1)[212]? = some (kL 1)) : EvR l jL_girth 8 144 1 6 [.ref 0, .int x0, .ref 212] M (.inl (some (.int 0))) (pL M1 212 0 v.toInt64) := by
  refine ev_introW rfl (nb rfl) (by decide) ?_
  refine g_aload_n (pc := 0) dL_girth_0 rfl trivial ?_
  refine g_iconst (pc := 1) (v := 0) dL_girth_1 rfl ?_
  refine g_aload_n (pc := 2) dL_girth_2 rfl trivial ?_
  refine g_iload_n (pc := 3) dL_girth_3 rfl ?_
  refine g_tV_r (pc := 4) (As := [_]) dL_girth_4 rfl (h) rfl rfl hk rfl rfl lk_L_91 rfl (nb rfl) ⟨nb rfl, nb rfl⟩ (by decide) ?_
  refine g_i2l (pc := 7) dL_girth_7 rfl ?_
  refine g_lastore (pc := 8) dL_girth_8 ho rfl (nb rfl) (nl rfl) ?_
  refine g_goto (pc := 9) (tgt := 15) dL_girth_9 rfl ?_
  refine g_iconst (pc := 15) (v := 0) dL_girth_15 rfl ?_
  refine g_ireturn (pc := 16) dL_girth_16 rfl rfl ?_
  exact ⟨rfl, rfl⟩
theorem wx_girth {x0 : Int32} (h : EvR l jX6_girth 7 120 1 6 [.ref 0, .int x0] M (.inr xIO) M1) (hk : (mK M)[0]? = some (.inr 6)) : EvR l jL_girth 8 144 1 6 [.ref 0, .int x0, .ref 212] M (.inl (some (.int 1))) M1 := by
  refine ev_introW rfl (nb rfl) (by decide) ?_
  refine g_aload_n (pc := 0) dL_girth_0 rfl trivial ?_
  refine g_iconst (pc := 1) (v := 0) dL_girth_1 rfl ?_
  refine g_aload_n (pc := 2) dL_girth_2 rfl trivial ?_
  refine g_iload_n (pc := 3) dL_girth_3 rfl ?_
  refine g_tVn_x (pc := 4) (As := [_]) (hpc := 12) dL_girth_4 rfl (h) rfl rfl hk rfl rfl lk_L_91 rfl (nb rfl) ⟨nb rfl, nb rfl⟩ (hn_girth_1) dL_girth_12 (by decide) ?_
  refine g_iconst (pc := 13) (v := 1) dL_girth_13 rfl ?_
  refine g_ireturn (pc := 14) dL_girth_14 rfl rfl ?_
  exact ⟨rfl, rfl⟩
theorem hn_order_1 : Hnd jL_order 5 xIO 13 := ⟨Or.inl rfl, [], (0, 10, 13, 19), [], rfl, fun z hz => absurd hz List.not_mem_nil, by decide, by decide, wl_19, rfl⟩
theorem w_order {x0 : Int32} {x1 : Int32} {v : Int32} (h : EvR l jX6_order 7 120 1 6 [.ref 0, .int x0, .int x1] M (.inl (some (.int v))) M1) (hk : (mK M)[0]? = some (.inr 6)) (ho : (mK M1)[212]? = some (kL 1)) : EvR l jL_order 8 146 1 6 [.ref 0, .int x0, .int x1, .ref 212] M (.inl (some (.int 0))) (pL M1 212 0 v.toInt64) := by
  refine ev_introW rfl (nb rfl) (by decide) ?_
  refine g_aload_n (pc := 0) dL_order_0 rfl trivial ?_
  refine g_iconst (pc := 1) (v := 0) dL_order_1 rfl ?_
  refine g_aload_n (pc := 2) dL_order_2 rfl trivial ?_
  refine g_iload_n (pc := 3) dL_order_3 rfl ?_
  refine g_iload_n (pc := 4) dL_order_4 rfl ?_
  refine g_tV_r (pc := 5) (As := [_, _]) dL_order_5 rfl (h) rfl rfl hk rfl rfl lk_L_94 rfl (nb rfl) ⟨nb rfl, nb rfl⟩ (by decide) ?_
  refine g_i2l (pc := 8) dL_order_8 rfl ?_
  refine g_lastore (pc := 9) dL_order_9 ho rfl (nb rfl) (nl rfl) ?_
  refine g_goto (pc := 10) (tgt := 17) dL_order_10 rfl ?_
  refine g_iconst (pc := 17) (v := 0) dL_order_17 rfl ?_
  refine g_ireturn (pc := 18) dL_order_18 rfl rfl ?_
  exact ⟨rfl, rfl⟩
theorem wx_order {x0 : Int32} {x1 : Int32} (h : EvR l jX6_order 7 120 1 6 [.ref 0, .int x0, .int x1] M (.inr xIO) M1) (hk : (mK M)[0]? = some (.inr 6)) : EvR l jL_order 8 146 1 6 [.ref 0, .int x0, .int x1, .ref 212] M (.inl (some (.int 1))) M1 := by
  refine ev_introW rfl (nb rfl) (by decide) ?_
  refine g_aload_n (pc := 0) dL_order_0 rfl trivial ?_
  refine g_iconst (pc := 1) (v := 0) dL_order_1 rfl ?_
  refine g_aload_n (pc := 2) dL_order_2 rfl trivial ?_
  refine g_iload_n (pc := 3) dL_order_3 rfl ?_
  refine g_iload_n (pc := 4) dL_order_4 rfl ?_
  refine g_tVw_x (pc := 5) (As := [_, _]) (hpc := 13) dL_order_5 rfl (h) rfl rfl hk rfl rfl lk_L_94 rfl (nb rfl) ⟨nb rfl, nb rfl⟩ (hn_order_1) dL_order_13 (by decide) ?_
  refine g_iconst (pc := 15) (v := 1) dL_order_15 rfl ?_
  refine g_ireturn (pc := 16) dL_order_16 rfl rfl ?_
  exact ⟨rfl, rfl⟩
theorem hn_gained_1 : Hnd jL_gained 7 xIO 15 := ⟨Or.inl rfl, [], (0, 12, 15, 19), [], rfl, fun z hz => absurd hz List.not_mem_nil, by decide, by decide, wl_19, rfl⟩
theorem w_gained {x0 : Int32} {x1 : Int32} {x2 : Int32} {v : Int32} (h : EvR l jX6_gained 9 160 3 18 [.ref 0, .int x0, .int x1, .int x2] M (.inl (some (.int v))) M1) (hk : (mK M)[0]? = some (.inr 6)) (ho : (mK M1)[212]? = some (kL 1)) : EvR l jL_gained 10 184 3 18 [.ref 0, .int x0, .int x1, .int x2, .ref 212] M (.inl (some (.int 0))) (pL M1 212 0 v.toInt64) := by
  refine ev_introW rfl (nb rfl) (by decide) ?_
  refine g_aload (pc := 0) dL_gained_0 rfl trivial ?_
  refine g_iconst (pc := 2) (v := 0) dL_gained_2 rfl ?_
  refine g_aload_n (pc := 3) dL_gained_3 rfl trivial ?_
  refine g_iload_n (pc := 4) dL_gained_4 rfl ?_
  refine g_iload_n (pc := 5) dL_gained_5 rfl ?_
  refine g_iload_n (pc := 6) dL_gained_6 rfl ?_
  refine g_tV_r (pc := 7) (As := [_, _, _]) dL_gained_7 rfl (h) rfl rfl hk rfl rfl lk_L_97 rfl (nb rfl) ⟨nb rfl, nb rfl⟩ (by decide) ?_
  refine g_i2l (pc := 10) dL_gained_10 rfl ?_
  refine g_lastore (pc := 11) dL_gained_11 ho rfl (nb rfl) (nl rfl) ?_
  refine g_goto (pc := 12) (tgt := 19) dL_gained_12 rfl ?_
  refine g_iconst (pc := 19) (v := 0) dL_gained_19 rfl ?_
  refine g_ireturn (pc := 20) dL_gained_20 rfl rfl ?_
  exact ⟨rfl, rfl⟩
theorem wx_gained {x0 : Int32} {x1 : Int32} {x2 : Int32} (h : EvR l jX6_gained 9 160 3 18 [.ref 0, .int x0, .int x1, .int x2] M (.inr xIO) M1) (hk : (mK M)[0]? = some (.inr 6)) : EvR l jL_gained 10 184 3 18 [.ref 0, .int x0, .int x1, .int x2, .ref 212] M (.inl (some (.int 1))) M1 := by
  refine ev_introW rfl (nb rfl) (by decide) ?_
  refine g_aload (pc := 0) dL_gained_0 rfl trivial ?_
  refine g_iconst (pc := 2) (v := 0) dL_gained_2 rfl ?_
  refine g_aload_n (pc := 3) dL_gained_3 rfl trivial ?_
  refine g_iload_n (pc := 4) dL_gained_4 rfl ?_
  refine g_iload_n (pc := 5) dL_gained_5 rfl ?_
  refine g_iload_n (pc := 6) dL_gained_6 rfl ?_
  refine g_tVw_x (pc := 7) (As := [_, _, _]) (hpc := 15) dL_gained_7 rfl (h) rfl rfl hk rfl rfl lk_L_97 rfl (nb rfl) ⟨nb rfl, nb rfl⟩ (hn_gained_1) dL_gained_15 (by decide) ?_
  refine g_iconst (pc := 17) (v := 1) dL_gained_17 rfl ?_
  refine g_ireturn (pc := 18) dL_gained_18 rfl rfl ?_
  exact ⟨rfl, rfl⟩
theorem hn_lost_1 : Hnd jL_lost 7 xIO 15 := ⟨Or.inl rfl, [], (0, 12, 15, 19), [], rfl, fun z hz => absurd hz List.not_mem_nil, by decide, by decide, wl_19, rfl⟩
theorem w_lost {x0 : Int32} {x1 : Int32} {x2 : Int32} {v : Int32} (h : EvR l jX6_lost 9 190 3 18 [.ref 0, .int x0, .int x1, .int x2] M (.inl (some (.int v))) M1) (hk : (mK M)[0]? = some (.inr 6)) (ho : (mK M1)[212]? = some (kL 1)) : EvR l jL_lost 10 213 3 18 [.ref 0, .int x0, .int x1, .int x2, .ref 212] M (.inl (some (.int 0))) (pL M1 212 0 v.toInt64) := by
  refine ev_introW rfl (nb rfl) (by decide) ?_
  refine g_aload (pc := 0) dL_lost_0 rfl trivial ?_
  refine g_iconst (pc := 2) (v := 0) dL_lost_2 rfl ?_
  refine g_aload_n (pc := 3) dL_lost_3 rfl trivial ?_
  refine g_iload_n (pc := 4) dL_lost_4 rfl ?_
  refine g_iload_n (pc := 5) dL_lost_5 rfl ?_
  refine g_iload_n (pc := 6) dL_lost_6 rfl ?_
  refine g_tV_r (pc := 7) (As := [_, _, _]) dL_lost_7 rfl (h) rfl rfl hk rfl rfl lk_L_100 rfl (nb rfl) ⟨nb rfl, nb rfl⟩ (by decide) ?_
  refine g_i2l (pc := 10) dL_lost_10 rfl ?_
  refine g_lastore (pc := 11) dL_lost_11 ho rfl (nb rfl) (nl rfl) ?_
  refine g_goto (pc := 12) (tgt := 19) dL_lost_12 rfl ?_
  refine g_iconst (pc := 19) (v := 0) dL_lost_19 rfl ?_
  refine g_ireturn (pc := 20) dL_lost_20 rfl rfl ?_
  exact ⟨rfl, rfl⟩
theorem wx_lost {x0 : Int32} {x1 : Int32} {x2 : Int32} (h : EvR l jX6_lost 9 190 3 18 [.ref 0, .int x0, .int x1, .int x2] M (.inr xIO) M1) (hk : (mK M)[0]? = some (.inr 6)) : EvR l jL_lost 10 213 3 18 [.ref 0, .int x0, .int x1, .int x2, .ref 212] M (.inl (some (.int 1))) M1 := by
  refine ev_introW rfl (nb rfl) (by decide) ?_
  refine g_aload (pc := 0) dL_lost_0 rfl trivial ?_
  refine g_iconst (pc := 2) (v := 0) dL_lost_2 rfl ?_
  refine g_aload_n (pc := 3) dL_lost_3 rfl trivial ?_
  refine g_iload_n (pc := 4) dL_lost_4 rfl ?_
  refine g_iload_n (pc := 5) dL_lost_5 rfl ?_
  refine g_iload_n (pc := 6) dL_lost_6 rfl ?_
  refine g_tVw_x (pc := 7) (As := [_, _, _]) (hpc := 15) dL_lost_7 rfl (h) rfl rfl hk rfl rfl lk_L_100 rfl (nb rfl) ⟨nb rfl, nb rfl⟩ (hn_lost_1) dL_lost_15 (by decide) ?_
  refine g_iconst (pc := 17) (v := 1) dL_lost_17 rfl ?_
  refine g_ireturn (pc := 18) dL_lost_18 rfl rfl ?_
  exact ⟨rfl, rfl⟩
theorem hn_bestEdge_1 : Hnd jL_bestEdge 4 xIO 12 := ⟨Or.inl rfl, [], (0, 9, 12, 19), [], rfl, fun z hz => absurd hz List.not_mem_nil, by decide, by decide, wl_19, rfl⟩
theorem w_bestEdge {x0 : Int32} {v : Int32} (h : EvR l jX6_bestEdge 7 140 1 6 [.ref 0, .int x0] M (.inl (some (.int v))) M1) (hk : (mK M)[0]? = some (.inr 6)) (ho : (mK M1)[212]? = some (kL 1)) : EvR l jL_bestEdge 8 169 1 6 [.ref 0, .int x0, .ref 212] M (.inl (some (.int 0))) (pL M1 212 0 v.toInt64) := by
  refine ev_introW rfl (nb rfl) (by decide) ?_
  refine g_aload_n (pc := 0) dL_bestEdge_0 rfl trivial ?_
  refine g_iconst (pc := 1) (v := 0) dL_bestEdge_1 rfl ?_
  refine g_aload_n (pc := 2) dL_bestEdge_2 rfl trivial ?_
  refine g_iload_n (pc := 3) dL_bestEdge_3 rfl ?_
  refine g_tV_r (pc := 4) (As := [_]) dL_bestEdge_4 rfl (h) rfl rfl hk rfl rfl lk_L_103 rfl (nb rfl) ⟨nb rfl, nb rfl⟩ (by decide) ?_
  refine g_i2l (pc := 7) dL_bestEdge_7 rfl ?_
  refine g_lastore (pc := 8) dL_bestEdge_8 ho rfl (nb rfl) (nl rfl) ?_
  refine g_goto (pc := 9) (tgt := 15) dL_bestEdge_9 rfl ?_
  refine g_iconst (pc := 15) (v := 0) dL_bestEdge_15 rfl ?_
  refine g_ireturn (pc := 16) dL_bestEdge_16 rfl rfl ?_
  exact ⟨rfl, rfl⟩
theorem wx_bestEdge {x0 : Int32} (h : EvR l jX6_bestEdge 7 140 1 6 [.ref 0, .int x0] M (.inr xIO) M1) (hk : (mK M)[0]? = some (.inr 6)) : EvR l jL_bestEdge 8 169 1 6 [.ref 0, .int x0, .ref 212] M (.inl (some (.int 1))) M1 := by
  refine ev_introW rfl (nb rfl) (by decide) ?_
  refine g_aload_n (pc := 0) dL_bestEdge_0 rfl trivial ?_
  refine g_iconst (pc := 1) (v := 0) dL_bestEdge_1 rfl ?_
  refine g_aload_n (pc := 2) dL_bestEdge_2 rfl trivial ?_
  refine g_iload_n (pc := 3) dL_bestEdge_3 rfl ?_
  refine g_tVn_x (pc := 4) (As := [_]) (hpc := 12) dL_bestEdge_4 rfl (h) rfl rfl hk rfl rfl lk_L_103 rfl (nb rfl) ⟨nb rfl, nb rfl⟩ (hn_bestEdge_1) dL_bestEdge_12 (by decide) ?_
  refine g_iconst (pc := 13) (v := 1) dL_bestEdge_13 rfl ?_
  refine g_ireturn (pc := 14) dL_bestEdge_14 rfl rfl ?_
  exact ⟨rfl, rfl⟩
theorem hn_weakest_1 : Hnd jL_weakest 4 xIO 12 := ⟨Or.inl rfl, [], (0, 9, 12, 19), [], rfl, fun z hz => absurd hz List.not_mem_nil, by decide, by decide, wl_19, rfl⟩
theorem w_weakest {x0 : Int32} {v : Int32} (h : EvR l jX6_weakest 7 190 1 6 [.ref 0, .int x0] M (.inl (some (.int v))) M1) (hk : (mK M)[0]? = some (.inr 6)) (ho : (mK M1)[212]? = some (kL 1)) : EvR l jL_weakest 8 217 1 6 [.ref 0, .int x0, .ref 212] M (.inl (some (.int 0))) (pL M1 212 0 v.toInt64) := by
  refine ev_introW rfl (nb rfl) (by decide) ?_
  refine g_aload_n (pc := 0) dL_weakest_0 rfl trivial ?_
  refine g_iconst (pc := 1) (v := 0) dL_weakest_1 rfl ?_
  refine g_aload_n (pc := 2) dL_weakest_2 rfl trivial ?_
  refine g_iload_n (pc := 3) dL_weakest_3 rfl ?_
  refine g_tV_r (pc := 4) (As := [_]) dL_weakest_4 rfl (h) rfl rfl hk rfl rfl lk_L_106 rfl (nb rfl) ⟨nb rfl, nb rfl⟩ (by decide) ?_
  refine g_i2l (pc := 7) dL_weakest_7 rfl ?_
  refine g_lastore (pc := 8) dL_weakest_8 ho rfl (nb rfl) (nl rfl) ?_
  refine g_goto (pc := 9) (tgt := 15) dL_weakest_9 rfl ?_
  refine g_iconst (pc := 15) (v := 0) dL_weakest_15 rfl ?_
  refine g_ireturn (pc := 16) dL_weakest_16 rfl rfl ?_
  exact ⟨rfl, rfl⟩
theorem wx_weakest {x0 : Int32} (h : EvR l jX6_weakest 7 190 1 6 [.ref 0, .int x0] M (.inr xIO) M1) (hk : (mK M)[0]? = some (.inr 6)) : EvR l jL_weakest 8 217 1 6 [.ref 0, .int x0, .ref 212] M (.inl (some (.int 1))) M1 := by
  refine ev_introW rfl (nb rfl) (by decide) ?_
  refine g_aload_n (pc := 0) dL_weakest_0 rfl trivial ?_
  refine g_iconst (pc := 1) (v := 0) dL_weakest_1 rfl ?_
  refine g_aload_n (pc := 2) dL_weakest_2 rfl trivial ?_
  refine g_iload_n (pc := 3) dL_weakest_3 rfl ?_
  refine g_tVn_x (pc := 4) (As := [_]) (hpc := 12) dL_weakest_4 rfl (h) rfl rfl hk rfl rfl lk_L_106 rfl (nb rfl) ⟨nb rfl, nb rfl⟩ (hn_weakest_1) dL_weakest_12 (by decide) ?_
  refine g_iconst (pc := 13) (v := 1) dL_weakest_13 rfl ?_
  refine g_ireturn (pc := 14) dL_weakest_14 rfl rfl ?_
  exact ⟨rfl, rfl⟩
theorem hn_triangles_1 : Hnd jL_triangles 4 xIO 12 := ⟨Or.inl rfl, [], (0, 9, 12, 19), [], rfl, fun z hz => absurd hz List.not_mem_nil, by decide, by decide, wl_19, rfl⟩
theorem w_triangles {x0 : Int32} {v : Int32} (h : EvR l jX6_triangles 7 120 1 6 [.ref 0, .int x0] M (.inl (some (.int v))) M1) (hk : (mK M)[0]? = some (.inr 6)) (ho : (mK M1)[212]? = some (kL 1)) : EvR l jL_triangles 8 146 1 6 [.ref 0, .int x0, .ref 212] M (.inl (some (.int 0))) (pL M1 212 0 v.toInt64) := by
  refine ev_introW rfl (nb rfl) (by decide) ?_
  refine g_aload_n (pc := 0) dL_triangles_0 rfl trivial ?_
  refine g_iconst (pc := 1) (v := 0) dL_triangles_1 rfl ?_
  refine g_aload_n (pc := 2) dL_triangles_2 rfl trivial ?_
  refine g_iload_n (pc := 3) dL_triangles_3 rfl ?_
  refine g_tV_r (pc := 4) (As := [_]) dL_triangles_4 rfl (h) rfl rfl hk rfl rfl lk_L_109 rfl (nb rfl) ⟨nb rfl, nb rfl⟩ (by decide) ?_
  refine g_i2l (pc := 7) dL_triangles_7 rfl ?_
  refine g_lastore (pc := 8) dL_triangles_8 ho rfl (nb rfl) (nl rfl) ?_
  refine g_goto (pc := 9) (tgt := 15) dL_triangles_9 rfl ?_
  refine g_iconst (pc := 15) (v := 0) dL_triangles_15 rfl ?_
  refine g_ireturn (pc := 16) dL_triangles_16 rfl rfl ?_
  exact ⟨rfl, rfl⟩
theorem wx_triangles {x0 : Int32} (h : EvR l jX6_triangles 7 120 1 6 [.ref 0, .int x0] M (.inr xIO) M1) (hk : (mK M)[0]? = some (.inr 6)) : EvR l jL_triangles 8 146 1 6 [.ref 0, .int x0, .ref 212] M (.inl (some (.int 1))) M1 := by
  refine ev_introW rfl (nb rfl) (by decide) ?_
  refine g_aload_n (pc := 0) dL_triangles_0 rfl trivial ?_
  refine g_iconst (pc := 1) (v := 0) dL_triangles_1 rfl ?_
  refine g_aload_n (pc := 2) dL_triangles_2 rfl trivial ?_
  refine g_iload_n (pc := 3) dL_triangles_3 rfl ?_
  refine g_tVn_x (pc := 4) (As := [_]) (hpc := 12) dL_triangles_4 rfl (h) rfl rfl hk rfl rfl lk_L_109 rfl (nb rfl) ⟨nb rfl, nb rfl⟩ (hn_triangles_1) dL_triangles_12 (by decide) ?_
  refine g_iconst (pc := 13) (v := 1) dL_triangles_13 rfl ?_
  refine g_ireturn (pc := 14) dL_triangles_14 rfl rfl ?_
  exact ⟨rfl, rfl⟩
theorem hn_fieldRank_1 : Hnd jL_fieldRank 4 xIO 12 := ⟨Or.inl rfl, [], (0, 9, 12, 19), [], rfl, fun z hz => absurd hz List.not_mem_nil, by decide, by decide, wl_19, rfl⟩
theorem w_fieldRank {x0 : Int32} {v : Int32} (h : EvR l jX6_fieldRank 7 150 1 6 [.ref 0, .int x0] M (.inl (some (.int v))) M1) (hk : (mK M)[0]? = some (.inr 6)) (ho : (mK M1)[212]? = some (kL 1)) : EvR l jL_fieldRank 8 171 1 6 [.ref 0, .int x0, .ref 212] M (.inl (some (.int 0))) (pL M1 212 0 v.toInt64) := by
  refine ev_introW rfl (nb rfl) (by decide) ?_
  refine g_aload_n (pc := 0) dL_fieldRank_0 rfl trivial ?_
  refine g_iconst (pc := 1) (v := 0) dL_fieldRank_1 rfl ?_
  refine g_aload_n (pc := 2) dL_fieldRank_2 rfl trivial ?_
  refine g_iload_n (pc := 3) dL_fieldRank_3 rfl ?_
  refine g_tV_r (pc := 4) (As := [_]) dL_fieldRank_4 rfl (h) rfl rfl hk rfl rfl lk_L_112 rfl (nb rfl) ⟨nb rfl, nb rfl⟩ (by decide) ?_
  refine g_i2l (pc := 7) dL_fieldRank_7 rfl ?_
  refine g_lastore (pc := 8) dL_fieldRank_8 ho rfl (nb rfl) (nl rfl) ?_
  refine g_goto (pc := 9) (tgt := 15) dL_fieldRank_9 rfl ?_
  refine g_iconst (pc := 15) (v := 0) dL_fieldRank_15 rfl ?_
  refine g_ireturn (pc := 16) dL_fieldRank_16 rfl rfl ?_
  exact ⟨rfl, rfl⟩
theorem wx_fieldRank {x0 : Int32} (h : EvR l jX6_fieldRank 7 150 1 6 [.ref 0, .int x0] M (.inr xIO) M1) (hk : (mK M)[0]? = some (.inr 6)) : EvR l jL_fieldRank 8 171 1 6 [.ref 0, .int x0, .ref 212] M (.inl (some (.int 1))) M1 := by
  refine ev_introW rfl (nb rfl) (by decide) ?_
  refine g_aload_n (pc := 0) dL_fieldRank_0 rfl trivial ?_
  refine g_iconst (pc := 1) (v := 0) dL_fieldRank_1 rfl ?_
  refine g_aload_n (pc := 2) dL_fieldRank_2 rfl trivial ?_
  refine g_iload_n (pc := 3) dL_fieldRank_3 rfl ?_
  refine g_tVn_x (pc := 4) (As := [_]) (hpc := 12) dL_fieldRank_4 rfl (h) rfl rfl hk rfl rfl lk_L_112 rfl (nb rfl) ⟨nb rfl, nb rfl⟩ (hn_fieldRank_1) dL_fieldRank_12 (by decide) ?_
  refine g_iconst (pc := 13) (v := 1) dL_fieldRank_13 rfl ?_
  refine g_ireturn (pc := 14) dL_fieldRank_14 rfl rfl ?_
  exact ⟨rfl, rfl⟩
theorem hn_solve_1 : Hnd jL_solve 6 xIO 13 := ⟨Or.inl rfl, [], (0, 10, 13, 19), [], rfl, fun z hz => absurd hz List.not_mem_nil, by decide, by decide, wl_19, rfl⟩
theorem w_solve {x0 : Int32} {x1 : Int64} {v : Int64} (h : EvR l jX6_solve 7 150 1 6 [.ref 0, .int x0, .long x1] M (.inl (some (.long v))) M1) (hk : (mK M)[0]? = some (.inr 6)) (ho : (mK M1)[212]? = some (kL 1)) : EvR l jL_solve 8 173 1 6 [.ref 0, .int x0, .long x1, .ref 212] M (.inl (some (.int 0))) (pL M1 212 0 v) := by
  refine ev_introW rfl (nb rfl) (by decide) ?_
  refine g_aload (pc := 0) dL_solve_0 rfl trivial ?_
  refine g_iconst (pc := 2) (v := 0) dL_solve_2 rfl ?_
  refine g_aload_n (pc := 3) dL_solve_3 rfl trivial ?_
  refine g_iload_n (pc := 4) dL_solve_4 rfl ?_
  refine g_lload_n (pc := 5) dL_solve_5 rfl ?_
  refine g_tV_r (pc := 6) (As := [_, _]) dL_solve_6 rfl (h) rfl rfl hk rfl rfl lk_L_115 rfl (nb rfl) ⟨nb rfl, nb rfl⟩ (by decide) ?_
  refine g_lastore (pc := 9) dL_solve_9 ho rfl (nb rfl) (nl rfl) ?_
  refine g_goto (pc := 10) (tgt := 17) dL_solve_10 rfl ?_
  refine g_iconst (pc := 17) (v := 0) dL_solve_17 rfl ?_
  refine g_ireturn (pc := 18) dL_solve_18 rfl rfl ?_
  exact ⟨rfl, rfl⟩
theorem wx_solve {x0 : Int32} {x1 : Int64} (h : EvR l jX6_solve 7 150 1 6 [.ref 0, .int x0, .long x1] M (.inr xIO) M1) (hk : (mK M)[0]? = some (.inr 6)) : EvR l jL_solve 8 173 1 6 [.ref 0, .int x0, .long x1, .ref 212] M (.inl (some (.int 1))) M1 := by
  refine ev_introW rfl (nb rfl) (by decide) ?_
  refine g_aload (pc := 0) dL_solve_0 rfl trivial ?_
  refine g_iconst (pc := 2) (v := 0) dL_solve_2 rfl ?_
  refine g_aload_n (pc := 3) dL_solve_3 rfl trivial ?_
  refine g_iload_n (pc := 4) dL_solve_4 rfl ?_
  refine g_lload_n (pc := 5) dL_solve_5 rfl ?_
  refine g_tVw_x (pc := 6) (As := [_, _]) (hpc := 13) dL_solve_6 rfl (h) rfl rfl hk rfl rfl lk_L_115 rfl (nb rfl) ⟨nb rfl, nb rfl⟩ (hn_solve_1) dL_solve_13 (by decide) ?_
  refine g_iconst (pc := 15) (v := 1) dL_solve_15 rfl ?_
  refine g_ireturn (pc := 16) dL_solve_16 rfl rfl ?_
  exact ⟨rfl, rfl⟩
theorem hn_freedom_1 : Hnd jL_freedom 6 xIO 14 := ⟨Or.inl rfl, [], (0, 11, 14, 19), [], rfl, fun z hz => absurd hz List.not_mem_nil, by decide, by decide, wl_19, rfl⟩
theorem w_freedom {x0 : Int32} {x1 : Int64} {v : Int32} (h : EvR l jX6_freedom 7 150 1 6 [.ref 0, .int x0, .long x1] M (.inl (some (.int v))) M1) (hk : (mK M)[0]? = some (.inr 6)) (ho : (mK M1)[212]? = some (kL 1)) : EvR l jL_freedom 8 173 1 6 [.ref 0, .int x0, .long x1, .ref 212] M (.inl (some (.int 0))) (pL M1 212 0 v.toInt64) := by
  refine ev_introW rfl (nb rfl) (by decide) ?_
  refine g_aload (pc := 0) dL_freedom_0 rfl trivial ?_
  refine g_iconst (pc := 2) (v := 0) dL_freedom_2 rfl ?_
  refine g_aload_n (pc := 3) dL_freedom_3 rfl trivial ?_
  refine g_iload_n (pc := 4) dL_freedom_4 rfl ?_
  refine g_lload_n (pc := 5) dL_freedom_5 rfl ?_
  refine g_tV_r (pc := 6) (As := [_, _]) dL_freedom_6 rfl (h) rfl rfl hk rfl rfl lk_L_119 rfl (nb rfl) ⟨nb rfl, nb rfl⟩ (by decide) ?_
  refine g_i2l (pc := 9) dL_freedom_9 rfl ?_
  refine g_lastore (pc := 10) dL_freedom_10 ho rfl (nb rfl) (nl rfl) ?_
  refine g_goto (pc := 11) (tgt := 18) dL_freedom_11 rfl ?_
  refine g_iconst (pc := 18) (v := 0) dL_freedom_18 rfl ?_
  refine g_ireturn (pc := 19) dL_freedom_19 rfl rfl ?_
  exact ⟨rfl, rfl⟩
theorem wx_freedom {x0 : Int32} {x1 : Int64} (h : EvR l jX6_freedom 7 150 1 6 [.ref 0, .int x0, .long x1] M (.inr xIO) M1) (hk : (mK M)[0]? = some (.inr 6)) : EvR l jL_freedom 8 173 1 6 [.ref 0, .int x0, .long x1, .ref 212] M (.inl (some (.int 1))) M1 := by
  refine ev_introW rfl (nb rfl) (by decide) ?_
  refine g_aload (pc := 0) dL_freedom_0 rfl trivial ?_
  refine g_iconst (pc := 2) (v := 0) dL_freedom_2 rfl ?_
  refine g_aload_n (pc := 3) dL_freedom_3 rfl trivial ?_
  refine g_iload_n (pc := 4) dL_freedom_4 rfl ?_
  refine g_lload_n (pc := 5) dL_freedom_5 rfl ?_
  refine g_tVw_x (pc := 6) (As := [_, _]) (hpc := 14) dL_freedom_6 rfl (h) rfl rfl hk rfl rfl lk_L_119 rfl (nb rfl) ⟨nb rfl, nb rfl⟩ (hn_freedom_1) dL_freedom_14 (by decide) ?_
  refine g_iconst (pc := 16) (v := 1) dL_freedom_16 rfl ?_
  refine g_ireturn (pc := 17) dL_freedom_17 rfl rfl ?_
  exact ⟨rfl, rfl⟩
theorem hn_pivot_1 : Hnd jL_pivot 5 xIO 13 := ⟨Or.inl rfl, [], (0, 10, 13, 19), [], rfl, fun z hz => absurd hz List.not_mem_nil, by decide, by decide, wl_19, rfl⟩
theorem w_pivot {x0 : Int32} {x1 : Int32} {v : Int32} (h : EvR l jX6_pivot 7 150 1 6 [.ref 0, .int x0, .int x1] M (.inl (some (.int v))) M1) (hk : (mK M)[0]? = some (.inr 6)) (ho : (mK M1)[212]? = some (kL 1)) : EvR l jL_pivot 8 172 1 6 [.ref 0, .int x0, .int x1, .ref 212] M (.inl (some (.int 0))) (pL M1 212 0 v.toInt64) := by
  refine ev_introW rfl (nb rfl) (by decide) ?_
  refine g_aload_n (pc := 0) dL_pivot_0 rfl trivial ?_
  refine g_iconst (pc := 1) (v := 0) dL_pivot_1 rfl ?_
  refine g_aload_n (pc := 2) dL_pivot_2 rfl trivial ?_
  refine g_iload_n (pc := 3) dL_pivot_3 rfl ?_
  refine g_iload_n (pc := 4) dL_pivot_4 rfl ?_
  refine g_tV_r (pc := 5) (As := [_, _]) dL_pivot_5 rfl (h) rfl rfl hk rfl rfl lk_L_122 rfl (nb rfl) ⟨nb rfl, nb rfl⟩ (by decide) ?_
  refine g_i2l (pc := 8) dL_pivot_8 rfl ?_
  refine g_lastore (pc := 9) dL_pivot_9 ho rfl (nb rfl) (nl rfl) ?_
  refine g_goto (pc := 10) (tgt := 17) dL_pivot_10 rfl ?_
  refine g_iconst (pc := 17) (v := 0) dL_pivot_17 rfl ?_
  refine g_ireturn (pc := 18) dL_pivot_18 rfl rfl ?_
  exact ⟨rfl, rfl⟩
theorem wx_pivot {x0 : Int32} {x1 : Int32} (h : EvR l jX6_pivot 7 150 1 6 [.ref 0, .int x0, .int x1] M (.inr xIO) M1) (hk : (mK M)[0]? = some (.inr 6)) : EvR l jL_pivot 8 172 1 6 [.ref 0, .int x0, .int x1, .ref 212] M (.inl (some (.int 1))) M1 := by
  refine ev_introW rfl (nb rfl) (by decide) ?_
  refine g_aload_n (pc := 0) dL_pivot_0 rfl trivial ?_
  refine g_iconst (pc := 1) (v := 0) dL_pivot_1 rfl ?_
  refine g_aload_n (pc := 2) dL_pivot_2 rfl trivial ?_
  refine g_iload_n (pc := 3) dL_pivot_3 rfl ?_
  refine g_iload_n (pc := 4) dL_pivot_4 rfl ?_
  refine g_tVw_x (pc := 5) (As := [_, _]) (hpc := 13) dL_pivot_5 rfl (h) rfl rfl hk rfl rfl lk_L_122 rfl (nb rfl) ⟨nb rfl, nb rfl⟩ (hn_pivot_1) dL_pivot_13 (by decide) ?_
  refine g_iconst (pc := 15) (v := 1) dL_pivot_15 rfl ?_
  refine g_ireturn (pc := 16) dL_pivot_16 rfl rfl ?_
  exact ⟨rfl, rfl⟩
theorem hn_put_1 : Hnd jL_put 9 xIO 17 := ⟨Or.inl rfl, [], (0, 14, 17, 19), [], rfl, fun z hz => absurd hz List.not_mem_nil, by decide, by decide, wl_19, rfl⟩
theorem w_put {x0 : Int32} {x1 : Int32} {x2 : Int32} {x3 : Int32} {v : Int32} (h : EvR l jX6_put 9 160 3 18 [.ref 0, .int x0, .int x1, .int x2, .int x3] M (.inl (some (.int v))) M1) (hk : (mK M)[0]? = some (.inr 6)) (ho : (mK M1)[212]? = some (kL 1)) : EvR l jL_put 10 187 3 18 [.ref 0, .int x0, .int x1, .int x2, .int x3, .ref 212] M (.inl (some (.int 0))) (pL M1 212 0 v.toInt64) := by
  refine ev_introW rfl (nb rfl) (by decide) ?_
  refine g_aload (pc := 0) dL_put_0 rfl trivial ?_
  refine g_iconst (pc := 2) (v := 0) dL_put_2 rfl ?_
  refine g_aload_n (pc := 3) dL_put_3 rfl trivial ?_
  refine g_iload_n (pc := 4) dL_put_4 rfl ?_
  refine g_iload_n (pc := 5) dL_put_5 rfl ?_
  refine g_iload_n (pc := 6) dL_put_6 rfl ?_
  refine g_iload (pc := 7) dL_put_7 rfl ?_
  refine g_tV_r (pc := 9) (As := [_, _, _, _]) dL_put_9 rfl (h) rfl rfl hk rfl rfl lk_L_125 rfl (nb rfl) ⟨nb rfl, nb rfl⟩ (by decide) ?_
  refine g_i2l (pc := 12) dL_put_12 rfl ?_
  refine g_lastore (pc := 13) dL_put_13 ho rfl (nb rfl) (nl rfl) ?_
  refine g_goto (pc := 14) (tgt := 21) dL_put_14 rfl ?_
  refine g_iconst (pc := 21) (v := 0) dL_put_21 rfl ?_
  refine g_ireturn (pc := 22) dL_put_22 rfl rfl ?_
  exact ⟨rfl, rfl⟩
theorem wx_put {x0 : Int32} {x1 : Int32} {x2 : Int32} {x3 : Int32} (h : EvR l jX6_put 9 160 3 18 [.ref 0, .int x0, .int x1, .int x2, .int x3] M (.inr xIO) M1) (hk : (mK M)[0]? = some (.inr 6)) : EvR l jL_put 10 187 3 18 [.ref 0, .int x0, .int x1, .int x2, .int x3, .ref 212] M (.inl (some (.int 1))) M1 := by
  refine ev_introW rfl (nb rfl) (by decide) ?_
  refine g_aload (pc := 0) dL_put_0 rfl trivial ?_
  refine g_iconst (pc := 2) (v := 0) dL_put_2 rfl ?_
  refine g_aload_n (pc := 3) dL_put_3 rfl trivial ?_
  refine g_iload_n (pc := 4) dL_put_4 rfl ?_
  refine g_iload_n (pc := 5) dL_put_5 rfl ?_
  refine g_iload_n (pc := 6) dL_put_6 rfl ?_
  refine g_iload (pc := 7) dL_put_7 rfl ?_
  refine g_tVw_x (pc := 9) (As := [_, _, _, _]) (hpc := 17) dL_put_9 rfl (h) rfl rfl hk rfl rfl lk_L_125 rfl (nb rfl) ⟨nb rfl, nb rfl⟩ (hn_put_1) dL_put_17 (by decide) ?_
  refine g_iconst (pc := 19) (v := 1) dL_put_19 rfl ?_
  refine g_ireturn (pc := 20) dL_put_20 rfl rfl ?_
  exact ⟨rfl, rfl⟩
theorem hn_setRow_1 : Hnd jL_setRow 7 xIO 15 := ⟨Or.inl rfl, [], (0, 12, 15, 19), [], rfl, fun z hz => absurd hz List.not_mem_nil, by decide, by decide, wl_19, rfl⟩
theorem w_setRow {x0 : Int32} {x1 : Int32} {x2 : Int64} {v : Int32} (h : EvR l jX6_setRow 8 150 2 12 [.ref 0, .int x0, .int x1, .long x2] M (.inl (some (.int v))) M1) (hk : (mK M)[0]? = some (.inr 6)) (ho : (mK M1)[212]? = some (kL 1)) : EvR l jL_setRow 9 176 2 12 [.ref 0, .int x0, .int x1, .long x2, .ref 212] M (.inl (some (.int 0))) (pL M1 212 0 v.toInt64) := by
  refine ev_introW rfl (nb rfl) (by decide) ?_
  refine g_aload (pc := 0) dL_setRow_0 rfl trivial ?_
  refine g_iconst (pc := 2) (v := 0) dL_setRow_2 rfl ?_
  refine g_aload_n (pc := 3) dL_setRow_3 rfl trivial ?_
  refine g_iload_n (pc := 4) dL_setRow_4 rfl ?_
  refine g_iload_n (pc := 5) dL_setRow_5 rfl ?_
  refine g_lload_n (pc := 6) dL_setRow_6 rfl ?_
  refine g_tV_r (pc := 7) (As := [_, _, _]) dL_setRow_7 rfl (h) rfl rfl hk rfl rfl lk_L_129 rfl (nb rfl) ⟨nb rfl, nb rfl⟩ (by decide) ?_
  refine g_i2l (pc := 10) dL_setRow_10 rfl ?_
  refine g_lastore (pc := 11) dL_setRow_11 ho rfl (nb rfl) (nl rfl) ?_
  refine g_goto (pc := 12) (tgt := 19) dL_setRow_12 rfl ?_
  refine g_iconst (pc := 19) (v := 0) dL_setRow_19 rfl ?_
  refine g_ireturn (pc := 20) dL_setRow_20 rfl rfl ?_
  exact ⟨rfl, rfl⟩
theorem wx_setRow {x0 : Int32} {x1 : Int32} {x2 : Int64} (h : EvR l jX6_setRow 8 150 2 12 [.ref 0, .int x0, .int x1, .long x2] M (.inr xIO) M1) (hk : (mK M)[0]? = some (.inr 6)) : EvR l jL_setRow 9 176 2 12 [.ref 0, .int x0, .int x1, .long x2, .ref 212] M (.inl (some (.int 1))) M1 := by
  refine ev_introW rfl (nb rfl) (by decide) ?_
  refine g_aload (pc := 0) dL_setRow_0 rfl trivial ?_
  refine g_iconst (pc := 2) (v := 0) dL_setRow_2 rfl ?_
  refine g_aload_n (pc := 3) dL_setRow_3 rfl trivial ?_
  refine g_iload_n (pc := 4) dL_setRow_4 rfl ?_
  refine g_iload_n (pc := 5) dL_setRow_5 rfl ?_
  refine g_lload_n (pc := 6) dL_setRow_6 rfl ?_
  refine g_tVw_x (pc := 7) (As := [_, _, _]) (hpc := 15) dL_setRow_7 rfl (h) rfl rfl hk rfl rfl lk_L_129 rfl (nb rfl) ⟨nb rfl, nb rfl⟩ (hn_setRow_1) dL_setRow_15 (by decide) ?_
  refine g_iconst (pc := 17) (v := 1) dL_setRow_17 rfl ?_
  refine g_ireturn (pc := 18) dL_setRow_18 rfl rfl ?_
  exact ⟨rfl, rfl⟩
theorem hn_copy_1 : Hnd jL_copy 5 xIO 13 := ⟨Or.inl rfl, [], (0, 10, 13, 19), [], rfl, fun z hz => absurd hz List.not_mem_nil, by decide, by decide, wl_19, rfl⟩
theorem w_copy {x0 : Int32} {x1 : Int32} {v : Int32} (h : EvR l jX6_copy 7 140 2 12 [.ref 0, .int x0, .int x1] M (.inl (some (.int v))) M1) (hk : (mK M)[0]? = some (.inr 6)) (ho : (mK M1)[212]? = some (kL 1)) : EvR l jL_copy 8 162 2 12 [.ref 0, .int x0, .int x1, .ref 212] M (.inl (some (.int 0))) (pL M1 212 0 v.toInt64) := by
  refine ev_introW rfl (nb rfl) (by decide) ?_
  refine g_aload_n (pc := 0) dL_copy_0 rfl trivial ?_
  refine g_iconst (pc := 1) (v := 0) dL_copy_1 rfl ?_
  refine g_aload_n (pc := 2) dL_copy_2 rfl trivial ?_
  refine g_iload_n (pc := 3) dL_copy_3 rfl ?_
  refine g_iload_n (pc := 4) dL_copy_4 rfl ?_
  refine g_tV_r (pc := 5) (As := [_, _]) dL_copy_5 rfl (h) rfl rfl hk rfl rfl lk_L_133 rfl (nb rfl) ⟨nb rfl, nb rfl⟩ (by decide) ?_
  refine g_i2l (pc := 8) dL_copy_8 rfl ?_
  refine g_lastore (pc := 9) dL_copy_9 ho rfl (nb rfl) (nl rfl) ?_
  refine g_goto (pc := 10) (tgt := 17) dL_copy_10 rfl ?_
  refine g_iconst (pc := 17) (v := 0) dL_copy_17 rfl ?_
  refine g_ireturn (pc := 18) dL_copy_18 rfl rfl ?_
  exact ⟨rfl, rfl⟩
theorem wx_copy {x0 : Int32} {x1 : Int32} (h : EvR l jX6_copy 7 140 2 12 [.ref 0, .int x0, .int x1] M (.inr xIO) M1) (hk : (mK M)[0]? = some (.inr 6)) : EvR l jL_copy 8 162 2 12 [.ref 0, .int x0, .int x1, .ref 212] M (.inl (some (.int 1))) M1 := by
  refine ev_introW rfl (nb rfl) (by decide) ?_
  refine g_aload_n (pc := 0) dL_copy_0 rfl trivial ?_
  refine g_iconst (pc := 1) (v := 0) dL_copy_1 rfl ?_
  refine g_aload_n (pc := 2) dL_copy_2 rfl trivial ?_
  refine g_iload_n (pc := 3) dL_copy_3 rfl ?_
  refine g_iload_n (pc := 4) dL_copy_4 rfl ?_
  refine g_tVw_x (pc := 5) (As := [_, _]) (hpc := 13) dL_copy_5 rfl (h) rfl rfl hk rfl rfl lk_L_133 rfl (nb rfl) ⟨nb rfl, nb rfl⟩ (hn_copy_1) dL_copy_13 (by decide) ?_
  refine g_iconst (pc := 15) (v := 1) dL_copy_15 rfl ?_
  refine g_ireturn (pc := 16) dL_copy_16 rfl rfl ?_
  exact ⟨rfl, rfl⟩
theorem hn_transpose_1 : Hnd jL_transpose 5 xIO 13 := ⟨Or.inl rfl, [], (0, 10, 13, 19), [], rfl, fun z hz => absurd hz List.not_mem_nil, by decide, by decide, wl_19, rfl⟩
theorem w_transpose {x0 : Int32} {x1 : Int32} {v : Int32} (h : EvR l jX6_transpose 7 140 2 12 [.ref 0, .int x0, .int x1] M (.inl (some (.int v))) M1) (hk : (mK M)[0]? = some (.inr 6)) (ho : (mK M1)[212]? = some (kL 1)) : EvR l jL_transpose 8 163 2 12 [.ref 0, .int x0, .int x1, .ref 212] M (.inl (some (.int 0))) (pL M1 212 0 v.toInt64) := by
  refine ev_introW rfl (nb rfl) (by decide) ?_
  refine g_aload_n (pc := 0) dL_transpose_0 rfl trivial ?_
  refine g_iconst (pc := 1) (v := 0) dL_transpose_1 rfl ?_
  refine g_aload_n (pc := 2) dL_transpose_2 rfl trivial ?_
  refine g_iload_n (pc := 3) dL_transpose_3 rfl ?_
  refine g_iload_n (pc := 4) dL_transpose_4 rfl ?_
  refine g_tV_r (pc := 5) (As := [_, _]) dL_transpose_5 rfl (h) rfl rfl hk rfl rfl lk_L_136 rfl (nb rfl) ⟨nb rfl, nb rfl⟩ (by decide) ?_
  refine g_i2l (pc := 8) dL_transpose_8 rfl ?_
  refine g_lastore (pc := 9) dL_transpose_9 ho rfl (nb rfl) (nl rfl) ?_
  refine g_goto (pc := 10) (tgt := 17) dL_transpose_10 rfl ?_
  refine g_iconst (pc := 17) (v := 0) dL_transpose_17 rfl ?_
  refine g_ireturn (pc := 18) dL_transpose_18 rfl rfl ?_
  exact ⟨rfl, rfl⟩
theorem wx_transpose {x0 : Int32} {x1 : Int32} (h : EvR l jX6_transpose 7 140 2 12 [.ref 0, .int x0, .int x1] M (.inr xIO) M1) (hk : (mK M)[0]? = some (.inr 6)) : EvR l jL_transpose 8 163 2 12 [.ref 0, .int x0, .int x1, .ref 212] M (.inl (some (.int 1))) M1 := by
  refine ev_introW rfl (nb rfl) (by decide) ?_
  refine g_aload_n (pc := 0) dL_transpose_0 rfl trivial ?_
  refine g_iconst (pc := 1) (v := 0) dL_transpose_1 rfl ?_
  refine g_aload_n (pc := 2) dL_transpose_2 rfl trivial ?_
  refine g_iload_n (pc := 3) dL_transpose_3 rfl ?_
  refine g_iload_n (pc := 4) dL_transpose_4 rfl ?_
  refine g_tVw_x (pc := 5) (As := [_, _]) (hpc := 13) dL_transpose_5 rfl (h) rfl rfl hk rfl rfl lk_L_136 rfl (nb rfl) ⟨nb rfl, nb rfl⟩ (hn_transpose_1) dL_transpose_13 (by decide) ?_
  refine g_iconst (pc := 15) (v := 1) dL_transpose_15 rfl ?_
  refine g_ireturn (pc := 16) dL_transpose_16 rfl rfl ?_
  exact ⟨rfl, rfl⟩
theorem hn_combine_1 : Hnd jL_combine 9 xIO 17 := ⟨Or.inl rfl, [], (0, 14, 17, 19), [(0, 14, 21, 13)], rfl, fun z hz => absurd hz List.not_mem_nil, by decide, by decide, wl_19, rfl⟩
theorem hn_combine_2 : Hnd jL_combine 9 xIA 21 := ⟨Or.inr rfl, [(0, 14, 17, 19)], (0, 14, 21, 13), [], rfl, fun z hz => by cases List.mem_singleton.mp hz; exact ⟨rfl, by decide, wl_19⟩, by decide, by decide, wl_13, rfl⟩
theorem w_combine {x0 : Int32} {x1 : Int32} {x2 : Int32} {x3 : Int32} {v : Int32} (h : EvR l jX6_combine 7 140 4 24 [.ref 0, .int x0, .int x1, .int x2, .int x3] M (.inl (some (.int v))) M1) (hk : (mK M)[0]? = some (.inr 6)) (ho : (mK M1)[212]? = some (kL 1)) : EvR l jL_combine 8 165 4 24 [.ref 0, .int x0, .int x1, .int x2, .int x3, .ref 212] M (.inl (some (.int 0))) (pL M1 212 0 v.toInt64) := by
  refine ev_introW rfl (nb rfl) (by decide) ?_
  refine g_aload (pc := 0) dL_combine_0 rfl trivial ?_
  refine g_iconst (pc := 2) (v := 0) dL_combine_2 rfl ?_
  refine g_aload_n (pc := 3) dL_combine_3 rfl trivial ?_
  refine g_iload_n (pc := 4) dL_combine_4 rfl ?_
  refine g_iload_n (pc := 5) dL_combine_5 rfl ?_
  refine g_iload_n (pc := 6) dL_combine_6 rfl ?_
  refine g_iload (pc := 7) dL_combine_7 rfl ?_
  refine g_tV_r (pc := 9) (As := [_, _, _, _]) dL_combine_9 rfl (h) rfl rfl hk rfl rfl lk_L_139 rfl (nb rfl) ⟨nb rfl, nb rfl⟩ (by decide) ?_
  refine g_i2l (pc := 12) dL_combine_12 rfl ?_
  refine g_lastore (pc := 13) dL_combine_13 ho rfl (nb rfl) (nl rfl) ?_
  refine g_goto (pc := 14) (tgt := 25) dL_combine_14 rfl ?_
  refine g_iconst (pc := 25) (v := 0) dL_combine_25 rfl ?_
  refine g_ireturn (pc := 26) dL_combine_26 rfl rfl ?_
  exact ⟨rfl, rfl⟩
theorem wx_combine {x0 : Int32} {x1 : Int32} {x2 : Int32} {x3 : Int32} (h : EvR l jX6_combine 7 140 4 24 [.ref 0, .int x0, .int x1, .int x2, .int x3] M (.inr xIO) M1) (hk : (mK M)[0]? = some (.inr 6)) : EvR l jL_combine 8 165 4 24 [.ref 0, .int x0, .int x1, .int x2, .int x3, .ref 212] M (.inl (some (.int 1))) M1 := by
  refine ev_introW rfl (nb rfl) (by decide) ?_
  refine g_aload (pc := 0) dL_combine_0 rfl trivial ?_
  refine g_iconst (pc := 2) (v := 0) dL_combine_2 rfl ?_
  refine g_aload_n (pc := 3) dL_combine_3 rfl trivial ?_
  refine g_iload_n (pc := 4) dL_combine_4 rfl ?_
  refine g_iload_n (pc := 5) dL_combine_5 rfl ?_
  refine g_iload_n (pc := 6) dL_combine_6 rfl ?_
  refine g_iload (pc := 7) dL_combine_7 rfl ?_
  refine g_tVw_x (pc := 9) (As := [_, _, _, _]) (hpc := 17) dL_combine_9 rfl (h) rfl rfl hk rfl rfl lk_L_139 rfl (nb rfl) ⟨nb rfl, nb rfl⟩ (hn_combine_1) dL_combine_17 (by decide) ?_
  refine g_iconst (pc := 19) (v := 1) dL_combine_19 rfl ?_
  refine g_ireturn (pc := 20) dL_combine_20 rfl rfl ?_
  exact ⟨rfl, rfl⟩
theorem wy_combine {x0 : Int32} {x1 : Int32} {x2 : Int32} {x3 : Int32} (h : EvR l jX6_combine 7 140 4 24 [.ref 0, .int x0, .int x1, .int x2, .int x3] M (.inr xIA) M1) (hk : (mK M)[0]? = some (.inr 6)) : EvR l jL_combine 8 165 4 24 [.ref 0, .int x0, .int x1, .int x2, .int x3, .ref 212] M (.inl (some (.int 2))) M1 := by
  refine ev_introW rfl (nb rfl) (by decide) ?_
  refine g_aload (pc := 0) dL_combine_0 rfl trivial ?_
  refine g_iconst (pc := 2) (v := 0) dL_combine_2 rfl ?_
  refine g_aload_n (pc := 3) dL_combine_3 rfl trivial ?_
  refine g_iload_n (pc := 4) dL_combine_4 rfl ?_
  refine g_iload_n (pc := 5) dL_combine_5 rfl ?_
  refine g_iload_n (pc := 6) dL_combine_6 rfl ?_
  refine g_iload (pc := 7) dL_combine_7 rfl ?_
  refine g_tVw_x (pc := 9) (As := [_, _, _, _]) (hpc := 21) dL_combine_9 rfl (h) rfl rfl hk rfl rfl lk_L_139 rfl (nb rfl) ⟨nb rfl, nb rfl⟩ (hn_combine_2) dL_combine_21 (by decide) ?_
  refine g_iconst (pc := 23) (v := 2) dL_combine_23 rfl ?_
  refine g_ireturn (pc := 24) dL_combine_24 rfl rfl ?_
  exact ⟨rfl, rfl⟩
theorem hn_product_1 : Hnd jL_product 9 xIO 17 := ⟨Or.inl rfl, [], (0, 14, 17, 19), [], rfl, fun z hz => absurd hz List.not_mem_nil, by decide, by decide, wl_19, rfl⟩
theorem w_product {x0 : Int32} {x1 : Int32} {x2 : Int32} {x3 : Int32} {v : Int32} (h : EvR l jX6_product 7 140 3 18 [.ref 0, .int x0, .int x1, .int x2, .int x3] M (.inl (some (.int v))) M1) (hk : (mK M)[0]? = some (.inr 6)) (ho : (mK M1)[212]? = some (kL 1)) : EvR l jL_product 8 164 3 18 [.ref 0, .int x0, .int x1, .int x2, .int x3, .ref 212] M (.inl (some (.int 0))) (pL M1 212 0 v.toInt64) := by
  refine ev_introW rfl (nb rfl) (by decide) ?_
  refine g_aload (pc := 0) dL_product_0 rfl trivial ?_
  refine g_iconst (pc := 2) (v := 0) dL_product_2 rfl ?_
  refine g_aload_n (pc := 3) dL_product_3 rfl trivial ?_
  refine g_iload_n (pc := 4) dL_product_4 rfl ?_
  refine g_iload_n (pc := 5) dL_product_5 rfl ?_
  refine g_iload_n (pc := 6) dL_product_6 rfl ?_
  refine g_iload (pc := 7) dL_product_7 rfl ?_
  refine g_tV_r (pc := 9) (As := [_, _, _, _]) dL_product_9 rfl (h) rfl rfl hk rfl rfl lk_L_142 rfl (nb rfl) ⟨nb rfl, nb rfl⟩ (by decide) ?_
  refine g_i2l (pc := 12) dL_product_12 rfl ?_
  refine g_lastore (pc := 13) dL_product_13 ho rfl (nb rfl) (nl rfl) ?_
  refine g_goto (pc := 14) (tgt := 21) dL_product_14 rfl ?_
  refine g_iconst (pc := 21) (v := 0) dL_product_21 rfl ?_
  refine g_ireturn (pc := 22) dL_product_22 rfl rfl ?_
  exact ⟨rfl, rfl⟩
theorem wx_product {x0 : Int32} {x1 : Int32} {x2 : Int32} {x3 : Int32} (h : EvR l jX6_product 7 140 3 18 [.ref 0, .int x0, .int x1, .int x2, .int x3] M (.inr xIO) M1) (hk : (mK M)[0]? = some (.inr 6)) : EvR l jL_product 8 164 3 18 [.ref 0, .int x0, .int x1, .int x2, .int x3, .ref 212] M (.inl (some (.int 1))) M1 := by
  refine ev_introW rfl (nb rfl) (by decide) ?_
  refine g_aload (pc := 0) dL_product_0 rfl trivial ?_
  refine g_iconst (pc := 2) (v := 0) dL_product_2 rfl ?_
  refine g_aload_n (pc := 3) dL_product_3 rfl trivial ?_
  refine g_iload_n (pc := 4) dL_product_4 rfl ?_
  refine g_iload_n (pc := 5) dL_product_5 rfl ?_
  refine g_iload_n (pc := 6) dL_product_6 rfl ?_
  refine g_iload (pc := 7) dL_product_7 rfl ?_
  refine g_tVw_x (pc := 9) (As := [_, _, _, _]) (hpc := 17) dL_product_9 rfl (h) rfl rfl hk rfl rfl lk_L_142 rfl (nb rfl) ⟨nb rfl, nb rfl⟩ (hn_product_1) dL_product_17 (by decide) ?_
  refine g_iconst (pc := 19) (v := 1) dL_product_19 rfl ?_
  refine g_ireturn (pc := 20) dL_product_20 rfl rfl ?_
  exact ⟨rfl, rfl⟩
theorem hn_power_1 : Hnd jL_power 9 xIO 17 := ⟨Or.inl rfl, [], (0, 14, 17, 19), [(0, 14, 21, 13)], rfl, fun z hz => absurd hz List.not_mem_nil, by decide, by decide, wl_19, rfl⟩
theorem hn_power_2 : Hnd jL_power 9 xIA 21 := ⟨Or.inr rfl, [(0, 14, 17, 19)], (0, 14, 21, 13), [], rfl, fun z hz => by cases List.mem_singleton.mp hz; exact ⟨rfl, by decide, wl_19⟩, by decide, by decide, wl_13, rfl⟩
theorem w_power {x0 : Int32} {x1 : Int32} {x2 : Int32} {x3 : Int32} {v : Int32} (h : EvR l jX6_power 7 140 4 24 [.ref 0, .int x0, .int x1, .int x2, .int x3] M (.inl (some (.int v))) M1) (hk : (mK M)[0]? = some (.inr 6)) (ho : (mK M1)[212]? = some (kL 1)) : EvR l jL_power 8 165 4 24 [.ref 0, .int x0, .int x1, .int x2, .int x3, .ref 212] M (.inl (some (.int 0))) (pL M1 212 0 v.toInt64) := by
  refine ev_introW rfl (nb rfl) (by decide) ?_
  refine g_aload (pc := 0) dL_power_0 rfl trivial ?_
  refine g_iconst (pc := 2) (v := 0) dL_power_2 rfl ?_
  refine g_aload_n (pc := 3) dL_power_3 rfl trivial ?_
  refine g_iload_n (pc := 4) dL_power_4 rfl ?_
  refine g_iload_n (pc := 5) dL_power_5 rfl ?_
  refine g_iload_n (pc := 6) dL_power_6 rfl ?_
  refine g_iload (pc := 7) dL_power_7 rfl ?_
  refine g_tV_r (pc := 9) (As := [_, _, _, _]) dL_power_9 rfl (h) rfl rfl hk rfl rfl lk_L_145 rfl (nb rfl) ⟨nb rfl, nb rfl⟩ (by decide) ?_
  refine g_i2l (pc := 12) dL_power_12 rfl ?_
  refine g_lastore (pc := 13) dL_power_13 ho rfl (nb rfl) (nl rfl) ?_
  refine g_goto (pc := 14) (tgt := 25) dL_power_14 rfl ?_
  refine g_iconst (pc := 25) (v := 0) dL_power_25 rfl ?_
  refine g_ireturn (pc := 26) dL_power_26 rfl rfl ?_
  exact ⟨rfl, rfl⟩
theorem wx_power {x0 : Int32} {x1 : Int32} {x2 : Int32} {x3 : Int32} (h : EvR l jX6_power 7 140 4 24 [.ref 0, .int x0, .int x1, .int x2, .int x3] M (.inr xIO) M1) (hk : (mK M)[0]? = some (.inr 6)) : EvR l jL_power 8 165 4 24 [.ref 0, .int x0, .int x1, .int x2, .int x3, .ref 212] M (.inl (some (.int 1))) M1 := by
  refine ev_introW rfl (nb rfl) (by decide) ?_
  refine g_aload (pc := 0) dL_power_0 rfl trivial ?_
  refine g_iconst (pc := 2) (v := 0) dL_power_2 rfl ?_
  refine g_aload_n (pc := 3) dL_power_3 rfl trivial ?_
  refine g_iload_n (pc := 4) dL_power_4 rfl ?_
  refine g_iload_n (pc := 5) dL_power_5 rfl ?_
  refine g_iload_n (pc := 6) dL_power_6 rfl ?_
  refine g_iload (pc := 7) dL_power_7 rfl ?_
  refine g_tVw_x (pc := 9) (As := [_, _, _, _]) (hpc := 17) dL_power_9 rfl (h) rfl rfl hk rfl rfl lk_L_145 rfl (nb rfl) ⟨nb rfl, nb rfl⟩ (hn_power_1) dL_power_17 (by decide) ?_
  refine g_iconst (pc := 19) (v := 1) dL_power_19 rfl ?_
  refine g_ireturn (pc := 20) dL_power_20 rfl rfl ?_
  exact ⟨rfl, rfl⟩
theorem wy_power {x0 : Int32} {x1 : Int32} {x2 : Int32} {x3 : Int32} (h : EvR l jX6_power 7 140 4 24 [.ref 0, .int x0, .int x1, .int x2, .int x3] M (.inr xIA) M1) (hk : (mK M)[0]? = some (.inr 6)) : EvR l jL_power 8 165 4 24 [.ref 0, .int x0, .int x1, .int x2, .int x3, .ref 212] M (.inl (some (.int 2))) M1 := by
  refine ev_introW rfl (nb rfl) (by decide) ?_
  refine g_aload (pc := 0) dL_power_0 rfl trivial ?_
  refine g_iconst (pc := 2) (v := 0) dL_power_2 rfl ?_
  refine g_aload_n (pc := 3) dL_power_3 rfl trivial ?_
  refine g_iload_n (pc := 4) dL_power_4 rfl ?_
  refine g_iload_n (pc := 5) dL_power_5 rfl ?_
  refine g_iload_n (pc := 6) dL_power_6 rfl ?_
  refine g_iload (pc := 7) dL_power_7 rfl ?_
  refine g_tVw_x (pc := 9) (As := [_, _, _, _]) (hpc := 21) dL_power_9 rfl (h) rfl rfl hk rfl rfl lk_L_145 rfl (nb rfl) ⟨nb rfl, nb rfl⟩ (hn_power_2) dL_power_21 (by decide) ?_
  refine g_iconst (pc := 23) (v := 2) dL_power_23 rfl ?_
  refine g_ireturn (pc := 24) dL_power_24 rfl rfl ?_
  exact ⟨rfl, rfl⟩
theorem hn_invert_1 : Hnd jL_invert 5 xIO 13 := ⟨Or.inl rfl, [], (0, 10, 13, 19), [], rfl, fun z hz => absurd hz List.not_mem_nil, by decide, by decide, wl_19, rfl⟩
theorem w_invert {x0 : Int32} {x1 : Int32} {v : Int32} (h : EvR l jX6_invert 7 150 2 12 [.ref 0, .int x0, .int x1] M (.inl (some (.int v))) M1) (hk : (mK M)[0]? = some (.inr 6)) (ho : (mK M1)[212]? = some (kL 1)) : EvR l jL_invert 8 172 2 12 [.ref 0, .int x0, .int x1, .ref 212] M (.inl (some (.int 0))) (pL M1 212 0 v.toInt64) := by
  refine ev_introW rfl (nb rfl) (by decide) ?_
  refine g_aload_n (pc := 0) dL_invert_0 rfl trivial ?_
  refine g_iconst (pc := 1) (v := 0) dL_invert_1 rfl ?_
  refine g_aload_n (pc := 2) dL_invert_2 rfl trivial ?_
  refine g_iload_n (pc := 3) dL_invert_3 rfl ?_
  refine g_iload_n (pc := 4) dL_invert_4 rfl ?_
  refine g_tV_r (pc := 5) (As := [_, _]) dL_invert_5 rfl (h) rfl rfl hk rfl rfl lk_L_148 rfl (nb rfl) ⟨nb rfl, nb rfl⟩ (by decide) ?_
  refine g_i2l (pc := 8) dL_invert_8 rfl ?_
  refine g_lastore (pc := 9) dL_invert_9 ho rfl (nb rfl) (nl rfl) ?_
  refine g_goto (pc := 10) (tgt := 17) dL_invert_10 rfl ?_
  refine g_iconst (pc := 17) (v := 0) dL_invert_17 rfl ?_
  refine g_ireturn (pc := 18) dL_invert_18 rfl rfl ?_
  exact ⟨rfl, rfl⟩
theorem wx_invert {x0 : Int32} {x1 : Int32} (h : EvR l jX6_invert 7 150 2 12 [.ref 0, .int x0, .int x1] M (.inr xIO) M1) (hk : (mK M)[0]? = some (.inr 6)) : EvR l jL_invert 8 172 2 12 [.ref 0, .int x0, .int x1, .ref 212] M (.inl (some (.int 1))) M1 := by
  refine ev_introW rfl (nb rfl) (by decide) ?_
  refine g_aload_n (pc := 0) dL_invert_0 rfl trivial ?_
  refine g_iconst (pc := 1) (v := 0) dL_invert_1 rfl ?_
  refine g_aload_n (pc := 2) dL_invert_2 rfl trivial ?_
  refine g_iload_n (pc := 3) dL_invert_3 rfl ?_
  refine g_iload_n (pc := 4) dL_invert_4 rfl ?_
  refine g_tVw_x (pc := 5) (As := [_, _]) (hpc := 13) dL_invert_5 rfl (h) rfl rfl hk rfl rfl lk_L_148 rfl (nb rfl) ⟨nb rfl, nb rfl⟩ (hn_invert_1) dL_invert_13 (by decide) ?_
  refine g_iconst (pc := 15) (v := 1) dL_invert_15 rfl ?_
  refine g_ireturn (pc := 16) dL_invert_16 rfl rfl ?_
  exact ⟨rfl, rfl⟩
theorem hn_close_1 : Hnd jL_close 5 xIO 13 := ⟨Or.inl rfl, [], (0, 10, 13, 19), [], rfl, fun z hz => absurd hz List.not_mem_nil, by decide, by decide, wl_19, rfl⟩
theorem w_close {x0 : Int32} {x1 : Int32} {v : Int32} (h : EvR l jX6_close 7 140 2 12 [.ref 0, .int x0, .int x1] M (.inl (some (.int v))) M1) (hk : (mK M)[0]? = some (.inr 6)) (ho : (mK M1)[212]? = some (kL 1)) : EvR l jL_close 8 162 2 12 [.ref 0, .int x0, .int x1, .ref 212] M (.inl (some (.int 0))) (pL M1 212 0 v.toInt64) := by
  refine ev_introW rfl (nb rfl) (by decide) ?_
  refine g_aload_n (pc := 0) dL_close_0 rfl trivial ?_
  refine g_iconst (pc := 1) (v := 0) dL_close_1 rfl ?_
  refine g_aload_n (pc := 2) dL_close_2 rfl trivial ?_
  refine g_iload_n (pc := 3) dL_close_3 rfl ?_
  refine g_iload_n (pc := 4) dL_close_4 rfl ?_
  refine g_tV_r (pc := 5) (As := [_, _]) dL_close_5 rfl (h) rfl rfl hk rfl rfl lk_L_151 rfl (nb rfl) ⟨nb rfl, nb rfl⟩ (by decide) ?_
  refine g_i2l (pc := 8) dL_close_8 rfl ?_
  refine g_lastore (pc := 9) dL_close_9 ho rfl (nb rfl) (nl rfl) ?_
  refine g_goto (pc := 10) (tgt := 17) dL_close_10 rfl ?_
  refine g_iconst (pc := 17) (v := 0) dL_close_17 rfl ?_
  refine g_ireturn (pc := 18) dL_close_18 rfl rfl ?_
  exact ⟨rfl, rfl⟩
theorem wx_close {x0 : Int32} {x1 : Int32} (h : EvR l jX6_close 7 140 2 12 [.ref 0, .int x0, .int x1] M (.inr xIO) M1) (hk : (mK M)[0]? = some (.inr 6)) : EvR l jL_close 8 162 2 12 [.ref 0, .int x0, .int x1, .ref 212] M (.inl (some (.int 1))) M1 := by
  refine ev_introW rfl (nb rfl) (by decide) ?_
  refine g_aload_n (pc := 0) dL_close_0 rfl trivial ?_
  refine g_iconst (pc := 1) (v := 0) dL_close_1 rfl ?_
  refine g_aload_n (pc := 2) dL_close_2 rfl trivial ?_
  refine g_iload_n (pc := 3) dL_close_3 rfl ?_
  refine g_iload_n (pc := 4) dL_close_4 rfl ?_
  refine g_tVw_x (pc := 5) (As := [_, _]) (hpc := 13) dL_close_5 rfl (h) rfl rfl hk rfl rfl lk_L_151 rfl (nb rfl) ⟨nb rfl, nb rfl⟩ (hn_close_1) dL_close_13 (by decide) ?_
  refine g_iconst (pc := 15) (v := 1) dL_close_15 rfl ?_
  refine g_ireturn (pc := 16) dL_close_16 rfl rfl ?_
  exact ⟨rfl, rfl⟩
theorem hn_reduce_1 : Hnd jL_reduce 5 xIO 13 := ⟨Or.inl rfl, [], (0, 10, 13, 19), [], rfl, fun z hz => absurd hz List.not_mem_nil, by decide, by decide, wl_19, rfl⟩
theorem w_reduce {x0 : Int32} {x1 : Int32} {v : Int32} (h : EvR l jX6_reduce 7 140 2 12 [.ref 0, .int x0, .int x1] M (.inl (some (.int v))) M1) (hk : (mK M)[0]? = some (.inr 6)) (ho : (mK M1)[212]? = some (kL 1)) : EvR l jL_reduce 8 163 2 12 [.ref 0, .int x0, .int x1, .ref 212] M (.inl (some (.int 0))) (pL M1 212 0 v.toInt64) := by
  refine ev_introW rfl (nb rfl) (by decide) ?_
  refine g_aload_n (pc := 0) dL_reduce_0 rfl trivial ?_
  refine g_iconst (pc := 1) (v := 0) dL_reduce_1 rfl ?_
  refine g_aload_n (pc := 2) dL_reduce_2 rfl trivial ?_
  refine g_iload_n (pc := 3) dL_reduce_3 rfl ?_
  refine g_iload_n (pc := 4) dL_reduce_4 rfl ?_
  refine g_tV_r (pc := 5) (As := [_, _]) dL_reduce_5 rfl (h) rfl rfl hk rfl rfl lk_L_154 rfl (nb rfl) ⟨nb rfl, nb rfl⟩ (by decide) ?_
  refine g_i2l (pc := 8) dL_reduce_8 rfl ?_
  refine g_lastore (pc := 9) dL_reduce_9 ho rfl (nb rfl) (nl rfl) ?_
  refine g_goto (pc := 10) (tgt := 17) dL_reduce_10 rfl ?_
  refine g_iconst (pc := 17) (v := 0) dL_reduce_17 rfl ?_
  refine g_ireturn (pc := 18) dL_reduce_18 rfl rfl ?_
  exact ⟨rfl, rfl⟩
theorem wx_reduce {x0 : Int32} {x1 : Int32} (h : EvR l jX6_reduce 7 140 2 12 [.ref 0, .int x0, .int x1] M (.inr xIO) M1) (hk : (mK M)[0]? = some (.inr 6)) : EvR l jL_reduce 8 163 2 12 [.ref 0, .int x0, .int x1, .ref 212] M (.inl (some (.int 1))) M1 := by
  refine ev_introW rfl (nb rfl) (by decide) ?_
  refine g_aload_n (pc := 0) dL_reduce_0 rfl trivial ?_
  refine g_iconst (pc := 1) (v := 0) dL_reduce_1 rfl ?_
  refine g_aload_n (pc := 2) dL_reduce_2 rfl trivial ?_
  refine g_iload_n (pc := 3) dL_reduce_3 rfl ?_
  refine g_iload_n (pc := 4) dL_reduce_4 rfl ?_
  refine g_tVw_x (pc := 5) (As := [_, _]) (hpc := 13) dL_reduce_5 rfl (h) rfl rfl hk rfl rfl lk_L_154 rfl (nb rfl) ⟨nb rfl, nb rfl⟩ (hn_reduce_1) dL_reduce_13 (by decide) ?_
  refine g_iconst (pc := 15) (v := 1) dL_reduce_15 rfl ?_
  refine g_ireturn (pc := 16) dL_reduce_16 rfl rfl ?_
  exact ⟨rfl, rfl⟩
theorem hn_exchange_1 : Hnd jL_exchange 7 xIO 15 := ⟨Or.inl rfl, [], (0, 12, 15, 19), [], rfl, fun z hz => absurd hz List.not_mem_nil, by decide, by decide, wl_19, rfl⟩
theorem w_exchange {x0 : Int32} {x1 : Int32} {x2 : Int32} {v : Int32} (h : EvR l jX6_exchange 9 160 3 18 [.ref 0, .int x0, .int x1, .int x2] M (.inl (some (.int v))) M1) (hk : (mK M)[0]? = some (.inr 6)) (ho : (mK M1)[212]? = some (kL 1)) : EvR l jL_exchange 10 187 3 18 [.ref 0, .int x0, .int x1, .int x2, .ref 212] M (.inl (some (.int 0))) (pL M1 212 0 v.toInt64) := by
  refine ev_introW rfl (nb rfl) (by decide) ?_
  refine g_aload (pc := 0) dL_exchange_0 rfl trivial ?_
  refine g_iconst (pc := 2) (v := 0) dL_exchange_2 rfl ?_
  refine g_aload_n (pc := 3) dL_exchange_3 rfl trivial ?_
  refine g_iload_n (pc := 4) dL_exchange_4 rfl ?_
  refine g_iload_n (pc := 5) dL_exchange_5 rfl ?_
  refine g_iload_n (pc := 6) dL_exchange_6 rfl ?_
  refine g_tV_r (pc := 7) (As := [_, _, _]) dL_exchange_7 rfl (h) rfl rfl hk rfl rfl lk_L_157 rfl (nb rfl) ⟨nb rfl, nb rfl⟩ (by decide) ?_
  refine g_i2l (pc := 10) dL_exchange_10 rfl ?_
  refine g_lastore (pc := 11) dL_exchange_11 ho rfl (nb rfl) (nl rfl) ?_
  refine g_goto (pc := 12) (tgt := 19) dL_exchange_12 rfl ?_
  refine g_iconst (pc := 19) (v := 0) dL_exchange_19 rfl ?_
  refine g_ireturn (pc := 20) dL_exchange_20 rfl rfl ?_
  exact ⟨rfl, rfl⟩
theorem wx_exchange {x0 : Int32} {x1 : Int32} {x2 : Int32} (h : EvR l jX6_exchange 9 160 3 18 [.ref 0, .int x0, .int x1, .int x2] M (.inr xIO) M1) (hk : (mK M)[0]? = some (.inr 6)) : EvR l jL_exchange 10 187 3 18 [.ref 0, .int x0, .int x1, .int x2, .ref 212] M (.inl (some (.int 1))) M1 := by
  refine ev_introW rfl (nb rfl) (by decide) ?_
  refine g_aload (pc := 0) dL_exchange_0 rfl trivial ?_
  refine g_iconst (pc := 2) (v := 0) dL_exchange_2 rfl ?_
  refine g_aload_n (pc := 3) dL_exchange_3 rfl trivial ?_
  refine g_iload_n (pc := 4) dL_exchange_4 rfl ?_
  refine g_iload_n (pc := 5) dL_exchange_5 rfl ?_
  refine g_iload_n (pc := 6) dL_exchange_6 rfl ?_
  refine g_tVw_x (pc := 7) (As := [_, _, _]) (hpc := 15) dL_exchange_7 rfl (h) rfl rfl hk rfl rfl lk_L_157 rfl (nb rfl) ⟨nb rfl, nb rfl⟩ (hn_exchange_1) dL_exchange_15 (by decide) ?_
  refine g_iconst (pc := 17) (v := 1) dL_exchange_17 rfl ?_
  refine g_ireturn (pc := 18) dL_exchange_18 rfl rfl ?_
  exact ⟨rfl, rfl⟩
theorem hn_keep_1 : Hnd jL_keep 5 xIO 13 := ⟨Or.inl rfl, [], (0, 10, 13, 19), [], rfl, fun z hz => absurd hz List.not_mem_nil, by decide, by decide, wl_19, rfl⟩
theorem w_keep {x0 : Int32} {x1 : Int32} {v : Int32} (h : EvR l jX6_keep 7 140 1 6 [.ref 0, .int x0, .int x1] M (.inl (some (.int v))) M1) (hk : (mK M)[0]? = some (.inr 6)) (ho : (mK M1)[212]? = some (kL 1)) : EvR l jL_keep 8 163 1 6 [.ref 0, .int x0, .int x1, .ref 212] M (.inl (some (.int 0))) (pL M1 212 0 v.toInt64) := by
  refine ev_introW rfl (nb rfl) (by decide) ?_
  refine g_aload_n (pc := 0) dL_keep_0 rfl trivial ?_
  refine g_iconst (pc := 1) (v := 0) dL_keep_1 rfl ?_
  refine g_aload_n (pc := 2) dL_keep_2 rfl trivial ?_
  refine g_iload_n (pc := 3) dL_keep_3 rfl ?_
  refine g_iload_n (pc := 4) dL_keep_4 rfl ?_
  refine g_tV_r (pc := 5) (As := [_, _]) dL_keep_5 rfl (h) rfl rfl hk rfl rfl lk_L_160 rfl (nb rfl) ⟨nb rfl, nb rfl⟩ (by decide) ?_
  refine g_i2l (pc := 8) dL_keep_8 rfl ?_
  refine g_lastore (pc := 9) dL_keep_9 ho rfl (nb rfl) (nl rfl) ?_
  refine g_goto (pc := 10) (tgt := 17) dL_keep_10 rfl ?_
  refine g_iconst (pc := 17) (v := 0) dL_keep_17 rfl ?_
  refine g_ireturn (pc := 18) dL_keep_18 rfl rfl ?_
  exact ⟨rfl, rfl⟩
theorem wx_keep {x0 : Int32} {x1 : Int32} (h : EvR l jX6_keep 7 140 1 6 [.ref 0, .int x0, .int x1] M (.inr xIO) M1) (hk : (mK M)[0]? = some (.inr 6)) : EvR l jL_keep 8 163 1 6 [.ref 0, .int x0, .int x1, .ref 212] M (.inl (some (.int 1))) M1 := by
  refine ev_introW rfl (nb rfl) (by decide) ?_
  refine g_aload_n (pc := 0) dL_keep_0 rfl trivial ?_
  refine g_iconst (pc := 1) (v := 0) dL_keep_1 rfl ?_
  refine g_aload_n (pc := 2) dL_keep_2 rfl trivial ?_
  refine g_iload_n (pc := 3) dL_keep_3 rfl ?_
  refine g_iload_n (pc := 4) dL_keep_4 rfl ?_
  refine g_tVw_x (pc := 5) (As := [_, _]) (hpc := 13) dL_keep_5 rfl (h) rfl rfl hk rfl rfl lk_L_160 rfl (nb rfl) ⟨nb rfl, nb rfl⟩ (hn_keep_1) dL_keep_13 (by decide) ?_
  refine g_iconst (pc := 15) (v := 1) dL_keep_15 rfl ?_
  refine g_ireturn (pc := 16) dL_keep_16 rfl rfl ?_
  exact ⟨rfl, rfl⟩
theorem hn_setBlock_1 : Hnd jL_setBlock 4 xIA 12 := ⟨Or.inr rfl, [], (0, 9, 12, 13), [], rfl, fun z hz => absurd hz List.not_mem_nil, by decide, by decide, wl_13, rfl⟩
theorem w_setBlock {x0 : Int32} {v : Int32} (h : EvR l jX6_setBlock 7 140 1 6 [.ref 0, .int x0] M (.inl (some (.int v))) M1) (hk : (mK M)[0]? = some (.inr 6)) (ho : (mK M1)[212]? = some (kL 1)) : EvR l jL_setBlock 8 162 1 6 [.ref 0, .int x0, .ref 212] M (.inl (some (.int 0))) (pL M1 212 0 v.toInt64) := by
  refine ev_introW rfl (nb rfl) (by decide) ?_
  refine g_aload_n (pc := 0) dL_setBlock_0 rfl trivial ?_
  refine g_iconst (pc := 1) (v := 0) dL_setBlock_1 rfl ?_
  refine g_aload_n (pc := 2) dL_setBlock_2 rfl trivial ?_
  refine g_iload_n (pc := 3) dL_setBlock_3 rfl ?_
  refine g_tV_r (pc := 4) (As := [_]) dL_setBlock_4 rfl (h) rfl rfl hk rfl rfl lk_L_164 rfl (nb rfl) ⟨nb rfl, nb rfl⟩ (by decide) ?_
  refine g_i2l (pc := 7) dL_setBlock_7 rfl ?_
  refine g_lastore (pc := 8) dL_setBlock_8 ho rfl (nb rfl) (nl rfl) ?_
  refine g_goto (pc := 9) (tgt := 15) dL_setBlock_9 rfl ?_
  refine g_iconst (pc := 15) (v := 0) dL_setBlock_15 rfl ?_
  refine g_ireturn (pc := 16) dL_setBlock_16 rfl rfl ?_
  exact ⟨rfl, rfl⟩
theorem wx_setBlock {x0 : Int32} (h : EvR l jX6_setBlock 7 140 1 6 [.ref 0, .int x0] M (.inr xIA) M1) (hk : (mK M)[0]? = some (.inr 6)) : EvR l jL_setBlock 8 162 1 6 [.ref 0, .int x0, .ref 212] M (.inl (some (.int 1))) M1 := by
  refine ev_introW rfl (nb rfl) (by decide) ?_
  refine g_aload_n (pc := 0) dL_setBlock_0 rfl trivial ?_
  refine g_iconst (pc := 1) (v := 0) dL_setBlock_1 rfl ?_
  refine g_aload_n (pc := 2) dL_setBlock_2 rfl trivial ?_
  refine g_iload_n (pc := 3) dL_setBlock_3 rfl ?_
  refine g_tVn_x (pc := 4) (As := [_]) (hpc := 12) dL_setBlock_4 rfl (h) rfl rfl hk rfl rfl lk_L_164 rfl (nb rfl) ⟨nb rfl, nb rfl⟩ (hn_setBlock_1) dL_setBlock_12 (by decide) ?_
  refine g_iconst (pc := 13) (v := 1) dL_setBlock_13 rfl ?_
  refine g_ireturn (pc := 14) dL_setBlock_14 rfl rfl ?_
  exact ⟨rfl, rfl⟩
theorem hn_kept_1 : Hnd jL_kept 5 xIO 13 := ⟨Or.inl rfl, [], (0, 10, 13, 19), [(0, 10, 17, 13)], rfl, fun z hz => absurd hz List.not_mem_nil, by decide, by decide, wl_19, rfl⟩
theorem hn_kept_2 : Hnd jL_kept 5 xIA 17 := ⟨Or.inr rfl, [(0, 10, 13, 19)], (0, 10, 17, 13), [], rfl, fun z hz => by cases List.mem_singleton.mp hz; exact ⟨rfl, by decide, wl_19⟩, by decide, by decide, wl_13, rfl⟩
theorem w_kept {x0 : Int32} {x1 : Int32} {v : Int32} (h : EvR l jX6_kept 7 120 2 12 [.ref 0, .int x0, .int x1] M (.inl (some (.int v))) M1) (hk : (mK M)[0]? = some (.inr 6)) (ho : (mK M1)[212]? = some (kL 1)) : EvR l jL_kept 8 143 2 12 [.ref 0, .int x0, .int x1, .ref 212] M (.inl (some (.int 0))) (pL M1 212 0 v.toInt64) := by
  refine ev_introW rfl (nb rfl) (by decide) ?_
  refine g_aload_n (pc := 0) dL_kept_0 rfl trivial ?_
  refine g_iconst (pc := 1) (v := 0) dL_kept_1 rfl ?_
  refine g_aload_n (pc := 2) dL_kept_2 rfl trivial ?_
  refine g_iload_n (pc := 3) dL_kept_3 rfl ?_
  refine g_iload_n (pc := 4) dL_kept_4 rfl ?_
  refine g_tV_r (pc := 5) (As := [_, _]) dL_kept_5 rfl (h) rfl rfl hk rfl rfl lk_L_167 rfl (nb rfl) ⟨nb rfl, nb rfl⟩ (by decide) ?_
  refine g_i2l (pc := 8) dL_kept_8 rfl ?_
  refine g_lastore (pc := 9) dL_kept_9 ho rfl (nb rfl) (nl rfl) ?_
  refine g_goto (pc := 10) (tgt := 21) dL_kept_10 rfl ?_
  refine g_iconst (pc := 21) (v := 0) dL_kept_21 rfl ?_
  refine g_ireturn (pc := 22) dL_kept_22 rfl rfl ?_
  exact ⟨rfl, rfl⟩
theorem wx_kept {x0 : Int32} {x1 : Int32} (h : EvR l jX6_kept 7 120 2 12 [.ref 0, .int x0, .int x1] M (.inr xIO) M1) (hk : (mK M)[0]? = some (.inr 6)) : EvR l jL_kept 8 143 2 12 [.ref 0, .int x0, .int x1, .ref 212] M (.inl (some (.int 1))) M1 := by
  refine ev_introW rfl (nb rfl) (by decide) ?_
  refine g_aload_n (pc := 0) dL_kept_0 rfl trivial ?_
  refine g_iconst (pc := 1) (v := 0) dL_kept_1 rfl ?_
  refine g_aload_n (pc := 2) dL_kept_2 rfl trivial ?_
  refine g_iload_n (pc := 3) dL_kept_3 rfl ?_
  refine g_iload_n (pc := 4) dL_kept_4 rfl ?_
  refine g_tVw_x (pc := 5) (As := [_, _]) (hpc := 13) dL_kept_5 rfl (h) rfl rfl hk rfl rfl lk_L_167 rfl (nb rfl) ⟨nb rfl, nb rfl⟩ (hn_kept_1) dL_kept_13 (by decide) ?_
  refine g_iconst (pc := 15) (v := 1) dL_kept_15 rfl ?_
  refine g_ireturn (pc := 16) dL_kept_16 rfl rfl ?_
  exact ⟨rfl, rfl⟩
theorem wy_kept {x0 : Int32} {x1 : Int32} (h : EvR l jX6_kept 7 120 2 12 [.ref 0, .int x0, .int x1] M (.inr xIA) M1) (hk : (mK M)[0]? = some (.inr 6)) : EvR l jL_kept 8 143 2 12 [.ref 0, .int x0, .int x1, .ref 212] M (.inl (some (.int 2))) M1 := by
  refine ev_introW rfl (nb rfl) (by decide) ?_
  refine g_aload_n (pc := 0) dL_kept_0 rfl trivial ?_
  refine g_iconst (pc := 1) (v := 0) dL_kept_1 rfl ?_
  refine g_aload_n (pc := 2) dL_kept_2 rfl trivial ?_
  refine g_iload_n (pc := 3) dL_kept_3 rfl ?_
  refine g_iload_n (pc := 4) dL_kept_4 rfl ?_
  refine g_tVw_x (pc := 5) (As := [_, _]) (hpc := 17) dL_kept_5 rfl (h) rfl rfl hk rfl rfl lk_L_167 rfl (nb rfl) ⟨nb rfl, nb rfl⟩ (hn_kept_2) dL_kept_17 (by decide) ?_
  refine g_iconst (pc := 19) (v := 2) dL_kept_19 rfl ?_
  refine g_ireturn (pc := 20) dL_kept_20 rfl rfl ?_
  exact ⟨rfl, rfl⟩
theorem hn_work_1 : Hnd jL_work 4 xIA 12 := ⟨Or.inr rfl, [], (0, 9, 12, 13), [], rfl, fun z hz => absurd hz List.not_mem_nil, by decide, by decide, wl_13, rfl⟩
theorem w_work {x0 : Int32} {v : Int32} (h : EvR l jX6_work 7 120 1 6 [.ref 0, .int x0] M (.inl (some (.int v))) M1) (hk : (mK M)[0]? = some (.inr 6)) (ho : (mK M1)[212]? = some (kL 1)) : EvR l jL_work 8 141 1 6 [.ref 0, .int x0, .ref 212] M (.inl (some (.int 0))) (pL M1 212 0 v.toInt64) := by
  refine ev_introW rfl (nb rfl) (by decide) ?_
  refine g_aload_n (pc := 0) dL_work_0 rfl trivial ?_
  refine g_iconst (pc := 1) (v := 0) dL_work_1 rfl ?_
  refine g_aload_n (pc := 2) dL_work_2 rfl trivial ?_
  refine g_iload_n (pc := 3) dL_work_3 rfl ?_
  refine g_tV_r (pc := 4) (As := [_]) dL_work_4 rfl (h) rfl rfl hk rfl rfl lk_L_170 rfl (nb rfl) ⟨nb rfl, nb rfl⟩ (by decide) ?_
  refine g_i2l (pc := 7) dL_work_7 rfl ?_
  refine g_lastore (pc := 8) dL_work_8 ho rfl (nb rfl) (nl rfl) ?_
  refine g_goto (pc := 9) (tgt := 15) dL_work_9 rfl ?_
  refine g_iconst (pc := 15) (v := 0) dL_work_15 rfl ?_
  refine g_ireturn (pc := 16) dL_work_16 rfl rfl ?_
  exact ⟨rfl, rfl⟩
theorem wx_work {x0 : Int32} (h : EvR l jX6_work 7 120 1 6 [.ref 0, .int x0] M (.inr xIA) M1) (hk : (mK M)[0]? = some (.inr 6)) : EvR l jL_work 8 141 1 6 [.ref 0, .int x0, .ref 212] M (.inl (some (.int 1))) M1 := by
  refine ev_introW rfl (nb rfl) (by decide) ?_
  refine g_aload_n (pc := 0) dL_work_0 rfl trivial ?_
  refine g_iconst (pc := 1) (v := 0) dL_work_1 rfl ?_
  refine g_aload_n (pc := 2) dL_work_2 rfl trivial ?_
  refine g_iload_n (pc := 3) dL_work_3 rfl ?_
  refine g_tVn_x (pc := 4) (As := [_]) (hpc := 12) dL_work_4 rfl (h) rfl rfl hk rfl rfl lk_L_170 rfl (nb rfl) ⟨nb rfl, nb rfl⟩ (hn_work_1) dL_work_12 (by decide) ?_
  refine g_iconst (pc := 13) (v := 1) dL_work_13 rfl ?_
  refine g_ireturn (pc := 14) dL_work_14 rfl rfl ?_
  exact ⟨rfl, rfl⟩
theorem hn_writeRow_1 : Hnd jL_writeRow 5 xIO 13 := ⟨Or.inl rfl, [], (0, 10, 13, 19), [], rfl, fun z hz => absurd hz List.not_mem_nil, by decide, by decide, wl_19, rfl⟩
theorem w_writeRow {x0 : Int32} {x1 : Int32} {v : Int32} (h : EvR l jX6_writeRow 8 140 2 12 [.ref 0, .int x0, .int x1] M (.inl (some (.int v))) M1) (hk : (mK M)[0]? = some (.inr 6)) (ho : (mK M1)[212]? = some (kL 1)) : EvR l jL_writeRow 9 164 2 12 [.ref 0, .int x0, .int x1, .ref 212] M (.inl (some (.int 0))) (pL M1 212 0 v.toInt64) := by
  refine ev_introW rfl (nb rfl) (by decide) ?_
  refine g_aload_n (pc := 0) dL_writeRow_0 rfl trivial ?_
  refine g_iconst (pc := 1) (v := 0) dL_writeRow_1 rfl ?_
  refine g_aload_n (pc := 2) dL_writeRow_2 rfl trivial ?_
  refine g_iload_n (pc := 3) dL_writeRow_3 rfl ?_
  refine g_iload_n (pc := 4) dL_writeRow_4 rfl ?_
  refine g_tV_r (pc := 5) (As := [_, _]) dL_writeRow_5 rfl (h) rfl rfl hk rfl rfl lk_L_173 rfl (nb rfl) ⟨nb rfl, nb rfl⟩ (by decide) ?_
  refine g_i2l (pc := 8) dL_writeRow_8 rfl ?_
  refine g_lastore (pc := 9) dL_writeRow_9 ho rfl (nb rfl) (nl rfl) ?_
  refine g_goto (pc := 10) (tgt := 17) dL_writeRow_10 rfl ?_
  refine g_iconst (pc := 17) (v := 0) dL_writeRow_17 rfl ?_
  refine g_ireturn (pc := 18) dL_writeRow_18 rfl rfl ?_
  exact ⟨rfl, rfl⟩
theorem wx_writeRow {x0 : Int32} {x1 : Int32} (h : EvR l jX6_writeRow 8 140 2 12 [.ref 0, .int x0, .int x1] M (.inr xIO) M1) (hk : (mK M)[0]? = some (.inr 6)) : EvR l jL_writeRow 9 164 2 12 [.ref 0, .int x0, .int x1, .ref 212] M (.inl (some (.int 1))) M1 := by
  refine ev_introW rfl (nb rfl) (by decide) ?_
  refine g_aload_n (pc := 0) dL_writeRow_0 rfl trivial ?_
  refine g_iconst (pc := 1) (v := 0) dL_writeRow_1 rfl ?_
  refine g_aload_n (pc := 2) dL_writeRow_2 rfl trivial ?_
  refine g_iload_n (pc := 3) dL_writeRow_3 rfl ?_
  refine g_iload_n (pc := 4) dL_writeRow_4 rfl ?_
  refine g_tVw_x (pc := 5) (As := [_, _]) (hpc := 13) dL_writeRow_5 rfl (h) rfl rfl hk rfl rfl lk_L_173 rfl (nb rfl) ⟨nb rfl, nb rfl⟩ (hn_writeRow_1) dL_writeRow_13 (by decide) ?_
  refine g_iconst (pc := 15) (v := 1) dL_writeRow_15 rfl ?_
  refine g_ireturn (pc := 16) dL_writeRow_16 rfl rfl ?_
  exact ⟨rfl, rfl⟩
theorem hn_saveSnapshot_1 : Hnd jL_saveSnapshot 4 xIA 12 := ⟨Or.inr rfl, [], (0, 9, 12, 13), [], rfl, fun z hz => absurd hz List.not_mem_nil, by decide, by decide, wl_13, rfl⟩
theorem w_saveSnapshot {x0 : Int32} {v : Int32} (h : EvR l jX6_saveSnapshot 7 140 1 6 [.ref 0, .int x0] M (.inl (some (.int v))) M1) (hk : (mK M)[0]? = some (.inr 6)) (ho : (mK M1)[212]? = some (kL 1)) : EvR l jL_saveSnapshot 8 161 1 6 [.ref 0, .int x0, .ref 212] M (.inl (some (.int 0))) (pL M1 212 0 v.toInt64) := by
  refine ev_introW rfl (nb rfl) (by decide) ?_
  refine g_aload_n (pc := 0) dL_saveSnapshot_0 rfl trivial ?_
  refine g_iconst (pc := 1) (v := 0) dL_saveSnapshot_1 rfl ?_
  refine g_aload_n (pc := 2) dL_saveSnapshot_2 rfl trivial ?_
  refine g_iload_n (pc := 3) dL_saveSnapshot_3 rfl ?_
  refine g_tV_r (pc := 4) (As := [_]) dL_saveSnapshot_4 rfl (h) rfl rfl hk rfl rfl lk_L_176 rfl (nb rfl) ⟨nb rfl, nb rfl⟩ (by decide) ?_
  refine g_i2l (pc := 7) dL_saveSnapshot_7 rfl ?_
  refine g_lastore (pc := 8) dL_saveSnapshot_8 ho rfl (nb rfl) (nl rfl) ?_
  refine g_goto (pc := 9) (tgt := 15) dL_saveSnapshot_9 rfl ?_
  refine g_iconst (pc := 15) (v := 0) dL_saveSnapshot_15 rfl ?_
  refine g_ireturn (pc := 16) dL_saveSnapshot_16 rfl rfl ?_
  exact ⟨rfl, rfl⟩
theorem wx_saveSnapshot {x0 : Int32} (h : EvR l jX6_saveSnapshot 7 140 1 6 [.ref 0, .int x0] M (.inr xIA) M1) (hk : (mK M)[0]? = some (.inr 6)) : EvR l jL_saveSnapshot 8 161 1 6 [.ref 0, .int x0, .ref 212] M (.inl (some (.int 1))) M1 := by
  refine ev_introW rfl (nb rfl) (by decide) ?_
  refine g_aload_n (pc := 0) dL_saveSnapshot_0 rfl trivial ?_
  refine g_iconst (pc := 1) (v := 0) dL_saveSnapshot_1 rfl ?_
  refine g_aload_n (pc := 2) dL_saveSnapshot_2 rfl trivial ?_
  refine g_iload_n (pc := 3) dL_saveSnapshot_3 rfl ?_
  refine g_tVn_x (pc := 4) (As := [_]) (hpc := 12) dL_saveSnapshot_4 rfl (h) rfl rfl hk rfl rfl lk_L_176 rfl (nb rfl) ⟨nb rfl, nb rfl⟩ (hn_saveSnapshot_1) dL_saveSnapshot_12 (by decide) ?_
  refine g_iconst (pc := 13) (v := 1) dL_saveSnapshot_13 rfl ?_
  refine g_ireturn (pc := 14) dL_saveSnapshot_14 rfl rfl ?_
  exact ⟨rfl, rfl⟩
theorem hn_restoreSnapshot_1 : Hnd jL_restoreSnapshot 4 xIA 12 := ⟨Or.inr rfl, [], (0, 9, 12, 13), [], rfl, fun z hz => absurd hz List.not_mem_nil, by decide, by decide, wl_13, rfl⟩
theorem w_restoreSnapshot {x0 : Int32} {v : Int32} (h : EvR l jX6_restoreSnapshot 7 170 1 6 [.ref 0, .int x0] M (.inl (some (.int v))) M1) (hk : (mK M)[0]? = some (.inr 6)) (ho : (mK M1)[212]? = some (kL 1)) : EvR l jL_restoreSnapshot 8 191 1 6 [.ref 0, .int x0, .ref 212] M (.inl (some (.int 0))) (pL M1 212 0 v.toInt64) := by
  refine ev_introW rfl (nb rfl) (by decide) ?_
  refine g_aload_n (pc := 0) dL_restoreSnapshot_0 rfl trivial ?_
  refine g_iconst (pc := 1) (v := 0) dL_restoreSnapshot_1 rfl ?_
  refine g_aload_n (pc := 2) dL_restoreSnapshot_2 rfl trivial ?_
  refine g_iload_n (pc := 3) dL_restoreSnapshot_3 rfl ?_
  refine g_tV_r (pc := 4) (As := [_]) dL_restoreSnapshot_4 rfl (h) rfl rfl hk rfl rfl lk_L_179 rfl (nb rfl) ⟨nb rfl, nb rfl⟩ (by decide) ?_
  refine g_i2l (pc := 7) dL_restoreSnapshot_7 rfl ?_
  refine g_lastore (pc := 8) dL_restoreSnapshot_8 ho rfl (nb rfl) (nl rfl) ?_
  refine g_goto (pc := 9) (tgt := 15) dL_restoreSnapshot_9 rfl ?_
  refine g_iconst (pc := 15) (v := 0) dL_restoreSnapshot_15 rfl ?_
  refine g_ireturn (pc := 16) dL_restoreSnapshot_16 rfl rfl ?_
  exact ⟨rfl, rfl⟩
theorem wx_restoreSnapshot {x0 : Int32} (h : EvR l jX6_restoreSnapshot 7 170 1 6 [.ref 0, .int x0] M (.inr xIA) M1) (hk : (mK M)[0]? = some (.inr 6)) : EvR l jL_restoreSnapshot 8 191 1 6 [.ref 0, .int x0, .ref 212] M (.inl (some (.int 1))) M1 := by
  refine ev_introW rfl (nb rfl) (by decide) ?_
  refine g_aload_n (pc := 0) dL_restoreSnapshot_0 rfl trivial ?_
  refine g_iconst (pc := 1) (v := 0) dL_restoreSnapshot_1 rfl ?_
  refine g_aload_n (pc := 2) dL_restoreSnapshot_2 rfl trivial ?_
  refine g_iload_n (pc := 3) dL_restoreSnapshot_3 rfl ?_
  refine g_tVn_x (pc := 4) (As := [_]) (hpc := 12) dL_restoreSnapshot_4 rfl (h) rfl rfl hk rfl rfl lk_L_179 rfl (nb rfl) ⟨nb rfl, nb rfl⟩ (hn_restoreSnapshot_1) dL_restoreSnapshot_12 (by decide) ?_
  refine g_iconst (pc := 13) (v := 1) dL_restoreSnapshot_13 rfl ?_
  refine g_ireturn (pc := 14) dL_restoreSnapshot_14 rfl rfl ?_
  exact ⟨rfl, rfl⟩
end

