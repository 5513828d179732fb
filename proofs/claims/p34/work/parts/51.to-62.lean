-- 51.wrap
section
/-! the law's wrappers -/
section
variable {l : Launch} {M M1 : Mem}
theorem wl_13 : (Jvm.Cond.classLink "BitDeskLaw" (13 : Nat) "java/lang/IllegalArgumentException") ∈ WS := ws_c2 201 rfl rfl
theorem hn_count_1 : Hnd jL_count 4 xIA 12 := ⟨Or.inr rfl, [], (0, 9, 12, 13), [], rfl, fun z hz => absurd hz List.not_mem_nil, by decide, by decide, wl_13, rfl⟩
theorem w_count {x0 : Int32} {v : Int32} (h : EvR l jX6_count 7 120 1 6 [.ref 0, .int x0] M (.inl (some (.int v))) M1) (hk : (mK M)[0]? = some (.inr 6)) (ho : (mK M1)[212]? = some (kL 1)) : EvR l jL_count 8 141 1 6 [.ref 0, .int x0, .ref 212] M (.inl (some (.int 0))) (pL M1 212 0 v.toInt64) := by
  refine ev_introW rfl (nb rfl) (by decide) ?_
  refine g_aload_n (pc := 0) dL_count_0 rfl trivial ?_
  refine g_iconst (pc := 1) (v := 0) dL_count_1 rfl ?_
  refine g_aload_n (pc := 2) dL_count_2 rfl trivial ?_
  refine g_iload_n (pc := 3) dL_count_3 rfl ?_
  refine g_tV_r (pc := 4) (As := [_]) dL_count_4 rfl (h) rfl rfl hk rfl rfl lk_L_7 rfl (nb rfl) ⟨nb rfl, nb rfl⟩ (by decide) ?_
  refine g_i2l (pc := 7) dL_count_7 rfl ?_
  refine g_lastore (pc := 8) dL_count_8 ho rfl (nb rfl) (nl rfl) ?_
  refine g_goto (pc := 9) (tgt := 15) dL_count_9 rfl ?_
  refine g_iconst (pc := 15) (v := 0) dL_count_15 rfl ?_
  refine g_ireturn (pc := 16) dL_count_16 rfl rfl ?_
  exact ⟨rfl, rfl⟩
theorem wx_count {x0 : Int32} (h : EvR l jX6_count 7 120 1 6 [.ref 0, .int x0] M (.inr xIA) M1) (hk : (mK M)[0]? = some (.inr 6)) : EvR l jL_count 8 141 1 6 [.ref 0, .int x0, .ref 212] M (.inl (some (.int 1))) M1 := by
  refine ev_introW rfl (nb rfl) (by decide) ?_
  refine g_aload_n (pc := 0) dL_count_0 rfl trivial ?_
  refine g_iconst (pc := 1) (v := 0) dL_count_1 rfl ?_
  refine g_aload_n (pc := 2) dL_count_2 rfl trivial ?_
  refine g_iload_n (pc := 3) dL_count_3 rfl ?_
  refine g_tVn_x (pc := 4) (As := [_]) (hpc := 12) dL_count_4 rfl (h) rfl rfl hk rfl rfl lk_L_7 rfl (nb rfl) ⟨nb rfl, nb rfl⟩ (hn_count_1) dL_count_12 (by decide) ?_
  refine g_iconst (pc := 13) (v := 1) dL_count_13 rfl ?_
  refine g_ireturn (pc := 14) dL_count_14 rfl rfl ?_
  exact ⟨rfl, rfl⟩
theorem wl_19 : (Jvm.Cond.classLink "BitDeskLaw" (19 : Nat) "java/lang/IndexOutOfBoundsException") ∈ WS := ws_c3 43 rfl rfl
theorem hn_bit_1 : Hnd jL_bit 7 xIO 15 := ⟨Or.inl rfl, [], (0, 12, 15, 19), [], rfl, fun z hz => absurd hz List.not_mem_nil, by decide, by decide, wl_19, rfl⟩
theorem w_bit {x0 : Int32} {x1 : Int32} {x2 : Int32} {v : Int32} (h : EvR l jX6_bit 9 160 3 18 [.ref 0, .int x0, .int x1, .int x2] M (.inl (some (.int v))) M1) (hk : (mK M)[0]? = some (.inr 6)) (ho : (mK M1)[212]? = some (kL 1)) : EvR l jL_bit 10 183 3 18 [.ref 0, .int x0, .int x1, .int x2, .ref 212] M (.inl (some (.int 0))) (pL M1 212 0 v.toInt64) := by
  refine ev_introW rfl (nb rfl) (by decide) ?_
  refine g_aload (pc := 0) dL_bit_0 rfl trivial ?_
  refine g_iconst (pc := 2) (v := 0) dL_bit_2 rfl ?_
  refine g_aload_n (pc := 3) dL_bit_3 rfl trivial ?_
  refine g_iload_n (pc := 4) dL_bit_4 rfl ?_
  refine g_iload_n (pc := 5) dL_bit_5 rfl ?_
  refine g_iload_n (pc := 6) dL_bit_6 rfl ?_
  refine g_tV_r (pc := 7) (As := [_, _, _]) dL_bit_7 rfl (h) rfl rfl hk rfl rfl lk_L_15 rfl (nb rfl) ⟨nb rfl, nb rfl⟩ (by decide) ?_
  refine g_i2l (pc := 10) dL_bit_10 rfl ?_
  refine g_lastore (pc := 11) dL_bit_11 ho rfl (nb rfl) (nl rfl) ?_
  refine g_goto (pc := 12) (tgt := 19) dL_bit_12 rfl ?_
  refine g_iconst (pc := 19) (v := 0) dL_bit_19 rfl ?_
  refine g_ireturn (pc := 20) dL_bit_20 rfl rfl ?_
  exact ⟨rfl, rfl⟩
theorem wx_bit {x0 : Int32} {x1 : Int32} {x2 : Int32} (h : EvR l jX6_bit 9 160 3 18 [.ref 0, .int x0, .int x1, .int x2] M (.inr xIO) M1) (hk : (mK M)[0]? = some (.inr 6)) : EvR l jL_bit 10 183 3 18 [.ref 0, .int x0, .int x1, .int x2, .ref 212] M (.inl (some (.int 1))) M1 := by
  refine ev_introW rfl (nb rfl) (by decide) ?_
  refine g_aload (pc := 0) dL_bit_0 rfl trivial ?_
  refine g_iconst (pc := 2) (v := 0) dL_bit_2 rfl ?_
  refine g_aload_n (pc := 3) dL_bit_3 rfl trivial ?_
  refine g_iload_n (pc := 4) dL_bit_4 rfl ?_
  refine g_iload_n (pc := 5) dL_bit_5 rfl ?_
  refine g_iload_n (pc := 6) dL_bit_6 rfl ?_
  refine g_tVw_x (pc := 7) (As := [_, _, _]) (hpc := 15) dL_bit_7 rfl (h) rfl rfl hk rfl rfl lk_L_15 rfl (nb rfl) ⟨nb rfl, nb rfl⟩ (hn_bit_1) dL_bit_15 (by decide) ?_
  refine g_iconst (pc := 17) (v := 1) dL_bit_17 rfl ?_
  refine g_ireturn (pc := 18) dL_bit_18 rfl rfl ?_
  exact ⟨rfl, rfl⟩
theorem hn_row_1 : Hnd jL_row 5 xIO 12 := ⟨Or.inl rfl, [], (0, 9, 12, 19), [], rfl, fun z hz => absurd hz List.not_mem_nil, by decide, by decide, wl_19, rfl⟩
theorem w_row {x0 : Int32} {x1 : Int32} {v : Int64} (h : EvR l jX6_row 8 140 2 12 [.ref 0, .int x0, .int x1] M (.inl (some (.long v))) M1) (hk : (mK M)[0]? = some (.inr 6)) (ho : (mK M1)[212]? = some (kL 1)) : EvR l jL_row 9 162 2 12 [.ref 0, .int x0, .int x1, .ref 212] M (.inl (some (.int 0))) (pL M1 212 0 v) := by
  refine ev_introW rfl (nb rfl) (by decide) ?_
  refine g_aload_n (pc := 0) dL_row_0 rfl trivial ?_
  refine g_iconst (pc := 1) (v := 0) dL_row_1 rfl ?_
  refine g_aload_n (pc := 2) dL_row_2 rfl trivial ?_
  refine g_iload_n (pc := 3) dL_row_3 rfl ?_
  refine g_iload_n (pc := 4) dL_row_4 rfl ?_
  refine g_tV_r (pc := 5) (As := [_, _]) dL_row_5 rfl (h) rfl rfl hk rfl rfl lk_L_21 rfl (nb rfl) ⟨nb rfl, nb rfl⟩ (by decide) ?_
  refine g_lastore (pc := 8) dL_row_8 ho rfl (nb rfl) (nl rfl) ?_
  refine g_goto (pc := 9) (tgt := 16) dL_row_9 rfl ?_
  refine g_iconst (pc := 16) (v := 0) dL_row_16 rfl ?_
  refine g_ireturn (pc := 17) dL_row_17 rfl rfl ?_
  exact ⟨rfl, rfl⟩
theorem wx_row {x0 : Int32} {x1 : Int32} (h : EvR l jX6_row 8 140 2 12 [.ref 0, .int x0, .int x1] M (.inr xIO) M1) (hk : (mK M)[0]? = some (.inr 6)) : EvR l jL_row 9 162 2 12 [.ref 0, .int x0, .int x1, .ref 212] M (.inl (some (.int 1))) M1 := by
  refine ev_introW rfl (nb rfl) (by decide) ?_
  refine g_aload_n (pc := 0) dL_row_0 rfl trivial ?_
  refine g_iconst (pc := 1) (v := 0) dL_row_1 rfl ?_
  refine g_aload_n (pc := 2) dL_row_2 rfl trivial ?_
  refine g_iload_n (pc := 3) dL_row_3 rfl ?_
  refine g_iload_n (pc := 4) dL_row_4 rfl ?_
  refine g_tVw_x (pc := 5) (As := [_, _]) (hpc := 12) dL_row_5 rfl (h) rfl rfl hk rfl rfl lk_L_21 rfl (nb rfl) ⟨nb rfl, nb rfl⟩ (hn_row_1) dL_row_12 (by decide) ?_
  refine g_iconst (pc := 14) (v := 1) dL_row_14 rfl ?_
  refine g_ireturn (pc := 15) dL_row_15 rfl rfl ?_
  exact ⟨rfl, rfl⟩
theorem hn_rank_1 : Hnd jL_rank 7 xIO 15 := ⟨Or.inl rfl, [], (0, 12, 15, 19), [(0, 12, 19, 13)], rfl, fun z hz => absurd hz List.not_mem_nil, by decide, by decide, wl_19, rfl⟩
theorem hn_rank_2 : Hnd jL_rank 7 xIA 19 := ⟨Or.inr rfl, [(0, 12, 15, 19)], (0, 12, 19, 13), [], rfl, fun z hz => by cases List.mem_singleton.mp hz; exact ⟨rfl, by decide, wl_19⟩, by decide, by decide, wl_13, rfl⟩
theorem w_rank {x0 : Int32} {x1 : Int32} {x2 : Int32} {v : Int32} (h : EvR l jX6_rank 8 140 3 18 [.ref 0, .int x0, .int x1, .int x2] M (.inl (some (.int v))) M1) (hk : (mK M)[0]? = some (.inr 6)) (ho : (mK M1)[212]? = some (kL 1)) : EvR l jL_rank 9 163 3 18 [.ref 0, .int x0, .int x1, .int x2, .ref 212] M (.inl (some (.int 0))) (pL M1 212 0 v.toInt64) := by
  refine ev_introW rfl (nb rfl) (by decide) ?_
  refine g_aload (pc := 0) dL_rank_0 rfl trivial ?_
  refine g_iconst (pc := 2) (v := 0) dL_rank_2 rfl ?_
  refine g_aload_n (pc := 3) dL_rank_3 rfl trivial ?_
  refine g_iload_n (pc := 4) dL_rank_4 rfl ?_
  refine g_iload_n (pc := 5) dL_rank_5 rfl ?_
  refine g_iload_n (pc := 6) dL_rank_6 rfl ?_
  refine g_tV_r (pc := 7) (As := [_, _, _]) dL_rank_7 rfl (h) rfl rfl hk rfl rfl lk_L_25 rfl (nb rfl) ⟨nb rfl, nb rfl⟩ (by decide) ?_
  refine g_i2l (pc := 10) dL_rank_10 rfl ?_
  refine g_lastore (pc := 11) dL_rank_11 ho rfl (nb rfl) (nl rfl) ?_
  refine g_goto (pc := 12) (tgt := 23) dL_rank_12 rfl ?_
  refine g_iconst (pc := 23) (v := 0) dL_rank_23 rfl ?_
  refine g_ireturn (pc := 24) dL_rank_24 rfl rfl ?_
  exact ⟨rfl, rfl⟩
theorem wx_rank {x0 : Int32} {x1 : Int32} {x2 : Int32} (h : EvR l jX6_rank 8 140 3 18 [.ref 0, .int x0, .int x1, .int x2] M (.inr xIO) M1) (hk : (mK M)[0]? = some (.inr 6)) : EvR l jL_rank 9 163 3 18 [.ref 0, .int x0, .int x1, .int x2, .ref 212] M (.inl (some (.int 1))) M1 := by
  refine ev_introW rfl (nb rfl) (by decide) ?_
  refine g_aload (pc := 0) dL_rank_0 rfl trivial ?_
  refine g_iconst (pc := 2) (v := 0) dL_rank_2 rfl ?_
  refine g_aload_n (pc := 3) dL_rank_3 rfl trivial ?_
  refine g_iload_n (pc := 4) dL_rank_4 rfl ?_
  refine g_iload_n (pc := 5) dL_rank_5 rfl ?_
  refine g_iload_n (pc := 6) dL_rank_6 rfl ?_
  refine g_tVw_x (pc := 7) (As := [_, _, _]) (hpc := 15) dL_rank_7 rfl (h) rfl rfl hk rfl rfl lk_L_25 rfl (nb rfl) ⟨nb rfl, nb rfl⟩ (hn_rank_1) dL_rank_15 (by decide) ?_
  refine g_iconst (pc := 17) (v := 1) dL_rank_17 rfl ?_
  refine g_ireturn (pc := 18) dL_rank_18 rfl rfl ?_
  exact ⟨rfl, rfl⟩
theorem wy_rank {x0 : Int32} {x1 : Int32} {x2 : Int32} (h : EvR l jX6_rank 8 140 3 18 [.ref 0, .int x0, .int x1, .int x2] M (.inr xIA) M1) (hk : (mK M)[0]? = some (.inr 6)) : EvR l jL_rank 9 163 3 18 [.ref 0, .int x0, .int x1, .int x2, .ref 212] M (.inl (some (.int 2))) M1 := by
  refine ev_introW rfl (nb rfl) (by decide) ?_
  refine g_aload (pc := 0) dL_rank_0 rfl trivial ?_
  refine g_iconst (pc := 2) (v := 0) dL_rank_2 rfl ?_
  refine g_aload_n (pc := 3) dL_rank_3 rfl trivial ?_
  refine g_iload_n (pc := 4) dL_rank_4 rfl ?_
  refine g_iload_n (pc := 5) dL_rank_5 rfl ?_
  refine g_iload_n (pc := 6) dL_rank_6 rfl ?_
  refine g_tVw_x (pc := 7) (As := [_, _, _]) (hpc := 19) dL_rank_7 rfl (h) rfl rfl hk rfl rfl lk_L_25 rfl (nb rfl) ⟨nb rfl, nb rfl⟩ (hn_rank_2) dL_rank_19 (by decide) ?_
  refine g_iconst (pc := 21) (v := 2) dL_rank_21 rfl ?_
  refine g_ireturn (pc := 22) dL_rank_22 rfl rfl ?_
  exact ⟨rfl, rfl⟩
theorem hn_select_1 : Hnd jL_select 7 xIO 15 := ⟨Or.inl rfl, [], (0, 12, 15, 19), [], rfl, fun z hz => absurd hz List.not_mem_nil, by decide, by decide, wl_19, rfl⟩
theorem w_select {x0 : Int32} {x1 : Int32} {x2 : Int32} {v : Int32} (h : EvR l jX6_select 8 140 2 12 [.ref 0, .int x0, .int x1, .int x2] M (.inl (some (.int v))) M1) (hk : (mK M)[0]? = some (.inr 6)) (ho : (mK M1)[212]? = some (kL 1)) : EvR l jL_select 9 163 2 12 [.ref 0, .int x0, .int x1, .int x2, .ref 212] M (.inl (some (.int 0))) (pL M1 212 0 v.toInt64) := by
  refine ev_introW rfl (nb rfl) (by decide) ?_
  refine g_aload (pc := 0) dL_select_0 rfl trivial ?_
  refine g_iconst (pc := 2) (v := 0) dL_select_2 rfl ?_
  refine g_aload_n (pc := 3) dL_select_3 rfl trivial ?_
  refine g_iload_n (pc := 4) dL_select_4 rfl ?_
  refine g_iload_n (pc := 5) dL_select_5 rfl ?_
  refine g_iload_n (pc := 6) dL_select_6 rfl ?_
  refine g_tV_r (pc := 7) (As := [_, _, _]) dL_select_7 rfl (h) rfl rfl hk rfl rfl lk_L_28 rfl (nb rfl) ⟨nb rfl, nb rfl⟩ (by decide) ?_
  refine g_i2l (pc := 10) dL_select_10 rfl ?_
  refine g_lastore (pc := 11) dL_select_11 ho rfl (nb rfl) (nl rfl) ?_
  refine g_goto (pc := 12) (tgt := 19) dL_select_12 rfl ?_
  refine g_iconst (pc := 19) (v := 0) dL_select_19 rfl ?_
  refine g_ireturn (pc := 20) dL_select_20 rfl rfl ?_
  exact ⟨rfl, rfl⟩
theorem wx_select {x0 : Int32} {x1 : Int32} {x2 : Int32} (h : EvR l jX6_select 8 140 2 12 [.ref 0, .int x0, .int x1, .int x2] M (.inr xIO) M1) (hk : (mK M)[0]? = some (.inr 6)) : EvR l jL_select 9 163 2 12 [.ref 0, .int x0, .int x1, .int x2, .ref 212] M (.inl (some (.int 1))) M1 := by
  refine ev_introW rfl (nb rfl) (by decide) ?_
  refine g_aload (pc := 0) dL_select_0 rfl trivial ?_
  refine g_iconst (pc := 2) (v := 0) dL_select_2 rfl ?_
  refine g_aload_n (pc := 3) dL_select_3 rfl trivial ?_
  refine g_iload_n (pc := 4) dL_select_4 rfl ?_
  refine g_iload_n (pc := 5) dL_select_5 rfl ?_
  refine g_iload_n (pc := 6) dL_select_6 rfl ?_
  refine g_tVw_x (pc := 7) (As := [_, _, _]) (hpc := 15) dL_select_7 rfl (h) rfl rfl hk rfl rfl lk_L_28 rfl (nb rfl) ⟨nb rfl, nb rfl⟩ (hn_select_1) dL_select_15 (by decide) ?_
  refine g_iconst (pc := 17) (v := 1) dL_select_17 rfl ?_
  refine g_ireturn (pc := 18) dL_select_18 rfl rfl ?_
  exact ⟨rfl, rfl⟩
theorem hn_ones_1 : Hnd jL_ones 4 xIO 12 := ⟨Or.inl rfl, [], (0, 9, 12, 19), [], rfl, fun z hz => absurd hz List.not_mem_nil, by decide, by decide, wl_19, rfl⟩
theorem w_ones {x0 : Int32} {v : Int32} (h : EvR l jX6_ones 7 120 1 6 [.ref 0, .int x0] M (.inl (some (.int v))) M1) (hk : (mK M)[0]? = some (.inr 6)) (ho : (mK M1)[212]? = some (kL 1)) : EvR l jL_ones 8 141 1 6 [.ref 0, .int x0, .ref 212] M (.inl (some (.int 0))) (pL M1 212 0 v.toInt64) := by
  refine ev_introW rfl (nb rfl) (by decide) ?_
  refine g_aload_n (pc := 0) dL_ones_0 rfl trivial ?_
  refine g_iconst (pc := 1) (v := 0) dL_ones_1 rfl ?_
  refine g_aload_n (pc := 2) dL_ones_2 rfl trivial ?_
  refine g_iload_n (pc := 3) dL_ones_3 rfl ?_
  refine g_tV_r (pc := 4) (As := [_]) dL_ones_4 rfl (h) rfl rfl hk rfl rfl lk_L_31 rfl (nb rfl) ⟨nb rfl, nb rfl⟩ (by decide) ?_
  refine g_i2l (pc := 7) dL_ones_7 rfl ?_
  refine g_lastore (pc := 8) dL_ones_8 ho rfl (nb rfl) (nl rfl) ?_
  refine g_goto (pc := 9) (tgt := 15) dL_ones_9 rfl ?_
  refine g_iconst (pc := 15) (v := 0) dL_ones_15 rfl ?_
  refine g_ireturn (pc := 16) dL_ones_16 rfl rfl ?_
  exact ⟨rfl, rfl⟩
theorem wx_ones {x0 : Int32} (h : EvR l jX6_ones 7 120 1 6 [.ref 0, .int x0] M (.inr xIO) M1) (hk : (mK M)[0]? = some (.inr 6)) : EvR l jL_ones 8 141 1 6 [.ref 0, .int x0, .ref 212] M (.inl (some (.int 1))) M1 := by
  refine ev_introW rfl (nb rfl) (by decide) ?_
  refine g_aload_n (pc := 0) dL_ones_0 rfl trivial ?_
  refine g_iconst (pc := 1) (v := 0) dL_ones_1 rfl ?_
  refine g_aload_n (pc := 2) dL_ones_2 rfl trivial ?_
  refine g_iload_n (pc := 3) dL_ones_3 rfl ?_
  refine g_tVn_x (pc := 4) (As := [_]) (hpc := 12) dL_ones_4 rfl (h) rfl rfl hk rfl rfl lk_L_31 rfl (nb rfl) ⟨nb rfl, nb rfl⟩ (hn_ones_1) dL_ones_12 (by decide) ?_
  refine g_iconst (pc := 13) (v := 1) dL_ones_13 rfl ?_
  refine g_ireturn (pc := 14) dL_ones_14 rfl rfl ?_
  exact ⟨rfl, rfl⟩
theorem hn_columnOnes_1 : Hnd jL_columnOnes 5 xIO 13 := ⟨Or.inl rfl, [], (0, 10, 13, 19), [], rfl, fun z hz => absurd hz List.not_mem_nil, by decide, by decide, wl_19, rfl⟩
theorem w_columnOnes {x0 : Int32} {x1 : Int32} {v : Int32} (h : EvR l jX6_columnOnes 8 140 2 12 [.ref 0, .int x0, .int x1] M (.inl (some (.int v))) M1) (hk : (mK M)[0]? = some (.inr 6)) (ho : (mK M1)[212]? = some (kL 1)) : EvR l jL_columnOnes 9 162 2 12 [.ref 0, .int x0, .int x1, .ref 212] M (.inl (some (.int 0))) (pL M1 212 0 v.toInt64) := by
  refine ev_introW rfl (nb rfl) (by decide) ?_
  refine g_aload_n (pc := 0) dL_columnOnes_0 rfl trivial ?_
  refine g_iconst (pc := 1) (v := 0) dL_columnOnes_1 rfl ?_
  refine g_aload_n (pc := 2) dL_columnOnes_2 rfl trivial ?_
  refine g_iload_n (pc := 3) dL_columnOnes_3 rfl ?_
  refine g_iload_n (pc := 4) dL_columnOnes_4 rfl ?_
  refine g_tV_r (pc := 5) (As := [_, _]) dL_columnOnes_5 rfl (h) rfl rfl hk rfl rfl lk_L_34 rfl (nb rfl) ⟨nb rfl, nb rfl⟩ (by decide) ?_
  refine g_i2l (pc := 8) dL_columnOnes_8 rfl ?_
  refine g_lastore (pc := 9) dL_columnOnes_9 ho rfl (nb rfl) (nl rfl) ?_
  refine g_goto (pc := 10) (tgt := 17) dL_columnOnes_10 rfl ?_
  refine g_iconst (pc := 17) (v := 0) dL_columnOnes_17 rfl ?_
  refine g_ireturn (pc := 18) dL_columnOnes_18 rfl rfl ?_
  exact ⟨rfl, rfl⟩
theorem wx_columnOnes {x0 : Int32} {x1 : Int32} (h : EvR l jX6_columnOnes 8 140 2 12 [.ref 0, .int x0, .int x1] M (.inr xIO) M1) (hk : (mK M)[0]? = some (.inr 6)) : EvR l jL_columnOnes 9 162 2 12 [.ref 0, .int x0, .int x1, .ref 212] M (.inl (some (.int 1))) M1 := by
  refine ev_introW rfl (nb rfl) (by decide) ?_
  refine g_aload_n (pc := 0) dL_columnOnes_0 rfl trivial ?_
  refine g_iconst (pc := 1) (v := 0) dL_columnOnes_1 rfl ?_
  refine g_aload_n (pc := 2) dL_columnOnes_2 rfl trivial ?_
  refine g_iload_n (pc := 3) dL_columnOnes_3 rfl ?_
  refine g_iload_n (pc := 4) dL_columnOnes_4 rfl ?_
  refine g_tVw_x (pc := 5) (As := [_, _]) (hpc := 13) dL_columnOnes_5 rfl (h) rfl rfl hk rfl rfl lk_L_34 rfl (nb rfl) ⟨nb rfl, nb rfl⟩ (hn_columnOnes_1) dL_columnOnes_13 (by decide) ?_
  refine g_iconst (pc := 15) (v := 1) dL_columnOnes_15 rfl ?_
  refine g_ireturn (pc := 16) dL_columnOnes_16 rfl rfl ?_
  exact ⟨rfl, rfl⟩
theorem hn_sameAs_1 : Hnd jL_sameAs 5 xIO 13 := ⟨Or.inl rfl, [], (0, 10, 13, 19), [], rfl, fun z hz => absurd hz List.not_mem_nil, by decide, by decide, wl_19, rfl⟩
theorem w_sameAs {x0 : Int32} {x1 : Int32} {v : Int32} (h : EvR l jX6_sameAs 8 140 2 12 [.ref 0, .int x0, .int x1] M (.inl (some (.int v))) M1) (hk : (mK M)[0]? = some (.inr 6)) (ho : (mK M1)[212]? = some (kL 1)) : EvR l jL_sameAs 9 162 2 12 [.ref 0, .int x0, .int x1, .ref 212] M (.inl (some (.int 0))) (pL M1 212 0 v.toInt64) := by
  refine ev_introW rfl (nb rfl) (by decide) ?_
  refine g_aload_n (pc := 0) dL_sameAs_0 rfl trivial ?_
  refine g_iconst (pc := 1) (v := 0) dL_sameAs_1 rfl ?_
  refine g_aload_n (pc := 2) dL_sameAs_2 rfl trivial ?_
  refine g_iload_n (pc := 3) dL_sameAs_3 rfl ?_
  refine g_iload_n (pc := 4) dL_sameAs_4 rfl ?_
  refine g_tV_r (pc := 5) (As := [_, _]) dL_sameAs_5 rfl (h) rfl rfl hk rfl rfl lk_L_38 rfl (nb rfl) ⟨nb rfl, nb rfl⟩ (by decide) ?_
  refine g_i2l (pc := 8) dL_sameAs_8 rfl ?_
  refine g_lastore (pc := 9) dL_sameAs_9 ho rfl (nb rfl) (nl rfl) ?_
  refine g_goto (pc := 10) (tgt := 17) dL_sameAs_10 rfl ?_
  refine g_iconst (pc := 17) (v := 0) dL_sameAs_17 rfl ?_
  refine g_ireturn (pc := 18) dL_sameAs_18 rfl rfl ?_
  exact ⟨rfl, rfl⟩
theorem wx_sameAs {x0 : Int32} {x1 : Int32} (h : EvR l jX6_sameAs 8 140 2 12 [.ref 0, .int x0, .int x1] M (.inr xIO) M1) (hk : (mK M)[0]? = some (.inr 6)) : EvR l jL_sameAs 9 162 2 12 [.ref 0, .int x0, .int x1, .ref 212] M (.inl (some (.int 1))) M1 := by
  refine ev_introW rfl (nb rfl) (by decide) ?_
  refine g_aload_n (pc := 0) dL_sameAs_0 rfl trivial ?_
  refine g_iconst (pc := 1) (v := 0) dL_sameAs_1 rfl ?_
  refine g_aload_n (pc := 2) dL_sameAs_2 rfl trivial ?_
  refine g_iload_n (pc := 3) dL_sameAs_3 rfl ?_
  refine g_iload_n (pc := 4) dL_sameAs_4 rfl ?_
  refine g_tVw_x (pc := 5) (As := [_, _]) (hpc := 13) dL_sameAs_5 rfl (h) rfl rfl hk rfl rfl lk_L_38 rfl (nb rfl) ⟨nb rfl, nb rfl⟩ (hn_sameAs_1) dL_sameAs_13 (by decide) ?_
  refine g_iconst (pc := 15) (v := 1) dL_sameAs_15 rfl ?_
  refine g_ireturn (pc := 16) dL_sameAs_16 rfl rfl ?_
  exact ⟨rfl, rfl⟩
theorem hn_classes_1 : Hnd jL_classes 4 xIO 12 := ⟨Or.inl rfl, [], (0, 9, 12, 19), [], rfl, fun z hz => absurd hz List.not_mem_nil, by decide, by decide, wl_19, rfl⟩
theorem w_classes {x0 : Int32} {v : Int32} (h : EvR l jX6_classes 7 120 1 6 [.ref 0, .int x0] M (.inl (some (.int v))) M1) (hk : (mK M)[0]? = some (.inr 6)) (ho : (mK M1)[212]? = some (kL 1)) : EvR l jL_classes 8 141 1 6 [.ref 0, .int x0, .ref 212] M (.inl (some (.int 0))) (pL M1 212 0 v.toInt64) := by
  refine ev_introW rfl (nb rfl) (by decide) ?_
  refine g_aload_n (pc := 0) dL_classes_0 rfl trivial ?_
  refine g_iconst (pc := 1) (v := 0) dL_classes_1 rfl ?_
  refine g_aload_n (pc := 2) dL_classes_2 rfl trivial ?_
  refine g_iload_n (pc := 3) dL_classes_3 rfl ?_
  refine g_tV_r (pc := 4) (As := [_]) dL_classes_4 rfl (h) rfl rfl hk rfl rfl lk_L_41 rfl (nb rfl) ⟨nb rfl, nb rfl⟩ (by decide) ?_
  refine g_i2l (pc := 7) dL_classes_7 rfl ?_
  refine g_lastore (pc := 8) dL_classes_8 ho rfl (nb rfl) (nl rfl) ?_
  refine g_goto (pc := 9) (tgt := 15) dL_classes_9 rfl ?_
  refine g_iconst (pc := 15) (v := 0) dL_classes_15 rfl ?_
  refine g_ireturn (pc := 16) dL_classes_16 rfl rfl ?_
  exact ⟨rfl, rfl⟩
theorem wx_classes {x0 : Int32} (h : EvR l jX6_classes 7 120 1 6 [.ref 0, .int x0] M (.inr xIO) M1) (hk : (mK M)[0]? = some (.inr 6)) : EvR l jL_classes 8 141 1 6 [.ref 0, .int x0, .ref 212] M (.inl (some (.int 1))) M1 := by
  refine ev_introW rfl (nb rfl) (by decide) ?_
  refine g_aload_n (pc := 0) dL_classes_0 rfl trivial ?_
  refine g_iconst (pc := 1) (v := 0) dL_classes_1 rfl ?_
  refine g_aload_n (pc := 2) dL_classes_2 rfl trivial ?_
  refine g_iload_n (pc := 3) dL_classes_3 rfl ?_
  refine g_tVn_x (pc := 4) (As := [_]) (hpc := 12) dL_classes_4 rfl (h) rfl rfl hk rfl rfl lk_L_41 rfl (nb rfl) ⟨nb rfl, nb rfl⟩ (hn_classes_1) dL_classes_12 (by decide) ?_
  refine g_iconst (pc := 13) (v := 1) dL_classes_13 rfl ?_
  refine g_ireturn (pc := 14) dL_classes_14 rfl rfl ?_
  exact ⟨rfl, rfl⟩
theorem hn_classOf_1 : Hnd jL_classOf 5 xIO 13 := ⟨Or.inl rfl, [], (0, 10, 13, 19), [], rfl, fun z hz => absurd hz List.not_mem_nil, by decide, by decide, wl_19, rfl⟩
theorem w_classOf {x0 : Int32} {x1 : Int32} {v : Int32} (h : EvR l jX6_classOf 8 140 2 12 [.ref 0, .int x0, .int x1] M (.inl (some (.int v))) M1) (hk : (mK M)[0]? = some (.inr 6)) (ho : (mK M1)[212]? = some (kL 1)) : EvR l jL_classOf 9 163 2 12 [.ref 0, .int x0, .int x1, .ref 212] M (.inl (some (.int 0))) (pL M1 212 0 v.toInt64) := by
  refine ev_introW rfl (nb rfl) (by decide) ?_
  refine g_aload_n (pc := 0) dL_classOf_0 rfl trivial ?_
  refine g_iconst (pc := 1) (v := 0) dL_classOf_1 rfl ?_
  refine g_aload_n (pc := 2) dL_classOf_2 rfl trivial ?_
  refine g_iload_n (pc := 3) dL_classOf_3 rfl ?_
  refine g_iload_n (pc := 4) dL_classOf_4 rfl ?_
  refine g_tV_r (pc := 5) (As := [_, _]) dL_classOf_5 rfl (h) rfl rfl hk rfl rfl lk_L_44 rfl (nb rfl) ⟨nb rfl, nb rfl⟩ (by decide) ?_
  refine g_i2l (pc := 8) dL_classOf_8 rfl ?_
  refine g_lastore (pc := 9) dL_classOf_9 ho rfl (nb rfl) (nl rfl) ?_
  refine g_goto (pc := 10) (tgt := 17) dL_classOf_10 rfl ?_
  refine g_iconst (pc := 17) (v := 0) dL_classOf_17 rfl ?_
  refine g_ireturn (pc := 18) dL_classOf_18 rfl rfl ?_
  exact ⟨rfl, rfl⟩
theorem wx_classOf {x0 : Int32} {x1 : Int32} (h : EvR l jX6_classOf 8 140 2 12 [.ref 0, .int x0, .int x1] M (.inr xIO) M1) (hk : (mK M)[0]? = some (.inr 6)) : EvR l jL_classOf 9 163 2 12 [.ref 0, .int x0, .int x1, .ref 212] M (.inl (some (.int 1))) M1 := by
  refine ev_introW rfl (nb rfl) (by decide) ?_
  refine g_aload_n (pc := 0) dL_classOf_0 rfl trivial ?_
  refine g_iconst (pc := 1) (v := 0) dL_classOf_1 rfl ?_
  refine g_aload_n (pc := 2) dL_classOf_2 rfl trivial ?_
  refine g_iload_n (pc := 3) dL_classOf_3 rfl ?_
  refine g_iload_n (pc := 4) dL_classOf_4 rfl ?_
  refine g_tVw_x (pc := 5) (As := [_, _]) (hpc := 13) dL_classOf_5 rfl (h) rfl rfl hk rfl rfl lk_L_44 rfl (nb rfl) ⟨nb rfl, nb rfl⟩ (hn_classOf_1) dL_classOf_13 (by decide) ?_
  refine g_iconst (pc := 15) (v := 1) dL_classOf_15 rfl ?_
  refine g_ireturn (pc := 16) dL_classOf_16 rfl rfl ?_
  exact ⟨rfl, rfl⟩
theorem hn_find_1 : Hnd jL_find 6 xIO 14 := ⟨Or.inl rfl, [], (0, 11, 14, 19), [], rfl, fun z hz => absurd hz List.not_mem_nil, by decide, by decide, wl_19, rfl⟩
theorem w_find {x0 : Int32} {x1 : Int64} {v : Int32} (h : EvR l jX6_find 7 120 1 6 [.ref 0, .int x0, .long x1] M (.inl (some (.int v))) M1) (hk : (mK M)[0]? = some (.inr 6)) (ho : (mK M1)[212]? = some (kL 1)) : EvR l jL_find 8 143 1 6 [.ref 0, .int x0, .long x1, .ref 212] M (.inl (some (.int 0))) (pL M1 212 0 v.toInt64) := by
  refine ev_introW rfl (nb rfl) (by decide) ?_
  refine g_aload (pc := 0) dL_find_0 rfl trivial ?_
  refine g_iconst (pc := 2) (v := 0) dL_find_2 rfl ?_
  refine g_aload_n (pc := 3) dL_find_3 rfl trivial ?_
  refine g_iload_n (pc := 4) dL_find_4 rfl ?_
  refine g_lload_n (pc := 5) dL_find_5 rfl ?_
  refine g_tV_r (pc := 6) (As := [_, _]) dL_find_6 rfl (h) rfl rfl hk rfl rfl lk_L_47 rfl (nb rfl) ⟨nb rfl, nb rfl⟩ (by decide) ?_
  refine g_i2l (pc := 9) dL_find_9 rfl ?_
  refine g_lastore (pc := 10) dL_find_10 ho rfl (nb rfl) (nl rfl) ?_
  refine g_goto (pc := 11) (tgt := 18) dL_find_11 rfl ?_
  refine g_iconst (pc := 18) (v := 0) dL_find_18 rfl ?_
  refine g_ireturn (pc := 19) dL_find_19 rfl rfl ?_
  exact ⟨rfl, rfl⟩
theorem wx_find {x0 : Int32} {x1 : Int64} (h : EvR l jX6_find 7 120 1 6 [.ref 0, .int x0, .long x1] M (.inr xIO) M1) (hk : (mK M)[0]? = some (.inr 6)) : EvR l jL_find 8 143 1 6 [.ref 0, .int x0, .long x1, .ref 212] M (.inl (some (.int 1))) M1 := by
  refine ev_introW rfl (nb rfl) (by decide) ?_
  refine g_aload (pc := 0) dL_find_0 rfl trivial ?_
  refine g_iconst (pc := 2) (v := 0) dL_find_2 rfl ?_
  refine g_aload_n (pc := 3) dL_find_3 rfl trivial ?_
  refine g_iload_n (pc := 4) dL_find_4 rfl ?_
  refine g_lload_n (pc := 5) dL_find_5 rfl ?_
  refine g_tVw_x (pc := 6) (As := [_, _]) (hpc := 14) dL_find_6 rfl (h) rfl rfl hk rfl rfl lk_L_47 rfl (nb rfl) ⟨nb rfl, nb rfl⟩ (hn_find_1) dL_find_14 (by decide) ?_
  refine g_iconst (pc := 16) (v := 1) dL_find_16 rfl ?_
  refine g_ireturn (pc := 17) dL_find_17 rfl rfl ?_
  exact ⟨rfl, rfl⟩
theorem hn_nearest_1 : Hnd jL_nearest 5 xIO 13 := ⟨Or.inl rfl, [], (0, 10, 13, 19), [], rfl, fun z hz => absurd hz List.not_mem_nil, by decide, by decide, wl_19, rfl⟩
theorem w_nearest {x0 : Int32} {x1 : Int32} {v : Int32} (h : EvR l jX6_nearest 8 140 2 12 [.ref 0, .int x0, .int x1] M (.inl (some (.int v))) M1) (hk : (mK M)[0]? = some (.inr 6)) (ho : (mK M1)[212]? = some (kL 1)) : EvR l jL_nearest 9 167 2 12 [.ref 0, .int x0, .int x1, .ref 212] M (.inl (some (.int 0))) (pL M1 212 0 v.toInt64) := by
  refine ev_introW rfl (nb rfl) (by decide) ?_
  refine g_aload_n (pc := 0) dL_nearest_0 rfl trivial ?_
  refine g_iconst (pc := 1) (v := 0) dL_nearest_1 rfl ?_
  refine g_aload_n (pc := 2) dL_nearest_2 rfl trivial ?_
  refine g_iload_n (pc := 3) dL_nearest_3 rfl ?_
  refine g_iload_n (pc := 4) dL_nearest_4 rfl ?_
  refine g_tV_r (pc := 5) (As := [_, _]) dL_nearest_5 rfl (h) rfl rfl hk rfl rfl lk_L_51 rfl (nb rfl) ⟨nb rfl, nb rfl⟩ (by decide) ?_
  refine g_i2l (pc := 8) dL_nearest_8 rfl ?_
  refine g_lastore (pc := 9) dL_nearest_9 ho rfl (nb rfl) (nl rfl) ?_
  refine g_goto (pc := 10) (tgt := 17) dL_nearest_10 rfl ?_
  refine g_iconst (pc := 17) (v := 0) dL_nearest_17 rfl ?_
  refine g_ireturn (pc := 18) dL_nearest_18 rfl rfl ?_
  exact ⟨rfl, rfl⟩
theorem wx_nearest {x0 : Int32} {x1 : Int32} (h : EvR l jX6_nearest 8 140 2 12 [.ref 0, .int x0, .int x1] M (.inr xIO) M1) (hk : (mK M)[0]? = some (.inr 6)) : EvR l jL_nearest 9 167 2 12 [.ref 0, .int x0, .int x1, .ref 212] M (.inl (some (.int 1))) M1 := by
  refine ev_introW rfl (nb rfl) (by decide) ?_
  refine g_aload_n (pc := 0) dL_nearest_0 rfl trivial ?_
  refine g_iconst (pc := 1) (v := 0) dL_nearest_1 rfl ?_
  refine g_aload_n (pc := 2) dL_nearest_2 rfl trivial ?_
  refine g_iload_n (pc := 3) dL_nearest_3 rfl ?_
  refine g_iload_n (pc := 4) dL_nearest_4 rfl ?_
  refine g_tVw_x (pc := 5) (As := [_, _]) (hpc := 13) dL_nearest_5 rfl (h) rfl rfl hk rfl rfl lk_L_51 rfl (nb rfl) ⟨nb rfl, nb rfl⟩ (hn_nearest_1) dL_nearest_13 (by decide) ?_
  refine g_iconst (pc := 15) (v := 1) dL_nearest_15 rfl ?_
  refine g_ireturn (pc := 16) dL_nearest_16 rfl rfl ?_
  exact ⟨rfl, rfl⟩
theorem hn_density_1 : Hnd jL_density 4 xIO 11 := ⟨Or.inl rfl, [], (0, 8, 11, 19), [], rfl, fun z hz => absurd hz List.not_mem_nil, by decide, by decide, wl_19, rfl⟩
theorem w_density {x0 : Int32} {v : UInt64} (h : EvR l jX6_density 8 150 1 6 [.ref 0, .int x0] M (.inl (some (.double v))) M1) (hk : (mK M)[0]? = some (.inr 6)) (ho : (mK M1)[213]? = some (.inl (.double, 1))) : EvR l jL_density 9 171 1 6 [.ref 0, .int x0, .ref 213] M (.inl (some (.int 0))) (sD M1 213 (fun_set (mD M1 213) 0 v)) := by
  refine ev_introW rfl (nb rfl) (by decide) ?_
  refine g_aload_n (pc := 0) dL_density_0 rfl trivial ?_
  refine g_iconst (pc := 1) (v := 0) dL_density_1 rfl ?_
  refine g_aload_n (pc := 2) dL_density_2 rfl trivial ?_
  refine g_iload_n (pc := 3) dL_density_3 rfl ?_
  refine g_tV_r (pc := 4) (As := [_]) dL_density_4 rfl (h) rfl rfl hk rfl rfl lk_L_54 rfl (nb rfl) ⟨nb rfl, nb rfl⟩ (by decide) ?_
  refine g_dastore (pc := 7) dL_density_7 ho rfl (nb rfl) (nl rfl) ?_
  refine g_goto (pc := 8) (tgt := 14) dL_density_8 rfl ?_
  refine g_iconst (pc := 14) (v := 0) dL_density_14 rfl ?_
  refine g_ireturn (pc := 15) dL_density_15 rfl rfl ?_
  exact ⟨rfl, rfl⟩
theorem wx_density {x0 : Int32} (h : EvR l jX6_density 8 150 1 6 [.ref 0, .int x0] M (.inr xIO) M1) (hk : (mK M)[0]? = some (.inr 6)) : EvR l jL_density 9 171 1 6 [.ref 0, .int x0, .ref 213] M (.inl (some (.int 1))) M1 := by
  refine ev_introW rfl (nb rfl) (by decide) ?_
  refine g_aload_n (pc := 0) dL_density_0 rfl trivial ?_
  refine g_iconst (pc := 1) (v := 0) dL_density_1 rfl ?_
  refine g_aload_n (pc := 2) dL_density_2 rfl trivial ?_
  refine g_iload_n (pc := 3) dL_density_3 rfl ?_
  refine g_tVn_x (pc := 4) (As := [_]) (hpc := 11) dL_density_4 rfl (h) rfl rfl hk rfl rfl lk_L_54 rfl (nb rfl) ⟨nb rfl, nb rfl⟩ (hn_density_1) dL_density_11 (by decide) ?_
  refine g_iconst (pc := 12) (v := 1) dL_density_12 rfl ?_
  refine g_ireturn (pc := 13) dL_density_13 rfl rfl ?_
  exact ⟨rfl, rfl⟩
theorem hn_isSymmetric_1 : Hnd jL_isSymmetric 4 xIO 19 := ⟨Or.inl rfl, [], (0, 16, 19, 19), [], rfl, fun z hz => absurd hz List.not_mem_nil, by decide, by decide, wl_19, rfl⟩
theorem w_isSymmetric {x0 : Int32} {v : Bool} (h : EvR l jX6_isSymmetric 7 120 1 6 [.ref 0, .int x0] M (.inl (some (.int (b1 v)))) M1) (hk : (mK M)[0]? = some (.inr 6)) (ho : (mK M1)[212]? = some (kL 1)) : EvR l jL_isSymmetric 8 143 1 6 [.ref 0, .int x0, .ref 212] M (.inl (some (.int 0))) (pL M1 212 0 (if v then 1 else 0)) := by
  refine ev_introW rfl (nb rfl) (by decide) ?_
  cases v
  · refine g_aload_n (pc := 0) dL_isSymmetric_0 rfl trivial ?_
    refine g_iconst (pc := 1) (v := 0) dL_isSymmetric_1 rfl ?_
    refine g_aload_n (pc := 2) dL_isSymmetric_2 rfl trivial ?_
    refine g_iload_n (pc := 3) dL_isSymmetric_3 rfl ?_
    refine g_tV_r (pc := 4) (As := [_]) dL_isSymmetric_4 rfl (h) rfl rfl hk rfl rfl lk_L_58 rfl (nb rfl) ⟨nb rfl, nb rfl⟩ (by decide) ?_
    refine g_if_eq (pc := 7) (tgt := 14) dL_isSymmetric_7 rfl (fun _ => ?_) (fun h7 => absurd (rfl) h7)
    refine g_lconst (pc := 14) (v := 0) dL_isSymmetric_14 rfl ?_
    refine g_lastore (pc := 15) dL_isSymmetric_15 ho rfl (nb rfl) (nl rfl) ?_
    refine g_goto (pc := 16) (tgt := 22) dL_isSymmetric_16 rfl ?_
    refine g_iconst (pc := 22) (v := 0) dL_isSymmetric_22 rfl ?_
    refine g_ireturn (pc := 23) dL_isSymmetric_23 rfl rfl ?_
    exact ⟨rfl, rfl⟩
  · refine g_aload_n (pc := 0) dL_isSymmetric_0 rfl trivial ?_
    refine g_iconst (pc := 1) (v := 0) dL_isSymmetric_1 rfl ?_
    refine g_aload_n (pc := 2) dL_isSymmetric_2 rfl trivial ?_
    refine g_iload_n (pc := 3) dL_isSymmetric_3 rfl ?_
    refine g_tV_r (pc := 4) (As := [_]) dL_isSymmetric_4 rfl (h) rfl rfl hk rfl rfl lk_L_58 rfl (nb rfl) ⟨nb rfl, nb rfl⟩ (by decide) ?_
    refine g_if_eq (pc := 7) (tgt := 14) dL_isSymmetric_7 rfl (fun h7 => absurd h7 ((by decide))) (fun _ => ?_)
    refine g_lconst (pc := 10) (v := 1) dL_isSymmetric_10 rfl ?_
    refine g_goto (pc := 11) (tgt := 15) dL_isSymmetric_11 rfl ?_
    refine g_lastore (pc := 15) dL_isSymmetric_15 ho rfl (nb rfl) (nl rfl) ?_
    refine g_goto (pc := 16) (tgt := 22) dL_isSymmetric_16 rfl ?_
    refine g_iconst (pc := 22) (v := 0) dL_isSymmetric_22 rfl ?_
    refine g_ireturn (pc := 23) dL_isSymmetric_23 rfl rfl ?_
    exact ⟨rfl, rfl⟩
theorem wx_isSymmetric {x0 : Int32} (h : EvR l jX6_isSymmetric 7 120 1 6 [.ref 0, .int x0] M (.inr xIO) M1) (hk : (mK M)[0]? = some (.inr 6)) : EvR l jL_isSymmetric 8 143 1 6 [.ref 0, .int x0, .ref 212] M (.inl (some (.int 1))) M1 := by
  refine ev_introW rfl (nb rfl) (by decide) ?_
  refine g_aload_n (pc := 0) dL_isSymmetric_0 rfl trivial ?_
  refine g_iconst (pc := 1) (v := 0) dL_isSymmetric_1 rfl ?_
  refine g_aload_n (pc := 2) dL_isSymmetric_2 rfl trivial ?_
  refine g_iload_n (pc := 3) dL_isSymmetric_3 rfl ?_
  refine g_tVn_x (pc := 4) (As := [_]) (hpc := 19) dL_isSymmetric_4 rfl (h) rfl rfl hk rfl rfl lk_L_58 rfl (nb rfl) ⟨nb rfl, nb rfl⟩ (hn_isSymmetric_1) dL_isSymmetric_19 (by decide) ?_
  refine g_iconst (pc := 20) (v := 1) dL_isSymmetric_20 rfl ?_
  refine g_ireturn (pc := 21) dL_isSymmetric_21 rfl rfl ?_
  exact ⟨rfl, rfl⟩
theorem hn_reaches_1 : Hnd jL_reaches 7 xIO 15 := ⟨Or.inl rfl, [], (0, 12, 15, 19), [], rfl, fun z hz => absurd hz List.not_mem_nil, by decide, by decide, wl_19, rfl⟩
theorem w_reaches {x0 : Int32} {x1 : Int32} {x2 : Int32} {v : Int32} (h : EvR l jX6_reaches 9 160 3 18 [.ref 0, .int x0, .int x1, .int x2] M (.inl (some (.int v))) M1) (hk : (mK M)[0]? = some (.inr 6)) (ho : (mK M1)[212]? = some (kL 1)) : EvR l jL_reaches 10 183 3 18 [.ref 0, .int x0, .int x1, .int x2, .ref 212] M (.inl (some (.int 0))) (pL M1 212 0 v.toInt64) := by
  refine ev_introW rfl (nb rfl) (by decide) ?_
  refine g_aload (pc := 0) dL_reaches_0 rfl trivial ?_
  refine g_iconst (pc := 2) (v := 0) dL_reaches_2 rfl ?_
  refine g_aload_n (pc := 3) dL_reaches_3 rfl trivial ?_
  refine g_iload_n (pc := 4) dL_reaches_4 rfl ?_
  refine g_iload_n (pc := 5) dL_reaches_5 rfl ?_
  refine g_iload_n (pc := 6) dL_reaches_6 rfl ?_
  refine g_tV_r (pc := 7) (As := [_, _, _]) dL_reaches_7 rfl (h) rfl rfl hk rfl rfl lk_L_62 rfl (nb rfl) ⟨nb rfl, nb rfl⟩ (by decide) ?_
  refine g_i2l (pc := 10) dL_reaches_10 rfl ?_
  refine g_lastore (pc := 11) dL_reaches_11 ho rfl (nb rfl) (nl rfl) ?_
  refine g_goto (pc := 12) (tgt := 19) dL_reaches_12 rfl ?_
  refine g_iconst (pc := 19) (v := 0) dL_reaches_19 rfl ?_
  refine g_ireturn (pc := 20) dL_reaches_20 rfl rfl ?_
  exact ⟨rfl, rfl⟩
theorem wx_reaches {x0 : Int32} {x1 : Int32} {x2 : Int32} (h : EvR l jX6_reaches 9 160 3 18 [.ref 0, .int x0, .int x1, .int x2] M (.inr xIO) M1) (hk : (mK M)[0]? = some (.inr 6)) : EvR l jL_reaches 10 183 3 18 [.ref 0, .int x0, .int x1, .int x2, .ref 212] M (.inl (some (.int 1))) M1 := by
  refine ev_introW rfl (nb rfl) (by decide) ?_
  refine g_aload (pc := 0) dL_reaches_0 rfl trivial ?_
  refine g_iconst (pc := 2) (v := 0) dL_reaches_2 rfl ?_
  refine g_aload_n (pc := 3) dL_reaches_3 rfl trivial ?_
  refine g_iload_n (pc := 4) dL_reaches_4 rfl ?_
  refine g_iload_n (pc := 5) dL_reaches_5 rfl ?_
  refine g_iload_n (pc := 6) dL_reaches_6 rfl ?_
  refine g_tVw_x (pc := 7) (As := [_, _, _]) (hpc := 15) dL_reaches_7 rfl (h) rfl rfl hk rfl rfl lk_L_62 rfl (nb rfl) ⟨nb rfl, nb rfl⟩ (hn_reaches_1) dL_reaches_15 (by decide) ?_
  refine g_iconst (pc := 17) (v := 1) dL_reaches_17 rfl ?_
  refine g_ireturn (pc := 18) dL_reaches_18 rfl rfl ?_
  exact ⟨rfl, rfl⟩
theorem hn_reached_1 : Hnd jL_reached 5 xIO 13 := ⟨Or.inl rfl, [], (0, 10, 13, 19), [], rfl, fun z hz => absurd hz List.not_mem_nil, by decide, by decide, wl_19, rfl⟩
theorem w_reached {x0 : Int32} {x1 : Int32} {v : Int32} (h : EvR l jX6_reached 8 140 2 12 [.ref 0, .int x0, .int x1] M (.inl (some (.int v))) M1) (hk : (mK M)[0]? = some (.inr 6)) (ho : (mK M1)[212]? = some (kL 1)) : EvR l jL_reached 9 162 2 12 [.ref 0, .int x0, .int x1, .ref 212] M (.inl (some (.int 0))) (pL M1 212 0 v.toInt64) := by
  refine ev_introW rfl (nb rfl) (by decide) ?_
  refine g_aload_n (pc := 0) dL_reached_0 rfl trivial ?_
  refine g_iconst (pc := 1) (v := 0) dL_reached_1 rfl ?_
  refine g_aload_n (pc := 2) dL_reached_2 rfl trivial ?_
  refine g_iload_n (pc := 3) dL_reached_3 rfl ?_
  refine g_iload_n (pc := 4) dL_reached_4 rfl ?_
  refine g_tV_r (pc := 5) (As := [_, _]) dL_reached_5 rfl (h) rfl rfl hk rfl rfl lk_L_65 rfl (nb rfl) ⟨nb rfl, nb rfl⟩ (by decide) ?_
  refine g_i2l (pc := 8) dL_reached_8 rfl ?_
  refine g_lastore (pc := 9) dL_reached_9 ho rfl (nb rfl) (nl rfl) ?_
  refine g_goto (pc := 10) (tgt := 17) dL_reached_10 rfl ?_
  refine g_iconst (pc := 17) (v := 0) dL_reached_17 rfl ?_
  refine g_ireturn (pc := 18) dL_reached_18 rfl rfl ?_
  exact ⟨rfl, rfl⟩
theorem wx_reached {x0 : Int32} {x1 : Int32} (h : EvR l jX6_reached 8 140 2 12 [.ref 0, .int x0, .int x1] M (.inr xIO) M1) (hk : (mK M)[0]? = some (.inr 6)) : EvR l jL_reached 9 162 2 12 [.ref 0, .int x0, .int x1, .ref 212] M (.inl (some (.int 1))) M1 := by
  refine ev_introW rfl (nb rfl) (by decide) ?_
  refine g_aload_n (pc := 0) dL_reached_0 rfl trivial ?_
  refine g_iconst (pc := 1) (v := 0) dL_reached_1 rfl ?_
  refine g_aload_n (pc := 2) dL_reached_2 rfl trivial ?_
  refine g_iload_n (pc := 3) dL_reached_3 rfl ?_
  refine g_iload_n (pc := 4) dL_reached_4 rfl ?_
  refine g_tVw_x (pc := 5) (As := [_, _]) (hpc := 13) dL_reached_5 rfl (h) rfl rfl hk rfl rfl lk_L_65 rfl (nb rfl) ⟨nb rfl, nb rfl⟩ (hn_reached_1) dL_reached_13 (by decide) ?_
  refine g_iconst (pc := 15) (v := 1) dL_reached_15 rfl ?_
  refine g_ireturn (pc := 16) dL_reached_16 rfl rfl ?_
  exact ⟨rfl, rfl⟩
theorem hn_pairs_1 : Hnd jL_pairs 4 xIO 12 := ⟨Or.inl rfl, [], (0, 9, 12, 19), [], rfl, fun z hz => absurd hz List.not_mem_nil, by decide, by decide, wl_19, rfl⟩
theorem w_pairs {x0 : Int32} {v : Int32} (h : EvR l jX6_pairs 7 120 1 6 [.ref 0, .int x0] M (.inl (some (.int v))) M1) (hk : (mK M)[0]? = some (.inr 6)) (ho : (mK M1)[212]? = some (kL 1)) : EvR l jL_pairs 8 141 1 6 [.ref 0, .int x0, .ref 212] M (.inl (some (.int 0))) (pL M1 212 0 v.toInt64) := by
  refine ev_introW rfl (nb rfl) (by decide) ?_
  refine g_aload_n (pc := 0) dL_pairs_0 rfl trivial ?_
  refine g_iconst (pc := 1) (v := 0) dL_pairs_1 rfl ?_
  refine g_aload_n (pc := 2) dL_pairs_2 rfl trivial ?_
  refine g_iload_n (pc := 3) dL_pairs_3 rfl ?_
  refine g_tV_r (pc := 4) (As := [_]) dL_pairs_4 rfl (h) rfl rfl hk rfl rfl lk_L_68 rfl (nb rfl) ⟨nb rfl, nb rfl⟩ (by decide) ?_
  refine g_i2l (pc := 7) dL_pairs_7 rfl ?_
  refine g_lastore (pc := 8) dL_pairs_8 ho rfl (nb rfl) (nl rfl) ?_
  refine g_goto (pc := 9) (tgt := 15) dL_pairs_9 rfl ?_
  refine g_iconst (pc := 15) (v := 0) dL_pairs_15 rfl ?_
  refine g_ireturn (pc := 16) dL_pairs_16 rfl rfl ?_
  exact ⟨rfl, rfl⟩
theorem wx_pairs {x0 : Int32} (h : EvR l jX6_pairs 7 120 1 6 [.ref 0, .int x0] M (.inr xIO) M1) (hk : (mK M)[0]? = some (.inr 6)) : EvR l jL_pairs 8 141 1 6 [.ref 0, .int x0, .ref 212] M (.inl (some (.int 1))) M1 := by
  refine ev_introW rfl (nb rfl) (by decide) ?_
  refine g_aload_n (pc := 0) dL_pairs_0 rfl trivial ?_
  refine g_iconst (pc := 1) (v := 0) dL_pairs_1 rfl ?_
  refine g_aload_n (pc := 2) dL_pairs_2 rfl trivial ?_
  refine g_iload_n (pc := 3) dL_pairs_3 rfl ?_
  refine g_tVn_x (pc := 4) (As := [_]) (hpc := 12) dL_pairs_4 rfl (h) rfl rfl hk rfl rfl lk_L_68 rfl (nb rfl) ⟨nb rfl, nb rfl⟩ (hn_pairs_1) dL_pairs_12 (by decide) ?_
  refine g_iconst (pc := 13) (v := 1) dL_pairs_13 rfl ?_
  refine g_ireturn (pc := 14) dL_pairs_14 rfl rfl ?_
  exact ⟨rfl, rfl⟩
theorem hn_meanReach_1 : Hnd jL_meanReach 4 xIO 12 := ⟨Or.inl rfl, [], (0, 9, 12, 19), [], rfl, fun z hz => absurd hz List.not_mem_nil, by decide, by decide, wl_19, rfl⟩
theorem w_meanReach {x0 : Int32} {v : UInt32} (h : EvR l jX6_meanReach 8 150 1 6 [.ref 0, .int x0] M (.inl (some (.float v))) M1) (hk : (mK M)[0]? = some (.inr 6)) (ho : (mK M1)[213]? = some (.inl (.double, 1))) (h64 : vf_n64 (FP.f2d v)) : EvR l jL_meanReach 9 171 1 6 [.ref 0, .int x0, .ref 213] M (.inl (some (.int 0))) (sD M1 213 (fun_set (mD M1 213) 0 (FP.f2d v))) := by
  refine ev_introW rfl (nb rfl) (by decide) ?_
  refine g_aload_n (pc := 0) dL_meanReach_0 rfl trivial ?_
  refine g_iconst (pc := 1) (v := 0) dL_meanReach_1 rfl ?_
  refine g_aload_n (pc := 2) dL_meanReach_2 rfl trivial ?_
  refine g_iload_n (pc := 3) dL_meanReach_3 rfl ?_
  refine g_tV_r (pc := 4) (As := [_]) dL_meanReach_4 rfl (h) rfl rfl hk rfl rfl lk_L_71 rfl (nb rfl) ⟨nb rfl, nb rfl⟩ (by decide) ?_
  refine g_f2d (pc := 7) dL_meanReach_7 h64 ?_
  refine g_dastore (pc := 8) dL_meanReach_8 ho rfl (nb rfl) (nl rfl) ?_
  refine g_goto (pc := 9) (tgt := 15) dL_meanReach_9 rfl ?_
  refine g_iconst (pc := 15) (v := 0) dL_meanReach_15 rfl ?_
  refine g_ireturn (pc := 16) dL_meanReach_16 rfl rfl ?_
  exact ⟨rfl, rfl⟩
theorem wx_meanReach {x0 : Int32} (h : EvR l jX6_meanReach 8 150 1 6 [.ref 0, .int x0] M (.inr xIO) M1) (hk : (mK M)[0]? = some (.inr 6)) : EvR l jL_meanReach 9 171 1 6 [.ref 0, .int x0, .ref 213] M (.inl (some (.int 1))) M1 := by
  refine ev_introW rfl (nb rfl) (by decide) ?_
  refine g_aload_n (pc := 0) dL_meanReach_0 rfl trivial ?_
  refine g_iconst (pc := 1) (v := 0) dL_meanReach_1 rfl ?_
  refine g_aload_n (pc := 2) dL_meanReach_2 rfl trivial ?_
  refine g_iload_n (pc := 3) dL_meanReach_3 rfl ?_
  refine g_tVn_x (pc := 4) (As := [_]) (hpc := 12) dL_meanReach_4 rfl (h) rfl rfl hk rfl rfl lk_L_71 rfl (nb rfl) ⟨nb rfl, nb rfl⟩ (hn_meanReach_1) dL_meanReach_12 (by decide) ?_
  refine g_iconst (pc := 13) (v := 1) dL_meanReach_13 rfl ?_
  refine g_ireturn (pc := 14) dL_meanReach_14 rfl rfl ?_
  exact ⟨rfl, rfl⟩
theorem hn_component_1 : Hnd jL_component 5 xIO 13 := ⟨Or.inl rfl, [], (0, 10, 13, 19), [], rfl, fun z hz => absurd hz List.not_mem_nil, by decide, by decide, wl_19, rfl⟩
theorem w_component {x0 : Int32} {x1 : Int32} {v : Int32} (h : EvR l jX6_component 8 140 2 12 [.ref 0, .int x0, .int x1] M (.inl (some (.int v))) M1) (hk : (mK M)[0]? = some (.inr 6)) (ho : (mK M1)[212]? = some (kL 1)) : EvR l jL_component 9 162 2 12 [.ref 0, .int x0, .int x1, .ref 212] M (.inl (some (.int 0))) (pL M1 212 0 v.toInt64) := by
  refine ev_introW rfl (nb rfl) (by decide) ?_
  refine g_aload_n (pc := 0) dL_component_0 rfl trivial ?_
  refine g_iconst (pc := 1) (v := 0) dL_component_1 rfl ?_
  refine g_aload_n (pc := 2) dL_component_2 rfl trivial ?_
  refine g_iload_n (pc := 3) dL_component_3 rfl ?_
  refine g_iload_n (pc := 4) dL_component_4 rfl ?_
  refine g_tV_r (pc := 5) (As := [_, _]) dL_component_5 rfl (h) rfl rfl hk rfl rfl lk_L_75 rfl (nb rfl) ⟨nb rfl, nb rfl⟩ (by decide) ?_
  refine g_i2l (pc := 8) dL_component_8 rfl ?_
  refine g_lastore (pc := 9) dL_component_9 ho rfl (nb rfl) (nl rfl) ?_
  refine g_goto (pc := 10) (tgt := 17) dL_component_10 rfl ?_
  refine g_iconst (pc := 17) (v := 0) dL_component_17 rfl ?_
  refine g_ireturn (pc := 18) dL_component_18 rfl rfl ?_
  exact ⟨rfl, rfl⟩
theorem wx_component {x0 : Int32} {x1 : Int32} (h : EvR l jX6_component 8 140 2 12 [.ref 0, .int x0, .int x1] M (.inr xIO) M1) (hk : (mK M)[0]? = some (.inr 6)) : EvR l jL_component 9 162 2 12 [.ref 0, .int x0, .int x1, .ref 212] M (.inl (some (.int 1))) M1 := by
  refine ev_introW rfl (nb rfl) (by decide) ?_
  refine g_aload_n (pc := 0) dL_component_0 rfl trivial ?_
  refine g_iconst (pc := 1) (v := 0) dL_component_1 rfl ?_
  refine g_aload_n (pc := 2) dL_component_2 rfl trivial ?_
  refine g_iload_n (pc := 3) dL_component_3 rfl ?_
  refine g_iload_n (pc := 4) dL_component_4 rfl ?_
  refine g_tVw_x (pc := 5) (As := [_, _]) (hpc := 13) dL_component_5 rfl (h) rfl rfl hk rfl rfl lk_L_75 rfl (nb rfl) ⟨nb rfl, nb rfl⟩ (hn_component_1) dL_component_13 (by decide) ?_
  refine g_iconst (pc := 15) (v := 1) dL_component_15 rfl ?_
  refine g_ireturn (pc := 16) dL_component_16 rfl rfl ?_
  exact ⟨rfl, rfl⟩
theorem hn_components_1 : Hnd jL_components 4 xIO 12 := ⟨Or.inl rfl, [], (0, 9, 12, 19), [], rfl, fun z hz => absurd hz List.not_mem_nil, by decide, by decide, wl_19, rfl⟩
theorem w_components {x0 : Int32} {v : Int32} (h : EvR l jX6_components 7 120 1 6 [.ref 0, .int x0] M (.inl (some (.int v))) M1) (hk : (mK M)[0]? = some (.inr 6)) (ho : (mK M1)[212]? = some (kL 1)) : EvR l jL_components 8 144 1 6 [.ref 0, .int x0, .ref 212] M (.inl (some (.int 0))) (pL M1 212 0 v.toInt64) := by
  refine ev_introW rfl (nb rfl) (by decide) ?_
  refine g_aload_n (pc := 0) dL_components_0 rfl trivial ?_
  refine g_iconst (pc := 1) (v := 0) dL_components_1 rfl ?_
  refine g_aload_n (pc := 2) dL_components_2 rfl trivial ?_
  refine g_iload_n (pc := 3) dL_components_3 rfl ?_
  refine g_tV_r (pc := 4) (As := [_]) dL_components_4 rfl (h) rfl rfl hk rfl rfl lk_L_78 rfl (nb rfl) ⟨nb rfl, nb rfl⟩ (by decide) ?_
  refine g_i2l (pc := 7) dL_components_7 rfl ?_
  refine g_lastore (pc := 8) dL_components_8 ho rfl (nb rfl) (nl rfl) ?_
  refine g_goto (pc := 9) (tgt := 15) dL_components_9 rfl ?_
  refine g_iconst (pc := 15) (v := 0) dL_components_15 rfl ?_
  refine g_ireturn (pc := 16) dL_components_16 rfl rfl ?_
  exact ⟨rfl, rfl⟩
theorem wx_components {x0 : Int32} (h : EvR l jX6_components 7 120 1 6 [.ref 0, .int x0] M (.inr xIO) M1) (hk : (mK M)[0]? = some (.inr 6)) : EvR l jL_components 8 144 1 6 [.ref 0, .int x0, .ref 212] M (.inl (some (.int 1))) M1 := by
  refine ev_introW rfl (nb rfl) (by decide) ?_
  refine g_aload_n (pc := 0) dL_components_0 rfl trivial ?_
  refine g_iconst (pc := 1) (v := 0) dL_components_1 rfl ?_
  refine g_aload_n (pc := 2) dL_components_2 rfl trivial ?_
  refine g_iload_n (pc := 3) dL_components_3 rfl ?_
  refine g_tVn_x (pc := 4) (As := [_]) (hpc := 12) dL_components_4 rfl (h) rfl rfl hk rfl rfl lk_L_78 rfl (nb rfl) ⟨nb rfl, nb rfl⟩ (hn_components_1) dL_components_12 (by decide) ?_
  refine g_iconst (pc := 13) (v := 1) dL_components_13 rfl ?_
  refine g_ireturn (pc := 14) dL_components_14 rfl rfl ?_
  exact ⟨rfl, rfl⟩
theorem hn_distance_1 : Hnd jL_distance 7 xIO 15 := ⟨Or.inl rfl, [], (0, 12, 15, 19), [], rfl, fun z hz => absurd hz List.not_mem_nil, by decide, by decide, wl_19, rfl⟩
theorem w_distance {x0 : Int32} {x1 : Int32} {x2 : Int32} {v : Int32} (h : EvR l jX6_distance 9 160 3 18 [.ref 0, .int x0, .int x1, .int x2] M (.inl (some (.int v))) M1) (hk : (mK M)[0]? = some (.inr 6)) (ho : (mK M1)[212]? = some (kL 1)) : EvR l jL_distance 10 183 3 18 [.ref 0, .int x0, .int x1, .int x2, .ref 212] M (.inl (some (.int 0))) (pL M1 212 0 v.toInt64) := by
  refine ev_introW rfl (nb rfl) (by decide) ?_
  refine g_aload (pc := 0) dL_distance_0 rfl trivial ?_
  refine g_iconst (pc := 2) (v := 0) dL_distance_2 rfl ?_
  refine g_aload_n (pc := 3) dL_distance_3 rfl trivial ?_
  refine g_iload_n (pc := 4) dL_distance_4 rfl ?_
  refine g_iload_n (pc := 5) dL_distance_5 rfl ?_
  refine g_iload_n (pc := 6) dL_distance_6 rfl ?_
  refine g_tV_r (pc := 7) (As := [_, _, _]) dL_distance_7 rfl (h) rfl rfl hk rfl rfl lk_L_81 rfl (nb rfl) ⟨nb rfl, nb rfl⟩ (by decide) ?_
  refine g_i2l (pc := 10) dL_distance_10 rfl ?_
  refine g_lastore (pc := 11) dL_distance_11 ho rfl (nb rfl) (nl rfl) ?_
  refine g_goto (pc := 12) (tgt := 19) dL_distance_12 rfl ?_
  refine g_iconst (pc := 19) (v := 0) dL_distance_19 rfl ?_
  refine g_ireturn (pc := 20) dL_distance_20 rfl rfl ?_
  exact ⟨rfl, rfl⟩
theorem wx_distance {x0 : Int32} {x1 : Int32} {x2 : Int32} (h : EvR l jX6_distance 9 160 3 18 [.ref 0, .int x0, .int x1, .int x2] M (.inr xIO) M1) (hk : (mK M)[0]? = some (.inr 6)) : EvR l jL_distance 10 183 3 18 [.ref 0, .int x0, .int x1, .int x2, .ref 212] M (.inl (some (.int 1))) M1 := by
  refine ev_introW rfl (nb rfl) (by decide) ?_
  refine g_aload (pc := 0) dL_distance_0 rfl trivial ?_
  refine g_iconst (pc := 2) (v := 0) dL_distance_2 rfl ?_
  refine g_aload_n (pc := 3) dL_distance_3 rfl trivial ?_
  refine g_iload_n (pc := 4) dL_distance_4 rfl ?_
  refine g_iload_n (pc := 5) dL_distance_5 rfl ?_
  refine g_iload_n (pc := 6) dL_distance_6 rfl ?_
  refine g_tVw_x (pc := 7) (As := [_, _, _]) (hpc := 15) dL_distance_7 rfl (h) rfl rfl hk rfl rfl lk_L_81 rfl (nb rfl) ⟨nb rfl, nb rfl⟩ (hn_distance_1) dL_distance_15 (by decide) ?_
  refine g_iconst (pc := 17) (v := 1) dL_distance_17 rfl ?_
  refine g_ireturn (pc := 18) dL_distance_18 rfl rfl ?_
  exact ⟨rfl, rfl⟩
theorem hn_stepAt_1 : Hnd jL_stepAt 9 xIO 17 := ⟨Or.inl rfl, [], (0, 14, 17, 19), [], rfl, fun z hz => absurd hz List.not_mem_nil, by decide, by decide, wl_19, rfl⟩
theorem w_stepAt {x0 : Int32} {x1 : Int32} {x2 : Int32} {x3 : Int32} {v : Int32} (h : EvR l jX6_stepAt 10 190 3 18 [.ref 0, .int x0, .int x1, .int x2, .int x3] M (.inl (some (.int v))) M1) (hk : (mK M)[0]? = some (.inr 6)) (ho : (mK M1)[212]? = some (kL 1)) : EvR l jL_stepAt 11 218 3 18 [.ref 0, .int x0, .int x1, .int x2, .int x3, .ref 212] M (.inl (some (.int 0))) (pL M1 212 0 v.toInt64) := by
  refine ev_introW rfl (nb rfl) (by decide) ?_
  refine g_aload (pc := 0) dL_stepAt_0 rfl trivial ?_
  refine g_iconst (pc := 2) (v := 0) dL_stepAt_2 rfl ?_
  refine g_aload_n (pc := 3) dL_stepAt_3 rfl trivial ?_
  refine g_iload_n (pc := 4) dL_stepAt_4 rfl ?_
  refine g_iload_n (pc := 5) dL_stepAt_5 rfl ?_
  refine g_iload_n (pc := 6) dL_stepAt_6 rfl ?_
  refine g_iload (pc := 7) dL_stepAt_7 rfl ?_
  refine g_tV_r (pc := 9) (As := [_, _, _, _]) dL_stepAt_9 rfl (h) rfl rfl hk rfl rfl lk_L_84 rfl (nb rfl) ⟨nb rfl, nb rfl⟩ (by decide) ?_
  refine g_i2l (pc := 12) dL_stepAt_12 rfl ?_
  refine g_lastore (pc := 13) dL_stepAt_13 ho rfl (nb rfl) (nl rfl) ?_
  refine g_goto (pc := 14) (tgt := 21) dL_stepAt_14 rfl ?_
  refine g_iconst (pc := 21) (v := 0) dL_stepAt_21 rfl ?_
  refine g_ireturn (pc := 22) dL_stepAt_22 rfl rfl ?_
  exact ⟨rfl, rfl⟩
theorem wx_stepAt {x0 : Int32} {x1 : Int32} {x2 : Int32} {x3 : Int32} (h : EvR l jX6_stepAt 10 190 3 18 [.ref 0, .int x0, .int x1, .int x2, .int x3] M (.inr xIO) M1) (hk : (mK M)[0]? = some (.inr 6)) : EvR l jL_stepAt 11 218 3 18 [.ref 0, .int x0, .int x1, .int x2, .int x3, .ref 212] M (.inl (some (.int 1))) M1 := by
  refine ev_introW rfl (nb rfl) (by decide) ?_
  refine g_aload (pc := 0) dL_stepAt_0 rfl trivial ?_
  refine g_iconst (pc := 2) (v := 0) dL_stepAt_2 rfl ?_
  refine g_aload_n (pc := 3) dL_stepAt_3 rfl trivial ?_
  refine g_iload_n (pc := 4) dL_stepAt_4 rfl ?_
  refine g_iload_n (pc := 5) dL_stepAt_5 rfl ?_
  refine g_iload_n (pc := 6) dL_stepAt_6 rfl ?_
  refine g_iload (pc := 7) dL_stepAt_7 rfl ?_
  refine g_tVw_x (pc := 9) (As := [_, _, _, _]) (hpc := 17) dL_stepAt_9 rfl (h) rfl rfl hk rfl rfl lk_L_84 rfl (nb rfl) ⟨nb rfl, nb rfl⟩ (hn_stepAt_1) dL_stepAt_17 (by decide) ?_
  refine g_iconst (pc := 19) (v := 1) dL_stepAt_19 rfl ?_
  refine g_ireturn (pc := 20) dL_stepAt_20 rfl rfl ?_
  exact ⟨rfl, rfl⟩
theorem hn_around_1 : Hnd jL_around 5 xIO 13 := ⟨Or.inl rfl, [], (0, 10, 13, 19), [], rfl, fun z hz => absurd hz List.not_mem_nil, by decide, by decide, wl_19, rfl⟩
theorem w_around {x0 : Int32} {x1 : Int32} {v : Int32} (h : EvR l jX6_around 8 140 2 12 [.ref 0, .int x0, .int x1] M (.inl (some (.int v))) M1) (hk : (mK M)[0]? = some (.inr 6)) (ho : (mK M1)[212]? = some (kL 1)) : EvR l jL_around 9 162 2 12 [.ref 0, .int x0, .int x1, .ref 212] M (.inl (some (.int 0))) (pL M1 212 0 v.toInt64) := by
  refine ev_introW rfl (nb rfl) (by decide) ?_
  refine g_aload_n (pc := 0) dL_around_0 rfl trivial ?_
  refine g_iconst (pc := 1) (v := 0) dL_around_1 rfl ?_
  refine g_aload_n (pc := 2) dL_around_2 rfl trivial ?_
  refine g_iload_n (pc := 3) dL_around_3 rfl ?_
  refine g_iload_n (pc := 4) dL_around_4 rfl ?_
  refine g_tV_r (pc := 5) (As := [_, _]) dL_around_5 rfl (h) rfl rfl hk rfl rfl lk_L_88 rfl (nb rfl) ⟨nb rfl, nb rfl⟩ (by decide) ?_
  refine g_i2l (pc := 8) dL_around_8 rfl ?_
  refine g_lastore (pc := 9) dL_around_9 ho rfl (nb rfl) (nl rfl) ?_
  refine g_goto (pc := 10) (tgt := 17) dL_around_10 rfl ?_
  refine g_iconst (pc := 17) (v := 0) dL_around_17 rfl ?_
  refine g_ireturn (pc := 18) dL_around_18 rfl rfl ?_
  exact ⟨rfl, rfl⟩
theorem wx_around {x0 : Int32} {x1 : Int32} (h : EvR l jX6_around 8 140 2 12 [.ref 0, .int x0, .int x1] M (.inr xIO) M1) (hk : (mK M)[0]? = some (.inr 6)) : EvR l jL_around 9 162 2 12 [.ref 0, .int x0, .int x1, .ref 212] M (.inl (some (.int 1))) M1 := by
  refine ev_introW rfl (nb rfl) (by decide) ?_
  refine g_aload_n (pc := 0) dL_around_0 rfl trivial ?_
  refine g_iconst (pc := 1) (v := 0) dL_around_1 rfl ?_
  refine g_aload_n (pc := 2) dL_around_2 rfl trivial ?_
  refine g_iload_n (pc := 3) dL_around_3 rfl ?_
  refine g_iload_n (pc := 4) dL_around_4 rfl ?_
  refine g_tVw_x (pc := 5) (As := [_, _]) (hpc := 13) dL_around_5 rfl (h) rfl rfl hk rfl rfl lk_L_88 rfl (nb rfl) ⟨nb rfl, nb rfl⟩ (hn_around_1) dL_around_13 (by decide) ?_
  refine g_iconst (pc := 15) (v := 1) dL_around_15 rfl ?_
  refine g_ireturn (pc := 16) dL_around_16 rfl rfl ?_
  exact ⟨rfl, rfl⟩
theorem hn_girth_1 : Hnd jL_girth 4 xIO 12 := ⟨Or.inl rfl, [], (0, 9, 12, 19), [], rfl, fun z hz => absurd hz List.not_mem_nil, by decide, by decide, wl_19, rfl⟩
theorem w_girth {x0 : Int32} {v : Int32} (h : EvR l jX6_girth 7 120 1 6 [.ref 0, .int x0] M (.inl (some (.int v))) M1) (hk : (mK M)[0]? = some (.inr 6)) (ho : (mK M1)[212]? = some (kL 1)) : EvR l jL_girth 8 144 1 6 [.ref 0, .int x0, .ref 212] M (.inl (some (.int 0))) (pL M1 212 0 v.toInt64) := by
  refine ev_introW rfl (nb rfl) (by decide) ?_
  refine g_aload_n (pc := 0) dL_girth_0 rfl trivial ?_
  refine g_iconst (pc := 1) (v := 0) dL_girth_1 rfl ?_
  refine g_aload_n (pc := 2) dL_girth_2 rfl trivial ?_
  refine g_iload_n (pc := 3) dL_girth_3 rfl ?_
  refine g_tV_r (pc := 4) (As := [_]) dL_girth_4 rfl (h) rfl rfl hk rfl rfl lk_L_91 rfl (nb rfl) ⟨nb rfl, nb rfl⟩ (by decide) ?_
  refine g_i2l (pc := 7) dL_girth_7 rfl ?_
  refine g_lastore (pc := 8) dL_girth_8 ho rfl (nb rfl) (nl rfl) ?_
  refine g_goto (pc := 9) (tgt := 15) dL_girth_9 rfl ?_
  refine g_iconst (pc := 15) (v := 0) dL_girth_15 rfl ?_
  refine g_ireturn (pc := 16) dL_girth_16 rfl rfl ?_
  exact ⟨rfl, rfl⟩
theorem wx_girth {x0 : Int32} (h : EvR l jX6_girth 7 120 1 6 [.ref 0, .int x0] M (.inr xIO) M1) (hk : (mK M)[0]? = some (.inr 6)) : EvR l jL_girth 8 144 1 6 [.ref 0, .int x0, .ref 212] M (.inl (some (.int 1))) M1 := by
  refine ev_introW rfl (nb rfl) (by decide) ?_
  refine g_aload_n (pc := 0) dL_girth_0 rfl trivial ?_
  refine g_iconst (pc := 1) (v := 0) dL_girth_1 rfl ?_
  refine g_aload_n (pc := 2) dL_girth_2 rfl trivial ?_
  refine g_iload_n (pc := 3) dL_girth_3 rfl ?_
  refine g_tVn_x (pc := 4) (As := [_]) (hpc := 12) dL_girth_4 rfl (h) rfl rfl hk rfl rfl lk_L_91 rfl (nb rfl) ⟨nb rfl, nb rfl⟩ (hn_girth_1) dL_girth_12 (by decide) ?_
  refine g_iconst (pc := 13) (v := 1) dL_girth_13 rfl ?_
  refine g_ireturn (pc := 14) dL_girth_14 rfl rfl ?_
  exact ⟨rfl, rfl⟩
theorem hn_order_1 : Hnd jL_order 5 xIO 13 := ⟨Or.inl rfl, [], (0, 10, 13, 19), [], rfl, fun z hz => absurd hz List.not_mem_nil, by decide, by decide, wl_19, rfl⟩
theorem w_order {x0 : Int32} {x1 : Int32} {v : Int32} (h : EvR l jX6_order 7 120 1 6 [.ref 0, .int x0, .int x1] M (.inl (some (.int v))) M1) (hk : (mK M)[0]? = some (.inr 6)) (ho : (mK M1)[212]? = some (kL 1)) : EvR l jL_order 8 146 1 6 [.ref 0, .int x0, .int x1, .ref 212] M (.inl (some (.int 0))) (pL M1 212 0 v.toInt64) := by
  refine ev_introW rfl (nb rfl) (by decide) ?_
  refine g_aload_n (pc := 0) dL_order_0 rfl trivial ?_
  refine g_iconst (pc := 1) (v := 0) dL_order_1 rfl ?_
  refine g_aload_n (pc := 2) dL_order_2 rfl trivial ?_
  refine g_iload_n (pc := 3) dL_order_3 rfl ?_
  refine g_iload_n (pc := 4) dL_order_4 rfl ?_
  refine g_tV_r (pc := 5) (As := [_, _]) dL_order_5 rfl (h) rfl rfl hk rfl rfl lk_L_94 rfl (nb rfl) ⟨nb rfl, nb rfl⟩ (by decide) ?_
  refine g_i2l (pc := 8) dL_order_8 rfl ?_
  refine g_lastore (pc := 9) dL_order_9 ho rfl (nb rfl) (nl rfl) ?_
  refine g_goto (pc := 10) (tgt := 17) dL_order_10 rfl ?_
  refine g_iconst (pc := 17) (v := 0) dL_order_17 rfl ?_
  refine g_ireturn (pc := 18) dL_order_18 rfl rfl ?_
  exact ⟨rfl, rfl⟩
theorem wx_order {x0 : Int32} {x1 : Int32} (h : EvR l jX6_order 7 120 1 6 [.ref 0, .int x0, .int x1] M (.inr xIO) M1) (hk : (mK M)[0]? = some (.inr 6)) : EvR l jL_order 8 146 1 6 [.ref 0, .int x0, .int x1, .ref 212] M (.inl (some (.int 1))) M1 := by
  refine ev_introW rfl (nb rfl) (by decide) ?_
  refine g_aload_n (pc := 0) dL_order_0 rfl trivial ?_
  refine g_iconst (pc := 1) (v := 0) dL_order_1 rfl ?_
  refine g_aload_n (pc := 2) dL_order_2 rfl trivial ?_
  refine g_iload_n (pc := 3) dL_order_3 rfl ?_
  refine g_iload_n (pc := 4) dL_order_4 rfl ?_
  refine g_tVw_x (pc := 5) (As := [_, _]) (hpc := 13) dL_order_5 rfl (h) rfl rfl hk rfl rfl lk_L_94 rfl (nb rfl) ⟨nb rfl, nb rfl⟩ (hn_order_1) dL_order_13 (by decide) ?_
  refine g_iconst (pc := 15) (v := 1) dL_order_15 rfl ?_
  refine g_ireturn (pc := 16) dL_order_16 rfl rfl ?_
  exact ⟨rfl, rfl⟩
theorem hn_gained_1 : Hnd jL_gained 7 xIO 15 := ⟨Or.inl rfl, [], (0, 12, 15, 19), [], rfl, fun z hz => absurd hz List.not_mem_nil, by decide, by decide, wl_19, rfl⟩
theorem w_gained {x0 : Int32} {x1 : Int32} {x2 : Int32} {v : Int32} (h : EvR l jX6_gained 9 160 3 18 [.ref 0, .int x0, .int x1, .int x2] M (.inl (some (.int v))) M1) (hk : (mK M)[0]? = some (.inr 6)) (ho : (mK M1)[212]? = some (kL 1)) : EvR l jL_gained 10 184 3 18 [.ref 0, .int x0, .int x1, .int x2, .ref 212] M (.inl (some (.int 0))) (pL M1 212 0 v.toInt64) := by
  refine ev_introW rfl (nb rfl) (by decide) ?_
  refine g_aload (pc := 0) dL_gained_0 rfl trivial ?_
  refine g_iconst (pc := 2) (v := 0) dL_gained_2 rfl ?_
  refine g_aload_n (pc := 3) dL_gained_3 rfl trivial ?_
  refine g_iload_n (pc := 4) dL_gained_4 rfl ?_
  refine g_iload_n (pc := 5) dL_gained_5 rfl ?_
  refine g_iload_n (pc := 6) dL_gained_6 rfl ?_
  refine g_tV_r (pc := 7) (As := [_, _, _]) dL_gained_7 rfl (h) rfl rfl hk rfl rfl lk_L_97 rfl (nb rfl) ⟨nb rfl, nb rfl⟩ (by decide) ?_
  refine g_i2l (pc := 10) dL_gained_10 rfl ?_
  refine g_lastore (pc := 11) dL_gained_11 ho rfl (nb rfl) (nl rfl) ?_
  refine g_goto (pc := 12) (tgt := 19) dL_gained_12 rfl ?_
  refine g_iconst (pc := 19) (v := 0) dL_gained_19 rfl ?_
  refine g_ireturn (pc := 20) dL_gained_20 rfl rfl ?_
  exact ⟨rfl, rfl⟩
theorem wx_gained {x0 : Int32} {x1 : Int32} {x2 : Int32} (h : EvR l jX6_gained 9 160 3 18 [.ref 0, .int x0, .int x1, .int x2] M (.inr xIO) M1) (hk : (mK M)[0]? = some (.inr 6)) : EvR l jL_gained 10 184 3 18 [.ref 0, .int x0, .int x1, .int x2, .ref 212] M (.inl (some (.int 1))) M1 := by
  refine ev_introW rfl (nb rfl) (by decide) ?_
  refine g_aload (pc := 0) dL_gained_0 rfl trivial ?_
  refine g_iconst (pc := 2) (v := 0) dL_gained_2 rfl ?_
  refine g_aload_n (pc := 3) dL_gained_3 rfl trivial ?_
  refine g_iload_n (pc := 4) dL_gained_4 rfl ?_
  refine g_iload_n (pc := 5) dL_gained_5 rfl ?_
  refine g_iload_n (pc := 6) dL_gained_6 rfl ?_
  refine g_tVw_x (pc := 7) (As := [_, _, _]) (hpc := 15) dL_gained_7 rfl (h) rfl rfl hk rfl rfl lk_L_97 rfl (nb rfl) ⟨nb rfl, nb rfl⟩ (hn_gained_1) dL_gained_15 (by decide) ?_
  refine g_iconst (pc := 17) (v := 1) dL_gained_17 rfl ?_
  refine g_ireturn (pc := 18) dL_gained_18 rfl rfl ?_
  exact ⟨rfl, rfl⟩
theorem hn_lost_1 : Hnd jL_lost 7 xIO 15 := ⟨Or.inl rfl, [], (0, 12, 15, 19), [], rfl, fun z hz => absurd hz List.not_mem_nil, by decide, by decide, wl_19, rfl⟩
theorem w_lost {x0 : Int32} {x1 : Int32} {x2 : Int32} {v : Int32} (h : EvR l jX6_lost 9 190 3 18 [.ref 0, .int x0, .int x1, .int x2] M (.inl (some (.int v))) M1) (hk : (mK M)[0]? = some (.inr 6)) (ho : (mK M1)[212]? = some (kL 1)) : EvR l jL_lost 10 213 3 18 [.ref 0, .int x0, .int x1, .int x2, .ref 212] M (.inl (some (.int 0))) (pL M1 212 0 v.toInt64) := by
  refine ev_introW rfl (nb rfl) (by decide) ?_
  refine g_aload (pc := 0) dL_lost_0 rfl trivial ?_
  refine g_iconst (pc := 2) (v := 0) dL_lost_2 rfl ?_
  refine g_aload_n (pc := 3) dL_lost_3 rfl trivial ?_
  refine g_iload_n (pc := 4) dL_lost_4 rfl ?_
  refine g_iload_n (pc := 5) dL_lost_5 rfl ?_
  refine g_iload_n (pc := 6) dL_lost_6 rfl ?_
  refine g_tV_r (pc := 7) (As := [_, _, _]) dL_lost_7 rfl (h) rfl rfl hk rfl rfl lk_L_100 rfl (nb rfl) ⟨nb rfl, nb rfl⟩ (by decide) ?_
  refine g_i2l (pc := 10) dL_lost_10 rfl ?_
  refine g_lastore (pc := 11) dL_lost_11 ho rfl (nb rfl) (nl rfl) ?_
  refine g_goto (pc := 12) (tgt := 19) dL_lost_12 rfl ?_
  refine g_iconst (pc := 19) (v := 0) dL_lost_19 rfl ?_
  refine g_ireturn (pc := 20) dL_lost_20 rfl rfl ?_
  exact ⟨rfl, rfl⟩
theorem wx_lost {x0 : Int32} {x1 : Int32} {x2 : Int32} (h : EvR l jX6_lost 9 190 3 18 [.ref 0, .int x0, .int x1, .int x2] M (.inr xIO) M1) (hk : (mK M)[0]? = some (.inr 6)) : EvR l jL_lost 10 213 3 18 [.ref 0, .int x0, .int x1, .int x2, .ref 212] M (.inl (some (.int 1))) M1 := by
  refine ev_introW rfl (nb rfl) (by decide) ?_
  refine g_aload (pc := 0) dL_lost_0 rfl trivial ?_
  refine g_iconst (pc := 2) (v := 0) dL_lost_2 rfl ?_
  refine g_aload_n (pc := 3) dL_lost_3 rfl trivial ?_
  refine g_iload_n (pc := 4) dL_lost_4 rfl ?_
  refine g_iload_n (pc := 5) dL_lost_5 rfl ?_
  refine g_iload_n (pc := 6) dL_lost_6 rfl ?_
  refine g_tVw_x (pc := 7) (As := [_, _, _]) (hpc := 15) dL_lost_7 rfl (h) rfl rfl hk rfl rfl lk_L_100 rfl (nb rfl) ⟨nb rfl, nb rfl⟩ (hn_lost_1) dL_lost_15 (by decide) ?_
  refine g_iconst (pc := 17) (v := 1) dL_lost_17 rfl ?_
  refine g_ireturn (pc := 18) dL_lost_18 rfl rfl ?_
  exact ⟨rfl, rfl⟩
theorem hn_bestEdge_1 : Hnd jL_bestEdge 4 xIO 12 := ⟨Or.inl rfl, [], (0, 9, 12, 19), [], rfl, fun z hz => absurd hz List.not_mem_nil, by decide, by decide, wl_19, rfl⟩
theorem w_bestEdge {x0 : Int32} {v : Int32} (h : EvR l jX6_bestEdge 7 140 1 6 [.ref 0, .int x0] M (.inl (some (.int v))) M1) (hk : (mK M)[0]? = some (.inr 6)) (ho : (mK M1)[212]? = some (kL 1)) : EvR l jL_bestEdge 8 169 1 6 [.ref 0, .int x0, .ref 212] M (.inl (some (.int 0))) (pL M1 212 0 v.toInt64) := by
  refine ev_introW rfl (nb rfl) (by decide) ?_
  refine g_aload_n (pc := 0) dL_bestEdge_0 rfl trivial ?_
  refine g_iconst (pc := 1) (v := 0) dL_bestEdge_1 rfl ?_
  refine g_aload_n (pc := 2) dL_bestEdge_2 rfl trivial ?_
  refine g_iload_n (pc := 3) dL_bestEdge_3 rfl ?_
  refine g_tV_r (pc := 4) (As := [_]) dL_bestEdge_4 rfl (h) rfl rfl hk rfl rfl lk_L_103 rfl (nb rfl) ⟨nb rfl, nb rfl⟩ (by decide) ?_
  refine g_i2l (pc := 7) dL_bestEdge_7 rfl ?_
  refine g_lastore (pc := 8) dL_bestEdge_8 ho rfl (nb rfl) (nl rfl) ?_
  refine g_goto (pc := 9) (tgt := 15) dL_bestEdge_9 rfl ?_
  refine g_iconst (pc := 15) (v := 0) dL_bestEdge_15 rfl ?_
  refine g_ireturn (pc := 16) dL_bestEdge_16 rfl rfl ?_
  exact ⟨rfl, rfl⟩
theorem wx_bestEdge {x0 : Int32} (h : EvR l jX6_bestEdge 7 140 1 6 [.ref 0, .int x0] M (.inr xIO) M1) (hk : (mK M)[0]? = some (.inr 6)) : EvR l jL_bestEdge 8 169 1 6 [.ref 0, .int x0, .ref 212] M (.inl (some (.int 1))) M1 := by
  refine ev_introW rfl (nb rfl) (by decide) ?_
  refine g_aload_n (pc := 0) dL_bestEdge_0 rfl trivial ?_
  refine g_iconst (pc := 1) (v := 0) dL_bestEdge_1 rfl ?_
  refine g_aload_n (pc := 2) dL_bestEdge_2 rfl trivial ?_
  refine g_iload_n (pc := 3) dL_bestEdge_3 rfl ?_
  refine g_tVn_x (pc := 4) (As := [_]) (hpc := 12) dL_bestEdge_4 rfl (h) rfl rfl hk rfl rfl lk_L_103 rfl (nb rfl) ⟨nb rfl, nb rfl⟩ (hn_bestEdge_1) dL_bestEdge_12 (by decide) ?_
  refine g_iconst (pc := 13) (v := 1) dL_bestEdge_13 rfl ?_
  refine g_ireturn (pc := 14) dL_bestEdge_14 rfl rfl ?_
  exact ⟨rfl, rfl⟩
theorem hn_weakest_1 : Hnd jL_weakest 4 xIO 12 := ⟨Or.inl rfl, [], (0, 9, 12, 19), [], rfl, fun z hz => absurd hz List.not_mem_nil, by decide, by decide, wl_19, rfl⟩
theorem w_weakest {x0 : Int32} {v : Int32} (h : EvR l jX6_weakest 7 190 1 6 [.ref 0, .int x0] M (.inl (some (.int v))) M1) (hk : (mK M)[0]? = some (.inr 6)) (ho : (mK M1)[212]? = some (kL 1)) : EvR l jL_weakest 8 217 1 6 [.ref 0, .int x0, .ref 212] M (.inl (some (.int 0))) (pL M1 212 0 v.toInt64) := by
  refine ev_introW rfl (nb rfl) (by decide) ?_
  refine g_aload_n (pc := 0) dL_weakest_0 rfl trivial ?_
  refine g_iconst (pc := 1) (v := 0) dL_weakest_1 rfl ?_
  refine g_aload_n (pc := 2) dL_weakest_2 rfl trivial ?_
  refine g_iload_n (pc := 3) dL_weakest_3 rfl ?_
  refine g_tV_r (pc := 4) (As := [_]) dL_weakest_4 rfl (h) rfl rfl hk rfl rfl lk_L_106 rfl (nb rfl) ⟨nb rfl, nb rfl⟩ (by decide) ?_
  refine g_i2l (pc := 7) dL_weakest_7 rfl ?_
  refine g_lastore (pc := 8) dL_weakest_8 ho rfl (nb rfl) (nl rfl) ?_
  refine g_goto (pc := 9) (tgt := 15) dL_weakest_9 rfl ?_
  refine g_iconst (pc := 15) (v := 0) dL_weakest_15 rfl ?_
  refine g_ireturn (pc := 16) dL_weakest_16 rfl rfl ?_
  exact ⟨rfl, rfl⟩
theorem wx_weakest {x0 : Int32} (h : EvR l jX6_weakest 7 190 1 6 [.ref 0, .int x0] M (.inr xIO) M1) (hk : (mK M)[0]? = some (.inr 6)) : EvR l jL_weakest 8 217 1 6 [.ref 0, .int x0, .ref 212] M (.inl (some (.int 1))) M1 := by
  refine ev_introW rfl (nb rfl) (by decide) ?_
  refine g_aload_n (pc := 0) dL_weakest_0 rfl trivial ?_
  refine g_iconst (pc := 1) (v := 0) dL_weakest_1 rfl ?_
  refine g_aload_n (pc := 2) dL_weakest_2 rfl trivial ?_
  refine g_iload_n (pc := 3) dL_weakest_3 rfl ?_
  refine g_tVn_x (pc := 4) (As := [_]) (hpc := 12) dL_weakest_4 rfl (h) rfl rfl hk rfl rfl lk_L_106 rfl (nb rfl) ⟨nb rfl, nb rfl⟩ (hn_weakest_1) dL_weakest_12 (by decide) ?_
  refine g_iconst (pc := 13) (v := 1) dL_weakest_13 rfl ?_
  refine g_ireturn (pc := 14) dL_weakest_14 rfl rfl ?_
  exact ⟨rfl, rfl⟩
theorem hn_triangles_1 : Hnd jL_triangles 4 xIO 12 := ⟨Or.inl rfl, [], (0, 9, 12, 19), [], rfl, fun z hz => absurd hz List.not_mem_nil, by decide, by decide, wl_19, rfl⟩
theorem w_triangles {x0 : Int32} {v : Int32} (h : EvR l jX6_triangles 7 120 1 6 [.ref 0, .int x0] M (.inl (some (.int v))) M1) (hk : (mK M)[0]? = some (.inr 6)) (ho : (mK M1)[212]? = some (kL 1)) : EvR l jL_triangles 8 146 1 6 [.ref 0, .int x0, .ref 212] M (.inl (some (.int 0))) (pL M1 212 0 v.toInt64) := by
  refine ev_introW rfl (nb rfl) (by decide) ?_
  refine g_aload_n (pc := 0) dL_triangles_0 rfl trivial ?_
  refine g_iconst (pc := 1) (v := 0) dL_triangles_1 rfl ?_
  refine g_aload_n (pc := 2) dL_triangles_2 rfl trivial ?_
  refine g_iload_n (pc := 3) dL_triangles_3 rfl ?_
  refine g_tV_r (pc := 4) (As := [_]) dL_triangles_4 rfl (h) rfl rfl hk rfl rfl lk_L_109 rfl (nb rfl) ⟨nb rfl, nb rfl⟩ (by decide) ?_
  refine g_i2l (pc := 7) dL_triangles_7 rfl ?_
  refine g_lastore (pc := 8) dL_triangles_8 ho rfl (nb rfl) (nl rfl) ?_
  refine g_goto (pc := 9) (tgt := 15) dL_triangles_9 rfl ?_
  refine g_iconst (pc := 15) (v := 0) dL_triangles_15 rfl ?_
  refine g_ireturn (pc := 16) dL_triangles_16 rfl rfl ?_
  exact ⟨rfl, rfl⟩
theorem wx_triangles {x0 : Int32} (h : EvR l jX6_triangles 7 120 1 6 [.ref 0, .int x0] M (.inr xIO) M1) (hk : (mK M)[0]? = some (.inr 6)) : EvR l jL_triangles 8 146 1 6 [.ref 0, .int x0, .ref 212] M (.inl (some (.int 1))) M1 := by
  refine ev_introW rfl (nb rfl) (by decide) ?_
  refine g_aload_n (pc := 0) dL_triangles_0 rfl trivial ?_
  refine g_iconst (pc := 1) (v := 0) dL_triangles_1 rfl ?_
  refine g_aload_n (pc := 2) dL_triangles_2 rfl trivial ?_
  refine g_iload_n (pc := 3) dL_triangles_3 rfl ?_
  refine g_tVn_x (pc := 4) (As := [_]) (hpc := 12) dL_triangles_4 rfl (h) rfl rfl hk rfl rfl lk_L_109 rfl (nb rfl) ⟨nb rfl, nb rfl⟩ (hn_triangles_1) dL_triangles_12 (by decide) ?_
  refine g_iconst (pc := 13) (v := 1) dL_triangles_13 rfl ?_
  refine g_ireturn (pc := 14) dL_triangles_14 rfl rfl ?_
  exact ⟨rfl, rfl⟩
theorem hn_fieldRank_1 : Hnd jL_fieldRank 4 xIO 12 := ⟨Or.inl rfl, [], (0, 9, 12, 19), [], rfl, fun z hz => absurd hz List.not_mem_nil, by decide, by decide, wl_19, rfl⟩
theorem w_fieldRank {x0 : Int32} {v : Int32} (h : EvR l jX6_fieldRank 7 150 1 6 [.ref 0, .int x0] M (.inl (some (.int v))) M1) (hk : (mK M)[0]? = some (.inr 6)) (ho : (mK M1)[212]? = some (kL 1)) : EvR l jL_fieldRank 8 171 1 6 [.ref 0, .int x0, .ref 212] M (.inl (some (.int 0))) (pL M1 212 0 v.toInt64) := by
  refine ev_introW rfl (nb rfl) (by decide) ?_
  refine g_aload_n (pc := 0) dL_fieldRank_0 rfl trivial ?_
  refine g_iconst (pc := 1) (v := 0) dL_fieldRank_1 rfl ?_
  refine g_aload_n (pc := 2) dL_fieldRank_2 rfl trivial ?_
  refine g_iload_n (pc := 3) dL_fieldRank_3 rfl ?_
  refine g_tV_r (pc := 4) (As := [_]) dL_fieldRank_4 rfl (h) rfl rfl hk rfl rfl lk_L_112 rfl (nb rfl) ⟨nb rfl, nb rfl⟩ (by decide) ?_
  refine g_i2l (pc := 7) dL_fieldRank_7 rfl ?_
  refine g_lastore (pc := 8) dL_fieldRank_8 ho rfl (nb rfl) (nl rfl) ?_
  refine g_goto (pc := 9) (tgt := 15) dL_fieldRank_9 rfl ?_
  refine g_iconst (pc := 15) (v := 0) dL_fieldRank_15 rfl ?_
  refine g_ireturn (pc := 16) dL_fieldRank_16 rfl rfl ?_
  exact ⟨rfl, rfl⟩
theorem wx_fieldRank {x0 : Int32} (h : EvR l jX6_fieldRank 7 150 1 6 [.ref 0, .int x0] M (.inr xIO) M1) (hk : (mK M)[0]? = some (.inr 6)) : EvR l jL_fieldRank 8 171 1 6 [.ref 0, .int x0, .ref 212] M (.inl (some (.int 1))) M1 := by
  refine ev_introW rfl (nb rfl) (by decide) ?_
  refine g_aload_n (pc := 0) dL_fieldRank_0 rfl trivial ?_
  refine g_iconst (pc := 1) (v := 0) dL_fieldRank_1 rfl ?_
  refine g_aload_n (pc := 2) dL_fieldRank_2 rfl trivial ?_
  refine g_iload_n (pc := 3) dL_fieldRank_3 rfl ?_
  refine g_tVn_x (pc := 4) (As := [_]) (hpc := 12) dL_fieldRank_4 rfl (h) rfl rfl hk rfl rfl lk_L_112 rfl (nb rfl) ⟨nb rfl, nb rfl⟩ (hn_fieldRank_1) dL_fieldRank_12 (by decide) ?_
  refine g_iconst (pc := 13) (v := 1) dL_fieldRank_13 rfl ?_
  refine g_ireturn (pc := 14) dL_fieldRank_14 rfl rfl ?_
  exact ⟨rfl, rfl⟩
theorem hn_solve_1 : Hnd jL_solve 6 xIO 13 := ⟨Or.inl rfl, [], (0, 10, 13, 19), [], rfl, fun z hz => absurd hz List.not_mem_nil, by decide, by decide, wl_19, rfl⟩
theorem w_solve {x0 : Int32} {x1 : Int64} {v : Int64} (h : EvR l jX6_solve 7 150 1 6 [.ref 0, .int x0, .long x1] M (.inl (some (.long v))) M1) (hk : (mK M)[0]? = some (.inr 6)) (ho : (mK M1)[212]? = some (kL 1)) : EvR l jL_solve 8 173 1 6 [.ref 0, .int x0, .long x1, .ref 212] M (.inl (some (.int 0))) (pL M1 212 0 v) := by
  refine ev_introW rfl (nb rfl) (by decide) ?_
  refine g_aload (pc := 0) dL_solve_0 rfl trivial ?_
  refine g_iconst (pc := 2) (v := 0) dL_solve_2 rfl ?_
  refine g_aload_n (pc := 3) dL_solve_3 rfl trivial ?_
  refine g_iload_n (pc := 4) dL_solve_4 rfl ?_
  refine g_lload_n (pc := 5) dL_solve_5 rfl ?_
  refine g_tV_r (pc := 6) (As := [_, _]) dL_solve_6 rfl (h) rfl rfl hk rfl rfl lk_L_115 rfl (nb rfl) ⟨nb rfl, nb rfl⟩ (by decide) ?_
  refine g_lastore (pc := 9) dL_solve_9 ho rfl (nb rfl) (nl rfl) ?_
  refine g_goto (pc := 10) (tgt := 17) dL_solve_10 rfl ?_
  refine g_iconst (pc := 17) (v := 0) dL_solve_17 rfl ?_
  refine g_ireturn (pc := 18) dL_solve_18 rfl rfl ?_
  exact ⟨rfl, rfl⟩
theorem wx_solve {x0 : Int32} {x1 : Int64} (h : EvR l jX6_solve 7 150 1 6 [.ref 0, .int x0, .long x1] M (.inr xIO) M1) (hk : (mK M)[0]? = some (.inr 6)) : EvR l jL_solve 8 173 1 6 [.ref 0, .int x0, .long x1, .ref 212] M (.inl (some (.int 1))) M1 := by
  refine ev_introW rfl (nb rfl) (by decide) ?_
  refine g_aload (pc := 0) dL_solve_0 rfl trivial ?_
  refine g_iconst (pc := 2) (v := 0) dL_solve_2 rfl ?_
  refine g_aload_n (pc := 3) dL_solve_3 rfl trivial ?_
  refine g_iload_n (pc := 4) dL_solve_4 rfl ?_
  refine g_lload_n (pc := 5) dL_solve_5 rfl ?_
  refine g_tVw_x (pc := 6) (As := [_, _]) (hpc := 13) dL_solve_6 rfl (h) rfl rfl hk rfl rfl lk_L_115 rfl (nb rfl) ⟨nb rfl, nb rfl⟩ (hn_solve_1) dL_solve_13 (by decide) ?_
  refine g_iconst (pc := 15) (v := 1) dL_solve_15 rfl ?_
  refine g_ireturn (pc := 16) dL_solve_16 rfl rfl ?_
  exact ⟨rfl, rfl⟩
theorem hn_freedom_1 : Hnd jL_freedom 6 xIO 14 := ⟨Or.inl rfl, [], (0, 11, 14, 19), [], rfl, fun z hz => absurd hz List.not_mem_nil, by decide, by decide, wl_19, rfl⟩
theorem w_freedom {x0 : Int32} {x1 : Int64} {v : Int32} (h : EvR l jX6_freedom 7 150 1 6 [.ref 0, .int x0, .long x1] M (.inl (some (.int v))) M1) (hk : (mK M)[0]? = some (.inr 6)) (ho : (mK M1)[212]? = some (kL 1)) : EvR l jL_freedom 8 173 1 6 [.ref 0, .int x0, .long x1, .ref 212] M (.inl (some (.int 0))) (pL M1 212 0 v.toInt64) := by
  refine ev_introW rfl (nb rfl) (by decide) ?_
  refine g_aload (pc := 0) dL_freedom_0 rfl trivial ?_
  refine g_iconst (pc := 2) (v := 0) dL_freedom_2 rfl ?_
  refine g_aload_n (pc := 3) dL_freedom_3 rfl trivial ?_
  refine g_iload_n (pc := 4) dL_freedom_4 rfl ?_
  refine g_lload_n (pc := 5) dL_freedom_5 rfl ?_
  refine g_tV_r (pc := 6) (As := [_, _]) dL_freedom_6 rfl (h) rfl rfl hk rfl rfl lk_L_119 rfl (nb rfl) ⟨nb rfl, nb rfl⟩ (by decide) ?_
  refine g_i2l (pc := 9) dL_freedom_9 rfl ?_
  refine g_lastore (pc := 10) dL_freedom_10 ho rfl (nb rfl) (nl rfl) ?_
  refine g_goto (pc := 11) (tgt := 18) dL_freedom_11 rfl ?_
  refine g_iconst (pc := 18) (v := 0) dL_freedom_18 rfl ?_
  refine g_ireturn (pc := 19) dL_freedom_19 rfl rfl ?_
  exact ⟨rfl, rfl⟩
theorem wx_freedom {x0 : Int32} {x1 : Int64} (h : EvR l jX6_freedom 7 150 1 6 [.ref 0, .int x0, .long x1] M (.inr xIO) M1) (hk : (mK M)[0]? = some (.inr 6)) : EvR l jL_freedom 8 173 1 6 [.ref 0, .int x0, .long x1, .ref 212] M (.inl (some (.int 1))) M1 := by
  refine ev_introW rfl (nb rfl) (by decide) ?_
  refine g_aload (pc := 0) dL_freedom_0 rfl trivial ?_
  refine g_iconst (pc := 2) (v := 0) dL_freedom_2 rfl ?_
  refine g_aload_n (pc := 3) dL_freedom_3 rfl trivial ?_
  refine g_iload_n (pc := 4) dL_freedom_4 rfl ?_
  refine g_lload_n (pc := 5) dL_freedom_5 rfl ?_
  refine g_tVw_x (pc := 6) (As := [_, _]) (hpc := 14) dL_freedom_6 rfl (h) rfl rfl hk rfl rfl lk_L_119 rfl (nb rfl) ⟨nb rfl, nb rfl⟩ (hn_freedom_1) dL_freedom_14 (by decide) ?_
  refine g_iconst (pc := 16) (v := 1) dL_freedom_16 rfl ?_
  refine g_ireturn (pc := 17) dL_freedom_17 rfl rfl ?_
  exact ⟨rfl, rfl⟩
theorem hn_pivot_1 : Hnd jL_pivot 5 xIO 13 := ⟨Or.inl rfl, [], (0, 10, 13, 19), [], rfl, fun z hz => absurd hz List.not_mem_nil, by decide, by decide, wl_19, rfl⟩
theorem w_pivot {x0 : Int32} {x1 : Int32} {v : Int32} (h : EvR l jX6_pivot 7 150 1 6 [.ref 0, .int x0, .int x1] M (.inl (some (.int v))) M1) (hk : (mK M)[0]? = some (.inr 6)) (ho : (mK M1)[212]? = some (kL 1)) : EvR l jL_pivot 8 172 1 6 [.ref 0, .int x0, .int x1, .ref 212] M (.inl (some (.int 0))) (pL M1 212 0 v.toInt64) := by
  refine ev_introW rfl (nb rfl) (by decide) ?_
  refine g_aload_n (pc := 0) dL_pivot_0 rfl trivial ?_
  refine g_iconst (pc := 1) (v := 0) dL_pivot_1 rfl ?_
  refine g_aload_n (pc := 2) dL_pivot_2 rfl trivial ?_
  refine g_iload_n (pc := 3) dL_pivot_3 rfl ?_
  refine g_iload_n (pc := 4) dL_pivot_4 rfl ?_
  refine g_tV_r (pc := 5) (As := [_, _]) dL_pivot_5 rfl (h) rfl rfl hk rfl rfl lk_L_122 rfl (nb rfl) ⟨nb rfl, nb rfl⟩ (by decide) ?_
  refine g_i2l (pc := 8) dL_pivot_8 rfl ?_
  refine g_lastore (pc := 9) dL_pivot_9 ho rfl (nb rfl) (nl rfl) ?_
  refine g_goto (pc := 10) (tgt := 17) dL_pivot_10 rfl ?_
  refine g_iconst (pc := 17) (v := 0) dL_pivot_17 rfl ?_
  refine g_ireturn (pc := 18) dL_pivot_18 rfl rfl ?_
  exact ⟨rfl, rfl⟩
theorem wx_pivot {x0 : Int32} {x1 : Int32} (h : EvR l jX6_pivot 7 150 1 6 [.ref 0, .int x0, .int x1] M (.inr xIO) M1) (hk : (mK M)[0]? = some (.inr 6)) : EvR l jL_pivot 8 172 1 6 [.ref 0, .int x0, .int x1, .ref 212] M (.inl (some (.int 1))) M1 := by
  refine ev_introW rfl (nb rfl) (by decide) ?_
  refine g_aload_n (pc := 0) dL_pivot_0 rfl trivial ?_
  refine g_iconst (pc := 1) (v := 0) dL_pivot_1 rfl ?_
  refine g_aload_n (pc := 2) dL_pivot_2 rfl trivial ?_
  refine g_iload_n (pc := 3) dL_pivot_3 rfl ?_
  refine g_iload_n (pc := 4) dL_pivot_4 rfl ?_
  refine g_tVw_x (pc := 5) (As := [_, _]) (hpc := 13) dL_pivot_5 rfl (h) rfl rfl hk rfl rfl lk_L_122 rfl (nb rfl) ⟨nb rfl, nb rfl⟩ (hn_pivot_1) dL_pivot_13 (by decide) ?_
  refine g_iconst (pc := 15) (v := 1) dL_pivot_15 rfl ?_
  refine g_ireturn (pc := 16) dL_pivot_16 rfl rfl ?_
  exact ⟨rfl, rfl⟩
theorem hn_put_1 : Hnd jL_put 9 xIO 17 := ⟨Or.inl rfl, [], (0, 14, 17, 19), [], rfl, fun z hz => absurd hz List.not_mem_nil, by decide, by decide, wl_19, rfl⟩
theorem w_put {x0 : Int32} {x1 : Int32} {x2 : Int32} {x3 : Int32} {v : Int32} (h : EvR l jX6_put 9 160 3 18 [.ref 0, .int x0, .int x1, .int x2, .int x3] M (.inl (some (.int v))) M1) (hk : (mK M)[0]? = some (.inr 6)) (ho : (mK M1)[212]? = some (kL 1)) : EvR l jL_put 10 187 3 18 [.ref 0, .int x0, .int x1, .int x2, .int x3, .ref 212] M (.inl (some (.int 0))) (pL M1 212 0 v.toInt64) := by
  refine ev_introW rfl (nb rfl) (by decide) ?_
  refine g_aload (pc := 0) dL_put_0 rfl trivial ?_
  refine g_iconst (pc := 2) (v := 0) dL_put_2 rfl ?_
  refine g_aload_n (pc := 3) dL_put_3 rfl trivial ?_
  refine g_iload_n (pc := 4) dL_put_4 rfl ?_
  refine g_iload_n (pc := 5) dL_put_5 rfl ?_
  refine g_iload_n (pc := 6) dL_put_6 rfl ?_
  refine g_iload (pc := 7) dL_put_7 rfl ?_
  refine g_tV_r (pc := 9) (As := [_, _, _, _]) dL_put_9 rfl (h) rfl rfl hk rfl rfl lk_L_125 rfl (nb rfl) ⟨nb rfl, nb rfl⟩ (by decide) ?_
  refine g_i2l (pc := 12) dL_put_12 rfl ?_
  refine g_lastore (pc := 13) dL_put_13 ho rfl (nb rfl) (nl rfl) ?_
  refine g_goto (pc := 14) (tgt := 21) dL_put_14 rfl ?_
  refine g_iconst (pc := 21) (v := 0) dL_put_21 rfl ?_
  refine g_ireturn (pc := 22) dL_put_22 rfl rfl ?_
  exact ⟨rfl, rfl⟩
theorem wx_put {x0 : Int32} {x1 : Int32} {x2 : Int32} {x3 : Int32} (h : EvR l jX6_put 9 160 3 18 [.ref 0, .int x0, .int x1, .int x2, .int x3] M (.inr xIO) M1) (hk : (mK M)[0]? = some (.inr 6)) : EvR l jL_put 10 187 3 18 [.ref 0, .int x0, .int x1, .int x2, .int x3, .ref 212] M (.inl (some (.int 1))) M1 := by
  refine ev_introW rfl (nb rfl) (by decide) ?_
  refine g_aload (pc := 0) dL_put_0 rfl trivial ?_
  refine g_iconst (pc := 2) (v := 0) dL_put_2 rfl ?_
  refine g_aload_n (pc := 3) dL_put_3 rfl trivial ?_
  refine g_iload_n (pc := 4) dL_put_4 rfl ?_
  refine g_iload_n (pc := 5) dL_put_5 rfl ?_
  refine g_iload_n (pc := 6) dL_put_6 rfl ?_
  refine g_iload (pc := 7) dL_put_7 rfl ?_
  refine g_tVw_x (pc := 9) (As := [_, _, _, _]) (hpc := 17) dL_put_9 rfl (h) rfl rfl hk rfl rfl lk_L_125 rfl (nb rfl) ⟨nb rfl, nb rfl⟩ (hn_put_1) dL_put_17 (by decide) ?_
  refine g_iconst (pc := 19) (v := 1) dL_put_19 rfl ?_
  refine g_ireturn (pc := 20) dL_put_20 rfl rfl ?_
  exact ⟨rfl, rfl⟩
theorem hn_setRow_1 : Hnd jL_setRow 7 xIO 15 := ⟨Or.inl rfl, [], (0, 12, 15, 19), [], rfl, fun z hz => absurd hz List.not_mem_nil, by decide, by decide, wl_19, rfl⟩
theorem w_setRow {x0 : Int32} {x1 : Int32} {x2 : Int64} {v : Int32} (h : EvR l jX6_setRow 8 150 2 12 [.ref 0, .int x0, .int x1, .long x2] M (.inl (some (.int v))) M1) (hk : (mK M)[0]? = some (.inr 6)) (ho : (mK M1)[212]? = some (kL 1)) : EvR l jL_setRow 9 176 2 12 [.ref 0, .int x0, .int x1, .long x2, .ref 212] M (.inl (some (.int 0))) (pL M1 212 0 v.toInt64) := by
  refine ev_introW rfl (nb rfl) (by decide) ?_
  refine g_aload (pc := 0) dL_setRow_0 rfl trivial ?_
  refine g_iconst (pc := 2) (v := 0) dL_setRow_2 rfl ?_
  refine g_aload_n (pc := 3) dL_setRow_3 rfl trivial ?_
  refine g_iload_n (pc := 4) dL_setRow_4 rfl ?_
  refine g_iload_n (pc := 5) dL_setRow_5 rfl ?_
  refine g_lload_n (pc := 6) dL_setRow_6 rfl ?_
  refine g_tV_r (pc := 7) (As := [_, _, _]) dL_setRow_7 rfl (h) rfl rfl hk rfl rfl lk_L_129 rfl (nb rfl) ⟨nb rfl, nb rfl⟩ (by decide) ?_
  refine g_i2l (pc := 10) dL_setRow_10 rfl ?_
  refine g_lastore (pc := 11) dL_setRow_11 ho rfl (nb rfl) (nl rfl) ?_
  refine g_goto (pc := 12) (tgt := 19) dL_setRow_12 rfl ?_
  refine g_iconst (pc := 19) (v := 0) dL_setRow_19 rfl ?_
  refine g_ireturn (pc := 20) dL_setRow_20 rfl rfl ?_
  exact ⟨rfl, rfl⟩
theorem wx_setRow {x0 : Int32} {x1 : Int32} {x2 : Int64} (h : EvR l jX6_setRow 8 150 2 12 [.ref 0, .int x0, .int x1, .long x2] M (.inr xIO) M1) (hk : (mK M)[0]? = some (.inr 6)) : EvR l jL_setRow 9 176 2 12 [.ref 0, .int x0, .int x1, .long x2, .ref 212] M (.inl (some (.int 1))) M1 := by
  refine ev_introW rfl (nb rfl) (by decide) ?_
  refine g_aload (pc := 0) dL_setRow_0 rfl trivial ?_
  refine g_iconst (pc := 2) (v := 0) dL_setRow_2 rfl ?_
  refine g_aload_n (pc := 3) dL_setRow_3 rfl trivial ?_
  refine g_iload_n (pc := 4) dL_setRow_4 rfl ?_
  refine g_iload_n (pc := 5) dL_setRow_5 rfl ?_
  refine g_lload_n (pc := 6) dL_setRow_6 rfl ?_
  refine g_tVw_x (pc := 7) (As := [_, _, _]) (hpc := 15) dL_setRow_7 rfl (h) rfl rfl hk rfl rfl lk_L_129 rfl (nb rfl) ⟨nb rfl, nb rfl⟩ (hn_setRow_1) dL_setRow_15 (by decide) ?_
  refine g_iconst (pc := 17) (v := 1) dL_setRow_17 rfl ?_
  refine g_ireturn (pc := 18) dL_setRow_18 rfl rfl ?_
  exact ⟨rfl, rfl⟩
theorem hn_copy_1 : Hnd jL_copy 5 xIO 13 := ⟨Or.inl rfl, [], (0, 10, 13, 19), [], rfl, fun z hz => absurd hz List.not_mem_nil, by decide, by decide, wl_19, rfl⟩
theorem w_copy {x0 : Int32} {x1 : Int32} {v : Int32} (h : EvR l jX6_copy 7 140 2 12 [.ref 0, .int x0, .int x1] M (.inl (some (.int v))) M1) (hk : (mK M)[0]? = some (.inr 6)) (ho : (mK M1)[212]? = some (kL 1)) : EvR l jL_copy 8 162 2 12 [.ref 0, .int x0, .int x1, .ref 212] M (.inl (some (.int 0))) (pL M1 212 0 v.toInt64) := by
  refine ev_introW rfl (nb rfl) (by decide) ?_
  refine g_aload_n (pc := 0) dL_copy_0 rfl trivial ?_
  refine g_iconst (pc := 1) (v := 0) dL_copy_1 rfl ?_
  refine g_aload_n (pc := 2) dL_copy_2 rfl trivial ?_
  refine g_iload_n (pc := 3) dL_copy_3 rfl ?_
  refine g_iload_n (pc := 4) dL_copy_4 rfl ?_
  refine g_tV_r (pc := 5) (As := [_, _]) dL_copy_5 rfl (h) rfl rfl hk rfl rfl lk_L_133 rfl (nb rfl) ⟨nb rfl, nb rfl⟩ (by decide) ?_
  refine g_i2l (pc := 8) dL_copy_8 rfl ?_
  refine g_lastore (pc := 9) dL_copy_9 ho rfl (nb rfl) (nl rfl) ?_
  refine g_goto (pc := 10) (tgt := 17) dL_copy_10 rfl ?_
  refine g_iconst (pc := 17) (v := 0) dL_copy_17 rfl ?_
  refine g_ireturn (pc := 18) dL_copy_18 rfl rfl ?_
  exact ⟨rfl, rfl⟩
theorem wx_copy {x0 : Int32} {x1 : Int32} (h : EvR l jX6_copy 7 140 2 12 [.ref 0, .int x0, .int x1] M (.inr xIO) M1) (hk : (mK M)[0]? = some (.inr 6)) : EvR l jL_copy 8 162 2 12 [.ref 0, .int x0, .int x1, .ref 212] M (.inl (some (.int 1))) M1 := by
  refine ev_introW rfl (nb rfl) (by decide) ?_
  refine g_aload_n (pc := 0) dL_copy_0 rfl trivial ?_
  refine g_iconst (pc := 1) (v := 0) dL_copy_1 rfl ?_
  refine g_aload_n (pc := 2) dL_copy_2 rfl trivial ?_
  refine g_iload_n (pc := 3) dL_copy_3 rfl ?_
  refine g_iload_n (pc := 4) dL_copy_4 rfl ?_
  refine g_tVw_x (pc := 5) (As := [_, _]) (hpc := 13) dL_copy_5 rfl (h) rfl rfl hk rfl rfl lk_L_133 rfl (nb rfl) ⟨nb rfl, nb rfl⟩ (hn_copy_1) dL_copy_13 (by decide) ?_
  refine g_iconst (pc := 15) (v := 1) dL_copy_15 rfl ?_
  refine g_ireturn (pc := 16) dL_copy_16 rfl rfl ?_
  exact ⟨rfl, rfl⟩
theorem hn_transpose_1 : Hnd jL_transpose 5 xIO 13 := ⟨Or.inl rfl, [], (0, 10, 13, 19), [], rfl, fun z hz => absurd hz List.not_mem_nil, by decide, by decide, wl_19, rfl⟩
theorem w_transpose {x0 : Int32} {x1 : Int32} {v : Int32} (h : EvR l jX6_transpose 7 140 2 12 [.ref 0, .int x0, .int x1] M (.inl (some (.int v))) M1) (hk : (mK M)[0]? = some (.inr 6)) (ho : (mK M1)[212]? = some (kL 1)) : EvR l jL_transpose 8 163 2 12 [.ref 0, .int x0, .int x1, .ref 212] M (.inl (some (.int 0))) (pL M1 212 0 v.toInt64) := by
  refine ev_introW rfl (nb rfl) (by decide) ?_
  refine g_aload_n (pc := 0) dL_transpose_0 rfl trivial ?_
  refine g_iconst (pc := 1) (v := 0) dL_transpose_1 rfl ?_
  refine g_aload_n (pc := 2) dL_transpose_2 rfl trivial ?_
  refine g_iload_n (pc := 3) dL_transpose_3 rfl ?_
  refine g_iload_n (pc := 4) dL_transpose_4 rfl ?_
  refine g_tV_r (pc := 5) (As := [_, _]) dL_transpose_5 rfl (h) rfl rfl hk rfl rfl lk_L_136 rfl (nb rfl) ⟨nb rfl, nb rfl⟩ (by decide) ?_
  refine g_i2l (pc := 8) dL_transpose_8 rfl ?_
  refine g_lastore (pc := 9) dL_transpose_9 ho rfl (nb rfl) (nl rfl) ?_
  refine g_goto (pc := 10) (tgt := 17) dL_transpose_10 rfl ?_
  refine g_iconst (pc := 17) (v := 0) dL_transpose_17 rfl ?_
  refine g_ireturn (pc := 18) dL_transpose_18 rfl rfl ?_
  exact ⟨rfl, rfl⟩
theorem wx_transpose {x0 : Int32} {x1 : Int32} (h : EvR l jX6_transpose 7 140 2 12 [.ref 0, .int x0, .int x1] M (.inr xIO) M1) (hk : (mK M)[0]? = some (.inr 6)) : EvR l jL_transpose 8 163 2 12 [.ref 0, .int x0, .int x1, .ref 212] M (.inl (some (.int 1))) M1 := by
  refine ev_introW rfl (nb rfl) (by decide) ?_
  refine g_aload_n (pc := 0) dL_transpose_0 rfl trivial ?_
  refine g_iconst (pc := 1) (v := 0) dL_transpose_1 rfl ?_
  refine g_aload_n (pc := 2) dL_transpose_2 rfl trivial ?_
  refine g_iload_n (pc := 3) dL_transpose_3 rfl ?_
  refine g_iload_n (pc := 4) dL_transpose_4 rfl ?_
  refine g_tVw_x (pc := 5) (As := [_, _]) (hpc := 13) dL_transpose_5 rfl (h) rfl rfl hk rfl rfl lk_L_136 rfl (nb rfl) ⟨nb rfl, nb rfl⟩ (hn_transpose_1) dL_transpose_13 (by decide) ?_
  refine g_iconst (pc := 15) (v := 1) dL_transpose_15 rfl ?_
  refine g_ireturn (pc := 16) dL_transpose_16 rfl rfl ?_
  exact ⟨rfl, rfl⟩
theorem hn_combine_1 : Hnd jL_combine 9 xIO 17 := ⟨Or.inl rfl, [], (0, 14, 17, 19), [(0, 14, 21, 13)], rfl, fun z hz => absurd hz List.not_mem_nil, by decide, by decide, wl_19, rfl⟩
theorem hn_combine_2 : Hnd jL_combine 9 xIA 21 := ⟨Or.inr rfl, [(0, 14, 17, 19)], (0, 14, 21, 13), [], rfl, fun z hz => by cases List.mem_singleton.mp hz; exact ⟨rfl, by decide, wl_19⟩, by decide, by decide, wl_13, rfl⟩
theorem w_combine {x0 : Int32} {x1 : Int32} {x2 : Int32} {x3 : Int32} {v : Int32} (h : EvR l jX6_combine 7 140 4 24 [.ref 0, .int x0, .int x1, .int x2, .int x3] M (.inl (some (.int v))) M1) (hk : (mK M)[0]? = some (.inr 6)) (ho : (mK M1)[212]? = some (kL 1)) : EvR l jL_combine 8 165 4 24 [.ref 0, .int x0, .int x1, .int x2, .int x3, .ref 212] M (.inl (some (.int 0))) (pL M1 212 0 v.toInt64) := by
  refine ev_introW rfl (nb rfl) (by decide) ?_
  refine g_aload (pc := 0) dL_combine_0 rfl trivial ?_
  refine g_iconst (pc := 2) (v := 0) dL_combine_2 rfl ?_
  refine g_aload_n (pc := 3) dL_combine_3 rfl trivial ?_
  refine g_iload_n (pc := 4) dL_combine_4 rfl ?_
  refine g_iload_n (pc := 5) dL_combine_5 rfl ?_
  refine g_iload_n (pc := 6) dL_combine_6 rfl ?_
  refine g_iload (pc := 7) dL_combine_7 rfl ?_
  refine g_tV_r (pc := 9) (As := [_, _, _, _]) dL_combine_9 rfl (h) rfl rfl hk rfl rfl lk_L_139 rfl (nb rfl) ⟨nb rfl, nb rfl⟩ (by decide) ?_
  refine g_i2l (pc := 12) dL_combine_12 rfl ?_
  refine g_lastore (pc := 13) dL_combine_13 ho rfl (nb rfl) (nl rfl) ?_
  refine g_goto (pc := 14) (tgt := 25) dL_combine_14 rfl ?_
  refine g_iconst (pc := 25) (v := 0) dL_combine_25 rfl ?_
  refine g_ireturn (pc := 26) dL_combine_26 rfl rfl ?_
  exact ⟨rfl, rfl⟩
theorem wx_combine {x0 : Int32} {x1 : Int32} {x2 : Int32} {x3 : Int32} (h : EvR l jX6_combine 7 140 4 24 [.ref 0, .int x0, .int x1, .int x2, .int x3] M (.inr xIO) M1) (hk : (mK M)[0]? = some (.inr 6)) : EvR l jL_combine 8 165 4 24 [.ref 0, .int x0, .int x1, .int x2, .int x3, .ref 212] M (.inl (some (.int 1))) M1 := by
  refine ev_introW rfl (nb rfl) (by decide) ?_
  refine g_aload (pc := 0) dL_combine_0 rfl trivial ?_
  refine g_iconst (pc := 2) (v := 0) dL_combine_2 rfl ?_
  refine g_aload_n (pc := 3) dL_combine_3 rfl trivial ?_
  refine g_iload_n (pc := 4) dL_combine_4 rfl ?_
  refine g_iload_n (pc := 5) dL_combine_5 rfl ?_
  refine g_iload_n (pc := 6) dL_combine_6 rfl ?_
  refine g_iload (pc := 7) dL_combine_7 rfl ?_
  refine g_tVw_x (pc := 9) (As := [_, _, _, _]) (hpc := 17) dL_combine_9 rfl (h) rfl rfl hk rfl rfl lk_L_139 rfl (nb rfl) ⟨nb rfl, nb rfl⟩ (hn_combine_1) dL_combine_17 (by decide) ?_
  refine g_iconst (pc := 19) (v := 1) dL_combine_19 rfl ?_
  refine g_ireturn (pc := 20) dL_combine_20 rfl rfl ?_
  exact ⟨rfl, rfl⟩
theorem wy_combine {x0 : Int32} {x1 : Int32} {x2 : Int32} {x3 : Int32} (h : EvR l jX6_combine 7 140 4 24 [.ref 0, .int x0, .int x1, .int x2, .int x3] M (.inr xIA) M1) (hk : (mK M)[0]? = some (.inr 6)) : EvR l jL_combine 8 165 4 24 [.ref 0, .int x0, .int x1, .int x2, .int x3, .ref 212] M (.inl (some (.int 2))) M1 := by
  refine ev_introW rfl (nb rfl) (by decide) ?_
  refine g_aload (pc := 0) dL_combine_0 rfl trivial ?_
  refine g_iconst (pc := 2) (v := 0) dL_combine_2 rfl ?_
  refine g_aload_n (pc := 3) dL_combine_3 rfl trivial ?_
  refine g_iload_n (pc := 4) dL_combine_4 rfl ?_
  refine g_iload_n (pc := 5) dL_combine_5 rfl ?_
  refine g_iload_n (pc := 6) dL_combine_6 rfl ?_
  refine g_iload (pc := 7) dL_combine_7 rfl ?_
  refine g_tVw_x (pc := 9) (As := [_, _, _, _]) (hpc := 21) dL_combine_9 rfl (h) rfl rfl hk rfl rfl lk_L_139 rfl (nb rfl) ⟨nb rfl, nb rfl⟩ (hn_combine_2) dL_combine_21 (by decide) ?_
  refine g_iconst (pc := 23) (v := 2) dL_combine_23 rfl ?_
  refine g_ireturn (pc := 24) dL_combine_24 rfl rfl ?_
  exact ⟨rfl, rfl⟩
theorem hn_product_1 : Hnd jL_product 9 xIO 17 := ⟨Or.inl rfl, [], (0, 14, 17, 19), [], rfl, fun z hz => absurd hz List.not_mem_nil, by decide, by decide, wl_19, rfl⟩
theorem w_product {x0 : Int32} {x1 : Int32} {x2 : Int32} {x3 : Int32} {v : Int32} (h : EvR l jX6_product 7 140 3 18 [.ref 0, .int x0, .int x1, .int x2, .int x3] M (.inl (some (.int v))) M1) (hk : (mK M)[0]? = some (.inr 6)) (ho : (mK M1)[212]? = some (kL 1)) : EvR l jL_product 8 164 3 18 [.ref 0, .int x0, .int x1, .int x2, .int x3, .ref 212] M (.inl (some (.int 0))) (pL M1 212 0 v.toInt64) := by
  refine ev_introW rfl (nb rfl) (by decide) ?_
  refine g_aload (pc := 0) dL_product_0 rfl trivial ?_
  refine g_iconst (pc := 2) (v := 0) dL_product_2 rfl ?_
  refine g_aload_n (pc := 3) dL_product_3 rfl trivial ?_
  refine g_iload_n (pc := 4) dL_product_4 rfl ?_
  refine g_iload_n (pc := 5) dL_product_5 rfl ?_
  refine g_iload_n (pc := 6) dL_product_6 rfl ?_
  refine g_iload (pc := 7) dL_product_7 rfl ?_
  refine g_tV_r (pc := 9) (As := [_, _, _, _]) dL_product_9 rfl (h) rfl rfl hk rfl rfl lk_L_142 rfl (nb rfl) ⟨nb rfl, nb rfl⟩ (by decide) ?_
  refine g_i2l (pc := 12) dL_product_12 rfl ?_
  refine g_lastore (pc := 13) dL_product_13 ho rfl (nb rfl) (nl rfl) ?_
  refine g_goto (pc := 14) (tgt := 21) dL_product_14 rfl ?_
  refine g_iconst (pc := 21) (v := 0) dL_product_21 rfl ?_
  refine g_ireturn (pc := 22) dL_product_22 rfl rfl ?_
  exact ⟨rfl, rfl⟩
theorem wx_product {x0 : Int32} {x1 : Int32} {x2 : Int32} {x3 : Int32} (h : EvR l jX6_product 7 140 3 18 [.ref 0, .int x0, .int x1, .int x2, .int x3] M (.inr xIO) M1) (hk : (mK M)[0]? = some (.inr 6)) : EvR l jL_product 8 164 3 18 [.ref 0, .int x0, .int x1, .int x2, .int x3, .ref 212] M (.inl (some (.int 1))) M1 := by
  refine ev_introW rfl (nb rfl) (by decide) ?_
  refine g_aload (pc := 0) dL_product_0 rfl trivial ?_
  refine g_iconst (pc := 2) (v := 0) dL_product_2 rfl ?_
  refine g_aload_n (pc := 3) dL_product_3 rfl trivial ?_
  refine g_iload_n (pc := 4) dL_product_4 rfl ?_
  refine g_iload_n (pc := 5) dL_product_5 rfl ?_
  refine g_iload_n (pc := 6) dL_product_6 rfl ?_
  refine g_iload (pc := 7) dL_product_7 rfl ?_
  refine g_tVw_x (pc := 9) (As := [_, _, _, _]) (hpc := 17) dL_product_9 rfl (h) rfl rfl hk rfl rfl lk_L_142 rfl (nb rfl) ⟨nb rfl, nb rfl⟩ (hn_product_1) dL_product_17 (by decide) ?_
  refine g_iconst (pc := 19) (v := 1) dL_product_19 rfl ?_
  refine g_ireturn (pc := 20) dL_product_20 rfl rfl ?_
  exact ⟨rfl, rfl⟩
theorem hn_power_1 : Hnd jL_power 9 xIO 17 := ⟨Or.inl rfl, [], (0, 14, 17, 19), [(0, 14, 21, 13)], rfl, fun z hz => absurd hz List.not_mem_nil, by decide, by decide, wl_19, rfl⟩
theorem hn_power_2 : Hnd jL_power 9 xIA 21 := ⟨Or.inr rfl, [(0, 14, 17, 19)], (0, 14, 21, 13), [], rfl, fun z hz => by cases List.mem_singleton.mp hz; exact ⟨rfl, by decide, wl_19⟩, by decide, by decide, wl_13, rfl⟩
theorem w_power {x0 : Int32} {x1 : Int32} {x2 : Int32} {x3 : Int32} {v : Int32} (h : EvR l jX6_power 7 140 4 24 [.ref 0, .int x0, .int x1, .int x2, .int x3] M (.inl (some (.int v))) M1) (hk : (mK M)[0]? = some (.inr 6)) (ho : (mK M1)[212]? = some (kL 1)) : EvR l jL_power 8 165 4 24 [.ref 0, .int x0, .int x1, .int x2, .int x3, .ref 212] M (.inl (some (.int 0))) (pL M1 212 0 v.toInt64) := by
  refine ev_introW rfl (nb rfl) (by decide) ?_
  refine g_aload (pc := 0) dL_power_0 rfl trivial ?_
  refine g_iconst (pc := 2) (v := 0) dL_power_2 rfl ?_
  refine g_aload_n (pc := 3) dL_power_3 rfl trivial ?_
  refine g_iload_n (pc := 4) dL_power_4 rfl ?_
  refine g_iload_n (pc := 5) dL_power_5 rfl ?_
  refine g_iload_n (pc := 6) dL_power_6 rfl ?_
  refine g_iload (pc := 7) dL_power_7 rfl ?_
  refine g_tV_r (pc := 9) (As := [_, _, _, _]) dL_power_9 rfl (h) rfl rfl hk rfl rfl lk_L_145 rfl (nb rfl) ⟨nb rfl, nb rfl⟩ (by decide) ?_
  refine g_i2l (pc := 12) dL_power_12 rfl ?_
  refine g_lastore (pc := 13) dL_power_13 ho rfl (nb rfl) (nl rfl) ?_
  refine g_goto (pc := 14) (tgt := 25) dL_power_14 rfl ?_
  refine g_iconst (pc := 25) (v := 0) dL_power_25 rfl ?_
  refine g_ireturn (pc := 26) dL_power_26 rfl rfl ?_
  exact ⟨rfl, rfl⟩
theorem wx_power {x0 : Int32} {x1 : Int32} {x2 : Int32} {x3 : Int32} (h : EvR l jX6_power 7 140 4 24 [.ref 0, .int x0, .int x1, .int x2, .int x3] M (.inr xIO) M1) (hk : (mK M)[0]? = some (.inr 6)) : EvR l jL_power 8 165 4 24 [.ref 0, .int x0, .int x1, .int x2, .int x3, .ref 212] M (.inl (some (.int 1))) M1 := by
  refine ev_introW rfl (nb rfl) (by decide) ?_
  refine g_aload (pc := 0) dL_power_0 rfl trivial ?_
  refine g_iconst (pc := 2) (v := 0) dL_power_2 rfl ?_
  refine g_aload_n (pc := 3) dL_power_3 rfl trivial ?_
  refine g_iload_n (pc := 4) dL_power_4 rfl ?_
  refine g_iload_n (pc := 5) dL_power_5 rfl ?_
  refine g_iload_n (pc := 6) dL_power_6 rfl ?_
  refine g_iload (pc := 7) dL_power_7 rfl ?_
  refine g_tVw_x (pc := 9) (As := [_, _, _, _]) (hpc := 17) dL_power_9 rfl (h) rfl rfl hk rfl rfl lk_L_145 rfl (nb rfl) ⟨nb rfl, nb rfl⟩ (hn_power_1) dL_power_17 (by decide) ?_
  refine g_iconst (pc := 19) (v := 1) dL_power_19 rfl ?_
  refine g_ireturn (pc := 20) dL_power_20 rfl rfl ?_
  exact ⟨rfl, rfl⟩
theorem wy_power {x0 : Int32} {x1 : Int32} {x2 : Int32} {x3 : Int32} (h : EvR l jX6_power 7 140 4 24 [.ref 0, .int x0, .int x1, .int x2, .int x3] M (.inr xIA) M1) (hk : (mK M)[0]? = some (.inr 6)) : EvR l jL_power 8 165 4 24 [.ref 0, .int x0, .int x1, .int x2, .int x3, .ref 212] M (.inl (some (.int 2))) M1 := by
  refine ev_introW rfl (nb rfl) (by decide) ?_
  refine g_aload (pc := 0) dL_power_0 rfl trivial ?_
  refine g_iconst (pc := 2) (v := 0) dL_power_2 rfl ?_
  refine g_aload_n (pc := 3) dL_power_3 rfl trivial ?_
  refine g_iload_n (pc := 4) dL_power_4 rfl ?_
  refine g_iload_n (pc := 5) dL_power_5 rfl ?_
  refine g_iload_n (pc := 6) dL_power_6 rfl ?_
  refine g_iload (pc := 7) dL_power_7 rfl ?_
  refine g_tVw_x (pc := 9) (As := [_, _, _, _]) (hpc := 21) dL_power_9 rfl (h) rfl rfl hk rfl rfl lk_L_145 rfl (nb rfl) ⟨nb rfl, nb rfl⟩ (hn_power_2) dL_power_21 (by decide) ?_
  refine g_iconst (pc := 23) (v := 2) dL_power_23 rfl ?_
  refine g_ireturn (pc := 24) dL_power_24 rfl rfl ?_
  exact ⟨rfl, rfl⟩
theorem hn_invert_1 : Hnd jL_invert 5 xIO 13 := ⟨Or.inl rfl, [], (0, 10, 13, 19), [], rfl, fun z hz => absurd hz List.not_mem_nil, by decide, by decide, wl_19, rfl⟩
theorem w_invert {x0 : Int32} {x1 : Int32} {v : Int32} (h : EvR l jX6_invert 7 150 2 12 [.ref 0, .int x0, .int x1] M (.inl (some (.int v))) M1) (hk : (mK M)[0]? = some (.inr 6)) (ho : (mK M1)[212]? = some (kL 1)) : EvR l jL_invert 8 172 2 12 [.ref 0, .int x0, .int x1, .ref 212] M (.inl (some (.int 0))) (pL M1 212 0 v.toInt64) := by
  refine ev_introW rfl (nb rfl) (by decide) ?_
  refine g_aload_n (pc := 0) dL_invert_0 rfl trivial ?_
  refine g_iconst (pc := 1) (v := 0) dL_invert_1 rfl ?_
  refine g_aload_n (pc := 2) dL_invert_2 rfl trivial ?_
  refine g_iload_n (pc := 3) dL_invert_3 rfl ?_
  refine g_iload_n (pc := 4) dL_invert_4 rfl ?_
  refine g_tV_r (pc := 5) (As := [_, _]) dL_invert_5 rfl (h) rfl rfl hk rfl rfl lk_L_148 rfl (nb rfl) ⟨nb rfl, nb rfl⟩ (by decide) ?_
  refine g_i2l (pc := 8) dL_invert_8 rfl ?_
  refine g_lastore (pc := 9) dL_invert_9 ho rfl (nb rfl) (nl rfl) ?_
  refine g_goto (pc := 10) (tgt := 17) dL_invert_10 rfl ?_
  refine g_iconst (pc := 17) (v := 0) dL_invert_17 rfl ?_
  refine g_ireturn (pc := 18) dL_invert_18 rfl rfl ?_
  exact ⟨rfl, rfl⟩
theorem wx_invert {x0 : Int32} {x1 : Int32} (h : EvR l jX6_invert 7 150 2 12 [.ref 0, .int x0, .int x1] M (.inr xIO) M1) (hk : (mK M)[0]? = some (.inr 6)) : EvR l jL_invert 8 172 2 12 [.ref 0, .int x0, .int x1, .ref 212] M (.inl (some (.int 1))) M1 := by
  refine ev_introW rfl (nb rfl) (by decide) ?_
  refine g_aload_n (pc := 0) dL_invert_0 rfl trivial ?_
  refine g_iconst (pc := 1) (v := 0) dL_invert_1 rfl ?_
  refine g_aload_n (pc := 2) dL_invert_2 rfl trivial ?_
  refine g_iload_n (pc := 3) dL_invert_3 rfl ?_
  refine g_iload_n (pc := 4) dL_invert_4 rfl ?_
  refine g_tVw_x (pc := 5) (As := [_, _]) (hpc := 13) dL_invert_5 rfl (h) rfl rfl hk rfl rfl lk_L_148 rfl (nb rfl) ⟨nb rfl, nb rfl⟩ (hn_invert_1) dL_invert_13 (by decide) ?_
  refine g_iconst (pc := 15) (v := 1) dL_invert_15 rfl ?_
  refine g_ireturn (pc := 16) dL_invert_16 rfl rfl ?_
  exact ⟨rfl, rfl⟩
theorem hn_close_1 : Hnd jL_close 5 xIO 13 := ⟨Or.inl rfl, [], (0, 10, 13, 19), [], rfl, fun z hz => absurd hz List.not_mem_nil, by decide, by decide, wl_19, rfl⟩
theorem w_close {x0 : Int32} {x1 : Int32} {v : Int32} (h : EvR l jX6_close 7 140 2 12 [.ref 0, .int x0, .int x1] M (.inl (some (.int v))) M1) (hk : (mK M)[0]? = some (.inr 6)) (ho : (mK M1)[212]? = some (kL 1)) : EvR l jL_close 8 162 2 12 [.ref 0, .int x0, .int x1, .ref 212] M (.inl (some (.int 0))) (pL M1 212 0 v.toInt64) := by
  refine ev_introW rfl (nb rfl) (by decide) ?_
  refine g_aload_n (pc := 0) dL_close_0 rfl trivial ?_
  refine g_iconst (pc := 1) (v := 0) dL_close_1 rfl ?_
  refine g_aload_n (pc := 2) dL_close_2 rfl trivial ?_
  refine g_iload_n (pc := 3) dL_close_3 rfl ?_
  refine g_iload_n (pc := 4) dL_close_4 rfl ?_
  refine g_tV_r (pc := 5) (As := [_, _]) dL_close_5 rfl (h) rfl rfl hk rfl rfl lk_L_151 rfl (nb rfl) ⟨nb rfl, nb rfl⟩ (by decide) ?_
  refine g_i2l (pc := 8) dL_close_8 rfl ?_
  refine g_lastore (pc := 9) dL_close_9 ho rfl (nb rfl) (nl rfl) ?_
  refine g_goto (pc := 10) (tgt := 17) dL_close_10 rfl ?_
  refine g_iconst (pc := 17) (v := 0) dL_close_17 rfl ?_
  refine g_ireturn (pc := 18) dL_close_18 rfl rfl ?_
  exact ⟨rfl, rfl⟩
theorem wx_close {x0 : Int32} {x1 : Int32} (h : EvR l jX6_close 7 140 2 12 [.ref 0, .int x0, .int x1] M (.inr xIO) M1) (hk : (mK M)[0]? = some (.inr 6)) : EvR l jL_close 8 162 2 12 [.ref 0, .int x0, .int x1, .ref 212] M (.inl (some (.int 1))) M1 := by
  refine ev_introW rfl (nb rfl) (by decide) ?_
  refine g_aload_n (pc := 0) dL_close_0 rfl trivial ?_
  refine g_iconst (pc := 1) (v := 0) dL_close_1 rfl ?_
  refine g_aload_n (pc := 2) dL_close_2 rfl trivial ?_
  refine g_iload_n (pc := 3) dL_close_3 rfl ?_
  refine g_iload_n (pc := 4) dL_close_4 rfl ?_
  refine g_tVw_x (pc := 5) (As := [_, _]) (hpc := 13) dL_close_5 rfl (h) rfl rfl hk rfl rfl lk_L_151 rfl (nb rfl) ⟨nb rfl, nb rfl⟩ (hn_close_1) dL_close_13 (by decide) ?_
  refine g_iconst (pc := 15) (v := 1) dL_close_15 rfl ?_
  refine g_ireturn (pc := 16) dL_close_16 rfl rfl ?_
  exact ⟨rfl, rfl⟩
theorem hn_reduce_1 : Hnd jL_reduce 5 xIO 13 := ⟨Or.inl rfl, [], (0, 10, 13, 19), [], rfl, fun z hz => absurd hz List.not_mem_nil, by decide, by decide, wl_19, rfl⟩
theorem w_reduce {x0 : Int32} {x1 : Int32} {v : Int32} (h : EvR l jX6_reduce 7 140 2 12 [.ref 0, .int x0, .int x1] M (.inl (some (.int v))) M1) (hk : (mK M)[0]? = some (.inr 6)) (ho : (mK M1)[212]? = some (kL 1)) : EvR l jL_reduce 8 163 2 12 [.ref 0, .int x0, .int x1, .ref 212] M (.inl (some (.int 0))) (pL M1 212 0 v.toInt64) := by
  refine ev_introW rfl (nb rfl) (by decide) ?_
  refine g_aload_n (pc := 0) dL_reduce_0 rfl trivial ?_
  refine g_iconst (pc := 1) (v := 0) dL_reduce_1 rfl ?_
  refine g_aload_n (pc := 2) dL_reduce_2 rfl trivial ?_
  refine g_iload_n (pc := 3) dL_reduce_3 rfl ?_
  refine g_iload_n (pc := 4) dL_reduce_4 rfl ?_
  refine g_tV_r (pc := 5) (As := [_, _]) dL_reduce_5 rfl (h) rfl rfl hk rfl rfl lk_L_154 rfl (nb rfl) ⟨nb rfl, nb rfl⟩ (by decide) ?_
  refine g_i2l (pc := 8) dL_reduce_8 rfl ?_
  refine g_lastore (pc := 9) dL_reduce_9 ho rfl (nb rfl) (nl rfl) ?_
  refine g_goto (pc := 10) (tgt := 17) dL_reduce_10 rfl ?_
  refine g_iconst (pc := 17) (v := 0) dL_reduce_17 rfl ?_
  refine g_ireturn (pc := 18) dL_reduce_18 rfl rfl ?_
  exact ⟨rfl, rfl⟩
theorem wx_reduce {x0 : Int32} {x1 : Int32} (h : EvR l jX6_reduce 7 140 2 12 [.ref 0, .int x0, .int x1] M (.inr xIO) M1) (hk : (mK M)[0]? = some (.inr 6)) : EvR l jL_reduce 8 163 2 12 [.ref 0, .int x0, .int x1, .ref 212] M (.inl (some (.int 1))) M1 := by
  refine ev_introW rfl (nb rfl) (by decide) ?_
  refine g_aload_n (pc := 0) dL_reduce_0 rfl trivial ?_
  refine g_iconst (pc := 1) (v := 0) dL_reduce_1 rfl ?_
  refine g_aload_n (pc := 2) dL_reduce_2 rfl trivial ?_
  refine g_iload_n (pc := 3) dL_reduce_3 rfl ?_
  refine g_iload_n (pc := 4) dL_reduce_4 rfl ?_
  refine g_tVw_x (pc := 5) (As := [_, _]) (hpc := 13) dL_reduce_5 rfl (h) rfl rfl hk rfl rfl lk_L_154 rfl (nb rfl) ⟨nb rfl, nb rfl⟩ (hn_reduce_1) dL_reduce_13 (by decide) ?_
  refine g_iconst (pc := 15) (v := 1) dL_reduce_15 rfl ?_
  refine g_ireturn (pc := 16) dL_reduce_16 rfl rfl ?_
  exact ⟨rfl, rfl⟩
theorem hn_exchange_1 : Hnd jL_exchange 7 xIO 15 := ⟨Or.inl rfl, [], (0, 12, 15, 19), [], rfl, fun z hz => absurd hz List.not_mem_nil, by decide, by decide, wl_19, rfl⟩
theorem w_exchange {x0 : Int32} {x1 : Int32} {x2 : Int32} {v : Int32} (h : EvR l jX6_exchange 9 160 3 18 [.ref 0, .int x0, .int x1, .int x2] M (.inl (some (.int v))) M1) (hk : (mK M)[0]? = some (.inr 6)) (ho : (mK M1)[212]? = some (kL 1)) : EvR l jL_exchange 10 187 3 18 [.ref 0, .int x0, .int x1, .int x2, .ref 212] M (.inl (some (.int 0))) (pL M1 212 0 v.toInt64) := by
  refine ev_introW rfl (nb rfl) (by decide) ?_
  refine g_aload (pc := 0) dL_exchange_0 rfl trivial ?_
  refine g_iconst (pc := 2) (v := 0) dL_exchange_2 rfl ?_
  refine g_aload_n (pc := 3) dL_exchange_3 rfl trivial ?_
  refine g_iload_n (pc := 4) dL_exchange_4 rfl ?_
  refine g_iload_n (pc := 5) dL_exchange_5 rfl ?_
  refine g_iload_n (pc := 6) dL_exchange_6 rfl ?_
  refine g_tV_r (pc := 7) (As := [_, _, _]) dL_exchange_7 rfl (h) rfl rfl hk rfl rfl lk_L_157 rfl (nb rfl) ⟨nb rfl, nb rfl⟩ (by decide) ?_
  refine g_i2l (pc := 10) dL_exchange_10 rfl ?_
  refine g_lastore (pc := 11) dL_exchange_11 ho rfl (nb rfl) (nl rfl) ?_
  refine g_goto (pc := 12) (tgt := 19) dL_exchange_12 rfl ?_
  refine g_iconst (pc := 19) (v := 0) dL_exchange_19 rfl ?_
  refine g_ireturn (pc := 20) dL_exchange_20 rfl rfl ?_
  exact ⟨rfl, rfl⟩
theorem wx_exchange {x0 : Int32} {x1 : Int32} {x2 : Int32} (h : EvR l jX6_exchange 9 160 3 18 [.ref 0, .int x0, .int x1, .int x2] M (.inr xIO) M1) (hk : (mK M)[0]? = some (.inr 6)) : EvR l jL_exchange 10 187 3 18 [.ref 0, .int x0, .int x1, .int x2, .ref 212] M (.inl (some (.int 1))) M1 := by
  refine ev_introW rfl (nb rfl) (by decide) ?_
  refine g_aload (pc := 0) dL_exchange_0 rfl trivial ?_
  refine g_iconst (pc := 2) (v := 0) dL_exchange_2 rfl ?_
  refine g_aload_n (pc := 3) dL_exchange_3 rfl trivial ?_
  refine g_iload_n (pc := 4) dL_exchange_4 rfl ?_
  refine g_iload_n (pc := 5) dL_exchange_5 rfl ?_
  refine g_iload_n (pc := 6) dL_exchange_6 rfl ?_
  refine g_tVw_x (pc := 7) (As := [_, _, _]) (hpc := 15) dL_exchange_7 rfl (h) rfl rfl hk rfl rfl lk_L_157 rfl (nb rfl) ⟨nb rfl, nb rfl⟩ (hn_exchange_1) dL_exchange_15 (by decide) ?_
  refine g_iconst (pc := 17) (v := 1) dL_exchange_17 rfl ?_
  refine g_ireturn (pc := 18) dL_exchange_18 rfl rfl ?_
  exact ⟨rfl, rfl⟩
theorem hn_keep_1 : Hnd jL_keep 5 xIO 13 := ⟨Or.inl rfl, [], (0, 10, 13, 19), [], rfl, fun z hz => absurd hz List.not_mem_nil, by decide, by decide, wl_19, rfl⟩
theorem w_keep {x0 : Int32} {x1 : Int32} {v : Int32} (h : EvR l jX6_keep 7 140 1 6 [.ref 0, .int x0, .int x1] M (.inl (some (.int v))) M1) (hk : (mK M)[0]? = some (.inr 6)) (ho : (mK M1)[212]? = some (kL 1)) : EvR l jL_keep 8 163 1 6 [.ref 0, .int x0, .int x1, .ref 212] M (.inl (some (.int 0))) (pL M1 212 0 v.toInt64) := by
  refine ev_introW rfl (nb rfl) (by decide) ?_
  refine g_aload_n (pc := 0) dL_keep_0 rfl trivial ?_
  refine g_iconst (pc := 1) (v := 0) dL_keep_1 rfl ?_
  refine g_aload_n (pc := 2) dL_keep_2 rfl trivial ?_
  refine g_iload_n (pc := 3) dL_keep_3 rfl ?_
  refine g_iload_n (pc := 4) dL_keep_4 rfl ?_
  refine g_tV_r (pc := 5) (As := [_, _]) dL_keep_5 rfl (h) rfl rfl hk rfl rfl lk_L_160 rfl (nb rfl) ⟨nb rfl, nb rfl⟩ (by decide) ?_
  refine g_i2l (pc := 8) dL_keep_8 rfl ?_
  refine g_lastore (pc := 9) dL_keep_9 ho rfl (nb rfl) (nl rfl) ?_
  refine g_goto (pc := 10) (tgt := 17) dL_keep_10 rfl ?_
  refine g_iconst (pc := 17) (v := 0) dL_keep_17 rfl ?_
  refine g_ireturn (pc := 18) dL_keep_18 rfl rfl ?_
  exact ⟨rfl, rfl⟩
theorem wx_keep {x0 : Int32} {x1 : Int32} (h : EvR l jX6_keep 7 140 1 6 [.ref 0, .int x0, .int x1] M (.inr xIO) M1) (hk : (mK M)[0]? = some (.inr 6)) : EvR l jL_keep 8 163 1 6 [.ref 0, .int x0, .int x1, .ref 212] M (.inl (some (.int 1))) M1 := by
  refine ev_introW rfl (nb rfl) (by decide) ?_
  refine g_aload_n (pc := 0) dL_keep_0 rfl trivial ?_
  refine g_iconst (pc := 1) (v := 0) dL_keep_1 rfl ?_
  refine g_aload_n (pc := 2) dL_keep_2 rfl trivial ?_
  refine g_iload_n (pc := 3) dL_keep_3 rfl ?_
  refine g_iload_n (pc := 4) dL_keep_4 rfl ?_
  refine g_tVw_x (pc := 5) (As := [_, _]) (hpc := 13) dL_keep_5 rfl (h) rfl rfl hk rfl rfl lk_L_160 rfl (nb rfl) ⟨nb rfl, nb rfl⟩ (hn_keep_1) dL_keep_13 (by decide) ?_
  refine g_iconst (pc := 15) (v := 1) dL_keep_15 rfl ?_
  refine g_ireturn (pc := 16) dL_keep_16 rfl rfl ?_
  exact ⟨rfl, rfl⟩
theorem hn_setBlock_1 : Hnd jL_setBlock 4 xIA 12 := ⟨Or.inr rfl, [], (0, 9, 12, 13), [], rfl, fun z hz => absurd hz List.not_mem_nil, by decide, by decide, wl_13, rfl⟩
theorem w_setBlock {x0 : Int32} {v : Int32} (h : EvR l jX6_setBlock 7 140 1 6 [.ref 0, .int x0] M (.inl (some (.int v))) M1) (hk : (mK M)[0]? = some (.inr 6)) (ho : (mK M1)[212]? = some (kL 1)) : EvR l jL_setBlock 8 162 1 6 [.ref 0, .int x0, .ref 212] M (.inl (some (.int 0))) (pL M1 212 0 v.toInt64) := by
  refine ev_introW rfl (nb rfl) (by decide) ?_
  refine g_aload_n (pc := 0) dL_setBlock_0 rfl trivial ?_
  refine g_iconst (pc := 1) (v := 0) dL_setBlock_1 rfl ?_
  refine g_aload_n (pc := 2) dL_setBlock_2 rfl trivial ?_
  refine g_iload_n (pc := 3) dL_setBlock_3 rfl ?_
  refine g_tV_r (pc := 4) (As := [_]) dL_setBlock_4 rfl (h) rfl rfl hk rfl rfl lk_L_164 rfl (nb rfl) ⟨nb rfl, nb rfl⟩ (by decide) ?_
  refine g_i2l (pc := 7) dL_setBlock_7 rfl ?_
  refine g_lastore (pc := 8) dL_setBlock_8 ho rfl (nb rfl) (nl rfl) ?_
  refine g_goto (pc := 9) (tgt := 15) dL_setBlock_9 rfl ?_
  refine g_iconst (pc := 15) (v := 0) dL_setBlock_15 rfl ?_
  refine g_ireturn (pc := 16) dL_setBlock_16 rfl rfl ?_
  exact ⟨rfl, rfl⟩
theorem wx_setBlock {x0 : Int32} (h : EvR l jX6_setBlock 7 140 1 6 [.ref 0, .int x0] M (.inr xIA) M1) (hk : (mK M)[0]? = some (.inr 6)) : EvR l jL_setBlock 8 162 1 6 [.ref 0, .int x0, .ref 212] M (.inl (some (.int 1))) M1 := by
  refine ev_introW rfl (nb rfl) (by decide) ?_
  refine g_aload_n (pc := 0) dL_setBlock_0 rfl trivial ?_
  refine g_iconst (pc := 1) (v := 0) dL_setBlock_1 rfl ?_
  refine g_aload_n (pc := 2) dL_setBlock_2 rfl trivial ?_
  refine g_iload_n (pc := 3) dL_setBlock_3 rfl ?_
  refine g_tVn_x (pc := 4) (As := [_]) (hpc := 12) dL_setBlock_4 rfl (h) rfl rfl hk rfl rfl lk_L_164 rfl (nb rfl) ⟨nb rfl, nb rfl⟩ (hn_setBlock_1) dL_setBlock_12 (by decide) ?_
  refine g_iconst (pc := 13) (v := 1) dL_setBlock_13 rfl ?_
  refine g_ireturn (pc := 14) dL_setBlock_14 rfl rfl ?_
  exact ⟨rfl, rfl⟩
theorem hn_kept_1 : Hnd jL_kept 5 xIO 13 := ⟨Or.inl rfl, [], (0, 10, 13, 19), [(0, 10, 17, 13)], rfl, fun z hz => absurd hz List.not_mem_nil, by decide, by decide, wl_19, rfl⟩
theorem hn_kept_2 : Hnd jL_kept 5 xIA 17 := ⟨Or.inr rfl, [(0, 10, 13, 19)], (0, 10, 17, 13), [], rfl, fun z hz => by cases List.mem_singleton.mp hz; exact ⟨rfl, by decide, wl_19⟩, by decide, by decide, wl_13, rfl⟩
theorem w_kept {x0 : Int32} {x1 : Int32} {v : Int32} (h : EvR l jX6_kept 7 120 2 12 [.ref 0, .int x0, .int x1] M (.inl (some (.int v))) M1) (hk : (mK M)[0]? = some (.inr 6)) (ho : (mK M1)[212]? = some (kL 1)) : EvR l jL_kept 8 143 2 12 [.ref 0, .int x0, .int x1, .ref 212] M (.inl (some (.int 0))) (pL M1 212 0 v.toInt64) := by
  refine ev_introW rfl (nb rfl) (by decide) ?_
  refine g_aload_n (pc := 0) dL_kept_0 rfl trivial ?_
  refine g_iconst (pc := 1) (v := 0) dL_kept_1 rfl ?_
  refine g_aload_n (pc := 2) dL_kept_2 rfl trivial ?_
  refine g_iload_n (pc := 3) dL_kept_3 rfl ?_
  refine g_iload_n (pc := 4) dL_kept_4 rfl ?_
  refine g_tV_r (pc := 5) (As := [_, _]) dL_kept_5 rfl (h) rfl rfl hk rfl rfl lk_L_167 rfl (nb rfl) ⟨nb rfl, nb rfl⟩ (by decide) ?_
  refine g_i2l (pc := 8) dL_kept_8 rfl ?_
  refine g_lastore (pc := 9) dL_kept_9 ho rfl (nb rfl) (nl rfl) ?_
  refine g_goto (pc := 10) (tgt := 21) dL_kept_10 rfl ?_
  refine g_iconst (pc := 21) (v := 0) dL_kept_21 rfl ?_
  refine g_ireturn (pc := 22) dL_kept_22 rfl rfl ?_
  exact ⟨rfl, rfl⟩
theorem wx_kept {x0 : Int32} {x1 : Int32} (h : EvR l jX6_kept 7 120 2 12 [.ref 0, .int x0, .int x1] M (.inr xIO) M1) (hk : (mK M)[0]? = some (.inr 6)) : EvR l jL_kept 8 143 2 12 [.ref 0, .int x0, .int x1, .ref 212] M (.inl (some (.int 1))) M1 := by
  refine ev_introW rfl (nb rfl) (by decide) ?_
  refine g_aload_n (pc := 0) dL_kept_0 rfl trivial ?_
  refine g_iconst (pc := 1) (v := 0) dL_kept_1 rfl ?_
  refine g_aload_n (pc := 2) dL_kept_2 rfl trivial ?_
  refine g_iload_n (pc := 3) dL_kept_3 rfl ?_
  refine g_iload_n (pc := 4) dL_kept_4 rfl ?_
  refine g_tVw_x (pc := 5) (As := [_, _]) (hpc := 13) dL_kept_5 rfl (h) rfl rfl hk rfl rfl lk_L_167 rfl (nb rfl) ⟨nb rfl, nb rfl⟩ (hn_kept_1) dL_kept_13 (by decide) ?_
  refine g_iconst (pc := 15) (v := 1) dL_kept_15 rfl ?_
  refine g_ireturn (pc := 16) dL_kept_16 rfl rfl ?_
  exact ⟨rfl, rfl⟩
theorem wy_kept {x0 : Int32} {x1 : Int32} (h : EvR l jX6_kept 7 120 2 12 [.ref 0, .int x0, .int x1] M (.inr xIA) M1) (hk : (mK M)[0]? = some (.inr 6)) : EvR l jL_kept 8 143 2 12 [.ref 0, .int x0, .int x1, .ref 212] M (.inl (some (.int 2))) M1 := by
  refine ev_introW rfl (nb rfl) (by decide) ?_
  refine g_aload_n (pc := 0) dL_kept_0 rfl trivial ?_
  refine g_iconst (pc := 1) (v := 0) dL_kept_1 rfl ?_
  refine g_aload_n (pc := 2) dL_kept_2 rfl trivial ?_
  refine g_iload_n (pc := 3) dL_kept_3 rfl ?_
  refine g_iload_n (pc := 4) dL_kept_4 rfl ?_
  refine g_tVw_x (pc := 5) (As := [_, _]) (hpc := 17) dL_kept_5 rfl (h) rfl rfl hk rfl rfl lk_L_167 rfl (nb rfl) ⟨nb rfl, nb rfl⟩ (hn_kept_2) dL_kept_17 (by decide) ?_
  refine g_iconst (pc := 19) (v := 2) dL_kept_19 rfl ?_
  refine g_ireturn (pc := 20) dL_kept_20 rfl rfl ?_
  exact ⟨rfl, rfl⟩
theorem hn_work_1 : Hnd jL_work 4 xIA 12 := ⟨Or.inr rfl, [], (0, 9, 12, 13), [], rfl, fun z hz => absurd hz List.not_mem_nil, by decide, by decide, wl_13, rfl⟩
theorem w_work {x0 : Int32} {v : Int32} (h : EvR l jX6_work 7 120 1 6 [.ref 0, .int x0] M (.inl (some (.int v))) M1) (hk : (mK M)[0]? = some (.inr 6)) (ho : (mK M1)[212]? = some (kL 1)) : EvR l jL_work 8 141 1 6 [.ref 0, .int x0, .ref 212] M (.inl (some (.int 0))) (pL M1 212 0 v.toInt64) := by
  refine ev_introW rfl (nb rfl) (by decide) ?_
  refine g_aload_n (pc := 0) dL_work_0 rfl trivial ?_
  refine g_iconst (pc := 1) (v := 0) dL_work_1 rfl ?_
  refine g_aload_n (pc := 2) dL_work_2 rfl trivial ?_
  refine g_iload_n (pc := 3) dL_work_3 rfl ?_
  refine g_tV_r (pc := 4) (As := [_]) dL_work_4 rfl (h) rfl rfl hk rfl rfl lk_L_170 rfl (nb rfl) ⟨nb rfl, nb rfl⟩ (by decide) ?_
  refine g_i2l (pc := 7) dL_work_7 rfl ?_
  refine g_lastore (pc := 8) dL_work_8 ho rfl (nb rfl) (nl rfl) ?_
  refine g_goto (pc := 9) (tgt := 15) dL_work_9 rfl ?_
  refine g_iconst (pc := 15) (v := 0) dL_work_15 rfl ?_
  refine g_ireturn (pc := 16) dL_work_16 rfl rfl ?_
  exact ⟨rfl, rfl⟩
theorem wx_work {x0 : Int32} (h : EvR l jX6_work 7 120 1 6 [.ref 0, .int x0] M (.inr xIA) M1) (hk : (mK M)[0]? = some (.inr 6)) : EvR l jL_work 8 141 1 6 [.ref 0, .int x0, .ref 212] M (.inl (some (.int 1))) M1 := by
  refine ev_introW rfl (nb rfl) (by decide) ?_
  refine g_aload_n (pc := 0) dL_work_0 rfl trivial ?_
  refine g_iconst (pc := 1) (v := 0) dL_work_1 rfl ?_
  refine g_aload_n (pc := 2) dL_work_2 rfl trivial ?_
  refine g_iload_n (pc := 3) dL_work_3 rfl ?_
  refine g_tVn_x (pc := 4) (As := [_]) (hpc := 12) dL_work_4 rfl (h) rfl rfl hk rfl rfl lk_L_170 rfl (nb rfl) ⟨nb rfl, nb rfl⟩ (hn_work_1) dL_work_12 (by decide) ?_
  refine g_iconst (pc := 13) (v := 1) dL_work_13 rfl ?_
  refine g_ireturn (pc := 14) dL_work_14 rfl rfl ?_
  exact ⟨rfl, rfl⟩
theorem hn_writeRow_1 : Hnd jL_writeRow 5 xIO 13 := ⟨Or.inl rfl, [], (0, 10, 13, 19), [], rfl, fun z hz => absurd hz List.not_mem_nil, by decide, by decide, wl_19, rfl⟩
theorem w_writeRow {x0 : Int32} {x1 : Int32} {v : Int32} (h : EvR l jX6_writeRow 8 140 2 12 [.ref 0, .int x0, .int x1] M (.inl (some (.int v))) M1) (hk : (mK M)[0]? = some (.inr 6)) (ho : (mK M1)[212]? = some (kL 1)) : EvR l jL_writeRow 9 164 2 12 [.ref 0, .int x0, .int x1, .ref 212] M (.inl (some (.int 0))) (pL M1 212 0 v.toInt64) := by
  refine ev_introW rfl (nb rfl) (by decide) ?_
  refine g_aload_n (pc := 0) dL_writeRow_0 rfl trivial ?_
  refine g_iconst (pc := 1) (v := 0) dL_writeRow_1 rfl ?_
  refine g_aload_n (pc := 2) dL_writeRow_2 rfl trivial ?_
  refine g_iload_n (pc := 3) dL_writeRow_3 rfl ?_
  refine g_iload_n (pc := 4) dL_writeRow_4 rfl ?_
  refine g_tV_r (pc := 5) (As := [_, _]) dL_writeRow_5 rfl (h) rfl rfl hk rfl rfl lk_L_173 rfl (nb rfl) ⟨nb rfl, nb rfl⟩ (by decide) ?_
  refine g_i2l (pc := 8) dL_writeRow_8 rfl ?_
  refine g_lastore (pc := 9) dL_writeRow_9 ho rfl (nb rfl) (nl rfl) ?_
  refine g_goto (pc := 10) (tgt := 17) dL_writeRow_10 rfl ?_
  refine g_iconst (pc := 17) (v := 0) dL_writeRow_17 rfl ?_
  refine g_ireturn (pc := 18) dL_writeRow_18 rfl rfl ?_
  exact ⟨rfl, rfl⟩
theorem wx_writeRow {x0 : Int32} {x1 : Int32} (h : EvR l jX6_writeRow 8 140 2 12 [.ref 0, .int x0, .int x1] M (.inr xIO) M1) (hk : (mK M)[0]? = some (.inr 6)) : EvR l jL_writeRow 9 164 2 12 [.ref 0, .int x0, .int x1, .ref 212] M (.inl (some (.int 1))) M1 := by
  refine ev_introW rfl (nb rfl) (by decide) ?_
  refine g_aload_n (pc := 0) dL_writeRow_0 rfl trivial ?_
  refine g_iconst (pc := 1) (v := 0) dL_writeRow_1 rfl ?_
  refine g_aload_n (pc := 2) dL_writeRow_2 rfl trivial ?_
  refine g_iload_n (pc := 3) dL_writeRow_3 rfl ?_
  refine g_iload_n (pc := 4) dL_writeRow_4 rfl ?_
  refine g_tVw_x (pc := 5) (As := [_, _]) (hpc := 13) dL_writeRow_5 rfl (h) rfl rfl hk rfl rfl lk_L_173 rfl (nb rfl) ⟨nb rfl, nb rfl⟩ (hn_writeRow_1) dL_writeRow_13 (by decide) ?_
  refine g_iconst (pc := 15) (v := 1) dL_writeRow_15 rfl ?_
  refine g_ireturn (pc := 16) dL_writeRow_16 rfl rfl ?_
  exact ⟨rfl, rfl⟩
theorem hn_saveSnapshot_1 : Hnd jL_saveSnapshot 4 xIA 12 := ⟨Or.inr rfl, [], (0, 9, 12, 13), [], rfl, fun z hz => absurd hz List.not_mem_nil, by decide, by decide, wl_13, rfl⟩
theorem w_saveSnapshot {x0 : Int32} {v : Int32} (h : EvR l jX6_saveSnapshot 7 140 1 6 [.ref 0, .int x0] M (.inl (some (.int v))) M1) (hk : (mK M)[0]? = some (.inr 6)) (ho : (mK M1)[212]? = some (kL 1)) : EvR l jL_saveSnapshot 8 161 1 6 [.ref 0, .int x0, .ref 212] M (.inl (some (.int 0))) (pL M1 212 0 v.toInt64) := by
  refine ev_introW rfl (nb rfl) (by decide) ?_
  refine g_aload_n (pc := 0) dL_saveSnapshot_0 rfl trivial ?_
  refine g_iconst (pc := 1) (v := 0) dL_saveSnapshot_1 rfl ?_
  refine g_aload_n (pc := 2) dL_saveSnapshot_2 rfl trivial ?_
  refine g_iload_n (pc := 3) dL_saveSnapshot_3 rfl ?_
  refine g_tV_r (pc := 4) (As := [_]) dL_saveSnapshot_4 rfl (h) rfl rfl hk rfl rfl lk_L_176 rfl (nb rfl) ⟨nb rfl, nb rfl⟩ (by decide) ?_
  refine g_i2l (pc := 7) dL_saveSnapshot_7 rfl ?_
  refine g_lastore (pc := 8) dL_saveSnapshot_8 ho rfl (nb rfl) (nl rfl) ?_
  refine g_goto (pc := 9) (tgt := 15) dL_saveSnapshot_9 rfl ?_
  refine g_iconst (pc := 15) (v := 0) dL_saveSnapshot_15 rfl ?_
  refine g_ireturn (pc := 16) dL_saveSnapshot_16 rfl rfl ?_
  exact ⟨rfl, rfl⟩
theorem wx_saveSnapshot {x0 : Int32} (h : EvR l jX6_saveSnapshot 7 140 1 6 [.ref 0, .int x0] M (.inr xIA) M1) (hk : (mK M)[0]? = some (.inr 6)) : EvR l jL_saveSnapshot 8 161 1 6 [.ref 0, .int x0, .ref 212] M (.inl (some (.int 1))) M1 := by
  refine ev_introW rfl (nb rfl) (by decide) ?_
  refine g_aload_n (pc := 0) dL_saveSnapshot_0 rfl trivial ?_
  refine g_iconst (pc := 1) (v := 0) dL_saveSnapshot_1 rfl ?_
  refine g_aload_n (pc := 2) dL_saveSnapshot_2 rfl trivial ?_
  refine g_iload_n (pc := 3) dL_saveSnapshot_3 rfl ?_
  refine g_tVn_x (pc := 4) (As := [_]) (hpc := 12) dL_saveSnapshot_4 rfl (h) rfl rfl hk rfl rfl lk_L_176 rfl (nb rfl) ⟨nb rfl, nb rfl⟩ (hn_saveSnapshot_1) dL_saveSnapshot_12 (by decide) ?_
  refine g_iconst (pc := 13) (v := 1) dL_saveSnapshot_13 rfl ?_
  refine g_ireturn (pc := 14) dL_saveSnapshot_14 rfl rfl ?_
  exact ⟨rfl, rfl⟩
theorem hn_restoreSnapshot_1 : Hnd jL_restoreSnapshot 4 xIA 12 := ⟨Or.inr rfl, [], (0, 9, 12, 13), [], rfl, fun z hz => absurd hz List.not_mem_nil, by decide, by decide, wl_13, rfl⟩
theorem w_restoreSnapshot {x0 : Int32} {v : Int32} (h : EvR l jX6_restoreSnapshot 7 170 1 6 [.ref 0, .int x0] M (.inl (some (.int v))) M1) (hk : (mK M)[0]? = some (.inr 6)) (ho : (mK M1)[212]? = some (kL 1)) : EvR l jL_restoreSnapshot 8 191 1 6 [.ref 0, .int x0, .ref 212] M (.inl (some (.int 0))) (pL M1 212 0 v.toInt64) := by
  refine ev_introW rfl (nb rfl) (by decide) ?_
  refine g_aload_n (pc := 0) dL_restoreSnapshot_0 rfl trivial ?_
  refine g_iconst (pc := 1) (v := 0) dL_restoreSnapshot_1 rfl ?_
  refine g_aload_n (pc := 2) dL_restoreSnapshot_2 rfl trivial ?_
  refine g_iload_n (pc := 3) dL_restoreSnapshot_3 rfl ?_
  refine g_tV_r (pc := 4) (As := [_]) dL_restoreSnapshot_4 rfl (h) rfl rfl hk rfl rfl lk_L_179 rfl (nb rfl) ⟨nb rfl, nb rfl⟩ (by decide) ?_
  refine g_i2l (pc := 7) dL_restoreSnapshot_7 rfl ?_
  refine g_lastore (pc := 8) dL_restoreSnapshot_8 ho rfl (nb rfl) (nl rfl) ?_
  refine g_goto (pc := 9) (tgt := 15) dL_restoreSnapshot_9 rfl ?_
  refine g_iconst (pc := 15) (v := 0) dL_restoreSnapshot_15 rfl ?_
  refine g_ireturn (pc := 16) dL_restoreSnapshot_16 rfl rfl ?_
  exact ⟨rfl, rfl⟩
theorem wx_restoreSnapshot {x0 : Int32} (h : EvR l jX6_restoreSnapshot 7 170 1 6 [.ref 0, .int x0] M (.inr xIA) M1) (hk : (mK M)[0]? = some (.inr 6)) : EvR l jL_restoreSnapshot 8 191 1 6 [.ref 0, .int x0, .ref 212] M (.inl (some (.int 1))) M1 := by
  refine ev_introW rfl (nb rfl) (by decide) ?_
  refine g_aload_n (pc := 0) dL_restoreSnapshot_0 rfl trivial ?_
  refine g_iconst (pc := 1) (v := 0) dL_restoreSnapshot_1 rfl ?_
  refine g_aload_n (pc := 2) dL_restoreSnapshot_2 rfl trivial ?_
  refine g_iload_n (pc := 3) dL_restoreSnapshot_3 rfl ?_
  refine g_tVn_x (pc := 4) (As := [_]) (hpc := 12) dL_restoreSnapshot_4 rfl (h) rfl rfl hk rfl rfl lk_L_179 rfl (nb rfl) ⟨nb rfl, nb rfl⟩ (hn_restoreSnapshot_1) dL_restoreSnapshot_12 (by decide) ?_
  refine g_iconst (pc := 13) (v := 1) dL_restoreSnapshot_13 rfl ?_
  refine g_ireturn (pc := 14) dL_restoreSnapshot_14 rfl rfl ?_
  exact ⟨rfl, rfl⟩
end
end
-- 520.lawrules
section
/-! the law's body: the script read, calls after which the script is as it was -/
section
variable {l : Launch} {J : Jm} {F L MC MS : Nat} {Q : Res → Mem → Prop} {pc : Nat} {lv : List (Nat × Value)} {st : List Value} {k n : Nat} {M : Mem}
theorem isA_0 : isA (.retAddr 0) := by
  show (0 : Nat) ≠ 1
  decide
theorem nI_o1 (o : Nat) : nI o + 1 = nI (o + 1) := (Int32.ofNat_add o 1).symm
theorem nI_o2 (o : Nat) : nI o + 2 = nI (o + 2) := (Int32.ofNat_add o 2).symm
theorem nI_o3 (o : Nat) : nI o + 3 = nI (o + 3) := (Int32.ofNat_add o 3).symm
theorem nI_o4 (o : Nat) : nI o + 4 = nI (o + 4) := (Int32.ofNat_add o 4).symm
theorem nI_o5 (o : Nat) : nI o + 5 = nI (o + 5) := (Int32.ofNat_add o 5).symm
theorem g_scriptLoadS {S : Nat × (Nat → Int32)} {i : Int32} {j : Nat} (hd : decode J.2.1 pc = .ok (.iaload, 1)) (hi : i = nI j) (e : mS M = S) (hj : j < S.1) (hL : S.1 < 2147483648) (kk : Go l J F L MC MS Q (pc + 1) lv (.int (S.2 j) :: st) k n M) : Go l J F L MC MS Q pc lv (.int i :: .retAddr 0 :: st) k n M := by
  subst e
  exact g_scriptLoad hd hi hj hL kk
theorem g_scriptLenS {S : Nat × (Nat → Int32)} (hd : decode J.2.1 pc = .ok (.arraylength, 1)) (e : mS M = S) (kk : Go l J F L MC MS Q (pc + 1) lv (.int (nI S.1) :: st) k n M) : Go l J F L MC MS Q pc lv (.retAddr 0 :: st) k n M := by
  subst e
  exact g_scriptLen hd kk
theorem ev_mS {J : Jm} {F L mc ms : Nat} {As : List Value} {Q : Res → Mem → Prop} (h : Ev l J F L mc ms As M Q) : Ev l J F L mc ms As M (fun r M' => Q r M' ∧ mS M' = mS M) := by
  intro G p e ha hc hk s m args below h1 h2 h3 h4
  obtain ⟨t, o, a1, a2, a3, a4⟩ := h G p e ha hc hk s m args below h1 h2 h3 h4
  have hR : Rel G M s.heap := h3.2.2
  refine ⟨t, o, a1, a2, a3, ?_⟩
  rcases a4 with ⟨⟨⟨v, M', b1, b2, b3⟩, b4⟩, b5⟩ | ⟨q, b1, E, ce, L9, ⟨⟨M', c1, c2⟩, c3⟩, c4⟩
  · exact Or.inl ⟨⟨⟨v, M', b1, ⟨b2, b3.2.2.2.trans hR.2.2.2.symm⟩, b3⟩, b4⟩, b5⟩
  · exact Or.inr ⟨q, b1, E, ce, L9, ⟨⟨M', ⟨c1, c2.2.2.2.trans hR.2.2.2.symm⟩, c2⟩, c3⟩, c4⟩
theorem g_invV_s {ix nA F' L' mc' ms' : Nat} {J' : Jm} {As rest : List Value} {id ci : Nat} {q0 : vw_C} {k0 n0 : Nat} {v : Option Value} {M' : Mem} (hd : decode J.2.1 pc = .ok (.invokevirtual ix, 3)) (hst : st = As.reverse ++ .ref id :: rest) (hE : EvR l J' F' L' mc' ms' (.ref id :: As) M (.inl v) M') (hk9 : k0 = k + mc') (hn9 : n0 = n + ms') (hk : (mK M)[id]? = some (.inr ci)) (hc0 : vwCl[ci]? = some q0) (hq0 : q0.1 = J'.1.cls) (hlk : LkV J.1.cls ix J' nA) (hn : As.length = nA) (hcat : (rest.map fun v => v.category).sum ≤ 8) (hF : F' + 1 ≤ F ∧ 8 + (J'.2.2.1 + 11) + L' ≤ L) (hh : J.2.2.2.2 = []) (kk : mS M' = mS M → Go l J F L MC MS Q (pc + 3) lv (v.toList ++ rest) k n M') : Go l J F L MC MS Q pc lv st k0 n0 M := by
  subst hk9; subst hn9
  exact g_invV hd hlk hn hcat hF (ev_mS hE) hst hk hc0 hq0 hh (fun v1 M1 h => by obtain ⟨⟨h1, h2⟩, h3⟩ := h; cases h1; subst h2; exact kk h3) (fun E M1 h => by cases h.1.1)
theorem g_invSX_s {ix nA F' L' mc' ms' : Nat} {J' : Jm} {As rest : List Value} {k0 n0 : Nat} {v : Option Value} {M' : Mem} (hd : decode J.2.1 pc = .ok (.invokestatic ix, 3)) (hst : st = As.reverse ++ rest) (hE : EvR l J' F' L' mc' ms' As M (.inl v) M') (hk9 : k0 = k + mc') (hn9 : n0 = n + ms') (hlk : LkSX J.1.cls ix J' nA) (hn : As.length = nA) (hcat : (rest.map fun v => v.category).sum ≤ 8) (hF : F' + 1 ≤ F ∧ 8 + (J'.2.2.1 + 11) + L' ≤ L) (hh : J.2.2.2.2 = []) (kk : mS M' = mS M → Go l J F L MC MS Q (pc + 3) lv (v.toList ++ rest) k n M') : Go l J F L MC MS Q pc lv st k0 n0 M := by
  subst hk9; subst hn9
  exact g_invSX hd hlk hn hcat hF (ev_mS hE) hst hh (fun v1 M1 h => by obtain ⟨⟨h1, h2⟩, h3⟩ := h; cases h1; subst h2; exact kk h3) (fun E M1 h => by cases h.1.1)
theorem lgc_self {x y : Int64} (h : x = y) : lg_cmp x y = 0 := by subst h; unfold lg_cmp; simp
abbrev AL (o : Nat) : List (Nat × Value) := [(0, .retAddr 0), (1, .ref 0), (2, .ref 198), (3, .ref 212), (4, .ref 213), (5, .int (nI o))]
/-- a long out of two ints, as the law makes it -/
abbrev l2 (x y : Int32) : Int64 := x.toInt64 <<< (32 : Int64) ||| y.toInt64 &&& 4294967295
end
end
-- 53.lawcase
section
/-! the law's cases -/
section
variable {l : Launch} {Q : Res → Mem → Prop} {k n : Nat} {M M1 M2 : Mem} {S : Nat × (Nat → Int32)} {o : Nat}
set_option maxRecDepth 4000 in
theorem lc_0 {kk : Int32} {b : Int32} (hs : mS M = S) (ho : o + 5 ≤ S.1) (hS9 : S.1 < 2147483648) (hM : Shp M) (hM1 : Shp M1) (hM2 : Shp M2) (h1 : EvR l jX6_append 1 30 0 0 [.ref 0, .long (l2 (S.2 (o + 1)) (S.2 (o + 2)))] M (.inl (some (.int kk))) M1) (h2 : EvR l jX7_append 4 160 0 0 [.ref 198, .long (l2 (S.2 (o + 1)) (S.2 (o + 2)))] M1 (.inl (some (.int b))) M2) (kont : mS M2 = S → Go l jL_law 14 538 601024 7293034 Q 2752 (AL o) [] k n M2) : Go l jL_law 14 538 601024 7293034 Q 292 (AL o) [] (k + 0) (n + 0) M := by
  refine g_aload_n (pc := 292) dL_law_292 rfl trivial ?_
  refine g_aload_n (pc := 293) dL_law_293 rfl isA_0 ?_
  refine g_iload (pc := 294) dL_law_294 rfl ?_
  refine g_iconst (pc := 296) (v := 1) dL_law_296 rfl ?_
  refine g_iadd (pc := 297) dL_law_297 ?_
  refine g_scriptLoadS (pc := 298) dL_law_298 (nI_o1 _) hs (by omega) (by omega) ?_
  refine g_i2l (pc := 299) dL_law_299 rfl ?_
  refine g_bipush (pc := 300) (v := 32) dL_law_300 rfl ?_
  refine g_lshl (pc := 302) dL_law_302 rfl ?_
  refine g_aload_n (pc := 303) dL_law_303 rfl isA_0 ?_
  refine g_iload (pc := 304) dL_law_304 rfl ?_
  refine g_iconst (pc := 306) (v := 2) dL_law_306 rfl ?_
  refine g_iadd (pc := 307) dL_law_307 ?_
  refine g_scriptLoadS (pc := 308) dL_law_308 (nI_o2 _) hs (by omega) (by omega) ?_
  refine g_i2l (pc := 309) dL_law_309 rfl ?_
  refine g_ldc2 (pc := 310) dL_law_310 wd_1783 ?_
  refine g_land (pc := 313) dL_law_313 ?_
  refine g_lor (pc := 314) dL_law_314 ?_
  refine g_invV_s (pc := 315) (As := [_]) dL_law_315 rfl (h1) rfl rfl (shK hM rfl) rfl rfl lk_L_188 rfl (nb rfl) ⟨nb rfl, nb rfl⟩ rfl (fun e1 => ?_)
  have e1 := e1.trans hs
  refine g_pop (pc := 318) dL_law_318 rfl ?_
  refine g_aload_n (pc := 319) dL_law_319 rfl trivial ?_
  refine g_aload_n (pc := 320) dL_law_320 rfl isA_0 ?_
  refine g_iload (pc := 321) dL_law_321 rfl ?_
  refine g_iconst (pc := 323) (v := 1) dL_law_323 rfl ?_
  refine g_iadd (pc := 324) dL_law_324 ?_
  refine g_scriptLoadS (pc := 325) dL_law_325 (nI_o1 _) e1 (by omega) (by omega) ?_
  refine g_i2l (pc := 326) dL_law_326 rfl ?_
  refine g_bipush (pc := 327) (v := 32) dL_law_327 rfl ?_
  refine g_lshl (pc := 329) dL_law_329 rfl ?_
  refine g_aload_n (pc := 330) dL_law_330 rfl isA_0 ?_
  refine g_iload (pc := 331) dL_law_331 rfl ?_
  refine g_iconst (pc := 333) (v := 2) dL_law_333 rfl ?_
  refine g_iadd (pc := 334) dL_law_334 ?_
  refine g_scriptLoadS (pc := 335) dL_law_335 (nI_o2 _) e1 (by omega) (by omega) ?_
  refine g_i2l (pc := 336) dL_law_336 rfl ?_
  refine g_ldc2 (pc := 337) dL_law_337 wd_1783 ?_
  refine g_land (pc := 340) dL_law_340 ?_
  refine g_lor (pc := 341) dL_law_341 ?_
  refine g_invV_s (pc := 342) (As := [_]) dL_law_342 rfl (h2) rfl rfl (shK hM1 rfl) rfl rfl lk_L_192 rfl (nb rfl) ⟨nb rfl, nb rfl⟩ rfl (fun e2 => ?_)
  have e2 := e2.trans e1
  refine g_pop (pc := 345) dL_law_345 rfl ?_
  refine g_goto (pc := 346) (tgt := 2752) dL_law_346 rfl ?_
  exact g_sub (lv' := AL o) ⟨rfl, rfl, rfl, rfl, rfl, rfl, trivial⟩ (kont e2)
set_option maxRecDepth 4000 in
theorem lc_1 {kk : Int32} {b : Int32} (hs : mS M = S) (ho : o + 5 ≤ S.1) (hS9 : S.1 < 2147483648) (hM : Shp M) (hM1 : Shp M1) (hM2 : Shp M2) (h1 : EvR l jX6_load 9 260 0 0 [.ref 0] M (.inl (some (.int kk))) M1) (h2 : EvR l jX7_load 8 220 0 0 [.ref 198] M1 (.inl (some (.int b))) M2) (kont : mS M2 = S → Go l jL_law 14 538 601024 7293034 Q 2752 (AL o) [] k n M2) : Go l jL_law 14 538 601024 7293034 Q 349 (AL o) [] (k + 0) (n + 0) M := by
  refine g_aload_n (pc := 349) dL_law_349 rfl trivial ?_
  refine g_invV_s (pc := 350) (As := []) dL_law_350 rfl (h1) rfl rfl (shK hM rfl) rfl rfl lk_L_193 rfl (nb rfl) ⟨nb rfl, nb rfl⟩ rfl (fun e1 => ?_)
  have e1 := e1.trans hs
  refine g_pop (pc := 353) dL_law_353 rfl ?_
  refine g_aload_n (pc := 354) dL_law_354 rfl trivial ?_
  refine g_invV_s (pc := 355) (As := []) dL_law_355 rfl (h2) rfl rfl (shK hM1 rfl) rfl rfl lk_L_197 rfl (nb rfl) ⟨nb rfl, nb rfl⟩ rfl (fun e2 => ?_)
  have e2 := e2.trans e1
  refine g_pop (pc := 358) dL_law_358 rfl ?_
  refine g_goto (pc := 359) (tgt := 2752) dL_law_359 rfl ?_
  exact g_sub (lv' := AL o) ⟨rfl, rfl, rfl, rfl, rfl, rfl, trivial⟩ (kont e2)
set_option maxRecDepth 4000 in
theorem lc_2 {kk : Int32} {b : Int32} (hs : mS M = S) (ho : o + 5 ≤ S.1) (hS9 : S.1 < 2147483648) (hM : Shp M) (hM1 : Shp M1) (hM2 : Shp M2) (h1 : EvR l jX6_loadError 0 0 0 0 [.ref 0] M (.inl (some (.int kk))) M1) (h2 : EvR l jX7_loadError 4 160 0 0 [.ref 198] M1 (.inl (some (.int b))) M2) (kont : mS M2 = S → Go l jL_law 14 538 601024 7293034 Q 2752 (AL o) [] k n M2) : Go l jL_law 14 538 601024 7293034 Q 362 (AL o) [] (k + 0) (n + 0) M := by
  refine g_aload_n (pc := 362) dL_law_362 rfl trivial ?_
  refine g_invV_s (pc := 363) (As := []) dL_law_363 rfl (h1) rfl rfl (shK hM rfl) rfl rfl lk_L_198 rfl (nb rfl) ⟨nb rfl, nb rfl⟩ rfl (fun e1 => ?_)
  have e1 := e1.trans hs
  refine g_pop (pc := 366) dL_law_366 rfl ?_
  refine g_aload_n (pc := 367) dL_law_367 rfl trivial ?_
  refine g_invV_s (pc := 368) (As := []) dL_law_368 rfl (h2) rfl rfl (shK hM1 rfl) rfl rfl lk_L_201 rfl (nb rfl) ⟨nb rfl, nb rfl⟩ rfl (fun e2 => ?_)
  have e2 := e2.trans e1
  refine g_pop (pc := 371) dL_law_371 rfl ?_
  refine g_goto (pc := 372) (tgt := 2752) dL_law_372 rfl ?_
  exact g_sub (lv' := AL o) ⟨rfl, rfl, rfl, rfl, rfl, rfl, trivial⟩ (kont e2)
set_option maxRecDepth 4000 in
theorem lc_3 {kk : Int32} {b : Int32} (hs : mS M = S) (ho : o + 5 ≤ S.1) (hS9 : S.1 < 2147483648) (hM : Shp M) (hM1 : Shp M1) (hM2 : Shp M2) (h1 : EvR l jX6_loadStatement 0 0 0 0 [.ref 0] M (.inl (some (.int kk))) M1) (h2 : EvR l jX7_loadStatement 4 160 0 0 [.ref 198] M1 (.inl (some (.int b))) M2) (kont : mS M2 = S → Go l jL_law 14 538 601024 7293034 Q 2752 (AL o) [] k n M2) : Go l jL_law 14 538 601024 7293034 Q 375 (AL o) [] (k + 0) (n + 0) M := by
  refine g_aload_n (pc := 375) dL_law_375 rfl trivial ?_
  refine g_invV_s (pc := 376) (As := []) dL_law_376 rfl (h1) rfl rfl (shK hM rfl) rfl rfl lk_L_202 rfl (nb rfl) ⟨nb rfl, nb rfl⟩ rfl (fun e1 => ?_)
  have e1 := e1.trans hs
  refine g_pop (pc := 379) dL_law_379 rfl ?_
  refine g_aload_n (pc := 380) dL_law_380 rfl trivial ?_
  refine g_invV_s (pc := 381) (As := []) dL_law_381 rfl (h2) rfl rfl (shK hM1 rfl) rfl rfl lk_L_205 rfl (nb rfl) ⟨nb rfl, nb rfl⟩ rfl (fun e2 => ?_)
  have e2 := e2.trans e1
  refine g_pop (pc := 384) dL_law_384 rfl ?_
  refine g_goto (pc := 385) (tgt := 2752) dL_law_385 rfl ?_
  exact g_sub (lv' := AL o) ⟨rfl, rfl, rfl, rfl, rfl, rfl, trivial⟩ (kont e2)
set_option maxRecDepth 4000 in
theorem lc_4 {kk : Int32} {b : Int32} (hs : mS M = S) (ho : o + 5 ≤ S.1) (hS9 : S.1 < 2147483648) (hM : Shp M) (hM1 : Shp M1) (hM2 : Shp M2) (h1 : EvR l jL_count 8 141 1 6 [.ref 0, .int (S.2 (o + 1)), .ref 212] M (.inl (some (.int kk))) M1) (h2 : EvR l jX7_count 4 160 0 0 [.ref 198, .int (S.2 (o + 1))] M1 (.inl (some (.int b))) M2) (kont : mS M2 = S → Go l jL_law 14 538 601024 7293034 Q 2752 (AL o) [] k n M2) : Go l jL_law 14 538 601024 7293034 Q 388 (AL o) [] (k + 1) (n + 6) M := by
  refine g_aload_n (pc := 388) dL_law_388 rfl trivial ?_
  refine g_aload_n (pc := 389) dL_law_389 rfl isA_0 ?_
  refine g_iload (pc := 390) dL_law_390 rfl ?_
  refine g_iconst (pc := 392) (v := 1) dL_law_392 rfl ?_
  refine g_iadd (pc := 393) dL_law_393 ?_
  refine g_scriptLoadS (pc := 394) dL_law_394 (nI_o1 _) hs (by omega) (by omega) ?_
  refine g_aload_n (pc := 395) dL_law_395 rfl trivial ?_
  refine g_invSX_s (pc := 396) (As := [_, _, _]) dL_law_396 rfl (h1) rfl rfl lk_L_206 rfl (nb rfl) ⟨nb rfl, nb rfl⟩ rfl (fun e1 => ?_)
  have e1 := e1.trans hs
  refine g_istore (pc := 399) (lv' := [(0, _), (1, _), (2, _), (3, _), (4, _), (5, _), (6, _)]) dL_law_399 (nl rfl) rfl ?_
  refine g_aload_n (pc := 401) dL_law_401 rfl trivial ?_
  refine g_aload_n (pc := 402) dL_law_402 rfl isA_0 ?_
  refine g_iload (pc := 403) dL_law_403 rfl ?_
  refine g_iconst (pc := 405) (v := 1) dL_law_405 rfl ?_
  refine g_iadd (pc := 406) dL_law_406 ?_
  refine g_scriptLoadS (pc := 407) dL_law_407 (nI_o1 _) e1 (by omega) (by omega) ?_
  refine g_invV_s (pc := 408) (As := [_]) dL_law_408 rfl (h2) rfl rfl (shK hM1 rfl) rfl rfl lk_L_211 rfl (nb rfl) ⟨nb rfl, nb rfl⟩ rfl (fun e2 => ?_)
  have e2 := e2.trans e1
  refine g_istore (pc := 411) (lv' := [(0, _), (1, _), (2, _), (3, _), (4, _), (5, _), (6, _), (7, _)]) dL_law_411 (nl rfl) rfl ?_
  refine g_goto (pc := 413) (tgt := 2752) dL_law_413 rfl ?_
  exact g_sub (lv' := AL o) ⟨rfl, rfl, rfl, rfl, rfl, rfl, trivial⟩ (kont e2)
set_option maxRecDepth 4000 in
theorem lc_5 {kk : Int32} {b : Int32} (hs : mS M = S) (ho : o + 5 ≤ S.1) (hS9 : S.1 < 2147483648) (hM : Shp M) (hM1 : Shp M1) (hM2 : Shp M2) (h1 : EvR l jL_bit 10 183 3 18 [.ref 0, .int (S.2 (o + 1)), .int (S.2 (o + 2)), .int (S.2 (o + 3)), .ref 212] M (.inl (some (.int kk))) M1) (h2 : EvR l jX7_bit 4 160 0 0 [.ref 198, .int (S.2 (o + 1)), .int (S.2 (o + 2)), .int (S.2 (o + 3))] M1 (.inl (some (.int b))) M2) (kont : mS M2 = S → Go l jL_law 14 538 601024 7293034 Q 2752 (AL o) [] k n M2) : Go l jL_law 14 538 601024 7293034 Q 416 (AL o) [] (k + 3) (n + 18) M := by
  refine g_aload_n (pc := 416) dL_law_416 rfl trivial ?_
  refine g_aload_n (pc := 417) dL_law_417 rfl isA_0 ?_
  refine g_iload (pc := 418) dL_law_418 rfl ?_
  refine g_iconst (pc := 420) (v := 1) dL_law_420 rfl ?_
  refine g_iadd (pc := 421) dL_law_421 ?_
  refine g_scriptLoadS (pc := 422) dL_law_422 (nI_o1 _) hs (by omega) (by omega) ?_
  refine g_aload_n (pc := 423) dL_law_423 rfl isA_0 ?_
  refine g_iload (pc := 424) dL_law_424 rfl ?_
  refine g_iconst (pc := 426) (v := 2) dL_law_426 rfl ?_
  refine g_iadd (pc := 427) dL_law_427 ?_
  refine g_scriptLoadS (pc := 428) dL_law_428 (nI_o2 _) hs (by omega) (by omega) ?_
  refine g_aload_n (pc := 429) dL_law_429 rfl isA_0 ?_
  refine g_iload (pc := 430) dL_law_430 rfl ?_
  refine g_iconst (pc := 432) (v := 3) dL_law_432 rfl ?_
  refine g_iadd (pc := 433) dL_law_433 ?_
  refine g_scriptLoadS (pc := 434) dL_law_434 (nI_o3 _) hs (by omega) (by omega) ?_
  refine g_aload_n (pc := 435) dL_law_435 rfl trivial ?_
  refine g_invSX_s (pc := 436) (As := [_, _, _, _, _]) dL_law_436 rfl (h1) rfl rfl lk_L_212 rfl (nb rfl) ⟨nb rfl, nb rfl⟩ rfl (fun e1 => ?_)
  have e1 := e1.trans hs
  refine g_istore (pc := 439) (lv' := [(0, _), (1, _), (2, _), (3, _), (4, _), (5, _), (6, _)]) dL_law_439 (nl rfl) rfl ?_
  refine g_aload_n (pc := 441) dL_law_441 rfl trivial ?_
  refine g_aload_n (pc := 442) dL_law_442 rfl isA_0 ?_
  refine g_iload (pc := 443) dL_law_443 rfl ?_
  refine g_iconst (pc := 445) (v := 1) dL_law_445 rfl ?_
  refine g_iadd (pc := 446) dL_law_446 ?_
  refine g_scriptLoadS (pc := 447) dL_law_447 (nI_o1 _) e1 (by omega) (by omega) ?_
  refine g_aload_n (pc := 448) dL_law_448 rfl isA_0 ?_
  refine g_iload (pc := 449) dL_law_449 rfl ?_
  refine g_iconst (pc := 451) (v := 2) dL_law_451 rfl ?_
  refine g_iadd (pc := 452) dL_law_452 ?_
  refine g_scriptLoadS (pc := 453) dL_law_453 (nI_o2 _) e1 (by omega) (by omega) ?_
  refine g_aload_n (pc := 454) dL_law_454 rfl isA_0 ?_
  refine g_iload (pc := 455) dL_law_455 rfl ?_
  refine g_iconst (pc := 457) (v := 3) dL_law_457 rfl ?_
  refine g_iadd (pc := 458) dL_law_458 ?_
  refine g_scriptLoadS (pc := 459) dL_law_459 (nI_o3 _) e1 (by omega) (by omega) ?_
  refine g_invV_s (pc := 460) (As := [_, _, _]) dL_law_460 rfl (h2) rfl rfl (shK hM1 rfl) rfl rfl lk_L_215 rfl (nb rfl) ⟨nb rfl, nb rfl⟩ rfl (fun e2 => ?_)
  have e2 := e2.trans e1
  refine g_istore (pc := 463) (lv' := [(0, _), (1, _), (2, _), (3, _), (4, _), (5, _), (6, _), (7, _)]) dL_law_463 (nl rfl) rfl ?_
  refine g_goto (pc := 465) (tgt := 2752) dL_law_465 rfl ?_
  exact g_sub (lv' := AL o) ⟨rfl, rfl, rfl, rfl, rfl, rfl, trivial⟩ (kont e2)
set_option maxRecDepth 4000 in
theorem lc_6 {kk : Int32} {b : Int64} (hs : mS M = S) (ho : o + 5 ≤ S.1) (hS9 : S.1 < 2147483648) (hM : Shp M) (hM1 : Shp M1) (hM2 : Shp M2) (h1 : EvR l jL_row 9 162 2 12 [.ref 0, .int (S.2 (o + 1)), .int (S.2 (o + 2)), .ref 212] M (.inl (some (.int kk))) M1) (h2 : EvR l jX7_row 4 160 0 0 [.ref 198, .int (S.2 (o + 1)), .int (S.2 (o + 2))] M1 (.inl (some (.long b))) M2) (kont : mS M2 = S → Go l jL_law 14 538 601024 7293034 Q 2752 (AL o) [] k n M2) : Go l jL_law 14 538 601024 7293034 Q 468 (AL o) [] (k + 2) (n + 12) M := by
  refine g_aload_n (pc := 468) dL_law_468 rfl trivial ?_
  refine g_aload_n (pc := 469) dL_law_469 rfl isA_0 ?_
  refine g_iload (pc := 470) dL_law_470 rfl ?_
  refine g_iconst (pc := 472) (v := 1) dL_law_472 rfl ?_
  refine g_iadd (pc := 473) dL_law_473 ?_
  refine g_scriptLoadS (pc := 474) dL_law_474 (nI_o1 _) hs (by omega) (by omega) ?_
  refine g_aload_n (pc := 475) dL_law_475 rfl isA_0 ?_
  refine g_iload (pc := 476) dL_law_476 rfl ?_
  refine g_iconst (pc := 478) (v := 2) dL_law_478 rfl ?_
  refine g_iadd (pc := 479) dL_law_479 ?_
  refine g_scriptLoadS (pc := 480) dL_law_480 (nI_o2 _) hs (by omega) (by omega) ?_
  refine g_aload_n (pc := 481) dL_law_481 rfl trivial ?_
  refine g_invSX_s (pc := 482) (As := [_, _, _, _]) dL_law_482 rfl (h1) rfl rfl lk_L_216 rfl (nb rfl) ⟨nb rfl, nb rfl⟩ rfl (fun e1 => ?_)
  have e1 := e1.trans hs
  refine g_istore (pc := 485) (lv' := [(0, _), (1, _), (2, _), (3, _), (4, _), (5, _), (6, _)]) dL_law_485 (nl rfl) rfl ?_
  refine g_aload_n (pc := 487) dL_law_487 rfl trivial ?_
  refine g_aload_n (pc := 488) dL_law_488 rfl isA_0 ?_
  refine g_iload (pc := 489) dL_law_489 rfl ?_
  refine g_iconst (pc := 491) (v := 1) dL_law_491 rfl ?_
  refine g_iadd (pc := 492) dL_law_492 ?_
  refine g_scriptLoadS (pc := 493) dL_law_493 (nI_o1 _) e1 (by omega) (by omega) ?_
  refine g_aload_n (pc := 494) dL_law_494 rfl isA_0 ?_
  refine g_iload (pc := 495) dL_law_495 rfl ?_
  refine g_iconst (pc := 497) (v := 2) dL_law_497 rfl ?_
  refine g_iadd (pc := 498) dL_law_498 ?_
  refine g_scriptLoadS (pc := 499) dL_law_499 (nI_o2 _) e1 (by omega) (by omega) ?_
  refine g_invV_s (pc := 500) (As := [_, _]) dL_law_500 rfl (h2) rfl rfl (shK hM1 rfl) rfl rfl lk_L_219 rfl (nb rfl) ⟨nb rfl, nb rfl⟩ rfl (fun e2 => ?_)
  have e2 := e2.trans e1
  refine g_lstore (pc := 503) (lv' := [(0, _), (1, _), (2, _), (3, _), (4, _), (5, _), (6, _), (7, _)]) dL_law_503 (nl rfl) rfl ?_
  refine g_goto (pc := 505) (tgt := 2752) dL_law_505 rfl ?_
  exact g_sub (lv' := AL o) ⟨rfl, rfl, rfl, rfl, rfl, rfl, trivial⟩ (kont e2)
set_option maxRecDepth 4000 in
theorem lc_7 {kk : Int32} {b : Int32} (hs : mS M = S) (ho : o + 5 ≤ S.1) (hS9 : S.1 < 2147483648) (hM : Shp M) (hM1 : Shp M1) (hM2 : Shp M2) (h1 : EvR l jL_rank 9 163 3 18 [.ref 0, .int (S.2 (o + 1)), .int (S.2 (o + 2)), .int (S.2 (o + 3)), .ref 212] M (.inl (some (.int kk))) M1) (h2 : EvR l jX7_rank 4 160 0 0 [.ref 198, .int (S.2 (o + 1)), .int (S.2 (o + 2)), .int (S.2 (o + 3))] M1 (.inl (some (.int b))) M2) (kont : mS M2 = S → Go l jL_law 14 538 601024 7293034 Q 2752 (AL o) [] k n M2) : Go l jL_law 14 538 601024 7293034 Q 508 (AL o) [] (k + 3) (n + 18) M := by
  refine g_aload_n (pc := 508) dL_law_508 rfl trivial ?_
  refine g_aload_n (pc := 509) dL_law_509 rfl isA_0 ?_
  refine g_iload (pc := 510) dL_law_510 rfl ?_
  refine g_iconst (pc := 512) (v := 1) dL_law_512 rfl ?_
  refine g_iadd (pc := 513) dL_law_513 ?_
  refine g_scriptLoadS (pc := 514) dL_law_514 (nI_o1 _) hs (by omega) (by omega) ?_
  refine g_aload_n (pc := 515) dL_law_515 rfl isA_0 ?_
  refine g_iload (pc := 516) dL_law_516 rfl ?_
  refine g_iconst (pc := 518) (v := 2) dL_law_518 rfl ?_
  refine g_iadd (pc := 519) dL_law_519 ?_
  refine g_scriptLoadS (pc := 520) dL_law_520 (nI_o2 _) hs (by omega) (by omega) ?_
  refine g_aload_n (pc := 521) dL_law_521 rfl isA_0 ?_
  refine g_iload (pc := 522) dL_law_522 rfl ?_
  refine g_iconst (pc := 524) (v := 3) dL_law_524 rfl ?_
  refine g_iadd (pc := 525) dL_law_525 ?_
  refine g_scriptLoadS (pc := 526) dL_law_526 (nI_o3 _) hs (by omega) (by omega) ?_
  refine g_aload_n (pc := 527) dL_law_527 rfl trivial ?_
  refine g_invSX_s (pc := 528) (As := [_, _, _, _, _]) dL_law_528 rfl (h1) rfl rfl lk_L_220 rfl (nb rfl) ⟨nb rfl, nb rfl⟩ rfl (fun e1 => ?_)
  have e1 := e1.trans hs
  refine g_istore (pc := 531) (lv' := [(0, _), (1, _), (2, _), (3, _), (4, _), (5, _), (6, _)]) dL_law_531 (nl rfl) rfl ?_
  refine g_aload_n (pc := 533) dL_law_533 rfl trivial ?_
  refine g_aload_n (pc := 534) dL_law_534 rfl isA_0 ?_
  refine g_iload (pc := 535) dL_law_535 rfl ?_
  refine g_iconst (pc := 537) (v := 1) dL_law_537 rfl ?_
  refine g_iadd (pc := 538) dL_law_538 ?_
  refine g_scriptLoadS (pc := 539) dL_law_539 (nI_o1 _) e1 (by omega) (by omega) ?_
  refine g_aload_n (pc := 540) dL_law_540 rfl isA_0 ?_
  refine g_iload (pc := 541) dL_law_541 rfl ?_
  refine g_iconst (pc := 543) (v := 2) dL_law_543 rfl ?_
  refine g_iadd (pc := 544) dL_law_544 ?_
  refine g_scriptLoadS (pc := 545) dL_law_545 (nI_o2 _) e1 (by omega) (by omega) ?_
  refine g_aload_n (pc := 546) dL_law_546 rfl isA_0 ?_
  refine g_iload (pc := 547) dL_law_547 rfl ?_
  refine g_iconst (pc := 549) (v := 3) dL_law_549 rfl ?_
  refine g_iadd (pc := 550) dL_law_550 ?_
  refine g_scriptLoadS (pc := 551) dL_law_551 (nI_o3 _) e1 (by omega) (by omega) ?_
  refine g_invV_s (pc := 552) (As := [_, _, _]) dL_law_552 rfl (h2) rfl rfl (shK hM1 rfl) rfl rfl lk_L_222 rfl (nb rfl) ⟨nb rfl, nb rfl⟩ rfl (fun e2 => ?_)
  have e2 := e2.trans e1
  refine g_istore (pc := 555) (lv' := [(0, _), (1, _), (2, _), (3, _), (4, _), (5, _), (6, _), (7, _)]) dL_law_555 (nl rfl) rfl ?_
  refine g_goto (pc := 557) (tgt := 2752) dL_law_557 rfl ?_
  exact g_sub (lv' := AL o) ⟨rfl, rfl, rfl, rfl, rfl, rfl, trivial⟩ (kont e2)
set_option maxRecDepth 4000 in
theorem lc_8 {kk : Int32} {b : Int32} (hs : mS M = S) (ho : o + 5 ≤ S.1) (hS9 : S.1 < 2147483648) (hM : Shp M) (hM1 : Shp M1) (hM2 : Shp M2) (h1 : EvR l jL_select 9 163 2 12 [.ref 0, .int (S.2 (o + 1)), .int (S.2 (o + 2)), .int (S.2 (o + 3)), .ref 212] M (.inl (some (.int kk))) M1) (h2 : EvR l jX7_select 4 160 0 0 [.ref 198, .int (S.2 (o + 1)), .int (S.2 (o + 2)), .int (S.2 (o + 3))] M1 (.inl (some (.int b))) M2) (kont : mS M2 = S → Go l jL_law 14 538 601024 7293034 Q 2752 (AL o) [] k n M2) : Go l jL_law 14 538 601024 7293034 Q 560 (AL o) [] (k + 2) (n + 12) M := by
  refine g_aload_n (pc := 560) dL_law_560 rfl trivial ?_
  refine g_aload_n (pc := 561) dL_law_561 rfl isA_0 ?_
  refine g_iload (pc := 562) dL_law_562 rfl ?_
  refine g_iconst (pc := 564) (v := 1) dL_law_564 rfl ?_
  refine g_iadd (pc := 565) dL_law_565 ?_
  refine g_scriptLoadS (pc := 566) dL_law_566 (nI_o1 _) hs (by omega) (by omega) ?_
  refine g_aload_n (pc := 567) dL_law_567 rfl isA_0 ?_
  refine g_iload (pc := 568) dL_law_568 rfl ?_
  refine g_iconst (pc := 570) (v := 2) dL_law_570 rfl ?_
  refine g_iadd (pc := 571) dL_law_571 ?_
  refine g_scriptLoadS (pc := 572) dL_law_572 (nI_o2 _) hs (by omega) (by omega) ?_
  refine g_aload_n (pc := 573) dL_law_573 rfl isA_0 ?_
  refine g_iload (pc := 574) dL_law_574 rfl ?_
  refine g_iconst (pc := 576) (v := 3) dL_law_576 rfl ?_
  refine g_iadd (pc := 577) dL_law_577 ?_
  refine g_scriptLoadS (pc := 578) dL_law_578 (nI_o3 _) hs (by omega) (by omega) ?_
  refine g_aload_n (pc := 579) dL_law_579 rfl trivial ?_
  refine g_invSX_s (pc := 580) (As := [_, _, _, _, _]) dL_law_580 rfl (h1) rfl rfl lk_L_223 rfl (nb rfl) ⟨nb rfl, nb rfl⟩ rfl (fun e1 => ?_)
  have e1 := e1.trans hs
  refine g_istore (pc := 583) (lv' := [(0, _), (1, _), (2, _), (3, _), (4, _), (5, _), (6, _)]) dL_law_583 (nl rfl) rfl ?_
  refine g_aload_n (pc := 585) dL_law_585 rfl trivial ?_
  refine g_aload_n (pc := 586) dL_law_586 rfl isA_0 ?_
  refine g_iload (pc := 587) dL_law_587 rfl ?_
  refine g_iconst (pc := 589) (v := 1) dL_law_589 rfl ?_
  refine g_iadd (pc := 590) dL_law_590 ?_
  refine g_scriptLoadS (pc := 591) dL_law_591 (nI_o1 _) e1 (by omega) (by omega) ?_
  refine g_aload_n (pc := 592) dL_law_592 rfl isA_0 ?_
  refine g_iload (pc := 593) dL_law_593 rfl ?_
  refine g_iconst (pc := 595) (v := 2) dL_law_595 rfl ?_
  refine g_iadd (pc := 596) dL_law_596 ?_
  refine g_scriptLoadS (pc := 597) dL_law_597 (nI_o2 _) e1 (by omega) (by omega) ?_
  refine g_aload_n (pc := 598) dL_law_598 rfl isA_0 ?_
  refine g_iload (pc := 599) dL_law_599 rfl ?_
  refine g_iconst (pc := 601) (v := 3) dL_law_601 rfl ?_
  refine g_iadd (pc := 602) dL_law_602 ?_
  refine g_scriptLoadS (pc := 603) dL_law_603 (nI_o3 _) e1 (by omega) (by omega) ?_
  refine g_invV_s (pc := 604) (As := [_, _, _]) dL_law_604 rfl (h2) rfl rfl (shK hM1 rfl) rfl rfl lk_L_225 rfl (nb rfl) ⟨nb rfl, nb rfl⟩ rfl (fun e2 => ?_)
  have e2 := e2.trans e1
  refine g_istore (pc := 607) (lv' := [(0, _), (1, _), (2, _), (3, _), (4, _), (5, _), (6, _), (7, _)]) dL_law_607 (nl rfl) rfl ?_
  refine g_goto (pc := 609) (tgt := 2752) dL_law_609 rfl ?_
  exact g_sub (lv' := AL o) ⟨rfl, rfl, rfl, rfl, rfl, rfl, trivial⟩ (kont e2)
set_option maxRecDepth 4000 in
theorem lc_9 {kk : Int32} {b : Int32} (hs : mS M = S) (ho : o + 5 ≤ S.1) (hS9 : S.1 < 2147483648) (hM : Shp M) (hM1 : Shp M1) (hM2 : Shp M2) (h1 : EvR l jL_ones 8 141 1 6 [.ref 0, .int (S.2 (o + 1)), .ref 212] M (.inl (some (.int kk))) M1) (h2 : EvR l jX7_ones 4 160 0 0 [.ref 198, .int (S.2 (o + 1))] M1 (.inl (some (.int b))) M2) (kont : mS M2 = S → Go l jL_law 14 538 601024 7293034 Q 2752 (AL o) [] k n M2) : Go l jL_law 14 538 601024 7293034 Q 612 (AL o) [] (k + 1) (n + 6) M := by
  refine g_aload_n (pc := 612) dL_law_612 rfl trivial ?_
  refine g_aload_n (pc := 613) dL_law_613 rfl isA_0 ?_
  refine g_iload (pc := 614) dL_law_614 rfl ?_
  refine g_iconst (pc := 616) (v := 1) dL_law_616 rfl ?_
  refine g_iadd (pc := 617) dL_law_617 ?_
  refine g_scriptLoadS (pc := 618) dL_law_618 (nI_o1 _) hs (by omega) (by omega) ?_
  refine g_aload_n (pc := 619) dL_law_619 rfl trivial ?_
  refine g_invSX_s (pc := 620) (As := [_, _, _]) dL_law_620 rfl (h1) rfl rfl lk_L_226 rfl (nb rfl) ⟨nb rfl, nb rfl⟩ rfl (fun e1 => ?_)
  have e1 := e1.trans hs
  refine g_istore (pc := 623) (lv' := [(0, _), (1, _), (2, _), (3, _), (4, _), (5, _), (6, _)]) dL_law_623 (nl rfl) rfl ?_
  refine g_aload_n (pc := 625) dL_law_625 rfl trivial ?_
  refine g_aload_n (pc := 626) dL_law_626 rfl isA_0 ?_
  refine g_iload (pc := 627) dL_law_627 rfl ?_
  refine g_iconst (pc := 629) (v := 1) dL_law_629 rfl ?_
  refine g_iadd (pc := 630) dL_law_630 ?_
  refine g_scriptLoadS (pc := 631) dL_law_631 (nI_o1 _) e1 (by omega) (by omega) ?_
  refine g_invV_s (pc := 632) (As := [_]) dL_law_632 rfl (h2) rfl rfl (shK hM1 rfl) rfl rfl lk_L_228 rfl (nb rfl) ⟨nb rfl, nb rfl⟩ rfl (fun e2 => ?_)
  have e2 := e2.trans e1
  refine g_istore (pc := 635) (lv' := [(0, _), (1, _), (2, _), (3, _), (4, _), (5, _), (6, _), (7, _)]) dL_law_635 (nl rfl) rfl ?_
  refine g_goto (pc := 637) (tgt := 2752) dL_law_637 rfl ?_
  exact g_sub (lv' := AL o) ⟨rfl, rfl, rfl, rfl, rfl, rfl, trivial⟩ (kont e2)
set_option maxRecDepth 4000 in
theorem lc_10 {kk : Int32} {b : Int32} (hs : mS M = S) (ho : o + 5 ≤ S.1) (hS9 : S.1 < 2147483648) (hM : Shp M) (hM1 : Shp M1) (hM2 : Shp M2) (h1 : EvR l jL_columnOnes 9 162 2 12 [.ref 0, .int (S.2 (o + 1)), .int (S.2 (o + 2)), .ref 212] M (.inl (some (.int kk))) M1) (h2 : EvR l jX7_columnOnes 4 160 0 0 [.ref 198, .int (S.2 (o + 1)), .int (S.2 (o + 2))] M1 (.inl (some (.int b))) M2) (kont : mS M2 = S → Go l jL_law 14 538 601024 7293034 Q 2752 (AL o) [] k n M2) : Go l jL_law 14 538 601024 7293034 Q 640 (AL o) [] (k + 2) (n + 12) M := by
  refine g_aload_n (pc := 640) dL_law_640 rfl trivial ?_
  refine g_aload_n (pc := 641) dL_law_641 rfl isA_0 ?_
  refine g_iload (pc := 642) dL_law_642 rfl ?_
  refine g_iconst (pc := 644) (v := 1) dL_law_644 rfl ?_
  refine g_iadd (pc := 645) dL_law_645 ?_
  refine g_scriptLoadS (pc := 646) dL_law_646 (nI_o1 _) hs (by omega) (by omega) ?_
  refine g_aload_n (pc := 647) dL_law_647 rfl isA_0 ?_
  refine g_iload (pc := 648) dL_law_648 rfl ?_
  refine g_iconst (pc := 650) (v := 2) dL_law_650 rfl ?_
  refine g_iadd (pc := 651) dL_law_651 ?_
  refine g_scriptLoadS (pc := 652) dL_law_652 (nI_o2 _) hs (by omega) (by omega) ?_
  refine g_aload_n (pc := 653) dL_law_653 rfl trivial ?_
  refine g_invSX_s (pc := 654) (As := [_, _, _, _]) dL_law_654 rfl (h1) rfl rfl lk_L_229 rfl (nb rfl) ⟨nb rfl, nb rfl⟩ rfl (fun e1 => ?_)
  have e1 := e1.trans hs
  refine g_istore (pc := 657) (lv' := [(0, _), (1, _), (2, _), (3, _), (4, _), (5, _), (6, _)]) dL_law_657 (nl rfl) rfl ?_
  refine g_aload_n (pc := 659) dL_law_659 rfl trivial ?_
  refine g_aload_n (pc := 660) dL_law_660 rfl isA_0 ?_
  refine g_iload (pc := 661) dL_law_661 rfl ?_
  refine g_iconst (pc := 663) (v := 1) dL_law_663 rfl ?_
  refine g_iadd (pc := 664) dL_law_664 ?_
  refine g_scriptLoadS (pc := 665) dL_law_665 (nI_o1 _) e1 (by omega) (by omega) ?_
  refine g_aload_n (pc := 666) dL_law_666 rfl isA_0 ?_
  refine g_iload (pc := 667) dL_law_667 rfl ?_
  refine g_iconst (pc := 669) (v := 2) dL_law_669 rfl ?_
  refine g_iadd (pc := 670) dL_law_670 ?_
  refine g_scriptLoadS (pc := 671) dL_law_671 (nI_o2 _) e1 (by omega) (by omega) ?_
  refine g_invV_s (pc := 672) (As := [_, _]) dL_law_672 rfl (h2) rfl rfl (shK hM1 rfl) rfl rfl lk_L_231 rfl (nb rfl) ⟨nb rfl, nb rfl⟩ rfl (fun e2 => ?_)
  have e2 := e2.trans e1
  refine g_istore (pc := 675) (lv' := [(0, _), (1, _), (2, _), (3, _), (4, _), (5, _), (6, _), (7, _)]) dL_law_675 (nl rfl) rfl ?_
  refine g_goto (pc := 677) (tgt := 2752) dL_law_677 rfl ?_
  exact g_sub (lv' := AL o) ⟨rfl, rfl, rfl, rfl, rfl, rfl, trivial⟩ (kont e2)
set_option maxRecDepth 4000 in
theorem lc_11 {kk : Int32} {b : Int32} (hs : mS M = S) (ho : o + 5 ≤ S.1) (hS9 : S.1 < 2147483648) (hM : Shp M) (hM1 : Shp M1) (hM2 : Shp M2) (h1 : EvR l jL_sameAs 9 162 2 12 [.ref 0, .int (S.2 (o + 1)), .int (S.2 (o + 2)), .ref 212] M (.inl (some (.int kk))) M1) (h2 : EvR l jX7_sameAs 4 160 0 0 [.ref 198, .int (S.2 (o + 1)), .int (S.2 (o + 2))] M1 (.inl (some (.int b))) M2) (kont : mS M2 = S → Go l jL_law 14 538 601024 7293034 Q 2752 (AL o) [] k n M2) : Go l jL_law 14 538 601024 7293034 Q 680 (AL o) [] (k + 2) (n + 12) M := by
  refine g_aload_n (pc := 680) dL_law_680 rfl trivial ?_
  refine g_aload_n (pc := 681) dL_law_681 rfl isA_0 ?_
  refine g_iload (pc := 682) dL_law_682 rfl ?_
  refine g_iconst (pc := 684) (v := 1) dL_law_684 rfl ?_
  refine g_iadd (pc := 685) dL_law_685 ?_
  refine g_scriptLoadS (pc := 686) dL_law_686 (nI_o1 _) hs (by omega) (by omega) ?_
  refine g_aload_n (pc := 687) dL_law_687 rfl isA_0 ?_
  refine g_iload (pc := 688) dL_law_688 rfl ?_
  refine g_iconst (pc := 690) (v := 2) dL_law_690 rfl ?_
  refine g_iadd (pc := 691) dL_law_691 ?_
  refine g_scriptLoadS (pc := 692) dL_law_692 (nI_o2 _) hs (by omega) (by omega) ?_
  refine g_aload_n (pc := 693) dL_law_693 rfl trivial ?_
  refine g_invSX_s (pc := 694) (As := [_, _, _, _]) dL_law_694 rfl (h1) rfl rfl lk_L_232 rfl (nb rfl) ⟨nb rfl, nb rfl⟩ rfl (fun e1 => ?_)
  have e1 := e1.trans hs
  refine g_istore (pc := 697) (lv' := [(0, _), (1, _), (2, _), (3, _), (4, _), (5, _), (6, _)]) dL_law_697 (nl rfl) rfl ?_
  refine g_aload_n (pc := 699) dL_law_699 rfl trivial ?_
  refine g_aload_n (pc := 700) dL_law_700 rfl isA_0 ?_
  refine g_iload (pc := 701) dL_law_701 rfl ?_
  refine g_iconst (pc := 703) (v := 1) dL_law_703 rfl ?_
  refine g_iadd (pc := 704) dL_law_704 ?_
  refine g_scriptLoadS (pc := 705) dL_law_705 (nI_o1 _) e1 (by omega) (by omega) ?_
  refine g_aload_n (pc := 706) dL_law_706 rfl isA_0 ?_
  refine g_iload (pc := 707) dL_law_707 rfl ?_
  refine g_iconst (pc := 709) (v := 2) dL_law_709 rfl ?_
  refine g_iadd (pc := 710) dL_law_710 ?_
  refine g_scriptLoadS (pc := 711) dL_law_711 (nI_o2 _) e1 (by omega) (by omega) ?_
  refine g_invV_s (pc := 712) (As := [_, _]) dL_law_712 rfl (h2) rfl rfl (shK hM1 rfl) rfl rfl lk_L_234 rfl (nb rfl) ⟨nb rfl, nb rfl⟩ rfl (fun e2 => ?_)
  have e2 := e2.trans e1
  refine g_istore (pc := 715) (lv' := [(0, _), (1, _), (2, _), (3, _), (4, _), (5, _), (6, _), (7, _)]) dL_law_715 (nl rfl) rfl ?_
  refine g_goto (pc := 717) (tgt := 2752) dL_law_717 rfl ?_
  exact g_sub (lv' := AL o) ⟨rfl, rfl, rfl, rfl, rfl, rfl, trivial⟩ (kont e2)
set_option maxRecDepth 4000 in
theorem lc_12 {kk : Int32} {b : Int32} (hs : mS M = S) (ho : o + 5 ≤ S.1) (hS9 : S.1 < 2147483648) (hM : Shp M) (hM1 : Shp M1) (hM2 : Shp M2) (h1 : EvR l jL_classes 8 141 1 6 [.ref 0, .int (S.2 (o + 1)), .ref 212] M (.inl (some (.int kk))) M1) (h2 : EvR l jX7_classes 4 160 0 0 [.ref 198, .int (S.2 (o + 1))] M1 (.inl (some (.int b))) M2) (kont : mS M2 = S → Go l jL_law 14 538 601024 7293034 Q 2752 (AL o) [] k n M2) : Go l jL_law 14 538 601024 7293034 Q 720 (AL o) [] (k + 1) (n + 6) M := by
  refine g_aload_n (pc := 720) dL_law_720 rfl trivial ?_
  refine g_aload_n (pc := 721) dL_law_721 rfl isA_0 ?_
  refine g_iload (pc := 722) dL_law_722 rfl ?_
  refine g_iconst (pc := 724) (v := 1) dL_law_724 rfl ?_
  refine g_iadd (pc := 725) dL_law_725 ?_
  refine g_scriptLoadS (pc := 726) dL_law_726 (nI_o1 _) hs (by omega) (by omega) ?_
  refine g_aload_n (pc := 727) dL_law_727 rfl trivial ?_
  refine g_invSX_s (pc := 728) (As := [_, _, _]) dL_law_728 rfl (h1) rfl rfl lk_L_235 rfl (nb rfl) ⟨nb rfl, nb rfl⟩ rfl (fun e1 => ?_)
  have e1 := e1.trans hs
  refine g_istore (pc := 731) (lv' := [(0, _), (1, _), (2, _), (3, _), (4, _), (5, _), (6, _)]) dL_law_731 (nl rfl) rfl ?_
  refine g_aload_n (pc := 733) dL_law_733 rfl trivial ?_
  refine g_aload_n (pc := 734) dL_law_734 rfl isA_0 ?_
  refine g_iload (pc := 735) dL_law_735 rfl ?_
  refine g_iconst (pc := 737) (v := 1) dL_law_737 rfl ?_
  refine g_iadd (pc := 738) dL_law_738 ?_
  refine g_scriptLoadS (pc := 739) dL_law_739 (nI_o1 _) e1 (by omega) (by omega) ?_
  refine g_invV_s (pc := 740) (As := [_]) dL_law_740 rfl (h2) rfl rfl (shK hM1 rfl) rfl rfl lk_L_237 rfl (nb rfl) ⟨nb rfl, nb rfl⟩ rfl (fun e2 => ?_)
  have e2 := e2.trans e1
  refine g_istore (pc := 743) (lv' := [(0, _), (1, _), (2, _), (3, _), (4, _), (5, _), (6, _), (7, _)]) dL_law_743 (nl rfl) rfl ?_
  refine g_goto (pc := 745) (tgt := 2752) dL_law_745 rfl ?_
  exact g_sub (lv' := AL o) ⟨rfl, rfl, rfl, rfl, rfl, rfl, trivial⟩ (kont e2)
set_option maxRecDepth 4000 in
theorem lc_13 {kk : Int32} {b : Int32} (hs : mS M = S) (ho : o + 5 ≤ S.1) (hS9 : S.1 < 2147483648) (hM : Shp M) (hM1 : Shp M1) (hM2 : Shp M2) (h1 : EvR l jL_classOf 9 163 2 12 [.ref 0, .int (S.2 (o + 1)), .int (S.2 (o + 2)), .ref 212] M (.inl (some (.int kk))) M1) (h2 : EvR l jX7_classOf 4 160 0 0 [.ref 198, .int (S.2 (o + 1)), .int (S.2 (o + 2))] M1 (.inl (some (.int b))) M2) (kont : mS M2 = S → Go l jL_law 14 538 601024 7293034 Q 2752 (AL o) [] k n M2) : Go l jL_law 14 538 601024 7293034 Q 748 (AL o) [] (k + 2) (n + 12) M := by
  refine g_aload_n (pc := 748) dL_law_748 rfl trivial ?_
  refine g_aload_n (pc := 749) dL_law_749 rfl isA_0 ?_
  refine g_iload (pc := 750) dL_law_750 rfl ?_
  refine g_iconst (pc := 752) (v := 1) dL_law_752 rfl ?_
  refine g_iadd (pc := 753) dL_law_753 ?_
  refine g_scriptLoadS (pc := 754) dL_law_754 (nI_o1 _) hs (by omega) (by omega) ?_
  refine g_aload_n (pc := 755) dL_law_755 rfl isA_0 ?_
  refine g_iload (pc := 756) dL_law_756 rfl ?_
  refine g_iconst (pc := 758) (v := 2) dL_law_758 rfl ?_
  refine g_iadd (pc := 759) dL_law_759 ?_
  refine g_scriptLoadS (pc := 760) dL_law_760 (nI_o2 _) hs (by omega) (by omega) ?_
  refine g_aload_n (pc := 761) dL_law_761 rfl trivial ?_
  refine g_invSX_s (pc := 762) (As := [_, _, _, _]) dL_law_762 rfl (h1) rfl rfl lk_L_238 rfl (nb rfl) ⟨nb rfl, nb rfl⟩ rfl (fun e1 => ?_)
  have e1 := e1.trans hs
  refine g_istore (pc := 765) (lv' := [(0, _), (1, _), (2, _), (3, _), (4, _), (5, _), (6, _)]) dL_law_765 (nl rfl) rfl ?_
  refine g_aload_n (pc := 767) dL_law_767 rfl trivial ?_
  refine g_aload_n (pc := 768) dL_law_768 rfl isA_0 ?_
  refine g_iload (pc := 769) dL_law_769 rfl ?_
  refine g_iconst (pc := 771) (v := 1) dL_law_771 rfl ?_
  refine g_iadd (pc := 772) dL_law_772 ?_
  refine g_scriptLoadS (pc := 773) dL_law_773 (nI_o1 _) e1 (by omega) (by omega) ?_
  refine g_aload_n (pc := 774) dL_law_774 rfl isA_0 ?_
  refine g_iload (pc := 775) dL_law_775 rfl ?_
  refine g_iconst (pc := 777) (v := 2) dL_law_777 rfl ?_
  refine g_iadd (pc := 778) dL_law_778 ?_
  refine g_scriptLoadS (pc := 779) dL_law_779 (nI_o2 _) e1 (by omega) (by omega) ?_
  refine g_invV_s (pc := 780) (As := [_, _]) dL_law_780 rfl (h2) rfl rfl (shK hM1 rfl) rfl rfl lk_L_240 rfl (nb rfl) ⟨nb rfl, nb rfl⟩ rfl (fun e2 => ?_)
  have e2 := e2.trans e1
  refine g_istore (pc := 783) (lv' := [(0, _), (1, _), (2, _), (3, _), (4, _), (5, _), (6, _), (7, _)]) dL_law_783 (nl rfl) rfl ?_
  refine g_goto (pc := 785) (tgt := 2752) dL_law_785 rfl ?_
  exact g_sub (lv' := AL o) ⟨rfl, rfl, rfl, rfl, rfl, rfl, trivial⟩ (kont e2)
set_option maxRecDepth 4000 in
theorem lc_14 {kk : Int32} {b : Int32} (hs : mS M = S) (ho : o + 5 ≤ S.1) (hS9 : S.1 < 2147483648) (hM : Shp M) (hM1 : Shp M1) (hM2 : Shp M2) (h1 : EvR l jL_find 8 143 1 6 [.ref 0, .int (S.2 (o + 1)), .long (l2 (S.2 (o + 2)) (S.2 (o + 3))), .ref 212] M (.inl (some (.int kk))) M1) (h2 : EvR l jX7_find 4 160 0 0 [.ref 198, .int (S.2 (o + 1)), .long (l2 (S.2 (o + 2)) (S.2 (o + 3)))] M1 (.inl (some (.int b))) M2) (kont : mS M2 = S → Go l jL_law 14 538 601024 7293034 Q 2752 (AL o) [] k n M2) : Go l jL_law 14 538 601024 7293034 Q 788 (AL o) [] (k + 1) (n + 6) M := by
  refine g_aload_n (pc := 788) dL_law_788 rfl trivial ?_
  refine g_aload_n (pc := 789) dL_law_789 rfl isA_0 ?_
  refine g_iload (pc := 790) dL_law_790 rfl ?_
  refine g_iconst (pc := 792) (v := 1) dL_law_792 rfl ?_
  refine g_iadd (pc := 793) dL_law_793 ?_
  refine g_scriptLoadS (pc := 794) dL_law_794 (nI_o1 _) hs (by omega) (by omega) ?_
  refine g_aload_n (pc := 795) dL_law_795 rfl isA_0 ?_
  refine g_iload (pc := 796) dL_law_796 rfl ?_
  refine g_iconst (pc := 798) (v := 2) dL_law_798 rfl ?_
  refine g_iadd (pc := 799) dL_law_799 ?_
  refine g_scriptLoadS (pc := 800) dL_law_800 (nI_o2 _) hs (by omega) (by omega) ?_
  refine g_i2l (pc := 801) dL_law_801 rfl ?_
  refine g_bipush (pc := 802) (v := 32) dL_law_802 rfl ?_
  refine g_lshl (pc := 804) dL_law_804 rfl ?_
  refine g_aload_n (pc := 805) dL_law_805 rfl isA_0 ?_
  refine g_iload (pc := 806) dL_law_806 rfl ?_
  refine g_iconst (pc := 808) (v := 3) dL_law_808 rfl ?_
  refine g_iadd (pc := 809) dL_law_809 ?_
  refine g_scriptLoadS (pc := 810) dL_law_810 (nI_o3 _) hs (by omega) (by omega) ?_
  refine g_i2l (pc := 811) dL_law_811 rfl ?_
  refine g_ldc2 (pc := 812) dL_law_812 wd_1783 ?_
  refine g_land (pc := 815) dL_law_815 ?_
  refine g_lor (pc := 816) dL_law_816 ?_
  refine g_aload_n (pc := 817) dL_law_817 rfl trivial ?_
  refine g_invSX_s (pc := 818) (As := [_, _, _, _]) dL_law_818 rfl (h1) rfl rfl lk_L_241 rfl (nb rfl) ⟨nb rfl, nb rfl⟩ rfl (fun e1 => ?_)
  have e1 := e1.trans hs
  refine g_istore (pc := 821) (lv' := [(0, _), (1, _), (2, _), (3, _), (4, _), (5, _), (6, _)]) dL_law_821 (nl rfl) rfl ?_
  refine g_aload_n (pc := 823) dL_law_823 rfl trivial ?_
  refine g_aload_n (pc := 824) dL_law_824 rfl isA_0 ?_
  refine g_iload (pc := 825) dL_law_825 rfl ?_
  refine g_iconst (pc := 827) (v := 1) dL_law_827 rfl ?_
  refine g_iadd (pc := 828) dL_law_828 ?_
  refine g_scriptLoadS (pc := 829) dL_law_829 (nI_o1 _) e1 (by omega) (by omega) ?_
  refine g_aload_n (pc := 830) dL_law_830 rfl isA_0 ?_
  refine g_iload (pc := 831) dL_law_831 rfl ?_
  refine g_iconst (pc := 833) (v := 2) dL_law_833 rfl ?_
  refine g_iadd (pc := 834) dL_law_834 ?_
  refine g_scriptLoadS (pc := 835) dL_law_835 (nI_o2 _) e1 (by omega) (by omega) ?_
  refine g_i2l (pc := 836) dL_law_836 rfl ?_
  refine g_bipush (pc := 837) (v := 32) dL_law_837 rfl ?_
  refine g_lshl (pc := 839) dL_law_839 rfl ?_
  refine g_aload_n (pc := 840) dL_law_840 rfl isA_0 ?_
  refine g_iload (pc := 841) dL_law_841 rfl ?_
  refine g_iconst (pc := 843) (v := 3) dL_law_843 rfl ?_
  refine g_iadd (pc := 844) dL_law_844 ?_
  refine g_scriptLoadS (pc := 845) dL_law_845 (nI_o3 _) e1 (by omega) (by omega) ?_
  refine g_i2l (pc := 846) dL_law_846 rfl ?_
  refine g_ldc2 (pc := 847) dL_law_847 wd_1783 ?_
  refine g_land (pc := 850) dL_law_850 ?_
  refine g_lor (pc := 851) dL_law_851 ?_
  refine g_invV_s (pc := 852) (As := [_, _]) dL_law_852 rfl (h2) rfl rfl (shK hM1 rfl) rfl rfl lk_L_244 rfl (nb rfl) ⟨nb rfl, nb rfl⟩ rfl (fun e2 => ?_)
  have e2 := e2.trans e1
  refine g_istore (pc := 855) (lv' := [(0, _), (1, _), (2, _), (3, _), (4, _), (5, _), (6, _), (7, _)]) dL_law_855 (nl rfl) rfl ?_
  refine g_goto (pc := 857) (tgt := 2752) dL_law_857 rfl ?_
  exact g_sub (lv' := AL o) ⟨rfl, rfl, rfl, rfl, rfl, rfl, trivial⟩ (kont e2)
set_option maxRecDepth 4000 in
theorem lc_15 {kk : Int32} {b : Int32} (hs : mS M = S) (ho : o + 5 ≤ S.1) (hS9 : S.1 < 2147483648) (hM : Shp M) (hM1 : Shp M1) (hM2 : Shp M2) (h1 : EvR l jL_nearest 9 167 2 12 [.ref 0, .int (S.2 (o + 1)), .int (S.2 (o + 2)), .ref 212] M (.inl (some (.int kk))) M1) (h2 : EvR l jX7_nearest 4 160 0 0 [.ref 198, .int (S.2 (o + 1)), .int (S.2 (o + 2))] M1 (.inl (some (.int b))) M2) (kont : mS M2 = S → Go l jL_law 14 538 601024 7293034 Q 2752 (AL o) [] k n M2) : Go l jL_law 14 538 601024 7293034 Q 860 (AL o) [] (k + 2) (n + 12) M := by
  refine g_aload_n (pc := 860) dL_law_860 rfl trivial ?_
  refine g_aload_n (pc := 861) dL_law_861 rfl isA_0 ?_
  refine g_iload (pc := 862) dL_law_862 rfl ?_
  refine g_iconst (pc := 864) (v := 1) dL_law_864 rfl ?_
  refine g_iadd (pc := 865) dL_law_865 ?_
  refine g_scriptLoadS (pc := 866) dL_law_866 (nI_o1 _) hs (by omega) (by omega) ?_
  refine g_aload_n (pc := 867) dL_law_867 rfl isA_0 ?_
  refine g_iload (pc := 868) dL_law_868 rfl ?_
  refine g_iconst (pc := 870) (v := 2) dL_law_870 rfl ?_
  refine g_iadd (pc := 871) dL_law_871 ?_
  refine g_scriptLoadS (pc := 872) dL_law_872 (nI_o2 _) hs (by omega) (by omega) ?_
  refine g_aload_n (pc := 873) dL_law_873 rfl trivial ?_
  refine g_invSX_s (pc := 874) (As := [_, _, _, _]) dL_law_874 rfl (h1) rfl rfl lk_L_245 rfl (nb rfl) ⟨nb rfl, nb rfl⟩ rfl (fun e1 => ?_)
  have e1 := e1.trans hs
  refine g_istore (pc := 877) (lv' := [(0, _), (1, _), (2, _), (3, _), (4, _), (5, _), (6, _)]) dL_law_877 (nl rfl) rfl ?_
  refine g_aload_n (pc := 879) dL_law_879 rfl trivial ?_
  refine g_aload_n (pc := 880) dL_law_880 rfl isA_0 ?_
  refine g_iload (pc := 881) dL_law_881 rfl ?_
  refine g_iconst (pc := 883) (v := 1) dL_law_883 rfl ?_
  refine g_iadd (pc := 884) dL_law_884 ?_
  refine g_scriptLoadS (pc := 885) dL_law_885 (nI_o1 _) e1 (by omega) (by omega) ?_
  refine g_aload_n (pc := 886) dL_law_886 rfl isA_0 ?_
  refine g_iload (pc := 887) dL_law_887 rfl ?_
  refine g_iconst (pc := 889) (v := 2) dL_law_889 rfl ?_
  refine g_iadd (pc := 890) dL_law_890 ?_
  refine g_scriptLoadS (pc := 891) dL_law_891 (nI_o2 _) e1 (by omega) (by omega) ?_
  refine g_invV_s (pc := 892) (As := [_, _]) dL_law_892 rfl (h2) rfl rfl (shK hM1 rfl) rfl rfl lk_L_247 rfl (nb rfl) ⟨nb rfl, nb rfl⟩ rfl (fun e2 => ?_)
  have e2 := e2.trans e1
  refine g_istore (pc := 895) (lv' := [(0, _), (1, _), (2, _), (3, _), (4, _), (5, _), (6, _), (7, _)]) dL_law_895 (nl rfl) rfl ?_
  refine g_goto (pc := 897) (tgt := 2752) dL_law_897 rfl ?_
  exact g_sub (lv' := AL o) ⟨rfl, rfl, rfl, rfl, rfl, rfl, trivial⟩ (kont e2)
set_option maxRecDepth 4000 in
theorem lc_16 {kk : Int32} {b : UInt64} (hs : mS M = S) (ho : o + 5 ≤ S.1) (hS9 : S.1 < 2147483648) (hM : Shp M) (hM1 : Shp M1) (hM2 : Shp M2) (h1 : EvR l jL_density 9 171 1 6 [.ref 0, .int (S.2 (o + 1)), .ref 213] M (.inl (some (.int kk))) M1) (h2 : EvR l jX7_density 4 160 0 0 [.ref 198, .int (S.2 (o + 1))] M1 (.inl (some (.double b))) M2) (kont : mS M2 = S → Go l jL_law 14 538 601024 7293034 Q 2752 (AL o) [] k n M2) : Go l jL_law 14 538 601024 7293034 Q 900 (AL o) [] (k + 1) (n + 6) M := by
  refine g_aload_n (pc := 900) dL_law_900 rfl trivial ?_
  refine g_aload_n (pc := 901) dL_law_901 rfl isA_0 ?_
  refine g_iload (pc := 902) dL_law_902 rfl ?_
  refine g_iconst (pc := 904) (v := 1) dL_law_904 rfl ?_
  refine g_iadd (pc := 905) dL_law_905 ?_
  refine g_scriptLoadS (pc := 906) dL_law_906 (nI_o1 _) hs (by omega) (by omega) ?_
  refine g_aload (pc := 907) dL_law_907 rfl trivial ?_
  refine g_invSX_s (pc := 909) (As := [_, _, _]) dL_law_909 rfl (h1) rfl rfl lk_L_248 rfl (nb rfl) ⟨nb rfl, nb rfl⟩ rfl (fun e1 => ?_)
  have e1 := e1.trans hs
  refine g_istore (pc := 912) (lv' := [(0, _), (1, _), (2, _), (3, _), (4, _), (5, _), (6, _)]) dL_law_912 (nl rfl) rfl ?_
  refine g_aload_n (pc := 914) dL_law_914 rfl trivial ?_
  refine g_aload_n (pc := 915) dL_law_915 rfl isA_0 ?_
  refine g_iload (pc := 916) dL_law_916 rfl ?_
  refine g_iconst (pc := 918) (v := 1) dL_law_918 rfl ?_
  refine g_iadd (pc := 919) dL_law_919 ?_
  refine g_scriptLoadS (pc := 920) dL_law_920 (nI_o1 _) e1 (by omega) (by omega) ?_
  refine g_invV_s (pc := 921) (As := [_]) dL_law_921 rfl (h2) rfl rfl (shK hM1 rfl) rfl rfl lk_L_251 rfl (nb rfl) ⟨nb rfl, nb rfl⟩ rfl (fun e2 => ?_)
  have e2 := e2.trans e1
  refine g_dstore (pc := 924) (lv' := [(0, _), (1, _), (2, _), (3, _), (4, _), (5, _), (6, _), (7, _)]) dL_law_924 (nl rfl) rfl ?_
  refine g_goto (pc := 926) (tgt := 2752) dL_law_926 rfl ?_
  exact g_sub (lv' := AL o) ⟨rfl, rfl, rfl, rfl, rfl, rfl, trivial⟩ (kont e2)
set_option maxRecDepth 4000 in
theorem lc_17 {kk : Int32} {b : Bool} (hs : mS M = S) (ho : o + 5 ≤ S.1) (hS9 : S.1 < 2147483648) (hM : Shp M) (hM1 : Shp M1) (hM2 : Shp M2) (h1 : EvR l jL_isSymmetric 8 143 1 6 [.ref 0, .int (S.2 (o + 1)), .ref 212] M (.inl (some (.int kk))) M1) (h2 : EvR l jX7_isSymmetric 4 160 0 0 [.ref 198, .int (S.2 (o + 1))] M1 (.inl (some (.int (b1 b)))) M2) (kont : mS M2 = S → Go l jL_law 14 538 601024 7293034 Q 2752 (AL o) [] k n M2) : Go l jL_law 14 538 601024 7293034 Q 929 (AL o) [] (k + 1) (n + 6) M := by
  refine g_aload_n (pc := 929) dL_law_929 rfl trivial ?_
  refine g_aload_n (pc := 930) dL_law_930 rfl isA_0 ?_
  refine g_iload (pc := 931) dL_law_931 rfl ?_
  refine g_iconst (pc := 933) (v := 1) dL_law_933 rfl ?_
  refine g_iadd (pc := 934) dL_law_934 ?_
  refine g_scriptLoadS (pc := 935) dL_law_935 (nI_o1 _) hs (by omega) (by omega) ?_
  refine g_aload_n (pc := 936) dL_law_936 rfl trivial ?_
  refine g_invSX_s (pc := 937) (As := [_, _, _]) dL_law_937 rfl (h1) rfl rfl lk_L_252 rfl (nb rfl) ⟨nb rfl, nb rfl⟩ rfl (fun e1 => ?_)
  have e1 := e1.trans hs
  refine g_istore (pc := 940) (lv' := [(0, _), (1, _), (2, _), (3, _), (4, _), (5, _), (6, _)]) dL_law_940 (nl rfl) rfl ?_
  refine g_aload_n (pc := 942) dL_law_942 rfl trivial ?_
  refine g_aload_n (pc := 943) dL_law_943 rfl isA_0 ?_
  refine g_iload (pc := 944) dL_law_944 rfl ?_
  refine g_iconst (pc := 946) (v := 1) dL_law_946 rfl ?_
  refine g_iadd (pc := 947) dL_law_947 ?_
  refine g_scriptLoadS (pc := 948) dL_law_948 (nI_o1 _) e1 (by omega) (by omega) ?_
  refine g_invV_s (pc := 949) (As := [_]) dL_law_949 rfl (h2) rfl rfl (shK hM1 rfl) rfl rfl lk_L_254 rfl (nb rfl) ⟨nb rfl, nb rfl⟩ rfl (fun e2 => ?_)
  have e2 := e2.trans e1
  refine g_istore (pc := 952) (lv' := [(0, _), (1, _), (2, _), (3, _), (4, _), (5, _), (6, _), (7, _)]) dL_law_952 (nl rfl) rfl ?_
  refine g_goto (pc := 954) (tgt := 2752) dL_law_954 rfl ?_
  exact g_sub (lv' := AL o) ⟨rfl, rfl, rfl, rfl, rfl, rfl, trivial⟩ (kont e2)
set_option maxRecDepth 4000 in
theorem lc_18 {kk : Int32} {b : Int32} (hs : mS M = S) (ho : o + 5 ≤ S.1) (hS9 : S.1 < 2147483648) (hM : Shp M) (hM1 : Shp M1) (hM2 : Shp M2) (h1 : EvR l jL_reaches 10 183 3 18 [.ref 0, .int (S.2 (o + 1)), .int (S.2 (o + 2)), .int (S.2 (o + 3)), .ref 212] M (.inl (some (.int kk))) M1) (h2 : EvR l jX7_reaches 4 160 0 0 [.ref 198, .int (S.2 (o + 1)), .int (S.2 (o + 2)), .int (S.2 (o + 3))] M1 (.inl (some (.int b))) M2) (kont : mS M2 = S → Go l jL_law 14 538 601024 7293034 Q 2752 (AL o) [] k n M2) : Go l jL_law 14 538 601024 7293034 Q 957 (AL o) [] (k + 3) (n + 18) M := by
  refine g_aload_n (pc := 957) dL_law_957 rfl trivial ?_
  refine g_aload_n (pc := 958) dL_law_958 rfl isA_0 ?_
  refine g_iload (pc := 959) dL_law_959 rfl ?_
  refine g_iconst (pc := 961) (v := 1) dL_law_961 rfl ?_
  refine g_iadd (pc := 962) dL_law_962 ?_
  refine g_scriptLoadS (pc := 963) dL_law_963 (nI_o1 _) hs (by omega) (by omega) ?_
  refine g_aload_n (pc := 964) dL_law_964 rfl isA_0 ?_
  refine g_iload (pc := 965) dL_law_965 rfl ?_
  refine g_iconst (pc := 967) (v := 2) dL_law_967 rfl ?_
  refine g_iadd (pc := 968) dL_law_968 ?_
  refine g_scriptLoadS (pc := 969) dL_law_969 (nI_o2 _) hs (by omega) (by omega) ?_
  refine g_aload_n (pc := 970) dL_law_970 rfl isA_0 ?_
  refine g_iload (pc := 971) dL_law_971 rfl ?_
  refine g_iconst (pc := 973) (v := 3) dL_law_973 rfl ?_
  refine g_iadd (pc := 974) dL_law_974 ?_
  refine g_scriptLoadS (pc := 975) dL_law_975 (nI_o3 _) hs (by omega) (by omega) ?_
  refine g_aload_n (pc := 976) dL_law_976 rfl trivial ?_
  refine g_invSX_s (pc := 977) (As := [_, _, _, _, _]) dL_law_977 rfl (h1) rfl rfl lk_L_255 rfl (nb rfl) ⟨nb rfl, nb rfl⟩ rfl (fun e1 => ?_)
  have e1 := e1.trans hs
  refine g_istore (pc := 980) (lv' := [(0, _), (1, _), (2, _), (3, _), (4, _), (5, _), (6, _)]) dL_law_980 (nl rfl) rfl ?_
  refine g_aload_n (pc := 982) dL_law_982 rfl trivial ?_
  refine g_aload_n (pc := 983) dL_law_983 rfl isA_0 ?_
  refine g_iload (pc := 984) dL_law_984 rfl ?_
  refine g_iconst (pc := 986) (v := 1) dL_law_986 rfl ?_
  refine g_iadd (pc := 987) dL_law_987 ?_
  refine g_scriptLoadS (pc := 988) dL_law_988 (nI_o1 _) e1 (by omega) (by omega) ?_
  refine g_aload_n (pc := 989) dL_law_989 rfl isA_0 ?_
  refine g_iload (pc := 990) dL_law_990 rfl ?_
  refine g_iconst (pc := 992) (v := 2) dL_law_992 rfl ?_
  refine g_iadd (pc := 993) dL_law_993 ?_
  refine g_scriptLoadS (pc := 994) dL_law_994 (nI_o2 _) e1 (by omega) (by omega) ?_
  refine g_aload_n (pc := 995) dL_law_995 rfl isA_0 ?_
  refine g_iload (pc := 996) dL_law_996 rfl ?_
  refine g_iconst (pc := 998) (v := 3) dL_law_998 rfl ?_
  refine g_iadd (pc := 999) dL_law_999 ?_
  refine g_scriptLoadS (pc := 1000) dL_law_1000 (nI_o3 _) e1 (by omega) (by omega) ?_
  refine g_invV_s (pc := 1001) (As := [_, _, _]) dL_law_1001 rfl (h2) rfl rfl (shK hM1 rfl) rfl rfl lk_L_257 rfl (nb rfl) ⟨nb rfl, nb rfl⟩ rfl (fun e2 => ?_)
  have e2 := e2.trans e1
  refine g_istore (pc := 1004) (lv' := [(0, _), (1, _), (2, _), (3, _), (4, _), (5, _), (6, _), (7, _)]) dL_law_1004 (nl rfl) rfl ?_
  refine g_goto (pc := 1006) (tgt := 2752) dL_law_1006 rfl ?_
  exact g_sub (lv' := AL o) ⟨rfl, rfl, rfl, rfl, rfl, rfl, trivial⟩ (kont e2)
set_option maxRecDepth 4000 in
theorem lc_19 {kk : Int32} {b : Int32} (hs : mS M = S) (ho : o + 5 ≤ S.1) (hS9 : S.1 < 2147483648) (hM : Shp M) (hM1 : Shp M1) (hM2 : Shp M2) (h1 : EvR l jL_reached 9 162 2 12 [.ref 0, .int (S.2 (o + 1)), .int (S.2 (o + 2)), .ref 212] M (.inl (some (.int kk))) M1) (h2 : EvR l jX7_reached 4 160 0 0 [.ref 198, .int (S.2 (o + 1)), .int (S.2 (o + 2))] M1 (.inl (some (.int b))) M2) (kont : mS M2 = S → Go l jL_law 14 538 601024 7293034 Q 2752 (AL o) [] k n M2) : Go l jL_law 14 538 601024 7293034 Q 1009 (AL o) [] (k + 2) (n + 12) M := by
  refine g_aload_n (pc := 1009) dL_law_1009 rfl trivial ?_
  refine g_aload_n (pc := 1010) dL_law_1010 rfl isA_0 ?_
  refine g_iload (pc := 1011) dL_law_1011 rfl ?_
  refine g_iconst (pc := 1013) (v := 1) dL_law_1013 rfl ?_
  refine g_iadd (pc := 1014) dL_law_1014 ?_
  refine g_scriptLoadS (pc := 1015) dL_law_1015 (nI_o1 _) hs (by omega) (by omega) ?_
  refine g_aload_n (pc := 1016) dL_law_1016 rfl isA_0 ?_
  refine g_iload (pc := 1017) dL_law_1017 rfl ?_
  refine g_iconst (pc := 1019) (v := 2) dL_law_1019 rfl ?_
  refine g_iadd (pc := 1020) dL_law_1020 ?_
  refine g_scriptLoadS (pc := 1021) dL_law_1021 (nI_o2 _) hs (by omega) (by omega) ?_
  refine g_aload_n (pc := 1022) dL_law_1022 rfl trivial ?_
  refine g_invSX_s (pc := 1023) (As := [_, _, _, _]) dL_law_1023 rfl (h1) rfl rfl lk_L_258 rfl (nb rfl) ⟨nb rfl, nb rfl⟩ rfl (fun e1 => ?_)
  have e1 := e1.trans hs
  refine g_istore (pc := 1026) (lv' := [(0, _), (1, _), (2, _), (3, _), (4, _), (5, _), (6, _)]) dL_law_1026 (nl rfl) rfl ?_
  refine g_aload_n (pc := 1028) dL_law_1028 rfl trivial ?_
  refine g_aload_n (pc := 1029) dL_law_1029 rfl isA_0 ?_
  refine g_iload (pc := 1030) dL_law_1030 rfl ?_
  refine g_iconst (pc := 1032) (v := 1) dL_law_1032 rfl ?_
  refine g_iadd (pc := 1033) dL_law_1033 ?_
  refine g_scriptLoadS (pc := 1034) dL_law_1034 (nI_o1 _) e1 (by omega) (by omega) ?_
  refine g_aload_n (pc := 1035) dL_law_1035 rfl isA_0 ?_
  refine g_iload (pc := 1036) dL_law_1036 rfl ?_
  refine g_iconst (pc := 1038) (v := 2) dL_law_1038 rfl ?_
  refine g_iadd (pc := 1039) dL_law_1039 ?_
  refine g_scriptLoadS (pc := 1040) dL_law_1040 (nI_o2 _) e1 (by omega) (by omega) ?_
  refine g_invV_s (pc := 1041) (As := [_, _]) dL_law_1041 rfl (h2) rfl rfl (shK hM1 rfl) rfl rfl lk_L_260 rfl (nb rfl) ⟨nb rfl, nb rfl⟩ rfl (fun e2 => ?_)
  have e2 := e2.trans e1
  refine g_istore (pc := 1044) (lv' := [(0, _), (1, _), (2, _), (3, _), (4, _), (5, _), (6, _), (7, _)]) dL_law_1044 (nl rfl) rfl ?_
  refine g_goto (pc := 1046) (tgt := 2752) dL_law_1046 rfl ?_
  exact g_sub (lv' := AL o) ⟨rfl, rfl, rfl, rfl, rfl, rfl, trivial⟩ (kont e2)
set_option maxRecDepth 4000 in
theorem lc_20 {kk : Int32} {b : Int32} (hs : mS M = S) (ho : o + 5 ≤ S.1) (hS9 : S.1 < 2147483648) (hM : Shp M) (hM1 : Shp M1) (hM2 : Shp M2) (h1 : EvR l jL_pairs 8 141 1 6 [.ref 0, .int (S.2 (o + 1)), .ref 212] M (.inl (some (.int kk))) M1) (h2 : EvR l jX7_pairs 4 160 0 0 [.ref 198, .int (S.2 (o + 1))] M1 (.inl (some (.int b))) M2) (kont : mS M2 = S → Go l jL_law 14 538 601024 7293034 Q 2752 (AL o) [] k n M2) : Go l jL_law 14 538 601024 7293034 Q 1049 (AL o) [] (k + 1) (n + 6) M := by
  refine g_aload_n (pc := 1049) dL_law_1049 rfl trivial ?_
  refine g_aload_n (pc := 1050) dL_law_1050 rfl isA_0 ?_
  refine g_iload (pc := 1051) dL_law_1051 rfl ?_
  refine g_iconst (pc := 1053) (v := 1) dL_law_1053 rfl ?_
  refine g_iadd (pc := 1054) dL_law_1054 ?_
  refine g_scriptLoadS (pc := 1055) dL_law_1055 (nI_o1 _) hs (by omega) (by omega) ?_
  refine g_aload_n (pc := 1056) dL_law_1056 rfl trivial ?_
  refine g_invSX_s (pc := 1057) (As := [_, _, _]) dL_law_1057 rfl (h1) rfl rfl lk_L_261 rfl (nb rfl) ⟨nb rfl, nb rfl⟩ rfl (fun e1 => ?_)
  have e1 := e1.trans hs
  refine g_istore (pc := 1060) (lv' := [(0, _), (1, _), (2, _), (3, _), (4, _), (5, _), (6, _)]) dL_law_1060 (nl rfl) rfl ?_
  refine g_aload_n (pc := 1062) dL_law_1062 rfl trivial ?_
  refine g_aload_n (pc := 1063) dL_law_1063 rfl isA_0 ?_
  refine g_iload (pc := 1064) dL_law_1064 rfl ?_
  refine g_iconst (pc := 1066) (v := 1) dL_law_1066 rfl ?_
  refine g_iadd (pc := 1067) dL_law_1067 ?_
  refine g_scriptLoadS (pc := 1068) dL_law_1068 (nI_o1 _) e1 (by omega) (by omega) ?_
  refine g_invV_s (pc := 1069) (As := [_]) dL_law_1069 rfl (h2) rfl rfl (shK hM1 rfl) rfl rfl lk_L_263 rfl (nb rfl) ⟨nb rfl, nb rfl⟩ rfl (fun e2 => ?_)
  have e2 := e2.trans e1
  refine g_istore (pc := 1072) (lv' := [(0, _), (1, _), (2, _), (3, _), (4, _), (5, _), (6, _), (7, _)]) dL_law_1072 (nl rfl) rfl ?_
  refine g_goto (pc := 1074) (tgt := 2752) dL_law_1074 rfl ?_
  exact g_sub (lv' := AL o) ⟨rfl, rfl, rfl, rfl, rfl, rfl, trivial⟩ (kont e2)
set_option maxRecDepth 4000 in
theorem lc_21 {kk : Int32} {b : UInt32} (hs : mS M = S) (ho : o + 5 ≤ S.1) (hS9 : S.1 < 2147483648) (hM : Shp M) (hM1 : Shp M1) (hM2 : Shp M2) (h1 : EvR l jL_meanReach 9 171 1 6 [.ref 0, .int (S.2 (o + 1)), .ref 213] M (.inl (some (.int kk))) M1) (h2 : EvR l jX7_meanReach 4 160 0 0 [.ref 198, .int (S.2 (o + 1))] M1 (.inl (some (.float b))) M2) (kont : mS M2 = S → Go l jL_law 14 538 601024 7293034 Q 2752 (AL o) [] k n M2) : Go l jL_law 14 538 601024 7293034 Q 1077 (AL o) [] (k + 1) (n + 6) M := by
  refine g_aload_n (pc := 1077) dL_law_1077 rfl trivial ?_
  refine g_aload_n (pc := 1078) dL_law_1078 rfl isA_0 ?_
  refine g_iload (pc := 1079) dL_law_1079 rfl ?_
  refine g_iconst (pc := 1081) (v := 1) dL_law_1081 rfl ?_
  refine g_iadd (pc := 1082) dL_law_1082 ?_
  refine g_scriptLoadS (pc := 1083) dL_law_1083 (nI_o1 _) hs (by omega) (by omega) ?_
  refine g_aload (pc := 1084) dL_law_1084 rfl trivial ?_
  refine g_invSX_s (pc := 1086) (As := [_, _, _]) dL_law_1086 rfl (h1) rfl rfl lk_L_264 rfl (nb rfl) ⟨nb rfl, nb rfl⟩ rfl (fun e1 => ?_)
  have e1 := e1.trans hs
  refine g_istore (pc := 1089) (lv' := [(0, _), (1, _), (2, _), (3, _), (4, _), (5, _), (6, _)]) dL_law_1089 (nl rfl) rfl ?_
  refine g_aload_n (pc := 1091) dL_law_1091 rfl trivial ?_
  refine g_aload_n (pc := 1092) dL_law_1092 rfl isA_0 ?_
  refine g_iload (pc := 1093) dL_law_1093 rfl ?_
  refine g_iconst (pc := 1095) (v := 1) dL_law_1095 rfl ?_
  refine g_iadd (pc := 1096) dL_law_1096 ?_
  refine g_scriptLoadS (pc := 1097) dL_law_1097 (nI_o1 _) e1 (by omega) (by omega) ?_
  refine g_invV_s (pc := 1098) (As := [_]) dL_law_1098 rfl (h2) rfl rfl (shK hM1 rfl) rfl rfl lk_L_266 rfl (nb rfl) ⟨nb rfl, nb rfl⟩ rfl (fun e2 => ?_)
  have e2 := e2.trans e1
  refine g_fstore (pc := 1101) (lv' := [(0, _), (1, _), (2, _), (3, _), (4, _), (5, _), (6, _), (7, _)]) dL_law_1101 (nl rfl) rfl ?_
  refine g_goto (pc := 1103) (tgt := 2752) dL_law_1103 rfl ?_
  exact g_sub (lv' := AL o) ⟨rfl, rfl, rfl, rfl, rfl, rfl, trivial⟩ (kont e2)
set_option maxRecDepth 4000 in
theorem lc_22 {kk : Int32} {b : Int32} (hs : mS M = S) (ho : o + 5 ≤ S.1) (hS9 : S.1 < 2147483648) (hM : Shp M) (hM1 : Shp M1) (hM2 : Shp M2) (h1 : EvR l jL_component 9 162 2 12 [.ref 0, .int (S.2 (o + 1)), .int (S.2 (o + 2)), .ref 212] M (.inl (some (.int kk))) M1) (h2 : EvR l jX7_component 4 160 0 0 [.ref 198, .int (S.2 (o + 1)), .int (S.2 (o + 2))] M1 (.inl (some (.int b))) M2) (kont : mS M2 = S → Go l jL_law 14 538 601024 7293034 Q 2752 (AL o) [] k n M2) : Go l jL_law 14 538 601024 7293034 Q 1106 (AL o) [] (k + 2) (n + 12) M := by
  refine g_aload_n (pc := 1106) dL_law_1106 rfl trivial ?_
  refine g_aload_n (pc := 1107) dL_law_1107 rfl isA_0 ?_
  refine g_iload (pc := 1108) dL_law_1108 rfl ?_
  refine g_iconst (pc := 1110) (v := 1) dL_law_1110 rfl ?_
  refine g_iadd (pc := 1111) dL_law_1111 ?_
  refine g_scriptLoadS (pc := 1112) dL_law_1112 (nI_o1 _) hs (by omega) (by omega) ?_
  refine g_aload_n (pc := 1113) dL_law_1113 rfl isA_0 ?_
  refine g_iload (pc := 1114) dL_law_1114 rfl ?_
  refine g_iconst (pc := 1116) (v := 2) dL_law_1116 rfl ?_
  refine g_iadd (pc := 1117) dL_law_1117 ?_
  refine g_scriptLoadS (pc := 1118) dL_law_1118 (nI_o2 _) hs (by omega) (by omega) ?_
  refine g_aload_n (pc := 1119) dL_law_1119 rfl trivial ?_
  refine g_invSX_s (pc := 1120) (As := [_, _, _, _]) dL_law_1120 rfl (h1) rfl rfl lk_L_267 rfl (nb rfl) ⟨nb rfl, nb rfl⟩ rfl (fun e1 => ?_)
  have e1 := e1.trans hs
  refine g_istore (pc := 1123) (lv' := [(0, _), (1, _), (2, _), (3, _), (4, _), (5, _), (6, _)]) dL_law_1123 (nl rfl) rfl ?_
  refine g_aload_n (pc := 1125) dL_law_1125 rfl trivial ?_
  refine g_aload_n (pc := 1126) dL_law_1126 rfl isA_0 ?_
  refine g_iload (pc := 1127) dL_law_1127 rfl ?_
  refine g_iconst (pc := 1129) (v := 1) dL_law_1129 rfl ?_
  refine g_iadd (pc := 1130) dL_law_1130 ?_
  refine g_scriptLoadS (pc := 1131) dL_law_1131 (nI_o1 _) e1 (by omega) (by omega) ?_
  refine g_aload_n (pc := 1132) dL_law_1132 rfl isA_0 ?_
  refine g_iload (pc := 1133) dL_law_1133 rfl ?_
  refine g_iconst (pc := 1135) (v := 2) dL_law_1135 rfl ?_
  refine g_iadd (pc := 1136) dL_law_1136 ?_
  refine g_scriptLoadS (pc := 1137) dL_law_1137 (nI_o2 _) e1 (by omega) (by omega) ?_
  refine g_invV_s (pc := 1138) (As := [_, _]) dL_law_1138 rfl (h2) rfl rfl (shK hM1 rfl) rfl rfl lk_L_269 rfl (nb rfl) ⟨nb rfl, nb rfl⟩ rfl (fun e2 => ?_)
  have e2 := e2.trans e1
  refine g_istore (pc := 1141) (lv' := [(0, _), (1, _), (2, _), (3, _), (4, _), (5, _), (6, _), (7, _)]) dL_law_1141 (nl rfl) rfl ?_
  refine g_goto (pc := 1143) (tgt := 2752) dL_law_1143 rfl ?_
  exact g_sub (lv' := AL o) ⟨rfl, rfl, rfl, rfl, rfl, rfl, trivial⟩ (kont e2)
set_option maxRecDepth 4000 in
theorem lc_23 {kk : Int32} {b : Int32} (hs : mS M = S) (ho : o + 5 ≤ S.1) (hS9 : S.1 < 2147483648) (hM : Shp M) (hM1 : Shp M1) (hM2 : Shp M2) (h1 : EvR l jL_components 8 144 1 6 [.ref 0, .int (S.2 (o + 1)), .ref 212] M (.inl (some (.int kk))) M1) (h2 : EvR l jX7_components 4 160 0 0 [.ref 198, .int (S.2 (o + 1))] M1 (.inl (some (.int b))) M2) (kont : mS M2 = S → Go l jL_law 14 538 601024 7293034 Q 2752 (AL o) [] k n M2) : Go l jL_law 14 538 601024 7293034 Q 1146 (AL o) [] (k + 1) (n + 6) M := by
  refine g_aload_n (pc := 1146) dL_law_1146 rfl trivial ?_
  refine g_aload_n (pc := 1147) dL_law_1147 rfl isA_0 ?_
  refine g_iload (pc := 1148) dL_law_1148 rfl ?_
  refine g_iconst (pc := 1150) (v := 1) dL_law_1150 rfl ?_
  refine g_iadd (pc := 1151) dL_law_1151 ?_
  refine g_scriptLoadS (pc := 1152) dL_law_1152 (nI_o1 _) hs (by omega) (by omega) ?_
  refine g_aload_n (pc := 1153) dL_law_1153 rfl trivial ?_
  refine g_invSX_s (pc := 1154) (As := [_, _, _]) dL_law_1154 rfl (h1) rfl rfl lk_L_270 rfl (nb rfl) ⟨nb rfl, nb rfl⟩ rfl (fun e1 => ?_)
  have e1 := e1.trans hs
  refine g_istore (pc := 1157) (lv' := [(0, _), (1, _), (2, _), (3, _), (4, _), (5, _), (6, _)]) dL_law_1157 (nl rfl) rfl ?_
  refine g_aload_n (pc := 1159) dL_law_1159 rfl trivial ?_
  refine g_aload_n (pc := 1160) dL_law_1160 rfl isA_0 ?_
  refine g_iload (pc := 1161) dL_law_1161 rfl ?_
  refine g_iconst (pc := 1163) (v := 1) dL_law_1163 rfl ?_
  refine g_iadd (pc := 1164) dL_law_1164 ?_
  refine g_scriptLoadS (pc := 1165) dL_law_1165 (nI_o1 _) e1 (by omega) (by omega) ?_
  refine g_invV_s (pc := 1166) (As := [_]) dL_law_1166 rfl (h2) rfl rfl (shK hM1 rfl) rfl rfl lk_L_272 rfl (nb rfl) ⟨nb rfl, nb rfl⟩ rfl (fun e2 => ?_)
  have e2 := e2.trans e1
  refine g_istore (pc := 1169) (lv' := [(0, _), (1, _), (2, _), (3, _), (4, _), (5, _), (6, _), (7, _)]) dL_law_1169 (nl rfl) rfl ?_
  refine g_goto (pc := 1171) (tgt := 2752) dL_law_1171 rfl ?_
  exact g_sub (lv' := AL o) ⟨rfl, rfl, rfl, rfl, rfl, rfl, trivial⟩ (kont e2)
set_option maxRecDepth 4000 in
theorem lc_24 {kk : Int32} {b : Int32} (hs : mS M = S) (ho : o + 5 ≤ S.1) (hS9 : S.1 < 2147483648) (hM : Shp M) (hM1 : Shp M1) (hM2 : Shp M2) (h1 : EvR l jL_distance 10 183 3 18 [.ref 0, .int (S.2 (o + 1)), .int (S.2 (o + 2)), .int (S.2 (o + 3)), .ref 212] M (.inl (some (.int kk))) M1) (h2 : EvR l jX7_distance 4 160 0 0 [.ref 198, .int (S.2 (o + 1)), .int (S.2 (o + 2)), .int (S.2 (o + 3))] M1 (.inl (some (.int b))) M2) (kont : mS M2 = S → Go l jL_law 14 538 601024 7293034 Q 2752 (AL o) [] k n M2) : Go l jL_law 14 538 601024 7293034 Q 1174 (AL o) [] (k + 3) (n + 18) M := by
  refine g_aload_n (pc := 1174) dL_law_1174 rfl trivial ?_
  refine g_aload_n (pc := 1175) dL_law_1175 rfl isA_0 ?_
  refine g_iload (pc := 1176) dL_law_1176 rfl ?_
  refine g_iconst (pc := 1178) (v := 1) dL_law_1178 rfl ?_
  refine g_iadd (pc := 1179) dL_law_1179 ?_
  refine g_scriptLoadS (pc := 1180) dL_law_1180 (nI_o1 _) hs (by omega) (by omega) ?_
  refine g_aload_n (pc := 1181) dL_law_1181 rfl isA_0 ?_
  refine g_iload (pc := 1182) dL_law_1182 rfl ?_
  refine g_iconst (pc := 1184) (v := 2) dL_law_1184 rfl ?_
  refine g_iadd (pc := 1185) dL_law_1185 ?_
  refine g_scriptLoadS (pc := 1186) dL_law_1186 (nI_o2 _) hs (by omega) (by omega) ?_
  refine g_aload_n (pc := 1187) dL_law_1187 rfl isA_0 ?_
  refine g_iload (pc := 1188) dL_law_1188 rfl ?_
  refine g_iconst (pc := 1190) (v := 3) dL_law_1190 rfl ?_
  refine g_iadd (pc := 1191) dL_law_1191 ?_
  refine g_scriptLoadS (pc := 1192) dL_law_1192 (nI_o3 _) hs (by omega) (by omega) ?_
  refine g_aload_n (pc := 1193) dL_law_1193 rfl trivial ?_
  refine g_invSX_s (pc := 1194) (As := [_, _, _, _, _]) dL_law_1194 rfl (h1) rfl rfl lk_L_273 rfl (nb rfl) ⟨nb rfl, nb rfl⟩ rfl (fun e1 => ?_)
  have e1 := e1.trans hs
  refine g_istore (pc := 1197) (lv' := [(0, _), (1, _), (2, _), (3, _), (4, _), (5, _), (6, _)]) dL_law_1197 (nl rfl) rfl ?_
  refine g_aload_n (pc := 1199) dL_law_1199 rfl trivial ?_
  refine g_aload_n (pc := 1200) dL_law_1200 rfl isA_0 ?_
  refine g_iload (pc := 1201) dL_law_1201 rfl ?_
  refine g_iconst (pc := 1203) (v := 1) dL_law_1203 rfl ?_
  refine g_iadd (pc := 1204) dL_law_1204 ?_
  refine g_scriptLoadS (pc := 1205) dL_law_1205 (nI_o1 _) e1 (by omega) (by omega) ?_
  refine g_aload_n (pc := 1206) dL_law_1206 rfl isA_0 ?_
  refine g_iload (pc := 1207) dL_law_1207 rfl ?_
  refine g_iconst (pc := 1209) (v := 2) dL_law_1209 rfl ?_
  refine g_iadd (pc := 1210) dL_law_1210 ?_
  refine g_scriptLoadS (pc := 1211) dL_law_1211 (nI_o2 _) e1 (by omega) (by omega) ?_
  refine g_aload_n (pc := 1212) dL_law_1212 rfl isA_0 ?_
  refine g_iload (pc := 1213) dL_law_1213 rfl ?_
  refine g_iconst (pc := 1215) (v := 3) dL_law_1215 rfl ?_
  refine g_iadd (pc := 1216) dL_law_1216 ?_
  refine g_scriptLoadS (pc := 1217) dL_law_1217 (nI_o3 _) e1 (by omega) (by omega) ?_
  refine g_invV_s (pc := 1218) (As := [_, _, _]) dL_law_1218 rfl (h2) rfl rfl (shK hM1 rfl) rfl rfl lk_L_275 rfl (nb rfl) ⟨nb rfl, nb rfl⟩ rfl (fun e2 => ?_)
  have e2 := e2.trans e1
  refine g_istore (pc := 1221) (lv' := [(0, _), (1, _), (2, _), (3, _), (4, _), (5, _), (6, _), (7, _)]) dL_law_1221 (nl rfl) rfl ?_
  refine g_goto (pc := 1223) (tgt := 2752) dL_law_1223 rfl ?_
  exact g_sub (lv' := AL o) ⟨rfl, rfl, rfl, rfl, rfl, rfl, trivial⟩ (kont e2)
set_option maxRecDepth 4000 in
theorem lc_25 {kk : Int32} {b : Int32} (hs : mS M = S) (ho : o + 5 ≤ S.1) (hS9 : S.1 < 2147483648) (hM : Shp M) (hM1 : Shp M1) (hM2 : Shp M2) (h1 : EvR l jL_stepAt 11 218 3 18 [.ref 0, .int (S.2 (o + 1)), .int (S.2 (o + 2)), .int (S.2 (o + 3)), .int (S.2 (o + 4)), .ref 212] M (.inl (some (.int kk))) M1) (h2 : EvR l jX7_stepAt 4 160 0 0 [.ref 198, .int (S.2 (o + 1)), .int (S.2 (o + 2)), .int (S.2 (o + 3)), .int (S.2 (o + 4))] M1 (.inl (some (.int b))) M2) (kont : mS M2 = S → Go l jL_law 14 538 601024 7293034 Q 2752 (AL o) [] k n M2) : Go l jL_law 14 538 601024 7293034 Q 1226 (AL o) [] (k + 3) (n + 18) M := by
  refine g_aload_n (pc := 1226) dL_law_1226 rfl trivial ?_
  refine g_aload_n (pc := 1227) dL_law_1227 rfl isA_0 ?_
  refine g_iload (pc := 1228) dL_law_1228 rfl ?_
  refine g_iconst (pc := 1230) (v := 1) dL_law_1230 rfl ?_
  refine g_iadd (pc := 1231) dL_law_1231 ?_
  refine g_scriptLoadS (pc := 1232) dL_law_1232 (nI_o1 _) hs (by omega) (by omega) ?_
  refine g_aload_n (pc := 1233) dL_law_1233 rfl isA_0 ?_
  refine g_iload (pc := 1234) dL_law_1234 rfl ?_
  refine g_iconst (pc := 1236) (v := 2) dL_law_1236 rfl ?_
  refine g_iadd (pc := 1237) dL_law_1237 ?_
  refine g_scriptLoadS (pc := 1238) dL_law_1238 (nI_o2 _) hs (by omega) (by omega) ?_
  refine g_aload_n (pc := 1239) dL_law_1239 rfl isA_0 ?_
  refine g_iload (pc := 1240) dL_law_1240 rfl ?_
  refine g_iconst (pc := 1242) (v := 3) dL_law_1242 rfl ?_
  refine g_iadd (pc := 1243) dL_law_1243 ?_
  refine g_scriptLoadS (pc := 1244) dL_law_1244 (nI_o3 _) hs (by omega) (by omega) ?_
  refine g_aload_n (pc := 1245) dL_law_1245 rfl isA_0 ?_
  refine g_iload (pc := 1246) dL_law_1246 rfl ?_
  refine g_iconst (pc := 1248) (v := 4) dL_law_1248 rfl ?_
  refine g_iadd (pc := 1249) dL_law_1249 ?_
  refine g_scriptLoadS (pc := 1250) dL_law_1250 (nI_o4 _) hs (by omega) (by omega) ?_
  refine g_aload_n (pc := 1251) dL_law_1251 rfl trivial ?_
  refine g_invSX_s (pc := 1252) (As := [_, _, _, _, _, _]) dL_law_1252 rfl (h1) rfl rfl lk_L_276 rfl (nb rfl) ⟨nb rfl, nb rfl⟩ rfl (fun e1 => ?_)
  have e1 := e1.trans hs
  refine g_istore (pc := 1255) (lv' := [(0, _), (1, _), (2, _), (3, _), (4, _), (5, _), (6, _)]) dL_law_1255 (nl rfl) rfl ?_
  refine g_aload_n (pc := 1257) dL_law_1257 rfl trivial ?_
  refine g_aload_n (pc := 1258) dL_law_1258 rfl isA_0 ?_
  refine g_iload (pc := 1259) dL_law_1259 rfl ?_
  refine g_iconst (pc := 1261) (v := 1) dL_law_1261 rfl ?_
  refine g_iadd (pc := 1262) dL_law_1262 ?_
  refine g_scriptLoadS (pc := 1263) dL_law_1263 (nI_o1 _) e1 (by omega) (by omega) ?_
  refine g_aload_n (pc := 1264) dL_law_1264 rfl isA_0 ?_
  refine g_iload (pc := 1265) dL_law_1265 rfl ?_
  refine g_iconst (pc := 1267) (v := 2) dL_law_1267 rfl ?_
  refine g_iadd (pc := 1268) dL_law_1268 ?_
  refine g_scriptLoadS (pc := 1269) dL_law_1269 (nI_o2 _) e1 (by omega) (by omega) ?_
  refine g_aload_n (pc := 1270) dL_law_1270 rfl isA_0 ?_
  refine g_iload (pc := 1271) dL_law_1271 rfl ?_
  refine g_iconst (pc := 1273) (v := 3) dL_law_1273 rfl ?_
  refine g_iadd (pc := 1274) dL_law_1274 ?_
  refine g_scriptLoadS (pc := 1275) dL_law_1275 (nI_o3 _) e1 (by omega) (by omega) ?_
  refine g_aload_n (pc := 1276) dL_law_1276 rfl isA_0 ?_
  refine g_iload (pc := 1277) dL_law_1277 rfl ?_
  refine g_iconst (pc := 1279) (v := 4) dL_law_1279 rfl ?_
  refine g_iadd (pc := 1280) dL_law_1280 ?_
  refine g_scriptLoadS (pc := 1281) dL_law_1281 (nI_o4 _) e1 (by omega) (by omega) ?_
  refine g_invV_s (pc := 1282) (As := [_, _, _, _]) dL_law_1282 rfl (h2) rfl rfl (shK hM1 rfl) rfl rfl lk_L_279 rfl (nb rfl) ⟨nb rfl, nb rfl⟩ rfl (fun e2 => ?_)
  have e2 := e2.trans e1
  refine g_istore (pc := 1285) (lv' := [(0, _), (1, _), (2, _), (3, _), (4, _), (5, _), (6, _), (7, _)]) dL_law_1285 (nl rfl) rfl ?_
  refine g_goto (pc := 1287) (tgt := 2752) dL_law_1287 rfl ?_
  exact g_sub (lv' := AL o) ⟨rfl, rfl, rfl, rfl, rfl, rfl, trivial⟩ (kont e2)
set_option maxRecDepth 4000 in
theorem lc_26 {kk : Int32} {b : Int32} (hs : mS M = S) (ho : o + 5 ≤ S.1) (hS9 : S.1 < 2147483648) (hM : Shp M) (hM1 : Shp M1) (hM2 : Shp M2) (h1 : EvR l jL_around 9 162 2 12 [.ref 0, .int (S.2 (o + 1)), .int (S.2 (o + 2)), .ref 212] M (.inl (some (.int kk))) M1) (h2 : EvR l jX7_around 4 160 0 0 [.ref 198, .int (S.2 (o + 1)), .int (S.2 (o + 2))] M1 (.inl (some (.int b))) M2) (kont : mS M2 = S → Go l jL_law 14 538 601024 7293034 Q 2752 (AL o) [] k n M2) : Go l jL_law 14 538 601024 7293034 Q 1290 (AL o) [] (k + 2) (n + 12) M := by
  refine g_aload_n (pc := 1290) dL_law_1290 rfl trivial ?_
  refine g_aload_n (pc := 1291) dL_law_1291 rfl isA_0 ?_
  refine g_iload (pc := 1292) dL_law_1292 rfl ?_
  refine g_iconst (pc := 1294) (v := 1) dL_law_1294 rfl ?_
  refine g_iadd (pc := 1295) dL_law_1295 ?_
  refine g_scriptLoadS (pc := 1296) dL_law_1296 (nI_o1 _) hs (by omega) (by omega) ?_
  refine g_aload_n (pc := 1297) dL_law_1297 rfl isA_0 ?_
  refine g_iload (pc := 1298) dL_law_1298 rfl ?_
  refine g_iconst (pc := 1300) (v := 2) dL_law_1300 rfl ?_
  refine g_iadd (pc := 1301) dL_law_1301 ?_
  refine g_scriptLoadS (pc := 1302) dL_law_1302 (nI_o2 _) hs (by omega) (by omega) ?_
  refine g_aload_n (pc := 1303) dL_law_1303 rfl trivial ?_
  refine g_invSX_s (pc := 1304) (As := [_, _, _, _]) dL_law_1304 rfl (h1) rfl rfl lk_L_280 rfl (nb rfl) ⟨nb rfl, nb rfl⟩ rfl (fun e1 => ?_)
  have e1 := e1.trans hs
  refine g_istore (pc := 1307) (lv' := [(0, _), (1, _), (2, _), (3, _), (4, _), (5, _), (6, _)]) dL_law_1307 (nl rfl) rfl ?_
  refine g_aload_n (pc := 1309) dL_law_1309 rfl trivial ?_
  refine g_aload_n (pc := 1310) dL_law_1310 rfl isA_0 ?_
  refine g_iload (pc := 1311) dL_law_1311 rfl ?_
  refine g_iconst (pc := 1313) (v := 1) dL_law_1313 rfl ?_
  refine g_iadd (pc := 1314) dL_law_1314 ?_
  refine g_scriptLoadS (pc := 1315) dL_law_1315 (nI_o1 _) e1 (by omega) (by omega) ?_
  refine g_aload_n (pc := 1316) dL_law_1316 rfl isA_0 ?_
  refine g_iload (pc := 1317) dL_law_1317 rfl ?_
  refine g_iconst (pc := 1319) (v := 2) dL_law_1319 rfl ?_
  refine g_iadd (pc := 1320) dL_law_1320 ?_
  refine g_scriptLoadS (pc := 1321) dL_law_1321 (nI_o2 _) e1 (by omega) (by omega) ?_
  refine g_invV_s (pc := 1322) (As := [_, _]) dL_law_1322 rfl (h2) rfl rfl (shK hM1 rfl) rfl rfl lk_L_282 rfl (nb rfl) ⟨nb rfl, nb rfl⟩ rfl (fun e2 => ?_)
  have e2 := e2.trans e1
  refine g_istore (pc := 1325) (lv' := [(0, _), (1, _), (2, _), (3, _), (4, _), (5, _), (6, _), (7, _)]) dL_law_1325 (nl rfl) rfl ?_
  refine g_goto (pc := 1327) (tgt := 2752) dL_law_1327 rfl ?_
  exact g_sub (lv' := AL o) ⟨rfl, rfl, rfl, rfl, rfl, rfl, trivial⟩ (kont e2)
set_option maxRecDepth 4000 in
theorem lc_27 {kk : Int32} {b : Int32} (hs : mS M = S) (ho : o + 5 ≤ S.1) (hS9 : S.1 < 2147483648) (hM : Shp M) (hM1 : Shp M1) (hM2 : Shp M2) (h1 : EvR l jL_girth 8 144 1 6 [.ref 0, .int (S.2 (o + 1)), .ref 212] M (.inl (some (.int kk))) M1) (h2 : EvR l jX7_girth 4 160 0 0 [.ref 198, .int (S.2 (o + 1))] M1 (.inl (some (.int b))) M2) (kont : mS M2 = S → Go l jL_law 14 538 601024 7293034 Q 2752 (AL o) [] k n M2) : Go l jL_law 14 538 601024 7293034 Q 1330 (AL o) [] (k + 1) (n + 6) M := by
  refine g_aload_n (pc := 1330) dL_law_1330 rfl trivial ?_
  refine g_aload_n (pc := 1331) dL_law_1331 rfl isA_0 ?_
  refine g_iload (pc := 1332) dL_law_1332 rfl ?_
  refine g_iconst (pc := 1334) (v := 1) dL_law_1334 rfl ?_
  refine g_iadd (pc := 1335) dL_law_1335 ?_
  refine g_scriptLoadS (pc := 1336) dL_law_1336 (nI_o1 _) hs (by omega) (by omega) ?_
  refine g_aload_n (pc := 1337) dL_law_1337 rfl trivial ?_
  refine g_invSX_s (pc := 1338) (As := [_, _, _]) dL_law_1338 rfl (h1) rfl rfl lk_L_283 rfl (nb rfl) ⟨nb rfl, nb rfl⟩ rfl (fun e1 => ?_)
  have e1 := e1.trans hs
  refine g_istore (pc := 1341) (lv' := [(0, _), (1, _), (2, _), (3, _), (4, _), (5, _), (6, _)]) dL_law_1341 (nl rfl) rfl ?_
  refine g_aload_n (pc := 1343) dL_law_1343 rfl trivial ?_
  refine g_aload_n (pc := 1344) dL_law_1344 rfl isA_0 ?_
  refine g_iload (pc := 1345) dL_law_1345 rfl ?_
  refine g_iconst (pc := 1347) (v := 1) dL_law_1347 rfl ?_
  refine g_iadd (pc := 1348) dL_law_1348 ?_
  refine g_scriptLoadS (pc := 1349) dL_law_1349 (nI_o1 _) e1 (by omega) (by omega) ?_
  refine g_invV_s (pc := 1350) (As := [_]) dL_law_1350 rfl (h2) rfl rfl (shK hM1 rfl) rfl rfl lk_L_285 rfl (nb rfl) ⟨nb rfl, nb rfl⟩ rfl (fun e2 => ?_)
  have e2 := e2.trans e1
  refine g_istore (pc := 1353) (lv' := [(0, _), (1, _), (2, _), (3, _), (4, _), (5, _), (6, _), (7, _)]) dL_law_1353 (nl rfl) rfl ?_
  refine g_goto (pc := 1355) (tgt := 2752) dL_law_1355 rfl ?_
  exact g_sub (lv' := AL o) ⟨rfl, rfl, rfl, rfl, rfl, rfl, trivial⟩ (kont e2)
set_option maxRecDepth 4000 in
theorem lc_28 {kk : Int32} {b : Int32} (hs : mS M = S) (ho : o + 5 ≤ S.1) (hS9 : S.1 < 2147483648) (hM : Shp M) (hM1 : Shp M1) (hM2 : Shp M2) (h1 : EvR l jL_order 8 146 1 6 [.ref 0, .int (S.2 (o + 1)), .int (S.2 (o + 2)), .ref 212] M (.inl (some (.int kk))) M1) (h2 : EvR l jX7_order 4 160 0 0 [.ref 198, .int (S.2 (o + 1)), .int (S.2 (o + 2))] M1 (.inl (some (.int b))) M2) (kont : mS M2 = S → Go l jL_law 14 538 601024 7293034 Q 2752 (AL o) [] k n M2) : Go l jL_law 14 538 601024 7293034 Q 1358 (AL o) [] (k + 1) (n + 6) M := by
  refine g_aload_n (pc := 1358) dL_law_1358 rfl trivial ?_
  refine g_aload_n (pc := 1359) dL_law_1359 rfl isA_0 ?_
  refine g_iload (pc := 1360) dL_law_1360 rfl ?_
  refine g_iconst (pc := 1362) (v := 1) dL_law_1362 rfl ?_
  refine g_iadd (pc := 1363) dL_law_1363 ?_
  refine g_scriptLoadS (pc := 1364) dL_law_1364 (nI_o1 _) hs (by omega) (by omega) ?_
  refine g_aload_n (pc := 1365) dL_law_1365 rfl isA_0 ?_
  refine g_iload (pc := 1366) dL_law_1366 rfl ?_
  refine g_iconst (pc := 1368) (v := 2) dL_law_1368 rfl ?_
  refine g_iadd (pc := 1369) dL_law_1369 ?_
  refine g_scriptLoadS (pc := 1370) dL_law_1370 (nI_o2 _) hs (by omega) (by omega) ?_
  refine g_aload_n (pc := 1371) dL_law_1371 rfl trivial ?_
  refine g_invSX_s (pc := 1372) (As := [_, _, _, _]) dL_law_1372 rfl (h1) rfl rfl lk_L_286 rfl (nb rfl) ⟨nb rfl, nb rfl⟩ rfl (fun e1 => ?_)
  have e1 := e1.trans hs
  refine g_istore (pc := 1375) (lv' := [(0, _), (1, _), (2, _), (3, _), (4, _), (5, _), (6, _)]) dL_law_1375 (nl rfl) rfl ?_
  refine g_aload_n (pc := 1377) dL_law_1377 rfl trivial ?_
  refine g_aload_n (pc := 1378) dL_law_1378 rfl isA_0 ?_
  refine g_iload (pc := 1379) dL_law_1379 rfl ?_
  refine g_iconst (pc := 1381) (v := 1) dL_law_1381 rfl ?_
  refine g_iadd (pc := 1382) dL_law_1382 ?_
  refine g_scriptLoadS (pc := 1383) dL_law_1383 (nI_o1 _) e1 (by omega) (by omega) ?_
  refine g_aload_n (pc := 1384) dL_law_1384 rfl isA_0 ?_
  refine g_iload (pc := 1385) dL_law_1385 rfl ?_
  refine g_iconst (pc := 1387) (v := 2) dL_law_1387 rfl ?_
  refine g_iadd (pc := 1388) dL_law_1388 ?_
  refine g_scriptLoadS (pc := 1389) dL_law_1389 (nI_o2 _) e1 (by omega) (by omega) ?_
  refine g_invV_s (pc := 1390) (As := [_, _]) dL_law_1390 rfl (h2) rfl rfl (shK hM1 rfl) rfl rfl lk_L_288 rfl (nb rfl) ⟨nb rfl, nb rfl⟩ rfl (fun e2 => ?_)
  have e2 := e2.trans e1
  refine g_istore (pc := 1393) (lv' := [(0, _), (1, _), (2, _), (3, _), (4, _), (5, _), (6, _), (7, _)]) dL_law_1393 (nl rfl) rfl ?_
  refine g_goto (pc := 1395) (tgt := 2752) dL_law_1395 rfl ?_
  exact g_sub (lv' := AL o) ⟨rfl, rfl, rfl, rfl, rfl, rfl, trivial⟩ (kont e2)
set_option maxRecDepth 4000 in
theorem lc_29 {kk : Int32} {b : Int32} (hs : mS M = S) (ho : o + 5 ≤ S.1) (hS9 : S.1 < 2147483648) (hM : Shp M) (hM1 : Shp M1) (hM2 : Shp M2) (h1 : EvR l jL_gained 10 184 3 18 [.ref 0, .int (S.2 (o + 1)), .int (S.2 (o + 2)), .int (S.2 (o + 3)), .ref 212] M (.inl (some (.int kk))) M1) (h2 : EvR l jX7_gained 4 160 0 0 [.ref 198, .int (S.2 (o + 1)), .int (S.2 (o + 2)), .int (S.2 (o + 3))] M1 (.inl (some (.int b))) M2) (kont : mS M2 = S → Go l jL_law 14 538 601024 7293034 Q 2752 (AL o) [] k n M2) : Go l jL_law 14 538 601024 7293034 Q 1398 (AL o) [] (k + 3) (n + 18) M := by
  refine g_aload_n (pc := 1398) dL_law_1398 rfl trivial ?_
  refine g_aload_n (pc := 1399) dL_law_1399 rfl isA_0 ?_
  refine g_iload (pc := 1400) dL_law_1400 rfl ?_
  refine g_iconst (pc := 1402) (v := 1) dL_law_1402 rfl ?_
  refine g_iadd (pc := 1403) dL_law_1403 ?_
  refine g_scriptLoadS (pc := 1404) dL_law_1404 (nI_o1 _) hs (by omega) (by omega) ?_
  refine g_aload_n (pc := 1405) dL_law_1405 rfl isA_0 ?_
  refine g_iload (pc := 1406) dL_law_1406 rfl ?_
  refine g_iconst (pc := 1408) (v := 2) dL_law_1408 rfl ?_
  refine g_iadd (pc := 1409) dL_law_1409 ?_
  refine g_scriptLoadS (pc := 1410) dL_law_1410 (nI_o2 _) hs (by omega) (by omega) ?_
  refine g_aload_n (pc := 1411) dL_law_1411 rfl isA_0 ?_
  refine g_iload (pc := 1412) dL_law_1412 rfl ?_
  refine g_iconst (pc := 1414) (v := 3) dL_law_1414 rfl ?_
  refine g_iadd (pc := 1415) dL_law_1415 ?_
  refine g_scriptLoadS (pc := 1416) dL_law_1416 (nI_o3 _) hs (by omega) (by omega) ?_
  refine g_aload_n (pc := 1417) dL_law_1417 rfl trivial ?_
  refine g_invSX_s (pc := 1418) (As := [_, _, _, _, _]) dL_law_1418 rfl (h1) rfl rfl lk_L_289 rfl (nb rfl) ⟨nb rfl, nb rfl⟩ rfl (fun e1 => ?_)
  have e1 := e1.trans hs
  refine g_istore (pc := 1421) (lv' := [(0, _), (1, _), (2, _), (3, _), (4, _), (5, _), (6, _)]) dL_law_1421 (nl rfl) rfl ?_
  refine g_aload_n (pc := 1423) dL_law_1423 rfl trivial ?_
  refine g_aload_n (pc := 1424) dL_law_1424 rfl isA_0 ?_
  refine g_iload (pc := 1425) dL_law_1425 rfl ?_
  refine g_iconst (pc := 1427) (v := 1) dL_law_1427 rfl ?_
  refine g_iadd (pc := 1428) dL_law_1428 ?_
  refine g_scriptLoadS (pc := 1429) dL_law_1429 (nI_o1 _) e1 (by omega) (by omega) ?_
  refine g_aload_n (pc := 1430) dL_law_1430 rfl isA_0 ?_
  refine g_iload (pc := 1431) dL_law_1431 rfl ?_
  refine g_iconst (pc := 1433) (v := 2) dL_law_1433 rfl ?_
  refine g_iadd (pc := 1434) dL_law_1434 ?_
  refine g_scriptLoadS (pc := 1435) dL_law_1435 (nI_o2 _) e1 (by omega) (by omega) ?_
  refine g_aload_n (pc := 1436) dL_law_1436 rfl isA_0 ?_
  refine g_iload (pc := 1437) dL_law_1437 rfl ?_
  refine g_iconst (pc := 1439) (v := 3) dL_law_1439 rfl ?_
  refine g_iadd (pc := 1440) dL_law_1440 ?_
  refine g_scriptLoadS (pc := 1441) dL_law_1441 (nI_o3 _) e1 (by omega) (by omega) ?_
  refine g_invV_s (pc := 1442) (As := [_, _, _]) dL_law_1442 rfl (h2) rfl rfl (shK hM1 rfl) rfl rfl lk_L_291 rfl (nb rfl) ⟨nb rfl, nb rfl⟩ rfl (fun e2 => ?_)
  have e2 := e2.trans e1
  refine g_istore (pc := 1445) (lv' := [(0, _), (1, _), (2, _), (3, _), (4, _), (5, _), (6, _), (7, _)]) dL_law_1445 (nl rfl) rfl ?_
  refine g_goto (pc := 1447) (tgt := 2752) dL_law_1447 rfl ?_
  exact g_sub (lv' := AL o) ⟨rfl, rfl, rfl, rfl, rfl, rfl, trivial⟩ (kont e2)
set_option maxRecDepth 4000 in
theorem lc_30 {kk : Int32} {b : Int32} (hs : mS M = S) (ho : o + 5 ≤ S.1) (hS9 : S.1 < 2147483648) (hM : Shp M) (hM1 : Shp M1) (hM2 : Shp M2) (h1 : EvR l jL_lost 10 213 3 18 [.ref 0, .int (S.2 (o + 1)), .int (S.2 (o + 2)), .int (S.2 (o + 3)), .ref 212] M (.inl (some (.int kk))) M1) (h2 : EvR l jX7_lost 4 160 0 0 [.ref 198, .int (S.2 (o + 1)), .int (S.2 (o + 2)), .int (S.2 (o + 3))] M1 (.inl (some (.int b))) M2) (kont : mS M2 = S → Go l jL_law 14 538 601024 7293034 Q 2752 (AL o) [] k n M2) : Go l jL_law 14 538 601024 7293034 Q 1450 (AL o) [] (k + 3) (n + 18) M := by
  refine g_aload_n (pc := 1450) dL_law_1450 rfl trivial ?_
  refine g_aload_n (pc := 1451) dL_law_1451 rfl isA_0 ?_
  refine g_iload (pc := 1452) dL_law_1452 rfl ?_
  refine g_iconst (pc := 1454) (v := 1) dL_law_1454 rfl ?_
  refine g_iadd (pc := 1455) dL_law_1455 ?_
  refine g_scriptLoadS (pc := 1456) dL_law_1456 (nI_o1 _) hs (by omega) (by omega) ?_
  refine g_aload_n (pc := 1457) dL_law_1457 rfl isA_0 ?_
  refine g_iload (pc := 1458) dL_law_1458 rfl ?_
  refine g_iconst (pc := 1460) (v := 2) dL_law_1460 rfl ?_
  refine g_iadd (pc := 1461) dL_law_1461 ?_
  refine g_scriptLoadS (pc := 1462) dL_law_1462 (nI_o2 _) hs (by omega) (by omega) ?_
  refine g_aload_n (pc := 1463) dL_law_1463 rfl isA_0 ?_
  refine g_iload (pc := 1464) dL_law_1464 rfl ?_
  refine g_iconst (pc := 1466) (v := 3) dL_law_1466 rfl ?_
  refine g_iadd (pc := 1467) dL_law_1467 ?_
  refine g_scriptLoadS (pc := 1468) dL_law_1468 (nI_o3 _) hs (by omega) (by omega) ?_
  refine g_aload_n (pc := 1469) dL_law_1469 rfl trivial ?_
  refine g_invSX_s (pc := 1470) (As := [_, _, _, _, _]) dL_law_1470 rfl (h1) rfl rfl lk_L_292 rfl (nb rfl) ⟨nb rfl, nb rfl⟩ rfl (fun e1 => ?_)
  have e1 := e1.trans hs
  refine g_istore (pc := 1473) (lv' := [(0, _), (1, _), (2, _), (3, _), (4, _), (5, _), (6, _)]) dL_law_1473 (nl rfl) rfl ?_
  refine g_aload_n (pc := 1475) dL_law_1475 rfl trivial ?_
  refine g_aload_n (pc := 1476) dL_law_1476 rfl isA_0 ?_
  refine g_iload (pc := 1477) dL_law_1477 rfl ?_
  refine g_iconst (pc := 1479) (v := 1) dL_law_1479 rfl ?_
  refine g_iadd (pc := 1480) dL_law_1480 ?_
  refine g_scriptLoadS (pc := 1481) dL_law_1481 (nI_o1 _) e1 (by omega) (by omega) ?_
  refine g_aload_n (pc := 1482) dL_law_1482 rfl isA_0 ?_
  refine g_iload (pc := 1483) dL_law_1483 rfl ?_
  refine g_iconst (pc := 1485) (v := 2) dL_law_1485 rfl ?_
  refine g_iadd (pc := 1486) dL_law_1486 ?_
  refine g_scriptLoadS (pc := 1487) dL_law_1487 (nI_o2 _) e1 (by omega) (by omega) ?_
  refine g_aload_n (pc := 1488) dL_law_1488 rfl isA_0 ?_
  refine g_iload (pc := 1489) dL_law_1489 rfl ?_
  refine g_iconst (pc := 1491) (v := 3) dL_law_1491 rfl ?_
  refine g_iadd (pc := 1492) dL_law_1492 ?_
  refine g_scriptLoadS (pc := 1493) dL_law_1493 (nI_o3 _) e1 (by omega) (by omega) ?_
  refine g_invV_s (pc := 1494) (As := [_, _, _]) dL_law_1494 rfl (h2) rfl rfl (shK hM1 rfl) rfl rfl lk_L_294 rfl (nb rfl) ⟨nb rfl, nb rfl⟩ rfl (fun e2 => ?_)
  have e2 := e2.trans e1
  refine g_istore (pc := 1497) (lv' := [(0, _), (1, _), (2, _), (3, _), (4, _), (5, _), (6, _), (7, _)]) dL_law_1497 (nl rfl) rfl ?_
  refine g_goto (pc := 1499) (tgt := 2752) dL_law_1499 rfl ?_
  exact g_sub (lv' := AL o) ⟨rfl, rfl, rfl, rfl, rfl, rfl, trivial⟩ (kont e2)
set_option maxRecDepth 4000 in
theorem lc_31 {kk : Int32} {b : Int32} (hs : mS M = S) (ho : o + 5 ≤ S.1) (hS9 : S.1 < 2147483648) (hM : Shp M) (hM1 : Shp M1) (hM2 : Shp M2) (h1 : EvR l jL_bestEdge 8 169 1 6 [.ref 0, .int (S.2 (o + 1)), .ref 212] M (.inl (some (.int kk))) M1) (h2 : EvR l jX7_bestEdge 5 160 0 0 [.ref 198, .int (S.2 (o + 1))] M1 (.inl (some (.int b))) M2) (kont : mS M2 = S → Go l jL_law 14 538 601024 7293034 Q 2752 (AL o) [] k n M2) : Go l jL_law 14 538 601024 7293034 Q 1502 (AL o) [] (k + 1) (n + 6) M := by
  refine g_aload_n (pc := 1502) dL_law_1502 rfl trivial ?_
  refine g_aload_n (pc := 1503) dL_law_1503 rfl isA_0 ?_
  refine g_iload (pc := 1504) dL_law_1504 rfl ?_
  refine g_iconst (pc := 1506) (v := 1) dL_law_1506 rfl ?_
  refine g_iadd (pc := 1507) dL_law_1507 ?_
  refine g_scriptLoadS (pc := 1508) dL_law_1508 (nI_o1 _) hs (by omega) (by omega) ?_
  refine g_aload_n (pc := 1509) dL_law_1509 rfl trivial ?_
  refine g_invSX_s (pc := 1510) (As := [_, _, _]) dL_law_1510 rfl (h1) rfl rfl lk_L_295 rfl (nb rfl) ⟨nb rfl, nb rfl⟩ rfl (fun e1 => ?_)
  have e1 := e1.trans hs
  refine g_istore (pc := 1513) (lv' := [(0, _), (1, _), (2, _), (3, _), (4, _), (5, _), (6, _)]) dL_law_1513 (nl rfl) rfl ?_
  refine g_aload_n (pc := 1515) dL_law_1515 rfl trivial ?_
  refine g_aload_n (pc := 1516) dL_law_1516 rfl isA_0 ?_
  refine g_iload (pc := 1517) dL_law_1517 rfl ?_
  refine g_iconst (pc := 1519) (v := 1) dL_law_1519 rfl ?_
  refine g_iadd (pc := 1520) dL_law_1520 ?_
  refine g_scriptLoadS (pc := 1521) dL_law_1521 (nI_o1 _) e1 (by omega) (by omega) ?_
  refine g_invV_s (pc := 1522) (As := [_]) dL_law_1522 rfl (h2) rfl rfl (shK hM1 rfl) rfl rfl lk_L_297 rfl (nb rfl) ⟨nb rfl, nb rfl⟩ rfl (fun e2 => ?_)
  have e2 := e2.trans e1
  refine g_istore (pc := 1525) (lv' := [(0, _), (1, _), (2, _), (3, _), (4, _), (5, _), (6, _), (7, _)]) dL_law_1525 (nl rfl) rfl ?_
  refine g_goto (pc := 1527) (tgt := 2752) dL_law_1527 rfl ?_
  exact g_sub (lv' := AL o) ⟨rfl, rfl, rfl, rfl, rfl, rfl, trivial⟩ (kont e2)
set_option maxRecDepth 4000 in
theorem lc_32 {kk : Int32} {b : Int32} (hs : mS M = S) (ho : o + 5 ≤ S.1) (hS9 : S.1 < 2147483648) (hM : Shp M) (hM1 : Shp M1) (hM2 : Shp M2) (h1 : EvR l jL_weakest 8 217 1 6 [.ref 0, .int (S.2 (o + 1)), .ref 212] M (.inl (some (.int kk))) M1) (h2 : EvR l jX7_weakest 5 160 0 0 [.ref 198, .int (S.2 (o + 1))] M1 (.inl (some (.int b))) M2) (ht : mI M2 198 6 = kk) (hq : kk = 0 → mL M2 212 0 = b.toInt64) (kont : mS M2 = S → Go l jL_law 14 538 601024 7293034 Q 2752 (AL o) [] k n M2) : Go l jL_law 14 538 601024 7293034 Q 1530 (AL o) [] (k + 1) (n + 6) M := by
  refine g_aload_n (pc := 1530) dL_law_1530 rfl trivial ?_
  refine g_aload_n (pc := 1531) dL_law_1531 rfl isA_0 ?_
  refine g_iload (pc := 1532) dL_law_1532 rfl ?_
  refine g_iconst (pc := 1534) (v := 1) dL_law_1534 rfl ?_
  refine g_iadd (pc := 1535) dL_law_1535 ?_
  refine g_scriptLoadS (pc := 1536) dL_law_1536 (nI_o1 _) hs (by omega) (by omega) ?_
  refine g_aload_n (pc := 1537) dL_law_1537 rfl trivial ?_
  refine g_invSX_s (pc := 1538) (As := [_, _, _]) dL_law_1538 rfl (h1) rfl rfl lk_L_298 rfl (nb rfl) ⟨nb rfl, nb rfl⟩ rfl (fun e1 => ?_)
  have e1 := e1.trans hs
  refine g_istore (pc := 1541) (lv' := [(0, _), (1, _), (2, _), (3, _), (4, _), (5, _), (6, _)]) dL_law_1541 (nl rfl) rfl ?_
  refine g_aload_n (pc := 1543) dL_law_1543 rfl trivial ?_
  refine g_aload_n (pc := 1544) dL_law_1544 rfl isA_0 ?_
  refine g_iload (pc := 1545) dL_law_1545 rfl ?_
  refine g_iconst (pc := 1547) (v := 1) dL_law_1547 rfl ?_
  refine g_iadd (pc := 1548) dL_law_1548 ?_
  refine g_scriptLoadS (pc := 1549) dL_law_1549 (nI_o1 _) e1 (by omega) (by omega) ?_
  refine g_invV_s (pc := 1550) (As := [_]) dL_law_1550 rfl (h2) rfl rfl (shK hM1 rfl) rfl rfl lk_L_300 rfl (nb rfl) ⟨nb rfl, nb rfl⟩ rfl (fun e2 => ?_)
  have e2 := e2.trans e1
  refine g_istore (pc := 1553) (lv' := [(0, _), (1, _), (2, _), (3, _), (4, _), (5, _), (6, _), (7, _)]) dL_law_1553 (nl rfl) rfl ?_
  refine g_aload_n (pc := 1555) dL_law_1555 rfl trivial ?_
  refine g_invV_r (pc := 1556) (As := []) dL_law_1556 rfl (n_thrown hM2) rfl rfl (shK hM2 rfl) rfl rfl lk_L_301 rfl (nb rfl) ⟨nb rfl, nb rfl⟩ rfl ?_
  refine g_iload (pc := 1559) dL_law_1559 rfl ?_
  refine g_icmp_eq (pc := 1561) (tgt := 1566) dL_law_1561 rfl (fun _ => ?_) (fun h1561 => absurd (ht) h1561)
  refine g_iload (pc := 1566) dL_law_1566 rfl ?_
  refine g_if_ne (pc := 1568) (tgt := 1583) dL_law_1568 rfl (fun h1568 => ?_) (fun h1568 => ?_)
  · refine g_goto (pc := 1583) (tgt := 2752) dL_law_1583 rfl ?_
    exact g_sub (lv' := AL o) ⟨rfl, rfl, rfl, rfl, rfl, rfl, trivial⟩ (kont e2)
  · refine g_aload_n (pc := 1571) dL_law_1571 rfl trivial ?_
    refine g_iconst (pc := 1572) (v := 0) dL_law_1572 rfl ?_
    refine g_laload (pc := 1573) dL_law_1573 (shK hM2 rfl) rfl (nb rfl) (nl rfl) ?_
    refine g_iload (pc := 1574) dL_law_1574 rfl ?_
    refine g_i2l (pc := 1576) dL_law_1576 rfl ?_
    refine g_lcmp (pc := 1577) dL_law_1577 ?_
    refine g_if_eq (pc := 1578) (tgt := 1583) dL_law_1578 rfl (fun _ => ?_) (fun h1578 => absurd ((lgc_self (hq (Decidable.not_not.mp h1568)))) h1578)
    refine g_goto (pc := 1583) (tgt := 2752) dL_law_1583 rfl ?_
    exact g_sub (lv' := AL o) ⟨rfl, rfl, rfl, rfl, rfl, rfl, trivial⟩ (kont e2)
set_option maxRecDepth 4000 in
theorem lc_33 {kk : Int32} {b : Int32} (hs : mS M = S) (ho : o + 5 ≤ S.1) (hS9 : S.1 < 2147483648) (hM : Shp M) (hM1 : Shp M1) (hM2 : Shp M2) (h1 : EvR l jL_triangles 8 146 1 6 [.ref 0, .int (S.2 (o + 1)), .ref 212] M (.inl (some (.int kk))) M1) (h2 : EvR l jX7_triangles 4 160 0 0 [.ref 198, .int (S.2 (o + 1))] M1 (.inl (some (.int b))) M2) (kont : mS M2 = S → Go l jL_law 14 538 601024 7293034 Q 2752 (AL o) [] k n M2) : Go l jL_law 14 538 601024 7293034 Q 1586 (AL o) [] (k + 1) (n + 6) M := by
  refine g_aload_n (pc := 1586) dL_law_1586 rfl trivial ?_
  refine g_aload_n (pc := 1587) dL_law_1587 rfl isA_0 ?_
  refine g_iload (pc := 1588) dL_law_1588 rfl ?_
  refine g_iconst (pc := 1590) (v := 1) dL_law_1590 rfl ?_
  refine g_iadd (pc := 1591) dL_law_1591 ?_
  refine g_scriptLoadS (pc := 1592) dL_law_1592 (nI_o1 _) hs (by omega) (by omega) ?_
  refine g_aload_n (pc := 1593) dL_law_1593 rfl trivial ?_
  refine g_invSX_s (pc := 1594) (As := [_, _, _]) dL_law_1594 rfl (h1) rfl rfl lk_L_304 rfl (nb rfl) ⟨nb rfl, nb rfl⟩ rfl (fun e1 => ?_)
  have e1 := e1.trans hs
  refine g_istore (pc := 1597) (lv' := [(0, _), (1, _), (2, _), (3, _), (4, _), (5, _), (6, _)]) dL_law_1597 (nl rfl) rfl ?_
  refine g_aload_n (pc := 1599) dL_law_1599 rfl trivial ?_
  refine g_aload_n (pc := 1600) dL_law_1600 rfl isA_0 ?_
  refine g_iload (pc := 1601) dL_law_1601 rfl ?_
  refine g_iconst (pc := 1603) (v := 1) dL_law_1603 rfl ?_
  refine g_iadd (pc := 1604) dL_law_1604 ?_
  refine g_scriptLoadS (pc := 1605) dL_law_1605 (nI_o1 _) e1 (by omega) (by omega) ?_
  refine g_invV_s (pc := 1606) (As := [_]) dL_law_1606 rfl (h2) rfl rfl (shK hM1 rfl) rfl rfl lk_L_306 rfl (nb rfl) ⟨nb rfl, nb rfl⟩ rfl (fun e2 => ?_)
  have e2 := e2.trans e1
  refine g_istore (pc := 1609) (lv' := [(0, _), (1, _), (2, _), (3, _), (4, _), (5, _), (6, _), (7, _)]) dL_law_1609 (nl rfl) rfl ?_
  refine g_goto (pc := 1611) (tgt := 2752) dL_law_1611 rfl ?_
  exact g_sub (lv' := AL o) ⟨rfl, rfl, rfl, rfl, rfl, rfl, trivial⟩ (kont e2)
set_option maxRecDepth 4000 in
theorem lc_34 {kk : Int32} {b : Int32} (hs : mS M = S) (ho : o + 5 ≤ S.1) (hS9 : S.1 < 2147483648) (hM : Shp M) (hM1 : Shp M1) (hM2 : Shp M2) (h1 : EvR l jL_fieldRank 8 171 1 6 [.ref 0, .int (S.2 (o + 1)), .ref 212] M (.inl (some (.int kk))) M1) (h2 : EvR l jX7_fieldRank 4 160 0 0 [.ref 198, .int (S.2 (o + 1))] M1 (.inl (some (.int b))) M2) (kont : mS M2 = S → Go l jL_law 14 538 601024 7293034 Q 2752 (AL o) [] k n M2) : Go l jL_law 14 538 601024 7293034 Q 1614 (AL o) [] (k + 1) (n + 6) M := by
  refine g_aload_n (pc := 1614) dL_law_1614 rfl trivial ?_
  refine g_aload_n (pc := 1615) dL_law_1615 rfl isA_0 ?_
  refine g_iload (pc := 1616) dL_law_1616 rfl ?_
  refine g_iconst (pc := 1618) (v := 1) dL_law_1618 rfl ?_
  refine g_iadd (pc := 1619) dL_law_1619 ?_
  refine g_scriptLoadS (pc := 1620) dL_law_1620 (nI_o1 _) hs (by omega) (by omega) ?_
  refine g_aload_n (pc := 1621) dL_law_1621 rfl trivial ?_
  refine g_invSX_s (pc := 1622) (As := [_, _, _]) dL_law_1622 rfl (h1) rfl rfl lk_L_307 rfl (nb rfl) ⟨nb rfl, nb rfl⟩ rfl (fun e1 => ?_)
  have e1 := e1.trans hs
  refine g_istore (pc := 1625) (lv' := [(0, _), (1, _), (2, _), (3, _), (4, _), (5, _), (6, _)]) dL_law_1625 (nl rfl) rfl ?_
  refine g_aload_n (pc := 1627) dL_law_1627 rfl trivial ?_
  refine g_aload_n (pc := 1628) dL_law_1628 rfl isA_0 ?_
  refine g_iload (pc := 1629) dL_law_1629 rfl ?_
  refine g_iconst (pc := 1631) (v := 1) dL_law_1631 rfl ?_
  refine g_iadd (pc := 1632) dL_law_1632 ?_
  refine g_scriptLoadS (pc := 1633) dL_law_1633 (nI_o1 _) e1 (by omega) (by omega) ?_
  refine g_invV_s (pc := 1634) (As := [_]) dL_law_1634 rfl (h2) rfl rfl (shK hM1 rfl) rfl rfl lk_L_309 rfl (nb rfl) ⟨nb rfl, nb rfl⟩ rfl (fun e2 => ?_)
  have e2 := e2.trans e1
  refine g_istore (pc := 1637) (lv' := [(0, _), (1, _), (2, _), (3, _), (4, _), (5, _), (6, _), (7, _)]) dL_law_1637 (nl rfl) rfl ?_
  refine g_goto (pc := 1639) (tgt := 2752) dL_law_1639 rfl ?_
  exact g_sub (lv' := AL o) ⟨rfl, rfl, rfl, rfl, rfl, rfl, trivial⟩ (kont e2)
set_option maxRecDepth 4000 in
theorem lc_35 {kk : Int32} {b : Int64} (hs : mS M = S) (ho : o + 5 ≤ S.1) (hS9 : S.1 < 2147483648) (hM : Shp M) (hM1 : Shp M1) (hM2 : Shp M2) (h1 : EvR l jL_solve 8 173 1 6 [.ref 0, .int (S.2 (o + 1)), .long (l2 (S.2 (o + 2)) (S.2 (o + 3))), .ref 212] M (.inl (some (.int kk))) M1) (h2 : EvR l jX7_solve 4 160 0 0 [.ref 198, .int (S.2 (o + 1)), .long (l2 (S.2 (o + 2)) (S.2 (o + 3)))] M1 (.inl (some (.long b))) M2) (kont : mS M2 = S → Go l jL_law 14 538 601024 7293034 Q 2752 (AL o) [] k n M2) : Go l jL_law 14 538 601024 7293034 Q 1642 (AL o) [] (k + 1) (n + 6) M := by
  refine g_aload_n (pc := 1642) dL_law_1642 rfl trivial ?_
  refine g_aload_n (pc := 1643) dL_law_1643 rfl isA_0 ?_
  refine g_iload (pc := 1644) dL_law_1644 rfl ?_
  refine g_iconst (pc := 1646) (v := 1) dL_law_1646 rfl ?_
  refine g_iadd (pc := 1647) dL_law_1647 ?_
  refine g_scriptLoadS (pc := 1648) dL_law_1648 (nI_o1 _) hs (by omega) (by omega) ?_
  refine g_aload_n (pc := 1649) dL_law_1649 rfl isA_0 ?_
  refine g_iload (pc := 1650) dL_law_1650 rfl ?_
  refine g_iconst (pc := 1652) (v := 2) dL_law_1652 rfl ?_
  refine g_iadd (pc := 1653) dL_law_1653 ?_
  refine g_scriptLoadS (pc := 1654) dL_law_1654 (nI_o2 _) hs (by omega) (by omega) ?_
  refine g_i2l (pc := 1655) dL_law_1655 rfl ?_
  refine g_bipush (pc := 1656) (v := 32) dL_law_1656 rfl ?_
  refine g_lshl (pc := 1658) dL_law_1658 rfl ?_
  refine g_aload_n (pc := 1659) dL_law_1659 rfl isA_0 ?_
  refine g_iload (pc := 1660) dL_law_1660 rfl ?_
  refine g_iconst (pc := 1662) (v := 3) dL_law_1662 rfl ?_
  refine g_iadd (pc := 1663) dL_law_1663 ?_
  refine g_scriptLoadS (pc := 1664) dL_law_1664 (nI_o3 _) hs (by omega) (by omega) ?_
  refine g_i2l (pc := 1665) dL_law_1665 rfl ?_
  refine g_ldc2 (pc := 1666) dL_law_1666 wd_1783 ?_
  refine g_land (pc := 1669) dL_law_1669 ?_
  refine g_lor (pc := 1670) dL_law_1670 ?_
  refine g_aload_n (pc := 1671) dL_law_1671 rfl trivial ?_
  refine g_invSX_s (pc := 1672) (As := [_, _, _, _]) dL_law_1672 rfl (h1) rfl rfl lk_L_310 rfl (nb rfl) ⟨nb rfl, nb rfl⟩ rfl (fun e1 => ?_)
  have e1 := e1.trans hs
  refine g_istore (pc := 1675) (lv' := [(0, _), (1, _), (2, _), (3, _), (4, _), (5, _), (6, _)]) dL_law_1675 (nl rfl) rfl ?_
  refine g_aload_n (pc := 1677) dL_law_1677 rfl trivial ?_
  refine g_aload_n (pc := 1678) dL_law_1678 rfl isA_0 ?_
  refine g_iload (pc := 1679) dL_law_1679 rfl ?_
  refine g_iconst (pc := 1681) (v := 1) dL_law_1681 rfl ?_
  refine g_iadd (pc := 1682) dL_law_1682 ?_
  refine g_scriptLoadS (pc := 1683) dL_law_1683 (nI_o1 _) e1 (by omega) (by omega) ?_
  refine g_aload_n (pc := 1684) dL_law_1684 rfl isA_0 ?_
  refine g_iload (pc := 1685) dL_law_1685 rfl ?_
  refine g_iconst (pc := 1687) (v := 2) dL_law_1687 rfl ?_
  refine g_iadd (pc := 1688) dL_law_1688 ?_
  refine g_scriptLoadS (pc := 1689) dL_law_1689 (nI_o2 _) e1 (by omega) (by omega) ?_
  refine g_i2l (pc := 1690) dL_law_1690 rfl ?_
  refine g_bipush (pc := 1691) (v := 32) dL_law_1691 rfl ?_
  refine g_lshl (pc := 1693) dL_law_1693 rfl ?_
  refine g_aload_n (pc := 1694) dL_law_1694 rfl isA_0 ?_
  refine g_iload (pc := 1695) dL_law_1695 rfl ?_
  refine g_iconst (pc := 1697) (v := 3) dL_law_1697 rfl ?_
  refine g_iadd (pc := 1698) dL_law_1698 ?_
  refine g_scriptLoadS (pc := 1699) dL_law_1699 (nI_o3 _) e1 (by omega) (by omega) ?_
  refine g_i2l (pc := 1700) dL_law_1700 rfl ?_
  refine g_ldc2 (pc := 1701) dL_law_1701 wd_1783 ?_
  refine g_land (pc := 1704) dL_law_1704 ?_
  refine g_lor (pc := 1705) dL_law_1705 ?_
  refine g_invV_s (pc := 1706) (As := [_, _]) dL_law_1706 rfl (h2) rfl rfl (shK hM1 rfl) rfl rfl lk_L_312 rfl (nb rfl) ⟨nb rfl, nb rfl⟩ rfl (fun e2 => ?_)
  have e2 := e2.trans e1
  refine g_lstore (pc := 1709) (lv' := [(0, _), (1, _), (2, _), (3, _), (4, _), (5, _), (6, _), (7, _)]) dL_law_1709 (nl rfl) rfl ?_
  refine g_goto (pc := 1711) (tgt := 2752) dL_law_1711 rfl ?_
  exact g_sub (lv' := AL o) ⟨rfl, rfl, rfl, rfl, rfl, rfl, trivial⟩ (kont e2)
set_option maxRecDepth 4000 in
theorem lc_36 {kk : Int32} {b : Int32} (hs : mS M = S) (ho : o + 5 ≤ S.1) (hS9 : S.1 < 2147483648) (hM : Shp M) (hM1 : Shp M1) (hM2 : Shp M2) (h1 : EvR l jL_freedom 8 173 1 6 [.ref 0, .int (S.2 (o + 1)), .long (l2 (S.2 (o + 2)) (S.2 (o + 3))), .ref 212] M (.inl (some (.int kk))) M1) (h2 : EvR l jX7_freedom 4 160 0 0 [.ref 198, .int (S.2 (o + 1)), .long (l2 (S.2 (o + 2)) (S.2 (o + 3)))] M1 (.inl (some (.int b))) M2) (kont : mS M2 = S → Go l jL_law 14 538 601024 7293034 Q 2752 (AL o) [] k n M2) : Go l jL_law 14 538 601024 7293034 Q 1714 (AL o) [] (k + 1) (n + 6) M := by
  refine g_aload_n (pc := 1714) dL_law_1714 rfl trivial ?_
  refine g_aload_n (pc := 1715) dL_law_1715 rfl isA_0 ?_
  refine g_iload (pc := 1716) dL_law_1716 rfl ?_
  refine g_iconst (pc := 1718) (v := 1) dL_law_1718 rfl ?_
  refine g_iadd (pc := 1719) dL_law_1719 ?_
  refine g_scriptLoadS (pc := 1720) dL_law_1720 (nI_o1 _) hs (by omega) (by omega) ?_
  refine g_aload_n (pc := 1721) dL_law_1721 rfl isA_0 ?_
  refine g_iload (pc := 1722) dL_law_1722 rfl ?_
  refine g_iconst (pc := 1724) (v := 2) dL_law_1724 rfl ?_
  refine g_iadd (pc := 1725) dL_law_1725 ?_
  refine g_scriptLoadS (pc := 1726) dL_law_1726 (nI_o2 _) hs (by omega) (by omega) ?_
  refine g_i2l (pc := 1727) dL_law_1727 rfl ?_
  refine g_bipush (pc := 1728) (v := 32) dL_law_1728 rfl ?_
  refine g_lshl (pc := 1730) dL_law_1730 rfl ?_
  refine g_aload_n (pc := 1731) dL_law_1731 rfl isA_0 ?_
  refine g_iload (pc := 1732) dL_law_1732 rfl ?_
  refine g_iconst (pc := 1734) (v := 3) dL_law_1734 rfl ?_
  refine g_iadd (pc := 1735) dL_law_1735 ?_
  refine g_scriptLoadS (pc := 1736) dL_law_1736 (nI_o3 _) hs (by omega) (by omega) ?_
  refine g_i2l (pc := 1737) dL_law_1737 rfl ?_
  refine g_ldc2 (pc := 1738) dL_law_1738 wd_1783 ?_
  refine g_land (pc := 1741) dL_law_1741 ?_
  refine g_lor (pc := 1742) dL_law_1742 ?_
  refine g_aload_n (pc := 1743) dL_law_1743 rfl trivial ?_
  refine g_invSX_s (pc := 1744) (As := [_, _, _, _]) dL_law_1744 rfl (h1) rfl rfl lk_L_313 rfl (nb rfl) ⟨nb rfl, nb rfl⟩ rfl (fun e1 => ?_)
  have e1 := e1.trans hs
  refine g_istore (pc := 1747) (lv' := [(0, _), (1, _), (2, _), (3, _), (4, _), (5, _), (6, _)]) dL_law_1747 (nl rfl) rfl ?_
  refine g_aload_n (pc := 1749) dL_law_1749 rfl trivial ?_
  refine g_aload_n (pc := 1750) dL_law_1750 rfl isA_0 ?_
  refine g_iload (pc := 1751) dL_law_1751 rfl ?_
  refine g_iconst (pc := 1753) (v := 1) dL_law_1753 rfl ?_
  refine g_iadd (pc := 1754) dL_law_1754 ?_
  refine g_scriptLoadS (pc := 1755) dL_law_1755 (nI_o1 _) e1 (by omega) (by omega) ?_
  refine g_aload_n (pc := 1756) dL_law_1756 rfl isA_0 ?_
  refine g_iload (pc := 1757) dL_law_1757 rfl ?_
  refine g_iconst (pc := 1759) (v := 2) dL_law_1759 rfl ?_
  refine g_iadd (pc := 1760) dL_law_1760 ?_
  refine g_scriptLoadS (pc := 1761) dL_law_1761 (nI_o2 _) e1 (by omega) (by omega) ?_
  refine g_i2l (pc := 1762) dL_law_1762 rfl ?_
  refine g_bipush (pc := 1763) (v := 32) dL_law_1763 rfl ?_
  refine g_lshl (pc := 1765) dL_law_1765 rfl ?_
  refine g_aload_n (pc := 1766) dL_law_1766 rfl isA_0 ?_
  refine g_iload (pc := 1767) dL_law_1767 rfl ?_
  refine g_iconst (pc := 1769) (v := 3) dL_law_1769 rfl ?_
  refine g_iadd (pc := 1770) dL_law_1770 ?_
  refine g_scriptLoadS (pc := 1771) dL_law_1771 (nI_o3 _) e1 (by omega) (by omega) ?_
  refine g_i2l (pc := 1772) dL_law_1772 rfl ?_
  refine g_ldc2 (pc := 1773) dL_law_1773 wd_1783 ?_
  refine g_land (pc := 1776) dL_law_1776 ?_
  refine g_lor (pc := 1777) dL_law_1777 ?_
  refine g_invV_s (pc := 1778) (As := [_, _]) dL_law_1778 rfl (h2) rfl rfl (shK hM1 rfl) rfl rfl lk_L_315 rfl (nb rfl) ⟨nb rfl, nb rfl⟩ rfl (fun e2 => ?_)
  have e2 := e2.trans e1
  refine g_istore (pc := 1781) (lv' := [(0, _), (1, _), (2, _), (3, _), (4, _), (5, _), (6, _), (7, _)]) dL_law_1781 (nl rfl) rfl ?_
  refine g_goto (pc := 1783) (tgt := 2752) dL_law_1783 rfl ?_
  exact g_sub (lv' := AL o) ⟨rfl, rfl, rfl, rfl, rfl, rfl, trivial⟩ (kont e2)
set_option maxRecDepth 4000 in
theorem lc_37 {kk : Int32} {b : Int32} (hs : mS M = S) (ho : o + 5 ≤ S.1) (hS9 : S.1 < 2147483648) (hM : Shp M) (hM1 : Shp M1) (hM2 : Shp M2) (h1 : EvR l jL_pivot 8 172 1 6 [.ref 0, .int (S.2 (o + 1)), .int (S.2 (o + 2)), .ref 212] M (.inl (some (.int kk))) M1) (h2 : EvR l jX7_pivot 4 160 0 0 [.ref 198, .int (S.2 (o + 1)), .int (S.2 (o + 2))] M1 (.inl (some (.int b))) M2) (kont : mS M2 = S → Go l jL_law 14 538 601024 7293034 Q 2752 (AL o) [] k n M2) : Go l jL_law 14 538 601024 7293034 Q 1786 (AL o) [] (k + 1) (n + 6) M := by
  refine g_aload_n (pc := 1786) dL_law_1786 rfl trivial ?_
  refine g_aload_n (pc := 1787) dL_law_1787 rfl isA_0 ?_
  refine g_iload (pc := 1788) dL_law_1788 rfl ?_
  refine g_iconst (pc := 1790) (v := 1) dL_law_1790 rfl ?_
  refine g_iadd (pc := 1791) dL_law_1791 ?_
  refine g_scriptLoadS (pc := 1792) dL_law_1792 (nI_o1 _) hs (by omega) (by omega) ?_
  refine g_aload_n (pc := 1793) dL_law_1793 rfl isA_0 ?_
  refine g_iload (pc := 1794) dL_law_1794 rfl ?_
  refine g_iconst (pc := 1796) (v := 2) dL_law_1796 rfl ?_
  refine g_iadd (pc := 1797) dL_law_1797 ?_
  refine g_scriptLoadS (pc := 1798) dL_law_1798 (nI_o2 _) hs (by omega) (by omega) ?_
  refine g_aload_n (pc := 1799) dL_law_1799 rfl trivial ?_
  refine g_invSX_s (pc := 1800) (As := [_, _, _, _]) dL_law_1800 rfl (h1) rfl rfl lk_L_316 rfl (nb rfl) ⟨nb rfl, nb rfl⟩ rfl (fun e1 => ?_)
  have e1 := e1.trans hs
  refine g_istore (pc := 1803) (lv' := [(0, _), (1, _), (2, _), (3, _), (4, _), (5, _), (6, _)]) dL_law_1803 (nl rfl) rfl ?_
  refine g_aload_n (pc := 1805) dL_law_1805 rfl trivial ?_
  refine g_aload_n (pc := 1806) dL_law_1806 rfl isA_0 ?_
  refine g_iload (pc := 1807) dL_law_1807 rfl ?_
  refine g_iconst (pc := 1809) (v := 1) dL_law_1809 rfl ?_
  refine g_iadd (pc := 1810) dL_law_1810 ?_
  refine g_scriptLoadS (pc := 1811) dL_law_1811 (nI_o1 _) e1 (by omega) (by omega) ?_
  refine g_aload_n (pc := 1812) dL_law_1812 rfl isA_0 ?_
  refine g_iload (pc := 1813) dL_law_1813 rfl ?_
  refine g_iconst (pc := 1815) (v := 2) dL_law_1815 rfl ?_
  refine g_iadd (pc := 1816) dL_law_1816 ?_
  refine g_scriptLoadS (pc := 1817) dL_law_1817 (nI_o2 _) e1 (by omega) (by omega) ?_
  refine g_invV_s (pc := 1818) (As := [_, _]) dL_law_1818 rfl (h2) rfl rfl (shK hM1 rfl) rfl rfl lk_L_318 rfl (nb rfl) ⟨nb rfl, nb rfl⟩ rfl (fun e2 => ?_)
  have e2 := e2.trans e1
  refine g_istore (pc := 1821) (lv' := [(0, _), (1, _), (2, _), (3, _), (4, _), (5, _), (6, _), (7, _)]) dL_law_1821 (nl rfl) rfl ?_
  refine g_goto (pc := 1823) (tgt := 2752) dL_law_1823 rfl ?_
  exact g_sub (lv' := AL o) ⟨rfl, rfl, rfl, rfl, rfl, rfl, trivial⟩ (kont e2)
set_option maxRecDepth 4000 in
theorem lc_38 {kk : Int32} {b : Int32} {f : Int32} (hf : f = if S.2 (o + 4) = 0 then 0 else 1) (hs : mS M = S) (ho : o + 5 ≤ S.1) (hS9 : S.1 < 2147483648) (hM : Shp M) (hM1 : Shp M1) (hM2 : Shp M2) (h1 : EvR l jL_put 10 187 3 18 [.ref 0, .int (S.2 (o + 1)), .int (S.2 (o + 2)), .int (S.2 (o + 3)), .int f, .ref 212] M (.inl (some (.int kk))) M1) (h2 : EvR l jX7_put 4 160 0 0 [.ref 198, .int (S.2 (o + 1)), .int (S.2 (o + 2)), .int (S.2 (o + 3)), .int f] M1 (.inl (some (.int b))) M2) (kont : mS M2 = S → Go l jL_law 14 538 601024 7293034 Q 2752 (AL o) [] k n M2) : Go l jL_law 14 538 601024 7293034 Q 1826 (AL o) [] (k + 3) (n + 18) M := by
  by_cases hx : S.2 (o + 4) = 0
  · rw [if_pos hx] at hf; subst hf
    refine g_aload_n (pc := 1826) dL_law_1826 rfl trivial ?_
    refine g_aload_n (pc := 1827) dL_law_1827 rfl isA_0 ?_
    refine g_iload (pc := 1828) dL_law_1828 rfl ?_
    refine g_iconst (pc := 1830) (v := 1) dL_law_1830 rfl ?_
    refine g_iadd (pc := 1831) dL_law_1831 ?_
    refine g_scriptLoadS (pc := 1832) dL_law_1832 (nI_o1 _) hs (by omega) (by omega) ?_
    refine g_aload_n (pc := 1833) dL_law_1833 rfl isA_0 ?_
    refine g_iload (pc := 1834) dL_law_1834 rfl ?_
    refine g_iconst (pc := 1836) (v := 2) dL_law_1836 rfl ?_
    refine g_iadd (pc := 1837) dL_law_1837 ?_
    refine g_scriptLoadS (pc := 1838) dL_law_1838 (nI_o2 _) hs (by omega) (by omega) ?_
    refine g_aload_n (pc := 1839) dL_law_1839 rfl isA_0 ?_
    refine g_iload (pc := 1840) dL_law_1840 rfl ?_
    refine g_iconst (pc := 1842) (v := 3) dL_law_1842 rfl ?_
    refine g_iadd (pc := 1843) dL_law_1843 ?_
    refine g_scriptLoadS (pc := 1844) dL_law_1844 (nI_o3 _) hs (by omega) (by omega) ?_
    refine g_aload_n (pc := 1845) dL_law_1845 rfl isA_0 ?_
    refine g_iload (pc := 1846) dL_law_1846 rfl ?_
    refine g_iconst (pc := 1848) (v := 4) dL_law_1848 rfl ?_
    refine g_iadd (pc := 1849) dL_law_1849 ?_
    refine g_scriptLoadS (pc := 1850) dL_law_1850 (nI_o4 _) hs (by omega) (by omega) ?_
    refine g_if_eq (pc := 1851) (tgt := 1858) dL_law_1851 rfl (fun _ => ?_) (fun h1851 => absurd (hx) h1851)
    refine g_iconst (pc := 1858) (v := 0) dL_law_1858 rfl ?_
    refine g_aload_n (pc := 1859) dL_law_1859 rfl trivial ?_
    refine g_invSX_s (pc := 1860) (As := [_, _, _, _, _, _]) dL_law_1860 rfl (h1) rfl rfl lk_L_319 rfl (nb rfl) ⟨nb rfl, nb rfl⟩ rfl (fun e1 => ?_)
    have e1 := e1.trans hs
    refine g_istore (pc := 1863) (lv' := [(0, _), (1, _), (2, _), (3, _), (4, _), (5, _), (6, _)]) dL_law_1863 (nl rfl) rfl ?_
    refine g_aload_n (pc := 1865) dL_law_1865 rfl trivial ?_
    refine g_aload_n (pc := 1866) dL_law_1866 rfl isA_0 ?_
    refine g_iload (pc := 1867) dL_law_1867 rfl ?_
    refine g_iconst (pc := 1869) (v := 1) dL_law_1869 rfl ?_
    refine g_iadd (pc := 1870) dL_law_1870 ?_
    refine g_scriptLoadS (pc := 1871) dL_law_1871 (nI_o1 _) e1 (by omega) (by omega) ?_
    refine g_aload_n (pc := 1872) dL_law_1872 rfl isA_0 ?_
    refine g_iload (pc := 1873) dL_law_1873 rfl ?_
    refine g_iconst (pc := 1875) (v := 2) dL_law_1875 rfl ?_
    refine g_iadd (pc := 1876) dL_law_1876 ?_
    refine g_scriptLoadS (pc := 1877) dL_law_1877 (nI_o2 _) e1 (by omega) (by omega) ?_
    refine g_aload_n (pc := 1878) dL_law_1878 rfl isA_0 ?_
    refine g_iload (pc := 1879) dL_law_1879 rfl ?_
    refine g_iconst (pc := 1881) (v := 3) dL_law_1881 rfl ?_
    refine g_iadd (pc := 1882) dL_law_1882 ?_
    refine g_scriptLoadS (pc := 1883) dL_law_1883 (nI_o3 _) e1 (by omega) (by omega) ?_
    refine g_aload_n (pc := 1884) dL_law_1884 rfl isA_0 ?_
    refine g_iload (pc := 1885) dL_law_1885 rfl ?_
    refine g_iconst (pc := 1887) (v := 4) dL_law_1887 rfl ?_
    refine g_iadd (pc := 1888) dL_law_1888 ?_
    refine g_scriptLoadS (pc := 1889) dL_law_1889 (nI_o4 _) e1 (by omega) (by omega) ?_
    refine g_if_eq (pc := 1890) (tgt := 1897) dL_law_1890 rfl (fun _ => ?_) (fun h1890 => absurd (hx) h1890)
    refine g_iconst (pc := 1897) (v := 0) dL_law_1897 rfl ?_
    refine g_invV_s (pc := 1898) (As := [_, _, _, _]) dL_law_1898 rfl (h2) rfl rfl (shK hM1 rfl) rfl rfl lk_L_322 rfl (nb rfl) ⟨nb rfl, nb rfl⟩ rfl (fun e2 => ?_)
    have e2 := e2.trans e1
    refine g_istore (pc := 1901) (lv' := [(0, _), (1, _), (2, _), (3, _), (4, _), (5, _), (6, _), (7, _)]) dL_law_1901 (nl rfl) rfl ?_
    refine g_goto (pc := 1903) (tgt := 2752) dL_law_1903 rfl ?_
    exact g_sub (lv' := AL o) ⟨rfl, rfl, rfl, rfl, rfl, rfl, trivial⟩ (kont e2)
  · rw [if_neg hx] at hf; subst hf
    refine g_aload_n (pc := 1826) dL_law_1826 rfl trivial ?_
    refine g_aload_n (pc := 1827) dL_law_1827 rfl isA_0 ?_
    refine g_iload (pc := 1828) dL_law_1828 rfl ?_
    refine g_iconst (pc := 1830) (v := 1) dL_law_1830 rfl ?_
    refine g_iadd (pc := 1831) dL_law_1831 ?_
    refine g_scriptLoadS (pc := 1832) dL_law_1832 (nI_o1 _) hs (by omega) (by omega) ?_
    refine g_aload_n (pc := 1833) dL_law_1833 rfl isA_0 ?_
    refine g_iload (pc := 1834) dL_law_1834 rfl ?_
    refine g_iconst (pc := 1836) (v := 2) dL_law_1836 rfl ?_
    refine g_iadd (pc := 1837) dL_law_1837 ?_
    refine g_scriptLoadS (pc := 1838) dL_law_1838 (nI_o2 _) hs (by omega) (by omega) ?_
    refine g_aload_n (pc := 1839) dL_law_1839 rfl isA_0 ?_
    refine g_iload (pc := 1840) dL_law_1840 rfl ?_
    refine g_iconst (pc := 1842) (v := 3) dL_law_1842 rfl ?_
    refine g_iadd (pc := 1843) dL_law_1843 ?_
    refine g_scriptLoadS (pc := 1844) dL_law_1844 (nI_o3 _) hs (by omega) (by omega) ?_
    refine g_aload_n (pc := 1845) dL_law_1845 rfl isA_0 ?_
    refine g_iload (pc := 1846) dL_law_1846 rfl ?_
    refine g_iconst (pc := 1848) (v := 4) dL_law_1848 rfl ?_
    refine g_iadd (pc := 1849) dL_law_1849 ?_
    refine g_scriptLoadS (pc := 1850) dL_law_1850 (nI_o4 _) hs (by omega) (by omega) ?_
    refine g_if_eq (pc := 1851) (tgt := 1858) dL_law_1851 rfl (fun h1851 => absurd h1851 (hx)) (fun _ => ?_)
    refine g_iconst (pc := 1854) (v := 1) dL_law_1854 rfl ?_
    refine g_goto (pc := 1855) (tgt := 1859) dL_law_1855 rfl ?_
    refine g_aload_n (pc := 1859) dL_law_1859 rfl trivial ?_
    refine g_invSX_s (pc := 1860) (As := [_, _, _, _, _, _]) dL_law_1860 rfl (h1) rfl rfl lk_L_319 rfl (nb rfl) ⟨nb rfl, nb rfl⟩ rfl (fun e1 => ?_)
    have e1 := e1.trans hs
    refine g_istore (pc := 1863) (lv' := [(0, _), (1, _), (2, _), (3, _), (4, _), (5, _), (6, _)]) dL_law_1863 (nl rfl) rfl ?_
    refine g_aload_n (pc := 1865) dL_law_1865 rfl trivial ?_
    refine g_aload_n (pc := 1866) dL_law_1866 rfl isA_0 ?_
    refine g_iload (pc := 1867) dL_law_1867 rfl ?_
    refine g_iconst (pc := 1869) (v := 1) dL_law_1869 rfl ?_
    refine g_iadd (pc := 1870) dL_law_1870 ?_
    refine g_scriptLoadS (pc := 1871) dL_law_1871 (nI_o1 _) e1 (by omega) (by omega) ?_
    refine g_aload_n (pc := 1872) dL_law_1872 rfl isA_0 ?_
    refine g_iload (pc := 1873) dL_law_1873 rfl ?_
    refine g_iconst (pc := 1875) (v := 2) dL_law_1875 rfl ?_
    refine g_iadd (pc := 1876) dL_law_1876 ?_
    refine g_scriptLoadS (pc := 1877) dL_law_1877 (nI_o2 _) e1 (by omega) (by omega) ?_
    refine g_aload_n (pc := 1878) dL_law_1878 rfl isA_0 ?_
    refine g_iload (pc := 1879) dL_law_1879 rfl ?_
    refine g_iconst (pc := 1881) (v := 3) dL_law_1881 rfl ?_
    refine g_iadd (pc := 1882) dL_law_1882 ?_
    refine g_scriptLoadS (pc := 1883) dL_law_1883 (nI_o3 _) e1 (by omega) (by omega) ?_
    refine g_aload_n (pc := 1884) dL_law_1884 rfl isA_0 ?_
    refine g_iload (pc := 1885) dL_law_1885 rfl ?_
    refine g_iconst (pc := 1887) (v := 4) dL_law_1887 rfl ?_
    refine g_iadd (pc := 1888) dL_law_1888 ?_
    refine g_scriptLoadS (pc := 1889) dL_law_1889 (nI_o4 _) e1 (by omega) (by omega) ?_
    refine g_if_eq (pc := 1890) (tgt := 1897) dL_law_1890 rfl (fun h1890 => absurd h1890 (hx)) (fun _ => ?_)
    refine g_iconst (pc := 1893) (v := 1) dL_law_1893 rfl ?_
    refine g_goto (pc := 1894) (tgt := 1898) dL_law_1894 rfl ?_
    refine g_invV_s (pc := 1898) (As := [_, _, _, _]) dL_law_1898 rfl (h2) rfl rfl (shK hM1 rfl) rfl rfl lk_L_322 rfl (nb rfl) ⟨nb rfl, nb rfl⟩ rfl (fun e2 => ?_)
    have e2 := e2.trans e1
    refine g_istore (pc := 1901) (lv' := [(0, _), (1, _), (2, _), (3, _), (4, _), (5, _), (6, _), (7, _)]) dL_law_1901 (nl rfl) rfl ?_
    refine g_goto (pc := 1903) (tgt := 2752) dL_law_1903 rfl ?_
    exact g_sub (lv' := AL o) ⟨rfl, rfl, rfl, rfl, rfl, rfl, trivial⟩ (kont e2)
set_option maxRecDepth 4000 in
theorem lc_39 {kk : Int32} {b : Int32} (hs : mS M = S) (ho : o + 5 ≤ S.1) (hS9 : S.1 < 2147483648) (hM : Shp M) (hM1 : Shp M1) (hM2 : Shp M2) (h1 : EvR l jL_setRow 9 176 2 12 [.ref 0, .int (S.2 (o + 1)), .int (S.2 (o + 2)), .long (l2 (S.2 (o + 3)) (S.2 (o + 4))), .ref 212] M (.inl (some (.int kk))) M1) (h2 : EvR l jX7_setRow 4 160 0 0 [.ref 198, .int (S.2 (o + 1)), .int (S.2 (o + 2)), .long (l2 (S.2 (o + 3)) (S.2 (o + 4)))] M1 (.inl (some (.int b))) M2) (kont : mS M2 = S → Go l jL_law 14 538 601024 7293034 Q 2752 (AL o) [] k n M2) : Go l jL_law 14 538 601024 7293034 Q 1906 (AL o) [] (k + 2) (n + 12) M := by
  refine g_aload_n (pc := 1906) dL_law_1906 rfl trivial ?_
  refine g_aload_n (pc := 1907) dL_law_1907 rfl isA_0 ?_
  refine g_iload (pc := 1908) dL_law_1908 rfl ?_
  refine g_iconst (pc := 1910) (v := 1) dL_law_1910 rfl ?_
  refine g_iadd (pc := 1911) dL_law_1911 ?_
  refine g_scriptLoadS (pc := 1912) dL_law_1912 (nI_o1 _) hs (by omega) (by omega) ?_
  refine g_aload_n (pc := 1913) dL_law_1913 rfl isA_0 ?_
  refine g_iload (pc := 1914) dL_law_1914 rfl ?_
  refine g_iconst (pc := 1916) (v := 2) dL_law_1916 rfl ?_
  refine g_iadd (pc := 1917) dL_law_1917 ?_
  refine g_scriptLoadS (pc := 1918) dL_law_1918 (nI_o2 _) hs (by omega) (by omega) ?_
  refine g_aload_n (pc := 1919) dL_law_1919 rfl isA_0 ?_
  refine g_iload (pc := 1920) dL_law_1920 rfl ?_
  refine g_iconst (pc := 1922) (v := 3) dL_law_1922 rfl ?_
  refine g_iadd (pc := 1923) dL_law_1923 ?_
  refine g_scriptLoadS (pc := 1924) dL_law_1924 (nI_o3 _) hs (by omega) (by omega) ?_
  refine g_i2l (pc := 1925) dL_law_1925 rfl ?_
  refine g_bipush (pc := 1926) (v := 32) dL_law_1926 rfl ?_
  refine g_lshl (pc := 1928) dL_law_1928 rfl ?_
  refine g_aload_n (pc := 1929) dL_law_1929 rfl isA_0 ?_
  refine g_iload (pc := 1930) dL_law_1930 rfl ?_
  refine g_iconst (pc := 1932) (v := 4) dL_law_1932 rfl ?_
  refine g_iadd (pc := 1933) dL_law_1933 ?_
  refine g_scriptLoadS (pc := 1934) dL_law_1934 (nI_o4 _) hs (by omega) (by omega) ?_
  refine g_i2l (pc := 1935) dL_law_1935 rfl ?_
  refine g_ldc2 (pc := 1936) dL_law_1936 wd_1783 ?_
  refine g_land (pc := 1939) dL_law_1939 ?_
  refine g_lor (pc := 1940) dL_law_1940 ?_
  refine g_aload_n (pc := 1941) dL_law_1941 rfl trivial ?_
  refine g_invSX_s (pc := 1942) (As := [_, _, _, _, _]) dL_law_1942 rfl (h1) rfl rfl lk_L_323 rfl (nb rfl) ⟨nb rfl, nb rfl⟩ rfl (fun e1 => ?_)
  have e1 := e1.trans hs
  refine g_istore (pc := 1945) (lv' := [(0, _), (1, _), (2, _), (3, _), (4, _), (5, _), (6, _)]) dL_law_1945 (nl rfl) rfl ?_
  refine g_aload_n (pc := 1947) dL_law_1947 rfl trivial ?_
  refine g_aload_n (pc := 1948) dL_law_1948 rfl isA_0 ?_
  refine g_iload (pc := 1949) dL_law_1949 rfl ?_
  refine g_iconst (pc := 1951) (v := 1) dL_law_1951 rfl ?_
  refine g_iadd (pc := 1952) dL_law_1952 ?_
  refine g_scriptLoadS (pc := 1953) dL_law_1953 (nI_o1 _) e1 (by omega) (by omega) ?_
  refine g_aload_n (pc := 1954) dL_law_1954 rfl isA_0 ?_
  refine g_iload (pc := 1955) dL_law_1955 rfl ?_
  refine g_iconst (pc := 1957) (v := 2) dL_law_1957 rfl ?_
  refine g_iadd (pc := 1958) dL_law_1958 ?_
  refine g_scriptLoadS (pc := 1959) dL_law_1959 (nI_o2 _) e1 (by omega) (by omega) ?_
  refine g_aload_n (pc := 1960) dL_law_1960 rfl isA_0 ?_
  refine g_iload (pc := 1961) dL_law_1961 rfl ?_
  refine g_iconst (pc := 1963) (v := 3) dL_law_1963 rfl ?_
  refine g_iadd (pc := 1964) dL_law_1964 ?_
  refine g_scriptLoadS (pc := 1965) dL_law_1965 (nI_o3 _) e1 (by omega) (by omega) ?_
  refine g_i2l (pc := 1966) dL_law_1966 rfl ?_
  refine g_bipush (pc := 1967) (v := 32) dL_law_1967 rfl ?_
  refine g_lshl (pc := 1969) dL_law_1969 rfl ?_
  refine g_aload_n (pc := 1970) dL_law_1970 rfl isA_0 ?_
  refine g_iload (pc := 1971) dL_law_1971 rfl ?_
  refine g_iconst (pc := 1973) (v := 4) dL_law_1973 rfl ?_
  refine g_iadd (pc := 1974) dL_law_1974 ?_
  refine g_scriptLoadS (pc := 1975) dL_law_1975 (nI_o4 _) e1 (by omega) (by omega) ?_
  refine g_i2l (pc := 1976) dL_law_1976 rfl ?_
  refine g_ldc2 (pc := 1977) dL_law_1977 wd_1783 ?_
  refine g_land (pc := 1980) dL_law_1980 ?_
  refine g_lor (pc := 1981) dL_law_1981 ?_
  refine g_invV_s (pc := 1982) (As := [_, _, _]) dL_law_1982 rfl (h2) rfl rfl (shK hM1 rfl) rfl rfl lk_L_326 rfl (nb rfl) ⟨nb rfl, nb rfl⟩ rfl (fun e2 => ?_)
  have e2 := e2.trans e1
  refine g_istore (pc := 1985) (lv' := [(0, _), (1, _), (2, _), (3, _), (4, _), (5, _), (6, _), (7, _)]) dL_law_1985 (nl rfl) rfl ?_
  refine g_goto (pc := 1987) (tgt := 2752) dL_law_1987 rfl ?_
  exact g_sub (lv' := AL o) ⟨rfl, rfl, rfl, rfl, rfl, rfl, trivial⟩ (kont e2)
set_option maxRecDepth 4000 in
theorem lc_40 {kk : Int32} {b : Int32} (hs : mS M = S) (ho : o + 5 ≤ S.1) (hS9 : S.1 < 2147483648) (hM : Shp M) (hM1 : Shp M1) (hM2 : Shp M2) (h1 : EvR l jL_copy 8 162 2 12 [.ref 0, .int (S.2 (o + 1)), .int (S.2 (o + 2)), .ref 212] M (.inl (some (.int kk))) M1) (h2 : EvR l jX7_copy 4 160 0 0 [.ref 198, .int (S.2 (o + 1)), .int (S.2 (o + 2))] M1 (.inl (some (.int b))) M2) (kont : mS M2 = S → Go l jL_law 14 538 601024 7293034 Q 2752 (AL o) [] k n M2) : Go l jL_law 14 538 601024 7293034 Q 1990 (AL o) [] (k + 2) (n + 12) M := by
  refine g_aload_n (pc := 1990) dL_law_1990 rfl trivial ?_
  refine g_aload_n (pc := 1991) dL_law_1991 rfl isA_0 ?_
  refine g_iload (pc := 1992) dL_law_1992 rfl ?_
  refine g_iconst (pc := 1994) (v := 1) dL_law_1994 rfl ?_
  refine g_iadd (pc := 1995) dL_law_1995 ?_
  refine g_scriptLoadS (pc := 1996) dL_law_1996 (nI_o1 _) hs (by omega) (by omega) ?_
  refine g_aload_n (pc := 1997) dL_law_1997 rfl isA_0 ?_
  refine g_iload (pc := 1998) dL_law_1998 rfl ?_
  refine g_iconst (pc := 2000) (v := 2) dL_law_2000 rfl ?_
  refine g_iadd (pc := 2001) dL_law_2001 ?_
  refine g_scriptLoadS (pc := 2002) dL_law_2002 (nI_o2 _) hs (by omega) (by omega) ?_
  refine g_aload_n (pc := 2003) dL_law_2003 rfl trivial ?_
  refine g_invSX_s (pc := 2004) (As := [_, _, _, _]) dL_law_2004 rfl (h1) rfl rfl lk_L_327 rfl (nb rfl) ⟨nb rfl, nb rfl⟩ rfl (fun e1 => ?_)
  have e1 := e1.trans hs
  refine g_istore (pc := 2007) (lv' := [(0, _), (1, _), (2, _), (3, _), (4, _), (5, _), (6, _)]) dL_law_2007 (nl rfl) rfl ?_
  refine g_aload_n (pc := 2009) dL_law_2009 rfl trivial ?_
  refine g_aload_n (pc := 2010) dL_law_2010 rfl isA_0 ?_
  refine g_iload (pc := 2011) dL_law_2011 rfl ?_
  refine g_iconst (pc := 2013) (v := 1) dL_law_2013 rfl ?_
  refine g_iadd (pc := 2014) dL_law_2014 ?_
  refine g_scriptLoadS (pc := 2015) dL_law_2015 (nI_o1 _) e1 (by omega) (by omega) ?_
  refine g_aload_n (pc := 2016) dL_law_2016 rfl isA_0 ?_
  refine g_iload (pc := 2017) dL_law_2017 rfl ?_
  refine g_iconst (pc := 2019) (v := 2) dL_law_2019 rfl ?_
  refine g_iadd (pc := 2020) dL_law_2020 ?_
  refine g_scriptLoadS (pc := 2021) dL_law_2021 (nI_o2 _) e1 (by omega) (by omega) ?_
  refine g_invV_s (pc := 2022) (As := [_, _]) dL_law_2022 rfl (h2) rfl rfl (shK hM1 rfl) rfl rfl lk_L_329 rfl (nb rfl) ⟨nb rfl, nb rfl⟩ rfl (fun e2 => ?_)
  have e2 := e2.trans e1
  refine g_istore (pc := 2025) (lv' := [(0, _), (1, _), (2, _), (3, _), (4, _), (5, _), (6, _), (7, _)]) dL_law_2025 (nl rfl) rfl ?_
  refine g_goto (pc := 2027) (tgt := 2752) dL_law_2027 rfl ?_
  exact g_sub (lv' := AL o) ⟨rfl, rfl, rfl, rfl, rfl, rfl, trivial⟩ (kont e2)
set_option maxRecDepth 4000 in
theorem lc_41 {kk : Int32} {b : Int32} (hs : mS M = S) (ho : o + 5 ≤ S.1) (hS9 : S.1 < 2147483648) (hM : Shp M) (hM1 : Shp M1) (hM2 : Shp M2) (h1 : EvR l jL_transpose 8 163 2 12 [.ref 0, .int (S.2 (o + 1)), .int (S.2 (o + 2)), .ref 212] M (.inl (some (.int kk))) M1) (h2 : EvR l jX7_transpose 4 160 0 0 [.ref 198, .int (S.2 (o + 1)), .int (S.2 (o + 2))] M1 (.inl (some (.int b))) M2) (kont : mS M2 = S → Go l jL_law 14 538 601024 7293034 Q 2752 (AL o) [] k n M2) : Go l jL_law 14 538 601024 7293034 Q 2030 (AL o) [] (k + 2) (n + 12) M := by
  refine g_aload_n (pc := 2030) dL_law_2030 rfl trivial ?_
  refine g_aload_n (pc := 2031) dL_law_2031 rfl isA_0 ?_
  refine g_iload (pc := 2032) dL_law_2032 rfl ?_
  refine g_iconst (pc := 2034) (v := 1) dL_law_2034 rfl ?_
  refine g_iadd (pc := 2035) dL_law_2035 ?_
  refine g_scriptLoadS (pc := 2036) dL_law_2036 (nI_o1 _) hs (by omega) (by omega) ?_
  refine g_aload_n (pc := 2037) dL_law_2037 rfl isA_0 ?_
  refine g_iload (pc := 2038) dL_law_2038 rfl ?_
  refine g_iconst (pc := 2040) (v := 2) dL_law_2040 rfl ?_
  refine g_iadd (pc := 2041) dL_law_2041 ?_
  refine g_scriptLoadS (pc := 2042) dL_law_2042 (nI_o2 _) hs (by omega) (by omega) ?_
  refine g_aload_n (pc := 2043) dL_law_2043 rfl trivial ?_
  refine g_invSX_s (pc := 2044) (As := [_, _, _, _]) dL_law_2044 rfl (h1) rfl rfl lk_L_330 rfl (nb rfl) ⟨nb rfl, nb rfl⟩ rfl (fun e1 => ?_)
  have e1 := e1.trans hs
  refine g_istore (pc := 2047) (lv' := [(0, _), (1, _), (2, _), (3, _), (4, _), (5, _), (6, _)]) dL_law_2047 (nl rfl) rfl ?_
  refine g_aload_n (pc := 2049) dL_law_2049 rfl trivial ?_
  refine g_aload_n (pc := 2050) dL_law_2050 rfl isA_0 ?_
  refine g_iload (pc := 2051) dL_law_2051 rfl ?_
  refine g_iconst (pc := 2053) (v := 1) dL_law_2053 rfl ?_
  refine g_iadd (pc := 2054) dL_law_2054 ?_
  refine g_scriptLoadS (pc := 2055) dL_law_2055 (nI_o1 _) e1 (by omega) (by omega) ?_
  refine g_aload_n (pc := 2056) dL_law_2056 rfl isA_0 ?_
  refine g_iload (pc := 2057) dL_law_2057 rfl ?_
  refine g_iconst (pc := 2059) (v := 2) dL_law_2059 rfl ?_
  refine g_iadd (pc := 2060) dL_law_2060 ?_
  refine g_scriptLoadS (pc := 2061) dL_law_2061 (nI_o2 _) e1 (by omega) (by omega) ?_
  refine g_invV_s (pc := 2062) (As := [_, _]) dL_law_2062 rfl (h2) rfl rfl (shK hM1 rfl) rfl rfl lk_L_332 rfl (nb rfl) ⟨nb rfl, nb rfl⟩ rfl (fun e2 => ?_)
  have e2 := e2.trans e1
  refine g_istore (pc := 2065) (lv' := [(0, _), (1, _), (2, _), (3, _), (4, _), (5, _), (6, _), (7, _)]) dL_law_2065 (nl rfl) rfl ?_
  refine g_goto (pc := 2067) (tgt := 2752) dL_law_2067 rfl ?_
  exact g_sub (lv' := AL o) ⟨rfl, rfl, rfl, rfl, rfl, rfl, trivial⟩ (kont e2)
set_option maxRecDepth 4000 in
theorem lc_42 {kk : Int32} {b : Int32} (hs : mS M = S) (ho : o + 5 ≤ S.1) (hS9 : S.1 < 2147483648) (hM : Shp M) (hM1 : Shp M1) (hM2 : Shp M2) (h1 : EvR l jL_combine 8 165 4 24 [.ref 0, .int (S.2 (o + 1)), .int (S.2 (o + 2)), .int (S.2 (o + 3)), .int (S.2 (o + 4)), .ref 212] M (.inl (some (.int kk))) M1) (h2 : EvR l jX7_combine 4 160 0 0 [.ref 198, .int (S.2 (o + 1)), .int (S.2 (o + 2)), .int (S.2 (o + 3)), .int (S.2 (o + 4))] M1 (.inl (some (.int b))) M2) (kont : mS M2 = S → Go l jL_law 14 538 601024 7293034 Q 2752 (AL o) [] k n M2) : Go l jL_law 14 538 601024 7293034 Q 2070 (AL o) [] (k + 4) (n + 24) M := by
  refine g_aload_n (pc := 2070) dL_law_2070 rfl trivial ?_
  refine g_aload_n (pc := 2071) dL_law_2071 rfl isA_0 ?_
  refine g_iload (pc := 2072) dL_law_2072 rfl ?_
  refine g_iconst (pc := 2074) (v := 1) dL_law_2074 rfl ?_
  refine g_iadd (pc := 2075) dL_law_2075 ?_
  refine g_scriptLoadS (pc := 2076) dL_law_2076 (nI_o1 _) hs (by omega) (by omega) ?_
  refine g_aload_n (pc := 2077) dL_law_2077 rfl isA_0 ?_
  refine g_iload (pc := 2078) dL_law_2078 rfl ?_
  refine g_iconst (pc := 2080) (v := 2) dL_law_2080 rfl ?_
  refine g_iadd (pc := 2081) dL_law_2081 ?_
  refine g_scriptLoadS (pc := 2082) dL_law_2082 (nI_o2 _) hs (by omega) (by omega) ?_
  refine g_aload_n (pc := 2083) dL_law_2083 rfl isA_0 ?_
  refine g_iload (pc := 2084) dL_law_2084 rfl ?_
  refine g_iconst (pc := 2086) (v := 3) dL_law_2086 rfl ?_
  refine g_iadd (pc := 2087) dL_law_2087 ?_
  refine g_scriptLoadS (pc := 2088) dL_law_2088 (nI_o3 _) hs (by omega) (by omega) ?_
  refine g_aload_n (pc := 2089) dL_law_2089 rfl isA_0 ?_
  refine g_iload (pc := 2090) dL_law_2090 rfl ?_
  refine g_iconst (pc := 2092) (v := 4) dL_law_2092 rfl ?_
  refine g_iadd (pc := 2093) dL_law_2093 ?_
  refine g_scriptLoadS (pc := 2094) dL_law_2094 (nI_o4 _) hs (by omega) (by omega) ?_
  refine g_aload_n (pc := 2095) dL_law_2095 rfl trivial ?_
  refine g_invSX_s (pc := 2096) (As := [_, _, _, _, _, _]) dL_law_2096 rfl (h1) rfl rfl lk_L_333 rfl (nb rfl) ⟨nb rfl, nb rfl⟩ rfl (fun e1 => ?_)
  have e1 := e1.trans hs
  refine g_istore (pc := 2099) (lv' := [(0, _), (1, _), (2, _), (3, _), (4, _), (5, _), (6, _)]) dL_law_2099 (nl rfl) rfl ?_
  refine g_aload_n (pc := 2101) dL_law_2101 rfl trivial ?_
  refine g_aload_n (pc := 2102) dL_law_2102 rfl isA_0 ?_
  refine g_iload (pc := 2103) dL_law_2103 rfl ?_
  refine g_iconst (pc := 2105) (v := 1) dL_law_2105 rfl ?_
  refine g_iadd (pc := 2106) dL_law_2106 ?_
  refine g_scriptLoadS (pc := 2107) dL_law_2107 (nI_o1 _) e1 (by omega) (by omega) ?_
  refine g_aload_n (pc := 2108) dL_law_2108 rfl isA_0 ?_
  refine g_iload (pc := 2109) dL_law_2109 rfl ?_
  refine g_iconst (pc := 2111) (v := 2) dL_law_2111 rfl ?_
  refine g_iadd (pc := 2112) dL_law_2112 ?_
  refine g_scriptLoadS (pc := 2113) dL_law_2113 (nI_o2 _) e1 (by omega) (by omega) ?_
  refine g_aload_n (pc := 2114) dL_law_2114 rfl isA_0 ?_
  refine g_iload (pc := 2115) dL_law_2115 rfl ?_
  refine g_iconst (pc := 2117) (v := 3) dL_law_2117 rfl ?_
  refine g_iadd (pc := 2118) dL_law_2118 ?_
  refine g_scriptLoadS (pc := 2119) dL_law_2119 (nI_o3 _) e1 (by omega) (by omega) ?_
  refine g_aload_n (pc := 2120) dL_law_2120 rfl isA_0 ?_
  refine g_iload (pc := 2121) dL_law_2121 rfl ?_
  refine g_iconst (pc := 2123) (v := 4) dL_law_2123 rfl ?_
  refine g_iadd (pc := 2124) dL_law_2124 ?_
  refine g_scriptLoadS (pc := 2125) dL_law_2125 (nI_o4 _) e1 (by omega) (by omega) ?_
  refine g_invV_s (pc := 2126) (As := [_, _, _, _]) dL_law_2126 rfl (h2) rfl rfl (shK hM1 rfl) rfl rfl lk_L_335 rfl (nb rfl) ⟨nb rfl, nb rfl⟩ rfl (fun e2 => ?_)
  have e2 := e2.trans e1
  refine g_istore (pc := 2129) (lv' := [(0, _), (1, _), (2, _), (3, _), (4, _), (5, _), (6, _), (7, _)]) dL_law_2129 (nl rfl) rfl ?_
  refine g_goto (pc := 2131) (tgt := 2752) dL_law_2131 rfl ?_
  exact g_sub (lv' := AL o) ⟨rfl, rfl, rfl, rfl, rfl, rfl, trivial⟩ (kont e2)
set_option maxRecDepth 4000 in
theorem lc_43 {kk : Int32} {b : Int32} {f : Int32} (hf : f = if S.2 (o + 4) = 0 then 0 else 1) (hs : mS M = S) (ho : o + 5 ≤ S.1) (hS9 : S.1 < 2147483648) (hM : Shp M) (hM1 : Shp M1) (hM2 : Shp M2) (h1 : EvR l jL_product 8 164 3 18 [.ref 0, .int (S.2 (o + 1)), .int (S.2 (o + 2)), .int (S.2 (o + 3)), .int f, .ref 212] M (.inl (some (.int kk))) M1) (h2 : EvR l jX7_product 4 160 0 0 [.ref 198, .int (S.2 (o + 1)), .int (S.2 (o + 2)), .int (S.2 (o + 3)), .int f] M1 (.inl (some (.int b))) M2) (kont : mS M2 = S → Go l jL_law 14 538 601024 7293034 Q 2752 (AL o) [] k n M2) : Go l jL_law 14 538 601024 7293034 Q 2134 (AL o) [] (k + 3) (n + 18) M := by
  by_cases hx : S.2 (o + 4) = 0
  · rw [if_pos hx] at hf; subst hf
    refine g_aload_n (pc := 2134) dL_law_2134 rfl trivial ?_
    refine g_aload_n (pc := 2135) dL_law_2135 rfl isA_0 ?_
    refine g_iload (pc := 2136) dL_law_2136 rfl ?_
    refine g_iconst (pc := 2138) (v := 1) dL_law_2138 rfl ?_
    refine g_iadd (pc := 2139) dL_law_2139 ?_
    refine g_scriptLoadS (pc := 2140) dL_law_2140 (nI_o1 _) hs (by omega) (by omega) ?_
    refine g_aload_n (pc := 2141) dL_law_2141 rfl isA_0 ?_
    refine g_iload (pc := 2142) dL_law_2142 rfl ?_
    refine g_iconst (pc := 2144) (v := 2) dL_law_2144 rfl ?_
    refine g_iadd (pc := 2145) dL_law_2145 ?_
    refine g_scriptLoadS (pc := 2146) dL_law_2146 (nI_o2 _) hs (by omega) (by omega) ?_
    refine g_aload_n (pc := 2147) dL_law_2147 rfl isA_0 ?_
    refine g_iload (pc := 2148) dL_law_2148 rfl ?_
    refine g_iconst (pc := 2150) (v := 3) dL_law_2150 rfl ?_
    refine g_iadd (pc := 2151) dL_law_2151 ?_
    refine g_scriptLoadS (pc := 2152) dL_law_2152 (nI_o3 _) hs (by omega) (by omega) ?_
    refine g_aload_n (pc := 2153) dL_law_2153 rfl isA_0 ?_
    refine g_iload (pc := 2154) dL_law_2154 rfl ?_
    refine g_iconst (pc := 2156) (v := 4) dL_law_2156 rfl ?_
    refine g_iadd (pc := 2157) dL_law_2157 ?_
    refine g_scriptLoadS (pc := 2158) dL_law_2158 (nI_o4 _) hs (by omega) (by omega) ?_
    refine g_if_eq (pc := 2159) (tgt := 2166) dL_law_2159 rfl (fun _ => ?_) (fun h2159 => absurd (hx) h2159)
    refine g_iconst (pc := 2166) (v := 0) dL_law_2166 rfl ?_
    refine g_aload_n (pc := 2167) dL_law_2167 rfl trivial ?_
    refine g_invSX_s (pc := 2168) (As := [_, _, _, _, _, _]) dL_law_2168 rfl (h1) rfl rfl lk_L_336 rfl (nb rfl) ⟨nb rfl, nb rfl⟩ rfl (fun e1 => ?_)
    have e1 := e1.trans hs
    refine g_istore (pc := 2171) (lv' := [(0, _), (1, _), (2, _), (3, _), (4, _), (5, _), (6, _)]) dL_law_2171 (nl rfl) rfl ?_
    refine g_aload_n (pc := 2173) dL_law_2173 rfl trivial ?_
    refine g_aload_n (pc := 2174) dL_law_2174 rfl isA_0 ?_
    refine g_iload (pc := 2175) dL_law_2175 rfl ?_
    refine g_iconst (pc := 2177) (v := 1) dL_law_2177 rfl ?_
    refine g_iadd (pc := 2178) dL_law_2178 ?_
    refine g_scriptLoadS (pc := 2179) dL_law_2179 (nI_o1 _) e1 (by omega) (by omega) ?_
    refine g_aload_n (pc := 2180) dL_law_2180 rfl isA_0 ?_
    refine g_iload (pc := 2181) dL_law_2181 rfl ?_
    refine g_iconst (pc := 2183) (v := 2) dL_law_2183 rfl ?_
    refine g_iadd (pc := 2184) dL_law_2184 ?_
    refine g_scriptLoadS (pc := 2185) dL_law_2185 (nI_o2 _) e1 (by omega) (by omega) ?_
    refine g_aload_n (pc := 2186) dL_law_2186 rfl isA_0 ?_
    refine g_iload (pc := 2187) dL_law_2187 rfl ?_
    refine g_iconst (pc := 2189) (v := 3) dL_law_2189 rfl ?_
    refine g_iadd (pc := 2190) dL_law_2190 ?_
    refine g_scriptLoadS (pc := 2191) dL_law_2191 (nI_o3 _) e1 (by omega) (by omega) ?_
    refine g_aload_n (pc := 2192) dL_law_2192 rfl isA_0 ?_
    refine g_iload (pc := 2193) dL_law_2193 rfl ?_
    refine g_iconst (pc := 2195) (v := 4) dL_law_2195 rfl ?_
    refine g_iadd (pc := 2196) dL_law_2196 ?_
    refine g_scriptLoadS (pc := 2197) dL_law_2197 (nI_o4 _) e1 (by omega) (by omega) ?_
    refine g_if_eq (pc := 2198) (tgt := 2205) dL_law_2198 rfl (fun _ => ?_) (fun h2198 => absurd (hx) h2198)
    refine g_iconst (pc := 2205) (v := 0) dL_law_2205 rfl ?_
    refine g_invV_s (pc := 2206) (As := [_, _, _, _]) dL_law_2206 rfl (h2) rfl rfl (shK hM1 rfl) rfl rfl lk_L_338 rfl (nb rfl) ⟨nb rfl, nb rfl⟩ rfl (fun e2 => ?_)
    have e2 := e2.trans e1
    refine g_istore (pc := 2209) (lv' := [(0, _), (1, _), (2, _), (3, _), (4, _), (5, _), (6, _), (7, _)]) dL_law_2209 (nl rfl) rfl ?_
    refine g_goto (pc := 2211) (tgt := 2752) dL_law_2211 rfl ?_
    exact g_sub (lv' := AL o) ⟨rfl, rfl, rfl, rfl, rfl, rfl, trivial⟩ (kont e2)
  · rw [if_neg hx] at hf; subst hf
    refine g_aload_n (pc := 2134) dL_law_2134 rfl trivial ?_
    refine g_aload_n (pc := 2135) dL_law_2135 rfl isA_0 ?_
    refine g_iload (pc := 2136) dL_law_2136 rfl ?_
    refine g_iconst (pc := 2138) (v := 1) dL_law_2138 rfl ?_
    refine g_iadd (pc := 2139) dL_law_2139 ?_
    refine g_scriptLoadS (pc := 2140) dL_law_2140 (nI_o1 _) hs (by omega) (by omega) ?_
    refine g_aload_n (pc := 2141) dL_law_2141 rfl isA_0 ?_
    refine g_iload (pc := 2142) dL_law_2142 rfl ?_
    refine g_iconst (pc := 2144) (v := 2) dL_law_2144 rfl ?_
    refine g_iadd (pc := 2145) dL_law_2145 ?_
    refine g_scriptLoadS (pc := 2146) dL_law_2146 (nI_o2 _) hs (by omega) (by omega) ?_
    refine g_aload_n (pc := 2147) dL_law_2147 rfl isA_0 ?_
    refine g_iload (pc := 2148) dL_law_2148 rfl ?_
    refine g_iconst (pc := 2150) (v := 3) dL_law_2150 rfl ?_
    refine g_iadd (pc := 2151) dL_law_2151 ?_
    refine g_scriptLoadS (pc := 2152) dL_law_2152 (nI_o3 _) hs (by omega) (by omega) ?_
    refine g_aload_n (pc := 2153) dL_law_2153 rfl isA_0 ?_
    refine g_iload (pc := 2154) dL_law_2154 rfl ?_
    refine g_iconst (pc := 2156) (v := 4) dL_law_2156 rfl ?_
    refine g_iadd (pc := 2157) dL_law_2157 ?_
    refine g_scriptLoadS (pc := 2158) dL_law_2158 (nI_o4 _) hs (by omega) (by omega) ?_
    refine g_if_eq (pc := 2159) (tgt := 2166) dL_law_2159 rfl (fun h2159 => absurd h2159 (hx)) (fun _ => ?_)
    refine g_iconst (pc := 2162) (v := 1) dL_law_2162 rfl ?_
    refine g_goto (pc := 2163) (tgt := 2167) dL_law_2163 rfl ?_
    refine g_aload_n (pc := 2167) dL_law_2167 rfl trivial ?_
    refine g_invSX_s (pc := 2168) (As := [_, _, _, _, _, _]) dL_law_2168 rfl (h1) rfl rfl lk_L_336 rfl (nb rfl) ⟨nb rfl, nb rfl⟩ rfl (fun e1 => ?_)
    have e1 := e1.trans hs
    refine g_istore (pc := 2171) (lv' := [(0, _), (1, _), (2, _), (3, _), (4, _), (5, _), (6, _)]) dL_law_2171 (nl rfl) rfl ?_
    refine g_aload_n (pc := 2173) dL_law_2173 rfl trivial ?_
    refine g_aload_n (pc := 2174) dL_law_2174 rfl isA_0 ?_
    refine g_iload (pc := 2175) dL_law_2175 rfl ?_
    refine g_iconst (pc := 2177) (v := 1) dL_law_2177 rfl ?_
    refine g_iadd (pc := 2178) dL_law_2178 ?_
    refine g_scriptLoadS (pc := 2179) dL_law_2179 (nI_o1 _) e1 (by omega) (by omega) ?_
    refine g_aload_n (pc := 2180) dL_law_2180 rfl isA_0 ?_
    refine g_iload (pc := 2181) dL_law_2181 rfl ?_
    refine g_iconst (pc := 2183) (v := 2) dL_law_2183 rfl ?_
    refine g_iadd (pc := 2184) dL_law_2184 ?_
    refine g_scriptLoadS (pc := 2185) dL_law_2185 (nI_o2 _) e1 (by omega) (by omega) ?_
    refine g_aload_n (pc := 2186) dL_law_2186 rfl isA_0 ?_
    refine g_iload (pc := 2187) dL_law_2187 rfl ?_
    refine g_iconst (pc := 2189) (v := 3) dL_law_2189 rfl ?_
    refine g_iadd (pc := 2190) dL_law_2190 ?_
    refine g_scriptLoadS (pc := 2191) dL_law_2191 (nI_o3 _) e1 (by omega) (by omega) ?_
    refine g_aload_n (pc := 2192) dL_law_2192 rfl isA_0 ?_
    refine g_iload (pc := 2193) dL_law_2193 rfl ?_
    refine g_iconst (pc := 2195) (v := 4) dL_law_2195 rfl ?_
    refine g_iadd (pc := 2196) dL_law_2196 ?_
    refine g_scriptLoadS (pc := 2197) dL_law_2197 (nI_o4 _) e1 (by omega) (by omega) ?_
    refine g_if_eq (pc := 2198) (tgt := 2205) dL_law_2198 rfl (fun h2198 => absurd h2198 (hx)) (fun _ => ?_)
    refine g_iconst (pc := 2201) (v := 1) dL_law_2201 rfl ?_
    refine g_goto (pc := 2202) (tgt := 2206) dL_law_2202 rfl ?_
    refine g_invV_s (pc := 2206) (As := [_, _, _, _]) dL_law_2206 rfl (h2) rfl rfl (shK hM1 rfl) rfl rfl lk_L_338 rfl (nb rfl) ⟨nb rfl, nb rfl⟩ rfl (fun e2 => ?_)
    have e2 := e2.trans e1
    refine g_istore (pc := 2209) (lv' := [(0, _), (1, _), (2, _), (3, _), (4, _), (5, _), (6, _), (7, _)]) dL_law_2209 (nl rfl) rfl ?_
    refine g_goto (pc := 2211) (tgt := 2752) dL_law_2211 rfl ?_
    exact g_sub (lv' := AL o) ⟨rfl, rfl, rfl, rfl, rfl, rfl, trivial⟩ (kont e2)
set_option maxRecDepth 4000 in
theorem lc_44 {kk : Int32} {b : Int32} {f : Int32} (hf : f = if S.2 (o + 4) = 0 then 0 else 1) (hs : mS M = S) (ho : o + 5 ≤ S.1) (hS9 : S.1 < 2147483648) (hM : Shp M) (hM1 : Shp M1) (hM2 : Shp M2) (h1 : EvR l jL_power 8 165 4 24 [.ref 0, .int (S.2 (o + 1)), .int (S.2 (o + 2)), .int (S.2 (o + 3)), .int f, .ref 212] M (.inl (some (.int kk))) M1) (h2 : EvR l jX7_power 4 160 0 0 [.ref 198, .int (S.2 (o + 1)), .int (S.2 (o + 2)), .int (S.2 (o + 3)), .int f] M1 (.inl (some (.int b))) M2) (kont : mS M2 = S → Go l jL_law 14 538 601024 7293034 Q 2752 (AL o) [] k n M2) : Go l jL_law 14 538 601024 7293034 Q 2214 (AL o) [] (k + 4) (n + 24) M := by
  by_cases hx : S.2 (o + 4) = 0
  · rw [if_pos hx] at hf; subst hf
    refine g_aload_n (pc := 2214) dL_law_2214 rfl trivial ?_
    refine g_aload_n (pc := 2215) dL_law_2215 rfl isA_0 ?_
    refine g_iload (pc := 2216) dL_law_2216 rfl ?_
    refine g_iconst (pc := 2218) (v := 1) dL_law_2218 rfl ?_
    refine g_iadd (pc := 2219) dL_law_2219 ?_
    refine g_scriptLoadS (pc := 2220) dL_law_2220 (nI_o1 _) hs (by omega) (by omega) ?_
    refine g_aload_n (pc := 2221) dL_law_2221 rfl isA_0 ?_
    refine g_iload (pc := 2222) dL_law_2222 rfl ?_
    refine g_iconst (pc := 2224) (v := 2) dL_law_2224 rfl ?_
    refine g_iadd (pc := 2225) dL_law_2225 ?_
    refine g_scriptLoadS (pc := 2226) dL_law_2226 (nI_o2 _) hs (by omega) (by omega) ?_
    refine g_aload_n (pc := 2227) dL_law_2227 rfl isA_0 ?_
    refine g_iload (pc := 2228) dL_law_2228 rfl ?_
    refine g_iconst (pc := 2230) (v := 3) dL_law_2230 rfl ?_
    refine g_iadd (pc := 2231) dL_law_2231 ?_
    refine g_scriptLoadS (pc := 2232) dL_law_2232 (nI_o3 _) hs (by omega) (by omega) ?_
    refine g_aload_n (pc := 2233) dL_law_2233 rfl isA_0 ?_
    refine g_iload (pc := 2234) dL_law_2234 rfl ?_
    refine g_iconst (pc := 2236) (v := 4) dL_law_2236 rfl ?_
    refine g_iadd (pc := 2237) dL_law_2237 ?_
    refine g_scriptLoadS (pc := 2238) dL_law_2238 (nI_o4 _) hs (by omega) (by omega) ?_
    refine g_if_eq (pc := 2239) (tgt := 2246) dL_law_2239 rfl (fun _ => ?_) (fun h2239 => absurd (hx) h2239)
    refine g_iconst (pc := 2246) (v := 0) dL_law_2246 rfl ?_
    refine g_aload_n (pc := 2247) dL_law_2247 rfl trivial ?_
    refine g_invSX_s (pc := 2248) (As := [_, _, _, _, _, _]) dL_law_2248 rfl (h1) rfl rfl lk_L_339 rfl (nb rfl) ⟨nb rfl, nb rfl⟩ rfl (fun e1 => ?_)
    have e1 := e1.trans hs
    refine g_istore (pc := 2251) (lv' := [(0, _), (1, _), (2, _), (3, _), (4, _), (5, _), (6, _)]) dL_law_2251 (nl rfl) rfl ?_
    refine g_aload_n (pc := 2253) dL_law_2253 rfl trivial ?_
    refine g_aload_n (pc := 2254) dL_law_2254 rfl isA_0 ?_
    refine g_iload (pc := 2255) dL_law_2255 rfl ?_
    refine g_iconst (pc := 2257) (v := 1) dL_law_2257 rfl ?_
    refine g_iadd (pc := 2258) dL_law_2258 ?_
    refine g_scriptLoadS (pc := 2259) dL_law_2259 (nI_o1 _) e1 (by omega) (by omega) ?_
    refine g_aload_n (pc := 2260) dL_law_2260 rfl isA_0 ?_
    refine g_iload (pc := 2261) dL_law_2261 rfl ?_
    refine g_iconst (pc := 2263) (v := 2) dL_law_2263 rfl ?_
    refine g_iadd (pc := 2264) dL_law_2264 ?_
    refine g_scriptLoadS (pc := 2265) dL_law_2265 (nI_o2 _) e1 (by omega) (by omega) ?_
    refine g_aload_n (pc := 2266) dL_law_2266 rfl isA_0 ?_
    refine g_iload (pc := 2267) dL_law_2267 rfl ?_
    refine g_iconst (pc := 2269) (v := 3) dL_law_2269 rfl ?_
    refine g_iadd (pc := 2270) dL_law_2270 ?_
    refine g_scriptLoadS (pc := 2271) dL_law_2271 (nI_o3 _) e1 (by omega) (by omega) ?_
    refine g_aload_n (pc := 2272) dL_law_2272 rfl isA_0 ?_
    refine g_iload (pc := 2273) dL_law_2273 rfl ?_
    refine g_iconst (pc := 2275) (v := 4) dL_law_2275 rfl ?_
    refine g_iadd (pc := 2276) dL_law_2276 ?_
    refine g_scriptLoadS (pc := 2277) dL_law_2277 (nI_o4 _) e1 (by omega) (by omega) ?_
    refine g_if_eq (pc := 2278) (tgt := 2285) dL_law_2278 rfl (fun _ => ?_) (fun h2278 => absurd (hx) h2278)
    refine g_iconst (pc := 2285) (v := 0) dL_law_2285 rfl ?_
    refine g_invV_s (pc := 2286) (As := [_, _, _, _]) dL_law_2286 rfl (h2) rfl rfl (shK hM1 rfl) rfl rfl lk_L_341 rfl (nb rfl) ⟨nb rfl, nb rfl⟩ rfl (fun e2 => ?_)
    have e2 := e2.trans e1
    refine g_istore (pc := 2289) (lv' := [(0, _), (1, _), (2, _), (3, _), (4, _), (5, _), (6, _), (7, _)]) dL_law_2289 (nl rfl) rfl ?_
    refine g_goto (pc := 2291) (tgt := 2752) dL_law_2291 rfl ?_
    exact g_sub (lv' := AL o) ⟨rfl, rfl, rfl, rfl, rfl, rfl, trivial⟩ (kont e2)
  · rw [if_neg hx] at hf; subst hf
    refine g_aload_n (pc := 2214) dL_law_2214 rfl trivial ?_
    refine g_aload_n (pc := 2215) dL_law_2215 rfl isA_0 ?_
    refine g_iload (pc := 2216) dL_law_2216 rfl ?_
    refine g_iconst (pc := 2218) (v := 1) dL_law_2218 rfl ?_
    refine g_iadd (pc := 2219) dL_law_2219 ?_
    refine g_scriptLoadS (pc := 2220) dL_law_2220 (nI_o1 _) hs (by omega) (by omega) ?_
    refine g_aload_n (pc := 2221) dL_law_2221 rfl isA_0 ?_
    refine g_iload (pc := 2222) dL_law_2222 rfl ?_
    refine g_iconst (pc := 2224) (v := 2) dL_law_2224 rfl ?_
    refine g_iadd (pc := 2225) dL_law_2225 ?_
    refine g_scriptLoadS (pc := 2226) dL_law_2226 (nI_o2 _) hs (by omega) (by omega) ?_
    refine g_aload_n (pc := 2227) dL_law_2227 rfl isA_0 ?_
    refine g_iload (pc := 2228) dL_law_2228 rfl ?_
    refine g_iconst (pc := 2230) (v := 3) dL_law_2230 rfl ?_
    refine g_iadd (pc := 2231) dL_law_2231 ?_
    refine g_scriptLoadS (pc := 2232) dL_law_2232 (nI_o3 _) hs (by omega) (by omega) ?_
    refine g_aload_n (pc := 2233) dL_law_2233 rfl isA_0 ?_
    refine g_iload (pc := 2234) dL_law_2234 rfl ?_
    refine g_iconst (pc := 2236) (v := 4) dL_law_2236 rfl ?_
    refine g_iadd (pc := 2237) dL_law_2237 ?_
    refine g_scriptLoadS (pc := 2238) dL_law_2238 (nI_o4 _) hs (by omega) (by omega) ?_
    refine g_if_eq (pc := 2239) (tgt := 2246) dL_law_2239 rfl (fun h2239 => absurd h2239 (hx)) (fun _ => ?_)
    refine g_iconst (pc := 2242) (v := 1) dL_law_2242 rfl ?_
    refine g_goto (pc := 2243) (tgt := 2247) dL_law_2243 rfl ?_
    refine g_aload_n (pc := 2247) dL_law_2247 rfl trivial ?_
    refine g_invSX_s (pc := 2248) (As := [_, _, _, _, _, _]) dL_law_2248 rfl (h1) rfl rfl lk_L_339 rfl (nb rfl) ⟨nb rfl, nb rfl⟩ rfl (fun e1 => ?_)
    have e1 := e1.trans hs
    refine g_istore (pc := 2251) (lv' := [(0, _), (1, _), (2, _), (3, _), (4, _), (5, _), (6, _)]) dL_law_2251 (nl rfl) rfl ?_
    refine g_aload_n (pc := 2253) dL_law_2253 rfl trivial ?_
    refine g_aload_n (pc := 2254) dL_law_2254 rfl isA_0 ?_
    refine g_iload (pc := 2255) dL_law_2255 rfl ?_
    refine g_iconst (pc := 2257) (v := 1) dL_law_2257 rfl ?_
    refine g_iadd (pc := 2258) dL_law_2258 ?_
    refine g_scriptLoadS (pc := 2259) dL_law_2259 (nI_o1 _) e1 (by omega) (by omega) ?_
    refine g_aload_n (pc := 2260) dL_law_2260 rfl isA_0 ?_
    refine g_iload (pc := 2261) dL_law_2261 rfl ?_
    refine g_iconst (pc := 2263) (v := 2) dL_law_2263 rfl ?_
    refine g_iadd (pc := 2264) dL_law_2264 ?_
    refine g_scriptLoadS (pc := 2265) dL_law_2265 (nI_o2 _) e1 (by omega) (by omega) ?_
    refine g_aload_n (pc := 2266) dL_law_2266 rfl isA_0 ?_
    refine g_iload (pc := 2267) dL_law_2267 rfl ?_
    refine g_iconst (pc := 2269) (v := 3) dL_law_2269 rfl ?_
    refine g_iadd (pc := 2270) dL_law_2270 ?_
    refine g_scriptLoadS (pc := 2271) dL_law_2271 (nI_o3 _) e1 (by omega) (by omega) ?_
    refine g_aload_n (pc := 2272) dL_law_2272 rfl isA_0 ?_
    refine g_iload (pc := 2273) dL_law_2273 rfl ?_
    refine g_iconst (pc := 2275) (v := 4) dL_law_2275 rfl ?_
    refine g_iadd (pc := 2276) dL_law_2276 ?_
    refine g_scriptLoadS (pc := 2277) dL_law_2277 (nI_o4 _) e1 (by omega) (by omega) ?_
    refine g_if_eq (pc := 2278) (tgt := 2285) dL_law_2278 rfl (fun h2278 => absurd h2278 (hx)) (fun _ => ?_)
    refine g_iconst (pc := 2281) (v := 1) dL_law_2281 rfl ?_
    refine g_goto (pc := 2282) (tgt := 2286) dL_law_2282 rfl ?_
    refine g_invV_s (pc := 2286) (As := [_, _, _, _]) dL_law_2286 rfl (h2) rfl rfl (shK hM1 rfl) rfl rfl lk_L_341 rfl (nb rfl) ⟨nb rfl, nb rfl⟩ rfl (fun e2 => ?_)
    have e2 := e2.trans e1
    refine g_istore (pc := 2289) (lv' := [(0, _), (1, _), (2, _), (3, _), (4, _), (5, _), (6, _), (7, _)]) dL_law_2289 (nl rfl) rfl ?_
    refine g_goto (pc := 2291) (tgt := 2752) dL_law_2291 rfl ?_
    exact g_sub (lv' := AL o) ⟨rfl, rfl, rfl, rfl, rfl, rfl, trivial⟩ (kont e2)
set_option maxRecDepth 4000 in
theorem lc_45 {kk : Int32} {b : Int32} (hs : mS M = S) (ho : o + 5 ≤ S.1) (hS9 : S.1 < 2147483648) (hM : Shp M) (hM1 : Shp M1) (hM2 : Shp M2) (h1 : EvR l jL_invert 8 172 2 12 [.ref 0, .int (S.2 (o + 1)), .int (S.2 (o + 2)), .ref 212] M (.inl (some (.int kk))) M1) (h2 : EvR l jX7_invert 4 160 0 0 [.ref 198, .int (S.2 (o + 1)), .int (S.2 (o + 2))] M1 (.inl (some (.int b))) M2) (kont : mS M2 = S → Go l jL_law 14 538 601024 7293034 Q 2752 (AL o) [] k n M2) : Go l jL_law 14 538 601024 7293034 Q 2294 (AL o) [] (k + 2) (n + 12) M := by
  refine g_aload_n (pc := 2294) dL_law_2294 rfl trivial ?_
  refine g_aload_n (pc := 2295) dL_law_2295 rfl isA_0 ?_
  refine g_iload (pc := 2296) dL_law_2296 rfl ?_
  refine g_iconst (pc := 2298) (v := 1) dL_law_2298 rfl ?_
  refine g_iadd (pc := 2299) dL_law_2299 ?_
  refine g_scriptLoadS (pc := 2300) dL_law_2300 (nI_o1 _) hs (by omega) (by omega) ?_
  refine g_aload_n (pc := 2301) dL_law_2301 rfl isA_0 ?_
  refine g_iload (pc := 2302) dL_law_2302 rfl ?_
  refine g_iconst (pc := 2304) (v := 2) dL_law_2304 rfl ?_
  refine g_iadd (pc := 2305) dL_law_2305 ?_
  refine g_scriptLoadS (pc := 2306) dL_law_2306 (nI_o2 _) hs (by omega) (by omega) ?_
  refine g_aload_n (pc := 2307) dL_law_2307 rfl trivial ?_
  refine g_invSX_s (pc := 2308) (As := [_, _, _, _]) dL_law_2308 rfl (h1) rfl rfl lk_L_342 rfl (nb rfl) ⟨nb rfl, nb rfl⟩ rfl (fun e1 => ?_)
  have e1 := e1.trans hs
  refine g_istore (pc := 2311) (lv' := [(0, _), (1, _), (2, _), (3, _), (4, _), (5, _), (6, _)]) dL_law_2311 (nl rfl) rfl ?_
  refine g_aload_n (pc := 2313) dL_law_2313 rfl trivial ?_
  refine g_aload_n (pc := 2314) dL_law_2314 rfl isA_0 ?_
  refine g_iload (pc := 2315) dL_law_2315 rfl ?_
  refine g_iconst (pc := 2317) (v := 1) dL_law_2317 rfl ?_
  refine g_iadd (pc := 2318) dL_law_2318 ?_
  refine g_scriptLoadS (pc := 2319) dL_law_2319 (nI_o1 _) e1 (by omega) (by omega) ?_
  refine g_aload_n (pc := 2320) dL_law_2320 rfl isA_0 ?_
  refine g_iload (pc := 2321) dL_law_2321 rfl ?_
  refine g_iconst (pc := 2323) (v := 2) dL_law_2323 rfl ?_
  refine g_iadd (pc := 2324) dL_law_2324 ?_
  refine g_scriptLoadS (pc := 2325) dL_law_2325 (nI_o2 _) e1 (by omega) (by omega) ?_
  refine g_invV_s (pc := 2326) (As := [_, _]) dL_law_2326 rfl (h2) rfl rfl (shK hM1 rfl) rfl rfl lk_L_344 rfl (nb rfl) ⟨nb rfl, nb rfl⟩ rfl (fun e2 => ?_)
  have e2 := e2.trans e1
  refine g_istore (pc := 2329) (lv' := [(0, _), (1, _), (2, _), (3, _), (4, _), (5, _), (6, _), (7, _)]) dL_law_2329 (nl rfl) rfl ?_
  refine g_goto (pc := 2331) (tgt := 2752) dL_law_2331 rfl ?_
  exact g_sub (lv' := AL o) ⟨rfl, rfl, rfl, rfl, rfl, rfl, trivial⟩ (kont e2)
set_option maxRecDepth 4000 in
theorem lc_46 {kk : Int32} {b : Int32} (hs : mS M = S) (ho : o + 5 ≤ S.1) (hS9 : S.1 < 2147483648) (hM : Shp M) (hM1 : Shp M1) (hM2 : Shp M2) (h1 : EvR l jL_close 8 162 2 12 [.ref 0, .int (S.2 (o + 1)), .int (S.2 (o + 2)), .ref 212] M (.inl (some (.int kk))) M1) (h2 : EvR l jX7_close 4 160 0 0 [.ref 198, .int (S.2 (o + 1)), .int (S.2 (o + 2))] M1 (.inl (some (.int b))) M2) (kont : mS M2 = S → Go l jL_law 14 538 601024 7293034 Q 2752 (AL o) [] k n M2) : Go l jL_law 14 538 601024 7293034 Q 2334 (AL o) [] (k + 2) (n + 12) M := by
  refine g_aload_n (pc := 2334) dL_law_2334 rfl trivial ?_
  refine g_aload_n (pc := 2335) dL_law_2335 rfl isA_0 ?_
  refine g_iload (pc := 2336) dL_law_2336 rfl ?_
  refine g_iconst (pc := 2338) (v := 1) dL_law_2338 rfl ?_
  refine g_iadd (pc := 2339) dL_law_2339 ?_
  refine g_scriptLoadS (pc := 2340) dL_law_2340 (nI_o1 _) hs (by omega) (by omega) ?_
  refine g_aload_n (pc := 2341) dL_law_2341 rfl isA_0 ?_
  refine g_iload (pc := 2342) dL_law_2342 rfl ?_
  refine g_iconst (pc := 2344) (v := 2) dL_law_2344 rfl ?_
  refine g_iadd (pc := 2345) dL_law_2345 ?_
  refine g_scriptLoadS (pc := 2346) dL_law_2346 (nI_o2 _) hs (by omega) (by omega) ?_
  refine g_aload_n (pc := 2347) dL_law_2347 rfl trivial ?_
  refine g_invSX_s (pc := 2348) (As := [_, _, _, _]) dL_law_2348 rfl (h1) rfl rfl lk_L_345 rfl (nb rfl) ⟨nb rfl, nb rfl⟩ rfl (fun e1 => ?_)
  have e1 := e1.trans hs
  refine g_istore (pc := 2351) (lv' := [(0, _), (1, _), (2, _), (3, _), (4, _), (5, _), (6, _)]) dL_law_2351 (nl rfl) rfl ?_
  refine g_aload_n (pc := 2353) dL_law_2353 rfl trivial ?_
  refine g_aload_n (pc := 2354) dL_law_2354 rfl isA_0 ?_
  refine g_iload (pc := 2355) dL_law_2355 rfl ?_
  refine g_iconst (pc := 2357) (v := 1) dL_law_2357 rfl ?_
  refine g_iadd (pc := 2358) dL_law_2358 ?_
  refine g_scriptLoadS (pc := 2359) dL_law_2359 (nI_o1 _) e1 (by omega) (by omega) ?_
  refine g_aload_n (pc := 2360) dL_law_2360 rfl isA_0 ?_
  refine g_iload (pc := 2361) dL_law_2361 rfl ?_
  refine g_iconst (pc := 2363) (v := 2) dL_law_2363 rfl ?_
  refine g_iadd (pc := 2364) dL_law_2364 ?_
  refine g_scriptLoadS (pc := 2365) dL_law_2365 (nI_o2 _) e1 (by omega) (by omega) ?_
  refine g_invV_s (pc := 2366) (As := [_, _]) dL_law_2366 rfl (h2) rfl rfl (shK hM1 rfl) rfl rfl lk_L_347 rfl (nb rfl) ⟨nb rfl, nb rfl⟩ rfl (fun e2 => ?_)
  have e2 := e2.trans e1
  refine g_istore (pc := 2369) (lv' := [(0, _), (1, _), (2, _), (3, _), (4, _), (5, _), (6, _), (7, _)]) dL_law_2369 (nl rfl) rfl ?_
  refine g_goto (pc := 2371) (tgt := 2752) dL_law_2371 rfl ?_
  exact g_sub (lv' := AL o) ⟨rfl, rfl, rfl, rfl, rfl, rfl, trivial⟩ (kont e2)
set_option maxRecDepth 4000 in
theorem lc_47 {kk : Int32} {b : Int32} (hs : mS M = S) (ho : o + 5 ≤ S.1) (hS9 : S.1 < 2147483648) (hM : Shp M) (hM1 : Shp M1) (hM2 : Shp M2) (h1 : EvR l jL_reduce 8 163 2 12 [.ref 0, .int (S.2 (o + 1)), .int (S.2 (o + 2)), .ref 212] M (.inl (some (.int kk))) M1) (h2 : EvR l jX7_reduce 4 160 0 0 [.ref 198, .int (S.2 (o + 1)), .int (S.2 (o + 2))] M1 (.inl (some (.int b))) M2) (kont : mS M2 = S → Go l jL_law 14 538 601024 7293034 Q 2752 (AL o) [] k n M2) : Go l jL_law 14 538 601024 7293034 Q 2374 (AL o) [] (k + 2) (n + 12) M := by
  refine g_aload_n (pc := 2374) dL_law_2374 rfl trivial ?_
  refine g_aload_n (pc := 2375) dL_law_2375 rfl isA_0 ?_
  refine g_iload (pc := 2376) dL_law_2376 rfl ?_
  refine g_iconst (pc := 2378) (v := 1) dL_law_2378 rfl ?_
  refine g_iadd (pc := 2379) dL_law_2379 ?_
  refine g_scriptLoadS (pc := 2380) dL_law_2380 (nI_o1 _) hs (by omega) (by omega) ?_
  refine g_aload_n (pc := 2381) dL_law_2381 rfl isA_0 ?_
  refine g_iload (pc := 2382) dL_law_2382 rfl ?_
  refine g_iconst (pc := 2384) (v := 2) dL_law_2384 rfl ?_
  refine g_iadd (pc := 2385) dL_law_2385 ?_
  refine g_scriptLoadS (pc := 2386) dL_law_2386 (nI_o2 _) hs (by omega) (by omega) ?_
  refine g_aload_n (pc := 2387) dL_law_2387 rfl trivial ?_
  refine g_invSX_s (pc := 2388) (As := [_, _, _, _]) dL_law_2388 rfl (h1) rfl rfl lk_L_348 rfl (nb rfl) ⟨nb rfl, nb rfl⟩ rfl (fun e1 => ?_)
  have e1 := e1.trans hs
  refine g_istore (pc := 2391) (lv' := [(0, _), (1, _), (2, _), (3, _), (4, _), (5, _), (6, _)]) dL_law_2391 (nl rfl) rfl ?_
  refine g_aload_n (pc := 2393) dL_law_2393 rfl trivial ?_
  refine g_aload_n (pc := 2394) dL_law_2394 rfl isA_0 ?_
  refine g_iload (pc := 2395) dL_law_2395 rfl ?_
  refine g_iconst (pc := 2397) (v := 1) dL_law_2397 rfl ?_
  refine g_iadd (pc := 2398) dL_law_2398 ?_
  refine g_scriptLoadS (pc := 2399) dL_law_2399 (nI_o1 _) e1 (by omega) (by omega) ?_
  refine g_aload_n (pc := 2400) dL_law_2400 rfl isA_0 ?_
  refine g_iload (pc := 2401) dL_law_2401 rfl ?_
  refine g_iconst (pc := 2403) (v := 2) dL_law_2403 rfl ?_
  refine g_iadd (pc := 2404) dL_law_2404 ?_
  refine g_scriptLoadS (pc := 2405) dL_law_2405 (nI_o2 _) e1 (by omega) (by omega) ?_
  refine g_invV_s (pc := 2406) (As := [_, _]) dL_law_2406 rfl (h2) rfl rfl (shK hM1 rfl) rfl rfl lk_L_350 rfl (nb rfl) ⟨nb rfl, nb rfl⟩ rfl (fun e2 => ?_)
  have e2 := e2.trans e1
  refine g_istore (pc := 2409) (lv' := [(0, _), (1, _), (2, _), (3, _), (4, _), (5, _), (6, _), (7, _)]) dL_law_2409 (nl rfl) rfl ?_
  refine g_goto (pc := 2411) (tgt := 2752) dL_law_2411 rfl ?_
  exact g_sub (lv' := AL o) ⟨rfl, rfl, rfl, rfl, rfl, rfl, trivial⟩ (kont e2)
set_option maxRecDepth 4000 in
theorem lc_48 {kk : Int32} {b : Int32} (hs : mS M = S) (ho : o + 5 ≤ S.1) (hS9 : S.1 < 2147483648) (hM : Shp M) (hM1 : Shp M1) (hM2 : Shp M2) (h1 : EvR l jL_exchange 10 187 3 18 [.ref 0, .int (S.2 (o + 1)), .int (S.2 (o + 2)), .int (S.2 (o + 3)), .ref 212] M (.inl (some (.int kk))) M1) (h2 : EvR l jX7_exchange 4 160 0 0 [.ref 198, .int (S.2 (o + 1)), .int (S.2 (o + 2)), .int (S.2 (o + 3))] M1 (.inl (some (.int b))) M2) (kont : mS M2 = S → Go l jL_law 14 538 601024 7293034 Q 2752 (AL o) [] k n M2) : Go l jL_law 14 538 601024 7293034 Q 2414 (AL o) [] (k + 3) (n + 18) M := by
  refine g_aload_n (pc := 2414) dL_law_2414 rfl trivial ?_
  refine g_aload_n (pc := 2415) dL_law_2415 rfl isA_0 ?_
  refine g_iload (pc := 2416) dL_law_2416 rfl ?_
  refine g_iconst (pc := 2418) (v := 1) dL_law_2418 rfl ?_
  refine g_iadd (pc := 2419) dL_law_2419 ?_
  refine g_scriptLoadS (pc := 2420) dL_law_2420 (nI_o1 _) hs (by omega) (by omega) ?_
  refine g_aload_n (pc := 2421) dL_law_2421 rfl isA_0 ?_
  refine g_iload (pc := 2422) dL_law_2422 rfl ?_
  refine g_iconst (pc := 2424) (v := 2) dL_law_2424 rfl ?_
  refine g_iadd (pc := 2425) dL_law_2425 ?_
  refine g_scriptLoadS (pc := 2426) dL_law_2426 (nI_o2 _) hs (by omega) (by omega) ?_
  refine g_aload_n (pc := 2427) dL_law_2427 rfl isA_0 ?_
  refine g_iload (pc := 2428) dL_law_2428 rfl ?_
  refine g_iconst (pc := 2430) (v := 3) dL_law_2430 rfl ?_
  refine g_iadd (pc := 2431) dL_law_2431 ?_
  refine g_scriptLoadS (pc := 2432) dL_law_2432 (nI_o3 _) hs (by omega) (by omega) ?_
  refine g_aload_n (pc := 2433) dL_law_2433 rfl trivial ?_
  refine g_invSX_s (pc := 2434) (As := [_, _, _, _, _]) dL_law_2434 rfl (h1) rfl rfl lk_L_351 rfl (nb rfl) ⟨nb rfl, nb rfl⟩ rfl (fun e1 => ?_)
  have e1 := e1.trans hs
  refine g_istore (pc := 2437) (lv' := [(0, _), (1, _), (2, _), (3, _), (4, _), (5, _), (6, _)]) dL_law_2437 (nl rfl) rfl ?_
  refine g_aload_n (pc := 2439) dL_law_2439 rfl trivial ?_
  refine g_aload_n (pc := 2440) dL_law_2440 rfl isA_0 ?_
  refine g_iload (pc := 2441) dL_law_2441 rfl ?_
  refine g_iconst (pc := 2443) (v := 1) dL_law_2443 rfl ?_
  refine g_iadd (pc := 2444) dL_law_2444 ?_
  refine g_scriptLoadS (pc := 2445) dL_law_2445 (nI_o1 _) e1 (by omega) (by omega) ?_
  refine g_aload_n (pc := 2446) dL_law_2446 rfl isA_0 ?_
  refine g_iload (pc := 2447) dL_law_2447 rfl ?_
  refine g_iconst (pc := 2449) (v := 2) dL_law_2449 rfl ?_
  refine g_iadd (pc := 2450) dL_law_2450 ?_
  refine g_scriptLoadS (pc := 2451) dL_law_2451 (nI_o2 _) e1 (by omega) (by omega) ?_
  refine g_aload_n (pc := 2452) dL_law_2452 rfl isA_0 ?_
  refine g_iload (pc := 2453) dL_law_2453 rfl ?_
  refine g_iconst (pc := 2455) (v := 3) dL_law_2455 rfl ?_
  refine g_iadd (pc := 2456) dL_law_2456 ?_
  refine g_scriptLoadS (pc := 2457) dL_law_2457 (nI_o3 _) e1 (by omega) (by omega) ?_
  refine g_invV_s (pc := 2458) (As := [_, _, _]) dL_law_2458 rfl (h2) rfl rfl (shK hM1 rfl) rfl rfl lk_L_353 rfl (nb rfl) ⟨nb rfl, nb rfl⟩ rfl (fun e2 => ?_)
  have e2 := e2.trans e1
  refine g_istore (pc := 2461) (lv' := [(0, _), (1, _), (2, _), (3, _), (4, _), (5, _), (6, _), (7, _)]) dL_law_2461 (nl rfl) rfl ?_
  refine g_goto (pc := 2463) (tgt := 2752) dL_law_2463 rfl ?_
  exact g_sub (lv' := AL o) ⟨rfl, rfl, rfl, rfl, rfl, rfl, trivial⟩ (kont e2)
set_option maxRecDepth 4000 in
theorem lc_49 {kk : Int32} {b : Int32} {f : Int32} (hf : f = if S.2 (o + 2) = 0 then 0 else 1) (hs : mS M = S) (ho : o + 5 ≤ S.1) (hS9 : S.1 < 2147483648) (hM : Shp M) (hM1 : Shp M1) (hM2 : Shp M2) (h1 : EvR l jL_keep 8 163 1 6 [.ref 0, .int (S.2 (o + 1)), .int f, .ref 212] M (.inl (some (.int kk))) M1) (h2 : EvR l jX7_keep 4 160 0 0 [.ref 198, .int (S.2 (o + 1)), .int f] M1 (.inl (some (.int b))) M2) (kont : mS M2 = S → Go l jL_law 14 538 601024 7293034 Q 2752 (AL o) [] k n M2) : Go l jL_law 14 538 601024 7293034 Q 2466 (AL o) [] (k + 1) (n + 6) M := by
  by_cases hx : S.2 (o + 2) = 0
  · rw [if_pos hx] at hf; subst hf
    refine g_aload_n (pc := 2466) dL_law_2466 rfl trivial ?_
    refine g_aload_n (pc := 2467) dL_law_2467 rfl isA_0 ?_
    refine g_iload (pc := 2468) dL_law_2468 rfl ?_
    refine g_iconst (pc := 2470) (v := 1) dL_law_2470 rfl ?_
    refine g_iadd (pc := 2471) dL_law_2471 ?_
    refine g_scriptLoadS (pc := 2472) dL_law_2472 (nI_o1 _) hs (by omega) (by omega) ?_
    refine g_aload_n (pc := 2473) dL_law_2473 rfl isA_0 ?_
    refine g_iload (pc := 2474) dL_law_2474 rfl ?_
    refine g_iconst (pc := 2476) (v := 2) dL_law_2476 rfl ?_
    refine g_iadd (pc := 2477) dL_law_2477 ?_
    refine g_scriptLoadS (pc := 2478) dL_law_2478 (nI_o2 _) hs (by omega) (by omega) ?_
    refine g_if_eq (pc := 2479) (tgt := 2486) dL_law_2479 rfl (fun _ => ?_) (fun h2479 => absurd (hx) h2479)
    refine g_iconst (pc := 2486) (v := 0) dL_law_2486 rfl ?_
    refine g_aload_n (pc := 2487) dL_law_2487 rfl trivial ?_
    refine g_invSX_s (pc := 2488) (As := [_, _, _, _]) dL_law_2488 rfl (h1) rfl rfl lk_L_354 rfl (nb rfl) ⟨nb rfl, nb rfl⟩ rfl (fun e1 => ?_)
    have e1 := e1.trans hs
    refine g_istore (pc := 2491) (lv' := [(0, _), (1, _), (2, _), (3, _), (4, _), (5, _), (6, _)]) dL_law_2491 (nl rfl) rfl ?_
    refine g_aload_n (pc := 2493) dL_law_2493 rfl trivial ?_
    refine g_aload_n (pc := 2494) dL_law_2494 rfl isA_0 ?_
    refine g_iload (pc := 2495) dL_law_2495 rfl ?_
    refine g_iconst (pc := 2497) (v := 1) dL_law_2497 rfl ?_
    refine g_iadd (pc := 2498) dL_law_2498 ?_
    refine g_scriptLoadS (pc := 2499) dL_law_2499 (nI_o1 _) e1 (by omega) (by omega) ?_
    refine g_aload_n (pc := 2500) dL_law_2500 rfl isA_0 ?_
    refine g_iload (pc := 2501) dL_law_2501 rfl ?_
    refine g_iconst (pc := 2503) (v := 2) dL_law_2503 rfl ?_
    refine g_iadd (pc := 2504) dL_law_2504 ?_
    refine g_scriptLoadS (pc := 2505) dL_law_2505 (nI_o2 _) e1 (by omega) (by omega) ?_
    refine g_if_eq (pc := 2506) (tgt := 2513) dL_law_2506 rfl (fun _ => ?_) (fun h2506 => absurd (hx) h2506)
    refine g_iconst (pc := 2513) (v := 0) dL_law_2513 rfl ?_
    refine g_invV_s (pc := 2514) (As := [_, _]) dL_law_2514 rfl (h2) rfl rfl (shK hM1 rfl) rfl rfl lk_L_357 rfl (nb rfl) ⟨nb rfl, nb rfl⟩ rfl (fun e2 => ?_)
    have e2 := e2.trans e1
    refine g_istore (pc := 2517) (lv' := [(0, _), (1, _), (2, _), (3, _), (4, _), (5, _), (6, _), (7, _)]) dL_law_2517 (nl rfl) rfl ?_
    refine g_goto (pc := 2519) (tgt := 2752) dL_law_2519 rfl ?_
    exact g_sub (lv' := AL o) ⟨rfl, rfl, rfl, rfl, rfl, rfl, trivial⟩ (kont e2)
  · rw [if_neg hx] at hf; subst hf
    refine g_aload_n (pc := 2466) dL_law_2466 rfl trivial ?_
    refine g_aload_n (pc := 2467) dL_law_2467 rfl isA_0 ?_
    refine g_iload (pc := 2468) dL_law_2468 rfl ?_
    refine g_iconst (pc := 2470) (v := 1) dL_law_2470 rfl ?_
    refine g_iadd (pc := 2471) dL_law_2471 ?_
    refine g_scriptLoadS (pc := 2472) dL_law_2472 (nI_o1 _) hs (by omega) (by omega) ?_
    refine g_aload_n (pc := 2473) dL_law_2473 rfl isA_0 ?_
    refine g_iload (pc := 2474) dL_law_2474 rfl ?_
    refine g_iconst (pc := 2476) (v := 2) dL_law_2476 rfl ?_
    refine g_iadd (pc := 2477) dL_law_2477 ?_
    refine g_scriptLoadS (pc := 2478) dL_law_2478 (nI_o2 _) hs (by omega) (by omega) ?_
    refine g_if_eq (pc := 2479) (tgt := 2486) dL_law_2479 rfl (fun h2479 => absurd h2479 (hx)) (fun _ => ?_)
    refine g_iconst (pc := 2482) (v := 1) dL_law_2482 rfl ?_
    refine g_goto (pc := 2483) (tgt := 2487) dL_law_2483 rfl ?_
    refine g_aload_n (pc := 2487) dL_law_2487 rfl trivial ?_
    refine g_invSX_s (pc := 2488) (As := [_, _, _, _]) dL_law_2488 rfl (h1) rfl rfl lk_L_354 rfl (nb rfl) ⟨nb rfl, nb rfl⟩ rfl (fun e1 => ?_)
    have e1 := e1.trans hs
    refine g_istore (pc := 2491) (lv' := [(0, _), (1, _), (2, _), (3, _), (4, _), (5, _), (6, _)]) dL_law_2491 (nl rfl) rfl ?_
    refine g_aload_n (pc := 2493) dL_law_2493 rfl trivial ?_
    refine g_aload_n (pc := 2494) dL_law_2494 rfl isA_0 ?_
    refine g_iload (pc := 2495) dL_law_2495 rfl ?_
    refine g_iconst (pc := 2497) (v := 1) dL_law_2497 rfl ?_
    refine g_iadd (pc := 2498) dL_law_2498 ?_
    refine g_scriptLoadS (pc := 2499) dL_law_2499 (nI_o1 _) e1 (by omega) (by omega) ?_
    refine g_aload_n (pc := 2500) dL_law_2500 rfl isA_0 ?_
    refine g_iload (pc := 2501) dL_law_2501 rfl ?_
    refine g_iconst (pc := 2503) (v := 2) dL_law_2503 rfl ?_
    refine g_iadd (pc := 2504) dL_law_2504 ?_
    refine g_scriptLoadS (pc := 2505) dL_law_2505 (nI_o2 _) e1 (by omega) (by omega) ?_
    refine g_if_eq (pc := 2506) (tgt := 2513) dL_law_2506 rfl (fun h2506 => absurd h2506 (hx)) (fun _ => ?_)
    refine g_iconst (pc := 2509) (v := 1) dL_law_2509 rfl ?_
    refine g_goto (pc := 2510) (tgt := 2514) dL_law_2510 rfl ?_
    refine g_invV_s (pc := 2514) (As := [_, _]) dL_law_2514 rfl (h2) rfl rfl (shK hM1 rfl) rfl rfl lk_L_357 rfl (nb rfl) ⟨nb rfl, nb rfl⟩ rfl (fun e2 => ?_)
    have e2 := e2.trans e1
    refine g_istore (pc := 2517) (lv' := [(0, _), (1, _), (2, _), (3, _), (4, _), (5, _), (6, _), (7, _)]) dL_law_2517 (nl rfl) rfl ?_
    refine g_goto (pc := 2519) (tgt := 2752) dL_law_2519 rfl ?_
    exact g_sub (lv' := AL o) ⟨rfl, rfl, rfl, rfl, rfl, rfl, trivial⟩ (kont e2)
set_option maxRecDepth 4000 in
theorem lc_50 {kk : Int32} {b : Int32} (hs : mS M = S) (ho : o + 5 ≤ S.1) (hS9 : S.1 < 2147483648) (hM : Shp M) (hM1 : Shp M1) (hM2 : Shp M2) (h1 : EvR l jL_setBlock 8 162 1 6 [.ref 0, .int (S.2 (o + 1)), .ref 212] M (.inl (some (.int kk))) M1) (h2 : EvR l jX7_setBlock 4 160 0 0 [.ref 198, .int (S.2 (o + 1))] M1 (.inl (some (.int b))) M2) (kont : mS M2 = S → Go l jL_law 14 538 601024 7293034 Q 2752 (AL o) [] k n M2) : Go l jL_law 14 538 601024 7293034 Q 2522 (AL o) [] (k + 1) (n + 6) M := by
  refine g_aload_n (pc := 2522) dL_law_2522 rfl trivial ?_
  refine g_aload_n (pc := 2523) dL_law_2523 rfl isA_0 ?_
  refine g_iload (pc := 2524) dL_law_2524 rfl ?_
  refine g_iconst (pc := 2526) (v := 1) dL_law_2526 rfl ?_
  refine g_iadd (pc := 2527) dL_law_2527 ?_
  refine g_scriptLoadS (pc := 2528) dL_law_2528 (nI_o1 _) hs (by omega) (by omega) ?_
  refine g_aload_n (pc := 2529) dL_law_2529 rfl trivial ?_
  refine g_invSX_s (pc := 2530) (As := [_, _, _]) dL_law_2530 rfl (h1) rfl rfl lk_L_358 rfl (nb rfl) ⟨nb rfl, nb rfl⟩ rfl (fun e1 => ?_)
  have e1 := e1.trans hs
  refine g_istore (pc := 2533) (lv' := [(0, _), (1, _), (2, _), (3, _), (4, _), (5, _), (6, _)]) dL_law_2533 (nl rfl) rfl ?_
  refine g_aload_n (pc := 2535) dL_law_2535 rfl trivial ?_
  refine g_aload_n (pc := 2536) dL_law_2536 rfl isA_0 ?_
  refine g_iload (pc := 2537) dL_law_2537 rfl ?_
  refine g_iconst (pc := 2539) (v := 1) dL_law_2539 rfl ?_
  refine g_iadd (pc := 2540) dL_law_2540 ?_
  refine g_scriptLoadS (pc := 2541) dL_law_2541 (nI_o1 _) e1 (by omega) (by omega) ?_
  refine g_invV_s (pc := 2542) (As := [_]) dL_law_2542 rfl (h2) rfl rfl (shK hM1 rfl) rfl rfl lk_L_360 rfl (nb rfl) ⟨nb rfl, nb rfl⟩ rfl (fun e2 => ?_)
  have e2 := e2.trans e1
  refine g_istore (pc := 2545) (lv' := [(0, _), (1, _), (2, _), (3, _), (4, _), (5, _), (6, _), (7, _)]) dL_law_2545 (nl rfl) rfl ?_
  refine g_goto (pc := 2547) (tgt := 2752) dL_law_2547 rfl ?_
  exact g_sub (lv' := AL o) ⟨rfl, rfl, rfl, rfl, rfl, rfl, trivial⟩ (kont e2)
set_option maxRecDepth 4000 in
theorem lc_51 {kk : Int32} {b : Int32} (hs : mS M = S) (ho : o + 5 ≤ S.1) (hS9 : S.1 < 2147483648) (hM : Shp M) (hM1 : Shp M1) (hM2 : Shp M2) (h1 : EvR l jL_kept 8 143 2 12 [.ref 0, .int (S.2 (o + 1)), .int (S.2 (o + 2)), .ref 212] M (.inl (some (.int kk))) M1) (h2 : EvR l jX7_kept 4 160 0 0 [.ref 198, .int (S.2 (o + 1)), .int (S.2 (o + 2))] M1 (.inl (some (.int b))) M2) (kont : mS M2 = S → Go l jL_law 14 538 601024 7293034 Q 2752 (AL o) [] k n M2) : Go l jL_law 14 538 601024 7293034 Q 2550 (AL o) [] (k + 2) (n + 12) M := by
  refine g_aload_n (pc := 2550) dL_law_2550 rfl trivial ?_
  refine g_aload_n (pc := 2551) dL_law_2551 rfl isA_0 ?_
  refine g_iload (pc := 2552) dL_law_2552 rfl ?_
  refine g_iconst (pc := 2554) (v := 1) dL_law_2554 rfl ?_
  refine g_iadd (pc := 2555) dL_law_2555 ?_
  refine g_scriptLoadS (pc := 2556) dL_law_2556 (nI_o1 _) hs (by omega) (by omega) ?_
  refine g_aload_n (pc := 2557) dL_law_2557 rfl isA_0 ?_
  refine g_iload (pc := 2558) dL_law_2558 rfl ?_
  refine g_iconst (pc := 2560) (v := 2) dL_law_2560 rfl ?_
  refine g_iadd (pc := 2561) dL_law_2561 ?_
  refine g_scriptLoadS (pc := 2562) dL_law_2562 (nI_o2 _) hs (by omega) (by omega) ?_
  refine g_aload_n (pc := 2563) dL_law_2563 rfl trivial ?_
  refine g_invSX_s (pc := 2564) (As := [_, _, _, _]) dL_law_2564 rfl (h1) rfl rfl lk_L_361 rfl (nb rfl) ⟨nb rfl, nb rfl⟩ rfl (fun e1 => ?_)
  have e1 := e1.trans hs
  refine g_istore (pc := 2567) (lv' := [(0, _), (1, _), (2, _), (3, _), (4, _), (5, _), (6, _)]) dL_law_2567 (nl rfl) rfl ?_
  refine g_aload_n (pc := 2569) dL_law_2569 rfl trivial ?_
  refine g_aload_n (pc := 2570) dL_law_2570 rfl isA_0 ?_
  refine g_iload (pc := 2571) dL_law_2571 rfl ?_
  refine g_iconst (pc := 2573) (v := 1) dL_law_2573 rfl ?_
  refine g_iadd (pc := 2574) dL_law_2574 ?_
  refine g_scriptLoadS (pc := 2575) dL_law_2575 (nI_o1 _) e1 (by omega) (by omega) ?_
  refine g_aload_n (pc := 2576) dL_law_2576 rfl isA_0 ?_
  refine g_iload (pc := 2577) dL_law_2577 rfl ?_
  refine g_iconst (pc := 2579) (v := 2) dL_law_2579 rfl ?_
  refine g_iadd (pc := 2580) dL_law_2580 ?_
  refine g_scriptLoadS (pc := 2581) dL_law_2581 (nI_o2 _) e1 (by omega) (by omega) ?_
  refine g_invV_s (pc := 2582) (As := [_, _]) dL_law_2582 rfl (h2) rfl rfl (shK hM1 rfl) rfl rfl lk_L_363 rfl (nb rfl) ⟨nb rfl, nb rfl⟩ rfl (fun e2 => ?_)
  have e2 := e2.trans e1
  refine g_istore (pc := 2585) (lv' := [(0, _), (1, _), (2, _), (3, _), (4, _), (5, _), (6, _), (7, _)]) dL_law_2585 (nl rfl) rfl ?_
  refine g_goto (pc := 2587) (tgt := 2752) dL_law_2587 rfl ?_
  exact g_sub (lv' := AL o) ⟨rfl, rfl, rfl, rfl, rfl, rfl, trivial⟩ (kont e2)
set_option maxRecDepth 4000 in
theorem lc_52 {kk : Int32} {b : Int32} (hs : mS M = S) (ho : o + 5 ≤ S.1) (hS9 : S.1 < 2147483648) (hM : Shp M) (hM1 : Shp M1) (hM2 : Shp M2) (h1 : EvR l jL_work 8 141 1 6 [.ref 0, .int (S.2 (o + 1)), .ref 212] M (.inl (some (.int kk))) M1) (h2 : EvR l jX7_work 4 160 0 0 [.ref 198, .int (S.2 (o + 1))] M1 (.inl (some (.int b))) M2) (kont : mS M2 = S → Go l jL_law 14 538 601024 7293034 Q 2752 (AL o) [] k n M2) : Go l jL_law 14 538 601024 7293034 Q 2590 (AL o) [] (k + 1) (n + 6) M := by
  refine g_aload_n (pc := 2590) dL_law_2590 rfl trivial ?_
  refine g_aload_n (pc := 2591) dL_law_2591 rfl isA_0 ?_
  refine g_iload (pc := 2592) dL_law_2592 rfl ?_
  refine g_iconst (pc := 2594) (v := 1) dL_law_2594 rfl ?_
  refine g_iadd (pc := 2595) dL_law_2595 ?_
  refine g_scriptLoadS (pc := 2596) dL_law_2596 (nI_o1 _) hs (by omega) (by omega) ?_
  refine g_aload_n (pc := 2597) dL_law_2597 rfl trivial ?_
  refine g_invSX_s (pc := 2598) (As := [_, _, _]) dL_law_2598 rfl (h1) rfl rfl lk_L_364 rfl (nb rfl) ⟨nb rfl, nb rfl⟩ rfl (fun e1 => ?_)
  have e1 := e1.trans hs
  refine g_istore (pc := 2601) (lv' := [(0, _), (1, _), (2, _), (3, _), (4, _), (5, _), (6, _)]) dL_law_2601 (nl rfl) rfl ?_
  refine g_aload_n (pc := 2603) dL_law_2603 rfl trivial ?_
  refine g_aload_n (pc := 2604) dL_law_2604 rfl isA_0 ?_
  refine g_iload (pc := 2605) dL_law_2605 rfl ?_
  refine g_iconst (pc := 2607) (v := 1) dL_law_2607 rfl ?_
  refine g_iadd (pc := 2608) dL_law_2608 ?_
  refine g_scriptLoadS (pc := 2609) dL_law_2609 (nI_o1 _) e1 (by omega) (by omega) ?_
  refine g_invV_s (pc := 2610) (As := [_]) dL_law_2610 rfl (h2) rfl rfl (shK hM1 rfl) rfl rfl lk_L_366 rfl (nb rfl) ⟨nb rfl, nb rfl⟩ rfl (fun e2 => ?_)
  have e2 := e2.trans e1
  refine g_istore (pc := 2613) (lv' := [(0, _), (1, _), (2, _), (3, _), (4, _), (5, _), (6, _), (7, _)]) dL_law_2613 (nl rfl) rfl ?_
  refine g_goto (pc := 2615) (tgt := 2752) dL_law_2615 rfl ?_
  exact g_sub (lv' := AL o) ⟨rfl, rfl, rfl, rfl, rfl, rfl, trivial⟩ (kont e2)
set_option maxRecDepth 4000 in
theorem lc_53 {kk : Int32} {b : Int32} (hs : mS M = S) (ho : o + 5 ≤ S.1) (hS9 : S.1 < 2147483648) (hM : Shp M) (hM1 : Shp M1) (hM2 : Shp M2) (h1 : EvR l jL_writeRow 9 164 2 12 [.ref 0, .int (S.2 (o + 1)), .int (S.2 (o + 2)), .ref 212] M (.inl (some (.int kk))) M1) (h2 : EvR l jX7_writeRow 4 160 0 0 [.ref 198, .int (S.2 (o + 1)), .int (S.2 (o + 2))] M1 (.inl (some (.int b))) M2) (kont : mS M2 = S → Go l jL_law 14 538 601024 7293034 Q 2752 (AL o) [] k n M2) : Go l jL_law 14 538 601024 7293034 Q 2618 (AL o) [] (k + 2) (n + 12) M := by
  refine g_aload_n (pc := 2618) dL_law_2618 rfl trivial ?_
  refine g_aload_n (pc := 2619) dL_law_2619 rfl isA_0 ?_
  refine g_iload (pc := 2620) dL_law_2620 rfl ?_
  refine g_iconst (pc := 2622) (v := 1) dL_law_2622 rfl ?_
  refine g_iadd (pc := 2623) dL_law_2623 ?_
  refine g_scriptLoadS (pc := 2624) dL_law_2624 (nI_o1 _) hs (by omega) (by omega) ?_
  refine g_aload_n (pc := 2625) dL_law_2625 rfl isA_0 ?_
  refine g_iload (pc := 2626) dL_law_2626 rfl ?_
  refine g_iconst (pc := 2628) (v := 2) dL_law_2628 rfl ?_
  refine g_iadd (pc := 2629) dL_law_2629 ?_
  refine g_scriptLoadS (pc := 2630) dL_law_2630 (nI_o2 _) hs (by omega) (by omega) ?_
  refine g_aload_n (pc := 2631) dL_law_2631 rfl trivial ?_
  refine g_invSX_s (pc := 2632) (As := [_, _, _, _]) dL_law_2632 rfl (h1) rfl rfl lk_L_367 rfl (nb rfl) ⟨nb rfl, nb rfl⟩ rfl (fun e1 => ?_)
  have e1 := e1.trans hs
  refine g_istore (pc := 2635) (lv' := [(0, _), (1, _), (2, _), (3, _), (4, _), (5, _), (6, _)]) dL_law_2635 (nl rfl) rfl ?_
  refine g_aload_n (pc := 2637) dL_law_2637 rfl trivial ?_
  refine g_aload_n (pc := 2638) dL_law_2638 rfl isA_0 ?_
  refine g_iload (pc := 2639) dL_law_2639 rfl ?_
  refine g_iconst (pc := 2641) (v := 1) dL_law_2641 rfl ?_
  refine g_iadd (pc := 2642) dL_law_2642 ?_
  refine g_scriptLoadS (pc := 2643) dL_law_2643 (nI_o1 _) e1 (by omega) (by omega) ?_
  refine g_aload_n (pc := 2644) dL_law_2644 rfl isA_0 ?_
  refine g_iload (pc := 2645) dL_law_2645 rfl ?_
  refine g_iconst (pc := 2647) (v := 2) dL_law_2647 rfl ?_
  refine g_iadd (pc := 2648) dL_law_2648 ?_
  refine g_scriptLoadS (pc := 2649) dL_law_2649 (nI_o2 _) e1 (by omega) (by omega) ?_
  refine g_invV_s (pc := 2650) (As := [_, _]) dL_law_2650 rfl (h2) rfl rfl (shK hM1 rfl) rfl rfl lk_L_369 rfl (nb rfl) ⟨nb rfl, nb rfl⟩ rfl (fun e2 => ?_)
  have e2 := e2.trans e1
  refine g_istore (pc := 2653) (lv' := [(0, _), (1, _), (2, _), (3, _), (4, _), (5, _), (6, _), (7, _)]) dL_law_2653 (nl rfl) rfl ?_
  refine g_goto (pc := 2655) (tgt := 2752) dL_law_2655 rfl ?_
  exact g_sub (lv' := AL o) ⟨rfl, rfl, rfl, rfl, rfl, rfl, trivial⟩ (kont e2)
set_option maxRecDepth 4000 in
theorem lc_54 {kk : Int32} {b : Int32} (hs : mS M = S) (ho : o + 5 ≤ S.1) (hS9 : S.1 < 2147483648) (hM : Shp M) (hM1 : Shp M1) (hM2 : Shp M2) (h1 : EvR l jX6_outputByte 0 0 0 0 [.ref 0, .int (S.2 (o + 1))] M (.inl (some (.int kk))) M1) (h2 : EvR l jX7_outputByte 4 160 0 0 [.ref 198, .int (S.2 (o + 1))] M1 (.inl (some (.int b))) M2) (kont : mS M2 = S → Go l jL_law 14 538 601024 7293034 Q 2752 (AL o) [] k n M2) : Go l jL_law 14 538 601024 7293034 Q 2658 (AL o) [] (k + 0) (n + 0) M := by
  refine g_aload_n (pc := 2658) dL_law_2658 rfl trivial ?_
  refine g_aload_n (pc := 2659) dL_law_2659 rfl isA_0 ?_
  refine g_iload (pc := 2660) dL_law_2660 rfl ?_
  refine g_iconst (pc := 2662) (v := 1) dL_law_2662 rfl ?_
  refine g_iadd (pc := 2663) dL_law_2663 ?_
  refine g_scriptLoadS (pc := 2664) dL_law_2664 (nI_o1 _) hs (by omega) (by omega) ?_
  refine g_invV_s (pc := 2665) (As := [_]) dL_law_2665 rfl (h1) rfl rfl (shK hM rfl) rfl rfl lk_L_370 rfl (nb rfl) ⟨nb rfl, nb rfl⟩ rfl (fun e1 => ?_)
  have e1 := e1.trans hs
  refine g_pop (pc := 2668) dL_law_2668 rfl ?_
  refine g_aload_n (pc := 2669) dL_law_2669 rfl trivial ?_
  refine g_aload_n (pc := 2670) dL_law_2670 rfl isA_0 ?_
  refine g_iload (pc := 2671) dL_law_2671 rfl ?_
  refine g_iconst (pc := 2673) (v := 1) dL_law_2673 rfl ?_
  refine g_iadd (pc := 2674) dL_law_2674 ?_
  refine g_scriptLoadS (pc := 2675) dL_law_2675 (nI_o1 _) e1 (by omega) (by omega) ?_
  refine g_invV_s (pc := 2676) (As := [_]) dL_law_2676 rfl (h2) rfl rfl (shK hM1 rfl) rfl rfl lk_L_373 rfl (nb rfl) ⟨nb rfl, nb rfl⟩ rfl (fun e2 => ?_)
  have e2 := e2.trans e1
  refine g_pop (pc := 2679) dL_law_2679 rfl ?_
  refine g_goto (pc := 2680) (tgt := 2752) dL_law_2680 rfl ?_
  exact g_sub (lv' := AL o) ⟨rfl, rfl, rfl, rfl, rfl, rfl, trivial⟩ (kont e2)
set_option maxRecDepth 4000 in
theorem lc_55 {kk : Int32} {b : Int32} (hs : mS M = S) (ho : o + 5 ≤ S.1) (hS9 : S.1 < 2147483648) (hM : Shp M) (hM1 : Shp M1) (hM2 : Shp M2) (h1 : EvR l jX6_undo 3 120 0 0 [.ref 0] M (.inl (some (.int kk))) M1) (h2 : EvR l jX7_undo 4 160 0 0 [.ref 198] M1 (.inl (some (.int b))) M2) (kont : mS M2 = S → Go l jL_law 14 538 601024 7293034 Q 2752 (AL o) [] k n M2) : Go l jL_law 14 538 601024 7293034 Q 2683 (AL o) [] (k + 0) (n + 0) M := by
  refine g_aload_n (pc := 2683) dL_law_2683 rfl trivial ?_
  refine g_invV_s (pc := 2684) (As := []) dL_law_2684 rfl (h1) rfl rfl (shK hM rfl) rfl rfl lk_L_374 rfl (nb rfl) ⟨nb rfl, nb rfl⟩ rfl (fun e1 => ?_)
  have e1 := e1.trans hs
  refine g_pop (pc := 2687) dL_law_2687 rfl ?_
  refine g_aload_n (pc := 2688) dL_law_2688 rfl trivial ?_
  refine g_invV_s (pc := 2689) (As := []) dL_law_2689 rfl (h2) rfl rfl (shK hM1 rfl) rfl rfl lk_L_377 rfl (nb rfl) ⟨nb rfl, nb rfl⟩ rfl (fun e2 => ?_)
  have e2 := e2.trans e1
  refine g_pop (pc := 2692) dL_law_2692 rfl ?_
  refine g_goto (pc := 2693) (tgt := 2752) dL_law_2693 rfl ?_
  exact g_sub (lv' := AL o) ⟨rfl, rfl, rfl, rfl, rfl, rfl, trivial⟩ (kont e2)
set_option maxRecDepth 4000 in
theorem lc_56 {kk : Int32} {b : Int32} (hs : mS M = S) (ho : o + 5 ≤ S.1) (hS9 : S.1 < 2147483648) (hM : Shp M) (hM1 : Shp M1) (hM2 : Shp M2) (h1 : EvR l jL_saveSnapshot 8 161 1 6 [.ref 0, .int (S.2 (o + 1)), .ref 212] M (.inl (some (.int kk))) M1) (h2 : EvR l jX7_saveSnapshot 4 160 0 0 [.ref 198, .int (S.2 (o + 1))] M1 (.inl (some (.int b))) M2) (kont : mS M2 = S → Go l jL_law 14 538 601024 7293034 Q 2752 (AL o) [] k n M2) : Go l jL_law 14 538 601024 7293034 Q 2696 (AL o) [] (k + 1) (n + 6) M := by
  refine g_aload_n (pc := 2696) dL_law_2696 rfl trivial ?_
  refine g_aload_n (pc := 2697) dL_law_2697 rfl isA_0 ?_
  refine g_iload (pc := 2698) dL_law_2698 rfl ?_
  refine g_iconst (pc := 2700) (v := 1) dL_law_2700 rfl ?_
  refine g_iadd (pc := 2701) dL_law_2701 ?_
  refine g_scriptLoadS (pc := 2702) dL_law_2702 (nI_o1 _) hs (by omega) (by omega) ?_
  refine g_aload_n (pc := 2703) dL_law_2703 rfl trivial ?_
  refine g_invSX_s (pc := 2704) (As := [_, _, _]) dL_law_2704 rfl (h1) rfl rfl lk_L_378 rfl (nb rfl) ⟨nb rfl, nb rfl⟩ rfl (fun e1 => ?_)
  have e1 := e1.trans hs
  refine g_istore (pc := 2707) (lv' := [(0, _), (1, _), (2, _), (3, _), (4, _), (5, _), (6, _)]) dL_law_2707 (nl rfl) rfl ?_
  refine g_aload_n (pc := 2709) dL_law_2709 rfl trivial ?_
  refine g_aload_n (pc := 2710) dL_law_2710 rfl isA_0 ?_
  refine g_iload (pc := 2711) dL_law_2711 rfl ?_
  refine g_iconst (pc := 2713) (v := 1) dL_law_2713 rfl ?_
  refine g_iadd (pc := 2714) dL_law_2714 ?_
  refine g_scriptLoadS (pc := 2715) dL_law_2715 (nI_o1 _) e1 (by omega) (by omega) ?_
  refine g_invV_s (pc := 2716) (As := [_]) dL_law_2716 rfl (h2) rfl rfl (shK hM1 rfl) rfl rfl lk_L_380 rfl (nb rfl) ⟨nb rfl, nb rfl⟩ rfl (fun e2 => ?_)
  have e2 := e2.trans e1
  refine g_istore (pc := 2719) (lv' := [(0, _), (1, _), (2, _), (3, _), (4, _), (5, _), (6, _), (7, _)]) dL_law_2719 (nl rfl) rfl ?_
  refine g_goto (pc := 2721) (tgt := 2752) dL_law_2721 rfl ?_
  exact g_sub (lv' := AL o) ⟨rfl, rfl, rfl, rfl, rfl, rfl, trivial⟩ (kont e2)
set_option maxRecDepth 4000 in
theorem lc_57 {kk : Int32} {b : Int32} (hs : mS M = S) (ho : o + 5 ≤ S.1) (hS9 : S.1 < 2147483648) (hM : Shp M) (hM1 : Shp M1) (hM2 : Shp M2) (h1 : EvR l jL_restoreSnapshot 8 191 1 6 [.ref 0, .int (S.2 (o + 1)), .ref 212] M (.inl (some (.int kk))) M1) (h2 : EvR l jX7_restoreSnapshot 4 160 0 0 [.ref 198, .int (S.2 (o + 1))] M1 (.inl (some (.int b))) M2) (kont : mS M2 = S → Go l jL_law 14 538 601024 7293034 Q 2752 (AL o) [] k n M2) : Go l jL_law 14 538 601024 7293034 Q 2724 (AL o) [] (k + 1) (n + 6) M := by
  refine g_aload_n (pc := 2724) dL_law_2724 rfl trivial ?_
  refine g_aload_n (pc := 2725) dL_law_2725 rfl isA_0 ?_
  refine g_iload (pc := 2726) dL_law_2726 rfl ?_
  refine g_iconst (pc := 2728) (v := 1) dL_law_2728 rfl ?_
  refine g_iadd (pc := 2729) dL_law_2729 ?_
  refine g_scriptLoadS (pc := 2730) dL_law_2730 (nI_o1 _) hs (by omega) (by omega) ?_
  refine g_aload_n (pc := 2731) dL_law_2731 rfl trivial ?_
  refine g_invSX_s (pc := 2732) (As := [_, _, _]) dL_law_2732 rfl (h1) rfl rfl lk_L_381 rfl (nb rfl) ⟨nb rfl, nb rfl⟩ rfl (fun e1 => ?_)
  have e1 := e1.trans hs
  refine g_istore (pc := 2735) (lv' := [(0, _), (1, _), (2, _), (3, _), (4, _), (5, _), (6, _)]) dL_law_2735 (nl rfl) rfl ?_
  refine g_aload_n (pc := 2737) dL_law_2737 rfl trivial ?_
  refine g_aload_n (pc := 2738) dL_law_2738 rfl isA_0 ?_
  refine g_iload (pc := 2739) dL_law_2739 rfl ?_
  refine g_iconst (pc := 2741) (v := 1) dL_law_2741 rfl ?_
  refine g_iadd (pc := 2742) dL_law_2742 ?_
  refine g_scriptLoadS (pc := 2743) dL_law_2743 (nI_o1 _) e1 (by omega) (by omega) ?_
  refine g_invV_s (pc := 2744) (As := [_]) dL_law_2744 rfl (h2) rfl rfl (shK hM1 rfl) rfl rfl lk_L_383 rfl (nb rfl) ⟨nb rfl, nb rfl⟩ rfl (fun e2 => ?_)
  have e2 := e2.trans e1
  refine g_istore (pc := 2747) (lv' := [(0, _), (1, _), (2, _), (3, _), (4, _), (5, _), (6, _), (7, _)]) dL_law_2747 (nl rfl) rfl ?_
  refine g_goto (pc := 2749) (tgt := 2752) dL_law_2749 rfl ?_
  exact g_sub (lv' := AL o) ⟨rfl, rfl, rfl, rfl, rfl, rfl, trivial⟩ (kont e2)
end
end
-- 54.frame
section
/-! what the class's calls leave as it was -/
def Cf (M M' : Mem) : Prop := mK M' = mK M ∧ mX M' = mX M ∧ mL M' = mL M ∧ mR M' = mR M ∧ mD M' = mD M ∧ mS M' = mS M ∧ ∀ i, 198 ≤ i → mI M' i = mI M i
section
variable {M M1 M2 : Mem}
theorem Cf.rf (M : Mem) : Cf M M := ⟨rfl, rfl, rfl, rfl, rfl, rfl, fun _ _ => rfl⟩
theorem Cf.tr (h : Cf M M1) (g : Cf M1 M2) : Cf M M2 := ⟨g.1.trans h.1, g.2.1.trans h.2.1, g.2.2.1.trans h.2.2.1, g.2.2.2.1.trans h.2.2.2.1, g.2.2.2.2.1.trans h.2.2.2.2.1, g.2.2.2.2.2.1.trans h.2.2.2.2.2.1, fun i hi => (g.2.2.2.2.2.2 i hi).trans (h.2.2.2.2.2.2 i hi)⟩
theorem Cf.S (h : Cf M M1) (hS : Shp M) : Shp M1 := ⟨h.1.trans hS.1, h.2.1.trans hS.2.1, fun i j r q => by rw [h.2.2.2.1]; exact hS.2.2 i j r q⟩
theorem Cf.L (h : Cf M M1) : mL M1 = mL M := h.2.2.1
theorem Cf.I (h : Cf M M1) {i : Nat} (hi : 198 ≤ i) : mI M1 i = mI M i := h.2.2.2.2.2.2 i hi
theorem cf_sI {i : Nat} {f : Nat → Int32} (hi : i < 198) (h : Cf M M1) : Cf M (sI M1 i f) := h.tr ⟨rfl, rfl, rfl, rfl, rfl, rfl, fun j hj => sI_ne (by omega)⟩
theorem cf_pI {i j : Nat} {x : Int32} (hi : i < 198) (h : Cf M M1) : Cf M (pI M1 i j x) := cf_sI hi h
theorem cf_mxLook {m : Nat} {x : Int32} (hi : m < 198) : Cf M (mxLook M m x) := by
  unfold mxLook
  split
  · exact Cf.rf M
  · exact cf_pI hi (cf_pI hi (Cf.rf M))
theorem cf_mxAnew {m : Nat} {x : Int32} (hi : m < 198) : Cf M (mxAnew M m x) := by
  unfold mxAnew
  split
  · exact Cf.rf M
  · exact cf_pI hi (cf_mxLook hi)
theorem cf_mxTake {m o : Nat} (hi : m + 1 < 198) : Cf M (mxTake M m o) := by
  have h1 : m < 198 := by omega
  unfold mxTake
  exact cf_pI h1 (cf_pI h1 (cf_pI h1 (cf_pI h1 (cf_sI hi (Cf.rf M)))))
theorem cf_mxEmpty {m : Nat} (hi : m + 1 < 198) : Cf M (mxEmpty M m) := by
  have h1 : m < 198 := by omega
  unfold mxEmpty
  exact cf_pI h1 (cf_pI h1 (cf_pI h1 (cf_pI h1 (cf_sI hi (Cf.rf M)))))
theorem cf_stTakeL {b o : Nat} (hb9 : b ≤ 184) : ∀ k, k ≤ 6 → Cf M (stTakeL M b o k)
  | 0, _ => by rw [stTakeL.eq_1]; exact Cf.rf M
  | k + 1, h => by rw [stTakeL.eq_2]; exact (cf_stTakeL hb9 k (by omega)).tr (cf_mxTake (by omega))
theorem cf_stTake {b o : Nat} (hb9 : b ≤ 184) : Cf M (stTake M b o) := by
  have h1 : b < 198 := by omega
  have h := cf_stTakeL (M := M) (o := o) hb9 6 (Nat.le_refl _)
  unfold stTake
  generalize stTakeL M b o 6 = M6 at h ⊢
  exact cf_pI h1 (cf_pI h1 (cf_pI h1 (cf_pI h1 h)))
theorem cf_stEmptyL {b : Nat} (hb9 : b ≤ 184) : ∀ k, k ≤ 6 → Cf M (stEmptyL M b k)
  | 0, _ => by rw [stEmptyL.eq_1]; exact Cf.rf M
  | k + 1, h => by rw [stEmptyL.eq_2]; exact (cf_stEmptyL hb9 k (by omega)).tr (cf_mxEmpty (by omega))
theorem cf_stEmpty {b : Nat} {x : Int32} (hb9 : b ≤ 184) : Cf M (stEmpty M b x) := by
  have h1 : b < 198 := by omega
  have h := cf_stEmptyL (M := M) hb9 6 (Nat.le_refl _)
  unfold stEmpty
  generalize stEmptyL M b 6 = M6 at h ⊢
  exact cf_pI h1 (cf_pI h1 (cf_pI h1 (cf_pI h1 h)))
theorem cf_dropC : ∀ k, k ≤ 6 → Cf M (dropC M k)
  | 0, _ => by rw [dropC.eq_1]; exact Cf.rf M
  | k + 1, h => by rw [dropC.eq_2]; exact cf_pI (by omega) (cf_dropC k (by omega))
theorem cf_replM {o : Nat} : Cf M (replM M o) := by
  have h : Cf M (pI (stTake M 3 o) 0 5 0) := cf_pI (by decide) (cf_stTake (by decide))
  unfold replM
  generalize pI (stTake M 3 o) 0 5 0 = M5 at h ⊢
  exact h.tr (cf_dropC 6 (Nat.le_refl _))
theorem cf_remM {p c : Nat} (hp : p < 8) : Cf M (remM M p c) := by
  have h : Cf M (stTake M (32 + 14 * p) 3) := cf_stTake (by omega)
  unfold remM
  generalize stTake M (32 + 14 * p) 3 = M5 at h ⊢
  exact cf_pI (by decide) (cf_pI (by decide) h)
theorem cf_clMake {c r n : Nat} (hc : c + 1 < 198) : Cf M (clMake M c r n) := by
  unfold clMake
  exact cf_pI (by omega) (cf_sI hc (Cf.rf M))
theorem cf_clOf {s n : Nat} (hs : s < 6) : Cf M (clOf M s n) := by
  unfold clOf
  split
  · exact cf_clMake (by omega)
  · exact Cf.rf M
theorem cf_noteM {s : Nat} {x : Int32} (hs : s < 6) : Cf M (noteM M s x) := by
  unfold noteM
  have h : Cf M (pI M (175 + 2 * s) 1 0) := cf_pI (by omega) (Cf.rf M)
  generalize pI M (175 + 2 * s) 1 0 = M5 at h ⊢
  exact h.tr (cf_mxAnew (by omega))
theorem cf_storeM {r t n : Nat} (ht : t < 6) : Cf M (storeM M r t n) := by
  unfold storeM
  have h : Cf M (sI M (6 + 2 * t) (wr (mI M (6 + 2 * t)) (mI M r) n)) := cf_sI (by omega) (Cf.rf M)
  generalize sI M (6 + 2 * t) (wr (mI M (6 + 2 * t)) (mI M r) n) = M5 at h ⊢
  exact h.tr (cf_noteM ht)
theorem cf_workM : Cf M (workM M) := by
  unfold workM
  exact cf_pI (by decide) (cf_pI (by decide) (Cf.rf M))
theorem cf_lwMem {s a b n : Nat} : Cf M (lwMem M s a b n) := by
  unfold lwMem
  exact cf_sI (by decide) (Cf.rf M)
theorem cf_mkM {f : Nat → Int32} {n : Nat} : Cf M (mkM M f n) := by
  unfold mkM
  exact cf_sI (by decide) (Cf.rf M)
theorem cf_elMem {s : ES} : Cf M (elMem M s) := by
  unfold elMem
  exact cf_sI (by decide) (cf_sI (by decide) (cf_sI (by decide) (cf_sI (by decide) (Cf.rf M))))
theorem cf_loM {s a b n : Nat} (hs : s < 6) : Cf M (loM M s a b n) := by
  unfold loM
  have h : Cf M (lwMem M s a b n) := cf_lwMem
  generalize lwMem M s a b n = M5 at h ⊢
  exact h.tr (cf_clOf hs)
theorem cf_wkM {s n a k : Nat} (hs : s < 6) : Cf M (wkM M s n a k) := by
  unfold wkM
  split
  · exact cf_loM hs
  · exact Cf.rf M
theorem cf_wkI {s n a : Nat} (hs : s < 6) (q : Mem × Int32 × Int32) (h : Cf M q.1) : ∀ k, Cf M (wkI s n a q k).1
  | 0 => h
  | k + 1 => (cf_wkI hs q h k).tr (cf_wkM hs)
theorem cf_wkO {s n : Nat} (hs : s < 6) : ∀ k, Cf M (wkO M s n k).1
  | 0 => Cf.rf M
  | k + 1 => cf_wkI hs _ (cf_wkO hs k) n
theorem cf_swM {s r n p c : Nat} {x : Int64} (hp : p < 8) (hs : s < 6) : Cf M (swM M s r n p c x) := by
  unfold swM
  have h : Cf M (sI (remM M p c) (6 + 2 * s) (fun_set (mI M (6 + 2 * s)) r (x.toInt32 &&& lowM n))) := cf_sI (by omega) (cf_remM hp)
  generalize sI (remM M p c) (6 + 2 * s) (fun_set (mI M (6 + 2 * s)) r (x.toInt32 &&& lowM n)) = M5 at h ⊢
  exact h.tr (cf_noteM hs)
theorem cf_kpM {s n p c : Nat} {f : Int32} (hp : p < 8) (hs : s < 6) : Cf M (kpM M s n p c f) := by
  unfold kpM
  have h : Cf M (pI (remM M p c) (5 + 2 * s) 1 f) := cf_pI (by omega) (cf_remM hp)
  generalize pI (remM M p c) (5 + 2 * s) 1 f = M5 at h ⊢
  exact h.tr (cf_mxAnew (by omega))
theorem cf_svM {q : Nat} (hq : q < 2) : Cf M (svM M q) := by
  unfold svM
  exact cf_pI (by decide) (cf_stTake (by omega))
theorem cf_woM {x : Int32} {n k : Nat} : Cf M (woM M x n k) := by
  unfold woM
  exact cf_sI (by decide) (cf_pI (by decide) (Cf.rf M))
theorem cf_rdX {s n : Nat} : Cf M (rdX M s n) := by
  unfold rdX
  exact cf_sI (by decide) (Cf.rf M)
theorem cf_begMem {f : Int32} : Cf M (begMem M f) := by
  unfold begMem
  exact cf_pI (by decide) (cf_pI (by decide) (cf_pI (by decide) (Cf.rf M)))
theorem cf_mulMem {ri : Nat} {s : PS} (hr : ri < 198) : Cf M (mulMem M ri s) := by
  unfold mulMem
  exact cf_sI (by decide) (cf_sI hr (cf_sI (by decide) (Cf.rf M)))
theorem cf_rsMem {s : RS} : Cf M (rsMem M s) := by
  unfold rsMem
  exact cf_sI (by decide) (cf_sI (by decide) (cf_sI (by decide) (cf_sI (by decide) (Cf.rf M))))
theorem cf_prM {a b n bl : Nat} {f : Int32} : Cf M (prM M a b n bl f) := by
  unfold prM
  have h : Cf M (begMem M f) := cf_begMem
  generalize begMem M f = M5 at h ⊢
  exact (h.tr (cf_mulMem (by decide))).tr cf_workM
theorem cf_pwM {s n bl : Nat} {f x : Int32} : Cf M (pwM M s n bl f x) := by
  unfold pwM
  generalize pwE M s n bl f x = q
  have h : Cf M (rsMem (begMem M f) q) := cf_begMem.tr cf_rsMem
  generalize rsMem (begMem M f) q = M5 at h ⊢
  split
  · exact h.tr cf_workM
  · exact h
theorem cf_ptF {s r k n : Nat} (hs : s < 6) : Cf M (ptF M s r k n) := by
  unfold ptF
  exact cf_sI (by omega) ((cf_clOf hs).tr (cf_mxLook (by omega)))
theorem cf_ptM {s r k n : Nat} {f : Int32} (hs : s < 6) : Cf M (ptM M s r k n f) := by
  unfold ptM
  split
  · exact cf_mxLook (by omega)
  · split
    · exact cf_sI (by omega) (cf_ptF hs)
    · exact cf_sI (by omega) (cf_ptF hs)
theorem cf_unM {p c : Nat} : Cf M (unM M p c) := by
  unfold unM
  have h : Cf M (stTake (pI (pI M 0 5 (nI (c - 1))) 0 4 (nI (unP p))) 3 (32 + 14 * unP p)) := (cf_pI (by decide) (cf_pI (by decide) (Cf.rf M))).tr (cf_stTake (by decide))
  generalize stTake (pI (pI M 0 5 (nI (c - 1))) 0 4 (nI (unP p))) 3 (32 + 14 * unP p) = M5 at h ⊢
  exact h.tr (cf_dropC 6 (Nat.le_refl _))
theorem cf_spM {s b n k : Nat} : Cf M (spM M s b n k) := by
  unfold spM
  exact cf_sI (by decide) (Cf.rf M)
theorem cf_apM {len : Nat} {x : Int64} : Cf M (apM M len x) := by
  unfold apM
  split
  · exact Cf.rf M
  · unfold apQ
    exact cf_pI (by decide) (cf_sI (by decide) (Cf.rf M))
theorem cf_rdM {s : RP} : Cf M (rdM M s) := by
  unfold rdM
  exact cf_sI (by decide) (Cf.rf M)
theorem cf_rsR {len n : Nat} {s : RP} : Cf M (rsR M len n s).1 := by
  have h5 := tn5 (mI M 2) len (twd (mI M 2) len s)
  unfold rsR
  split
  · unfold edM; exact cf_sI (by omega) (Cf.rf M)
  · split
    · unfold rrM; exact cf_sI (by omega) (Cf.rf M)
    · split
      · unfold rfM; exact cf_sI (by omega) (Cf.rf M)
      · split
        · unfold rkM; exact cf_pI (by omega) (Cf.rf M)
        · split
          · exact cf_pI (by decide) (Cf.rf M)
          · exact Cf.rf M
theorem cf_rsL {len n : Nat} : ∀ (d : Nat) (M : Mem) (s : RP), Cf M (rsL len n d M s).1
  | 0, M, s => by rw [rsL.eq_1]; exact Cf.rf M
  | d + 1, M, s => by
    rw [rsL.eq_2]
    split
    · split
      · exact cf_rsR.tr (cf_rsL d _ _)
      · exact cf_rsL d _ _
    · exact Cf.rf M
theorem cf_anL {x : Int32} : ∀ k, k ≤ 6 → Cf M (anL M x k)
  | 0, _ => by rw [anL.eq_1]; exact Cf.rf M
  | k + 1, h => by rw [anL.eq_2]; exact (cf_anL k (by omega)).tr (cf_mxAnew (by omega))
theorem cf_riR {len : Nat} : Cf M (riR M len).1 := by
  unfold riR
  exact (cf_stEmpty (by decide)).tr (cf_rsL _ _ _)
theorem cf_riM {len : Nat} : Cf M (riM M len) := by
  unfold riM
  have h : Cf M (anL (riR M len).1 (nI (riN M len)) 6) := cf_riR.tr (cf_anL 6 (Nat.le_refl _))
  generalize anL (riR M len).1 (nI (riN M len)) 6 = M5 at h ⊢
  exact cf_pI (by decide) (h.tr cf_rdM)
end
end
-- 55.rframe
section
/-! what the reference's calls leave as it was -/
def Rf (M M' : Mem) : Prop := mK M' = mK M ∧ mX M' = mX M ∧ mR M' = mR M ∧ mD M' = mD M ∧ mS M' = mS M ∧ (∀ i, i < 198 → mI M' i = mI M i) ∧ ∀ i, 212 ≤ i → mL M' i = mL M i
section
variable {M M1 M2 : Mem}
theorem Rf.rf (M : Mem) : Rf M M := ⟨rfl, rfl, rfl, rfl, rfl, fun _ _ => rfl, fun _ _ => rfl⟩
theorem Rf.tr (h : Rf M M1) (g : Rf M1 M2) : Rf M M2 := ⟨g.1.trans h.1, g.2.1.trans h.2.1, g.2.2.1.trans h.2.2.1, g.2.2.2.1.trans h.2.2.2.1, g.2.2.2.2.1.trans h.2.2.2.2.1, fun i hi => (g.2.2.2.2.2.1 i hi).trans (h.2.2.2.2.2.1 i hi), fun i hi => (g.2.2.2.2.2.2 i hi).trans (h.2.2.2.2.2.2 i hi)⟩
theorem Rf.S (h : Rf M M1) (hS : Shp M) : Shp M1 := ⟨h.1.trans hS.1, h.2.1.trans hS.2.1, fun i j r q => by rw [h.2.2.1]; exact hS.2.2 i j r q⟩
theorem Rf.I (h : Rf M M1) {i : Nat} (hi : i < 198) : mI M1 i = mI M i := h.2.2.2.2.2.1 i hi
theorem Rf.L (h : Rf M M1) {i : Nat} (hi : 212 ≤ i) : mL M1 i = mL M i := h.2.2.2.2.2.2 i hi
theorem Rf.D (h : Rf M M1) : mD M1 = mD M := h.2.2.2.1
theorem sL_ne9 {i j : Nat} {f : Nat → Int64} (h : j ≠ i) : mL (sL M i f) j = mL M j := fs_ne _ _ h
theorem rf_sI {i : Nat} {f : Nat → Int32} (hi : 198 ≤ i) (h : Rf M M1) : Rf M (sI M1 i f) := h.tr ⟨rfl, rfl, rfl, rfl, rfl, fun j hj => sI_ne (by omega), fun _ _ => rfl⟩
theorem rf_pI {i j : Nat} {x : Int32} (hi : 198 ≤ i) (h : Rf M M1) : Rf M (pI M1 i j x) := rf_sI hi h
theorem rf_sL {i : Nat} {f : Nat → Int64} (hi : i < 212) (h : Rf M M1) : Rf M (sL M1 i f) := h.tr ⟨rfl, rfl, rfl, rfl, rfl, fun _ _ => rfl, fun j hj => sL_ne9 (by omega)⟩
theorem rf_pL {i j : Nat} {x : Int64} (hi : i < 212) (h : Rf M M1) : Rf M (pL M1 i j x) := rf_sL hi h
theorem rf_thr {x : Int32} (h : Rf M M1) : Rf M (thr M1 x) := by
  unfold thr
  exact rf_pI (by decide) h
theorem rf_hdM {x n : Nat} {f : Nat → Int32} (hx : x < 212) (h : Rf M M1) : Rf M (hdM M1 x n f) := by
  unfold hdM
  exact rf_sL hx h
theorem rf_farM {f : Nat → Int32} {n t : Nat} (h : Rf M M1) : Rf M (farM M1 f n t) := by
  unfold farM
  exact rf_sI (by decide) h
theorem rf_gfM {f : Nat → Int32} {n : Nat} (h : Rf M M1) : ∀ k, Rf M (gfM M1 f n k)
  | 0 => h
  | k + 1 => rf_farM h
theorem rf_rbM {n : Nat} {s : ES} (h : Rf M M1) : Rf M (rbM M1 n s) := by
  unfold rbM
  exact rf_sI (by decide) (rf_sI (by decide) (rf_sL (by decide) (rf_sL (by decide) h)))
theorem rf_kepM {c : Nat} (h : Rf M M1) : Rf M (kepM M1 c) := by
  unfold kepM
  exact rf_pI (by decide) (rf_sL (by decide) h)
theorem rf_lkM {s : Nat} {x : Int32} (h : Rf M M1) : Rf M (lkM M1 s x) := by
  unfold lkM
  split
  · exact rf_pL (by decide) (rf_pL (by decide) h)
  · exact h
theorem rf_anM {s : Nat} {x : Int32} (h : Rf M M1) : Rf M (anM M1 s x) := by
  unfold anM
  exact rf_pL (by decide) (rf_lkM h)
theorem rf_lyM {t n : Nat} {f : Nat → Int32} (h : Rf M M1) : Rf M (lyM M1 t n f) := by
  unfold lyM
  exact rf_sL (by decide) h
theorem rf_lsM {t n : Nat} {f : Nat → Int32} (h : Rf M M1) : Rf M (lsM M1 t n f) := by
  unfold lsM
  exact rf_anM (rf_lyM h)
theorem rf_k0M {c : Nat} (h : Rf M M1) : Rf M (k0M M1 c) := by
  unfold k0M
  exact rf_kepM (rf_thr h)
theorem rf_srM {s r : Nat} {v : Int32} (h : Rf M M1) : Rf M (srM M1 s r v) := by
  unfold srM
  exact rf_pL (by decide) h
theorem rf_kpS {s : Nat} {b : Bool} (h : Rf M M1) : Rf M (kpS M1 s b) := by
  unfold kpS
  exact rf_pL (by decide) h
theorem rf_und {c : Nat} (h : Rf M M1) : Rf M (und M1 c) := by
  unfold und
  exact rf_sL (by decide) (rf_pI (by decide) (rf_thr h))
theorem rf_agE {len : Nat} {x : Int64} (h : Rf M M1) : Rf M (agE M1 len x) := by
  unfold agE
  split
  · exact rf_thr h
  · unfold agM
    exact rf_pI (by decide) (rf_sI (by decide) (rf_thr h))
theorem rf_wrtM {n : Nat} {x : Int32} (h : Rf M M1) : Rf M (wrtM M1 n x) := by
  unfold wrtM
  exact rf_sI (by decide) (rf_pI (by decide) (rf_thr h))
theorem rf_saM {q : Nat} (h : Rf M M1) : Rf M (saM M1 q) := by
  unfold saM
  exact rf_pI (by decide) (rf_sL (by decide) (rf_thr h))
theorem rf_reM {q : Nat} (h : Rf M M1) : Rf M (reM M1 q) := by
  unfold reM
  exact rf_pI (by decide) (rf_sL (by decide) (rf_thr h))
theorem rf_rpM1 {n s r : Nat} {f : Nat → Int32} {c : Nat} (h : Rf M M1) : Rf M (rpM1 M1 n s r f c) := by
  unfold rpM1
  exact rf_lkM (rf_hdM (by decide) (rf_hdM (by decide) (rf_k0M h)))
theorem rf_rpM {n s r q : Nat} {f : Nat → Int32} {c : Nat} (h : Rf M M1) : Rf M (rpM M1 n s r q f c) := by
  unfold rpM
  exact rf_hdM (by decide) (rf_srM (rf_rpM1 h))
theorem rf_ctM {a b : Nat} (h : Rf M M1) : Rf M (ctM M1 a b) := by
  unfold ctM
  exact rf_pL (by decide) (rf_pL (by decide) h)
theorem rf_muM {fl : Bool} {f g : Nat → Int32} {n bl : Nat} (h : Rf M M1) : Rf M (muM M1 fl f g n bl) := by
  unfold muM
  exact rf_hdM (by decide) (rf_ctM h)
theorem rf_pdM {n bl t : Nat} {fl : Bool} {f g : Nat → Int32} {c : Nat} (h : Rf M M1) : Rf M (pdM M1 n bl t fl f g c) := by
  unfold pdM
  exact rf_lsM (rf_muM (rf_hdM (by decide) (rf_hdM (by decide) (rf_k0M h))))
theorem rf_pqM {n : Nat} {s : PW} (h : Rf M M1) : Rf M (pqM M1 n s) := by
  unfold pqM
  exact rf_hdM (by decide) (rf_sL (by decide) (rf_pL (by decide) (rf_pL (by decide) h)))
theorem rf_pwZ {n bl t : Nat} {fl : Bool} {f0 : Nat → Int32} {x : Int32} {c : Nat} (h : Rf M M1) : Rf M (pwZ M1 n bl t fl f0 x c) := by
  unfold pwZ
  exact rf_lsM (rf_pqM (rf_hdM (by decide) (rf_k0M h)))
theorem rf_inM {n t : Nat} {f : Nat → Int32} {c : Nat} (h : Rf M M1) : Rf M (inM M1 n t f c) := by
  unfold inM
  exact rf_lsM (rf_kepM (rf_rbM (rf_thr h)))
theorem rf_rcM {n : Nat} {f : Nat → Int32} {k : Nat} (h : Rf M M1) : Rf M (rcM M1 n f k) := by
  unfold rcM
  exact rf_sL (by decide) (rf_hdM (by decide) (rf_hdM (by decide) h))
theorem rf_psM {s : RP} (h : Rf M M1) : Rf M (psM M1 s) := by
  unfold psM
  exact rf_sI (by decide) h
theorem rf_anK {x : Int32} (h : Rf M M1) : ∀ k, Rf M (anK M1 x k)
  | 0 => by rw [anK.eq_1]; exact h
  | k + 1 => by rw [anK.eq_2]; exact rf_anM (rf_anK h k)
theorem rf_lrM {T : Nat → Int32} {len : Nat} (h : Rf M M1) : Rf M (lrM M1 T len) := by
  unfold lrM
  exact rf_psM (rf_sL (by decide) (rf_thr h))
theorem rf_lrD {T : Nat → Int32} {len : Nat} {r : RP} (h : Rf M M1) : Rf M (lrD M1 T len r) := by
  unfold lrD
  exact rf_pI (by decide) (rf_pI (by decide) (rf_pI (by decide) (rf_lrM h)))
theorem rf_lrC {T : Nat → Int32} {len : Nat} {r : RP} (h : Rf M M1) : Rf M (lrC M1 T len r) := by
  unfold lrC
  exact rf_pI (by decide) (rf_sL (by decide) (rf_lrD h))
theorem rf_ldE {T : Nat → Int32} {len : Nat} {r : RP} (h : Rf M M1) : Rf M (ldE M1 T len r) := by
  unfold ldE
  split
  · exact rf_anK (rf_lrC h) 6
  · exact rf_lrD h
end
end
-- 56.sem
section
/-! what a call of both sides comes to -/
def t6 (M : Mem) : Prop := mI M 198 6 = 0
section
variable {M M1 M2 : Mem}
theorem t6_thr : t6 (thr M 0) := by
  unfold t6 thr
  show fun_set (mI M) 198 (fun_set (mI M 198) 6 0) 198 6 = 0
  unfold fun_set
  rw [if_pos rfl, if_pos rfl]
theorem thr_6 {x : Int32} : mI (thr M x) 198 6 = x := by
  unfold thr
  show fun_set (mI M) 198 (fun_set (mI M 198) 6 x) 198 6 = x
  unfold fun_set
  rw [if_pos rfl, if_pos rfl]
theorem t6_hdM {x n : Nat} {f : Nat → Int32} (h : t6 M) : t6 (hdM M x n f) := by
  unfold hdM
  exact h
theorem t6_sL {i : Nat} {f : Nat → Int64} (h : t6 M) : t6 (sL M i f) := h
theorem t6_sI {i : Nat} {f : Nat → Int32} (hi : i ≠ 198) (h : t6 M) : t6 (sI M i f) := (congrFun (sI_ne (Ne.symm hi)) 6).trans h
theorem t6_pI {j : Nat} {x : Int32} (hj : j ≠ 6) (h : t6 M) : t6 (pI M 198 j x) := by
  unfold t6 at h ⊢
  show fun_set (mI M) 198 (fun_set (mI M 198) j x) 198 6 = 0
  unfold fun_set
  rw [if_pos rfl, if_neg (Ne.symm hj)]
  exact h
theorem t6_farM {f : Nat → Int32} {n t : Nat} (h : t6 M) : t6 (farM M f n t) := by
  unfold farM
  exact t6_sI (by decide) h
theorem t6_gfM {f : Nat → Int32} {n : Nat} (h : t6 M) : ∀ k, t6 (gfM M f n k)
  | 0 => h
  | k + 1 => t6_farM h
theorem t6_rbM {n : Nat} {s : ES} (h : t6 M) : t6 (rbM M n s) := by
  unfold rbM
  have h1 : t6 (sI (sL (sL M 205 (wr (mL M 205) (uR s.1) n)) 209 (wr (mL M 209) (uR s.2.1) n)) 210 s.2.2.1) := t6_sI (by decide) h
  exact t6_pI (by decide) h1
theorem t6_kepM {c : Nat} (h : t6 M) : t6 (kepM M c) := by
  unfold kepM
  exact t6_pI (by decide) (t6_sL h)
theorem t6_lkM {s : Nat} {x : Int32} (h : t6 M) : t6 (lkM M s x) := by
  unfold lkM
  split
  · exact h
  · exact h
theorem t6_anM {s : Nat} {x : Int32} (h : t6 M) : t6 (anM M s x) := by
  unfold anM
  exact t6_sL (t6_lkM h)
theorem t6_lyM {t n : Nat} {f : Nat → Int32} (h : t6 M) : t6 (lyM M t n f) := by
  unfold lyM
  exact h
theorem t6_lsM {t n : Nat} {f : Nat → Int32} (h : t6 M) : t6 (lsM M t n f) := by
  unfold lsM
  exact t6_anM (t6_lyM h)
theorem t6_k0M {c : Nat} : t6 (k0M M c) := by
  unfold k0M
  exact t6_kepM t6_thr
theorem t6_srM {s r : Nat} {v : Int32} (h : t6 M) : t6 (srM M s r v) := by
  unfold srM
  exact h
theorem t6_kpS {s : Nat} {b : Bool} (h : t6 M) : t6 (kpS M s b) := by
  unfold kpS
  exact h
theorem t6_wrtM {n : Nat} {x : Int32} : t6 (wrtM M n x) := by
  unfold wrtM
  exact t6_sI (by decide) (t6_pI (by decide) t6_thr)
theorem t6_saM {q : Nat} : t6 (saM M q) := by
  unfold saM
  exact t6_sI (by decide) (t6_sL t6_thr)
theorem t6_reM {q : Nat} : t6 (reM M q) := by
  unfold reM
  exact t6_pI (by decide) (t6_sL t6_thr)
theorem t6_rpM {n s r q : Nat} {f : Nat → Int32} {c : Nat} : t6 (rpM M n s r q f c) := by
  unfold rpM rpM1
  exact t6_hdM (t6_srM (t6_lkM (t6_hdM (t6_hdM t6_k0M))))
theorem t6_muM {fl : Bool} {f g : Nat → Int32} {n bl : Nat} (h : t6 M) : t6 (muM M fl f g n bl) := by
  unfold muM ctM
  exact t6_hdM h
theorem t6_pdM {n bl t : Nat} {fl : Bool} {f g : Nat → Int32} {c : Nat} : t6 (pdM M n bl t fl f g c) := by
  unfold pdM
  exact t6_lsM (t6_muM (t6_hdM (t6_hdM t6_k0M)))
theorem t6_pwZ {n bl t : Nat} {fl : Bool} {f0 : Nat → Int32} {x : Int32} {c : Nat} : t6 (pwZ M n bl t fl f0 x c) := by
  unfold pwZ pqM
  exact t6_lsM (t6_hdM (t6_sL (t6_sL (t6_sL (t6_hdM t6_k0M)))))
theorem t6_inM {n t : Nat} {f : Nat → Int32} {c : Nat} : t6 (inM M n t f c) := by
  unfold inM
  exact t6_lsM (t6_kepM (t6_rbM t6_thr))
theorem t6_rcM {n : Nat} {f : Nat → Int32} {k : Nat} (h : t6 M) : t6 (rcM M n f k) := by
  unfold rcM
  exact t6_sL (t6_hdM (t6_hdM h))
end
section
variable {l : Launch} {M M1 M2 : Mem}
/-- a call by its wrapper and the reference's: an int -/
def SemI (l : Launch) (J J7 : Jm) (F L c n F7 : Nat) (As As7 : List Value) (M : Mem) (P : Mem → Prop) : Prop := ∃ (kk b : Int32) (M1 M2 : Mem), EvR l J F L c n As M (.inl (some (.int kk))) M1 ∧ EvR l J7 F7 160 0 0 As7 M1 (.inl (some (.int b))) M2 ∧ Shp M1 ∧ Shp M2 ∧ mI M2 198 6 = kk ∧ (kk = 0 → mL M2 212 0 = b.toInt64) ∧ P M2
def SemJ (l : Launch) (J J7 : Jm) (F L c n F7 : Nat) (As As7 : List Value) (M : Mem) (P : Mem → Prop) : Prop := ∃ (kk : Int32) (b : Int64) (M1 M2 : Mem), EvR l J F L c n As M (.inl (some (.int kk))) M1 ∧ EvR l J7 F7 160 0 0 As7 M1 (.inl (some (.long b))) M2 ∧ Shp M1 ∧ Shp M2 ∧ mI M2 198 6 = kk ∧ (kk = 0 → mL M2 212 0 = b) ∧ P M2
def SemZ (l : Launch) (J J7 : Jm) (F L c n F7 : Nat) (As As7 : List Value) (M : Mem) (P : Mem → Prop) : Prop := ∃ (kk : Int32) (b : Bool) (M1 M2 : Mem), EvR l J F L c n As M (.inl (some (.int kk))) M1 ∧ EvR l J7 F7 160 0 0 As7 M1 (.inl (some (.int (b1 b)))) M2 ∧ Shp M1 ∧ Shp M2 ∧ mI M2 198 6 = kk ∧ (kk = 0 → mL M2 212 0 = if b then 1 else 0) ∧ P M2
def SemD (l : Launch) (J J7 : Jm) (F L c n F7 : Nat) (As As7 : List Value) (M : Mem) (P : Mem → Prop) : Prop := ∃ (kk : Int32) (b : UInt64) (M1 M2 : Mem), EvR l J F L c n As M (.inl (some (.int kk))) M1 ∧ EvR l J7 F7 160 0 0 As7 M1 (.inl (some (.double b))) M2 ∧ Shp M1 ∧ Shp M2 ∧ mI M2 198 6 = kk ∧ (kk = 0 → mD M2 213 0 = b ∧ Op.cmpValue (FP.dcmp b b) CmpOp.l = 0) ∧ P M2
def SemF (l : Launch) (J J7 : Jm) (F L c n F7 : Nat) (As As7 : List Value) (M : Mem) (P : Mem → Prop) : Prop := ∃ (kk : Int32) (b : UInt32) (M1 M2 : Mem), EvR l J F L c n As M (.inl (some (.int kk))) M1 ∧ EvR l J7 F7 160 0 0 As7 M1 (.inl (some (.float b))) M2 ∧ Shp M1 ∧ Shp M2 ∧ mI M2 198 6 = kk ∧ (kk = 0 → mD M2 213 0 = FP.f2d b ∧ Op.cmpValue (FP.dcmp (FP.f2d b) (FP.f2d b)) CmpOp.l = 0 ∧ vf_n64 (FP.f2d b)) ∧ P M2
/-- a call of both sides, none throws -/
def SemN (l : Launch) (J J7 : Jm) (F L F7 L7 : Nat) (As As7 : List Value) (M : Mem) (P : Mem → Prop) : Prop := ∃ (b : Int32) (M1 M2 : Mem), EvR l J F L 0 0 As M (.inl (some (.int b))) M1 ∧ EvR l J7 F7 L7 0 0 As7 M1 (.inl (some (.int b))) M2 ∧ Shp M1 ∧ Shp M2 ∧ P M2
variable {J J7 : Jm} {F L c n F7 : Nat} {As As7 : List Value} {P : Mem → Prop}
theorem smI_g {v : Int32} {M' : Mem} (hS : Shp M') (h1 : EvR l J F L c n As M (.inl (some (.int 0))) (pL M' 212 0 v.toInt64)) (h2 : EvR l J7 F7 160 0 0 As7 (pL M' 212 0 v.toInt64) (.inl (some (.int v))) M2) (hr : Rf (pL M' 212 0 v.toInt64) M2) (ht : t6 M2) (hP : P M2) : SemI l J J7 F L c n F7 As As7 M P := by
  refine ⟨0, v, _, _, h1, h2, hS, hr.S hS, ht, fun _ => ?_, hP⟩
  rw [hr.L (by decide)]
  show fun_set (mL M') 212 (fun_set (mL M' 212) 0 v.toInt64) 212 0 = _
  unfold fun_set
  rw [if_pos rfl, if_pos rfl]
theorem smI_x {e b : Int32} (hS : Shp M) (he : e ≠ 0) (h1 : EvR l J F L c n As M (.inl (some (.int e))) M) (h2 : EvR l J7 F7 160 0 0 As7 M (.inl (some (.int b))) (thr M e)) (hP : P (thr M e)) : SemI l J J7 F L c n F7 As As7 M P :=
  ⟨e, b, _, _, h1, h2, hS, (rf_thr (Rf.rf M)).S hS, thr_6, fun h => absurd h he, hP⟩
theorem smJ_g {v : Int64} {M' : Mem} (hS : Shp M') (h1 : EvR l J F L c n As M (.inl (some (.int 0))) (pL M' 212 0 v)) (h2 : EvR l J7 F7 160 0 0 As7 (pL M' 212 0 v) (.inl (some (.long v))) M2) (hr : Rf (pL M' 212 0 v) M2) (ht : t6 M2) (hP : P M2) : SemJ l J J7 F L c n F7 As As7 M P := by
  refine ⟨0, v, _, _, h1, h2, hS, hr.S hS, ht, fun _ => ?_, hP⟩
  rw [hr.L (by decide)]
  show fun_set (mL M') 212 (fun_set (mL M' 212) 0 v) 212 0 = _
  unfold fun_set
  rw [if_pos rfl, if_pos rfl]
theorem smJ_x {e : Int32} {b : Int64} (hS : Shp M) (he : e ≠ 0) (h1 : EvR l J F L c n As M (.inl (some (.int e))) M) (h2 : EvR l J7 F7 160 0 0 As7 M (.inl (some (.long b))) (thr M e)) (hP : P (thr M e)) : SemJ l J J7 F L c n F7 As As7 M P :=
  ⟨e, b, _, _, h1, h2, hS, (rf_thr (Rf.rf M)).S hS, thr_6, fun h => absurd h he, hP⟩
theorem smZ_g {v : Bool} {M' : Mem} (hS : Shp M') (h1 : EvR l J F L c n As M (.inl (some (.int 0))) (pL M' 212 0 (if v then 1 else 0))) (h2 : EvR l J7 F7 160 0 0 As7 (pL M' 212 0 (if v then 1 else 0)) (.inl (some (.int (b1 v)))) M2) (hr : Rf (pL M' 212 0 (if v then 1 else 0)) M2) (ht : t6 M2) (hP : P M2) : SemZ l J J7 F L c n F7 As As7 M P := by
  refine ⟨0, v, _, _, h1, h2, hS, hr.S hS, ht, fun _ => ?_, hP⟩
  rw [hr.L (by decide)]
  show fun_set (mL M') 212 (fun_set (mL M' 212) 0 (if v then 1 else 0)) 212 0 = _
  unfold fun_set
  rw [if_pos rfl, if_pos rfl]
theorem smZ_x {e : Int32} {b : Bool} (hS : Shp M) (he : e ≠ 0) (h1 : EvR l J F L c n As M (.inl (some (.int e))) M) (h2 : EvR l J7 F7 160 0 0 As7 M (.inl (some (.int (b1 b)))) (thr M e)) (hP : P (thr M e)) : SemZ l J J7 F L c n F7 As As7 M P :=
  ⟨e, b, _, _, h1, h2, hS, (rf_thr (Rf.rf M)).S hS, thr_6, fun h => absurd h he, hP⟩
theorem smD_g {v : UInt64} {M' : Mem} (hS : Shp M') (hv : Op.cmpValue (FP.dcmp v v) CmpOp.l = 0) (h1 : EvR l J F L c n As M (.inl (some (.int 0))) (sD M' 213 (fun_set (mD M' 213) 0 v))) (h2 : EvR l J7 F7 160 0 0 As7 (sD M' 213 (fun_set (mD M' 213) 0 v)) (.inl (some (.double v))) M2) (hr : Rf (sD M' 213 (fun_set (mD M' 213) 0 v)) M2) (ht : t6 M2) (hP : P M2) : SemD l J J7 F L c n F7 As As7 M P := by
  refine ⟨0, v, _, _, h1, h2, hS, hr.S hS, ht, fun _ => ⟨?_, hv⟩, hP⟩
  rw [hr.D]
  show fun_set (mD M') 213 (fun_set (mD M' 213) 0 v) 213 0 = _
  unfold fun_set
  rw [if_pos rfl, if_pos rfl]
theorem smD_x {e : Int32} {b : UInt64} (hS : Shp M) (he : e ≠ 0) (h1 : EvR l J F L c n As M (.inl (some (.int e))) M) (h2 : EvR l J7 F7 160 0 0 As7 M (.inl (some (.double b))) (thr M e)) (hP : P (thr M e)) : SemD l J J7 F L c n F7 As As7 M P :=
  ⟨e, b, _, _, h1, h2, hS, (rf_thr (Rf.rf M)).S hS, thr_6, fun h => absurd h he, hP⟩
theorem smF_g {v : UInt32} {M' : Mem} (hS : Shp M') (hv : Op.cmpValue (FP.dcmp (FP.f2d v) (FP.f2d v)) CmpOp.l = 0) (hv2 : vf_n64 (FP.f2d v)) (h1 : EvR l J F L c n As M (.inl (some (.int 0))) (sD M' 213 (fun_set (mD M' 213) 0 (FP.f2d v)))) (h2 : EvR l J7 F7 160 0 0 As7 (sD M' 213 (fun_set (mD M' 213) 0 (FP.f2d v))) (.inl (some (.float v))) M2) (hr : Rf (sD M' 213 (fun_set (mD M' 213) 0 (FP.f2d v))) M2) (ht : t6 M2) (hP : P M2) : SemF l J J7 F L c n F7 As As7 M P := by
  refine ⟨0, v, _, _, h1, h2, hS, hr.S hS, ht, fun _ => ⟨?_, hv, hv2⟩, hP⟩
  rw [hr.D]
  show fun_set (mD M') 213 (fun_set (mD M' 213) 0 (FP.f2d v)) 213 0 = _
  unfold fun_set
  rw [if_pos rfl, if_pos rfl]
theorem smF_x {e : Int32} {b : UInt32} (hS : Shp M) (he : e ≠ 0) (h1 : EvR l J F L c n As M (.inl (some (.int e))) M) (h2 : EvR l J7 F7 160 0 0 As7 M (.inl (some (.float b))) (thr M e)) (hP : P (thr M e)) : SemF l J J7 F L c n F7 As As7 M P :=
  ⟨e, b, _, _, h1, h2, hS, (rf_thr (Rf.rf M)).S hS, thr_6, fun h => absurd h he, hP⟩
theorem smI_q {v v' : Int32} {M' : Mem} (hS : Shp M') (h1 : EvR l J F L c n As M (.inl (some (.int 0))) (pL M' 212 0 v.toInt64)) (h2 : EvR l J7 F7 160 0 0 As7 (pL M' 212 0 v.toInt64) (.inl (some (.int v'))) M2) (he : v' = v) (hr : Rf (pL M' 212 0 v.toInt64) M2) (ht : t6 M2) (hP : P M2) : SemI l J J7 F L c n F7 As As7 M P := by
  subst he
  exact smI_g hS h1 h2 hr ht hP
theorem smJ_q {v v' : Int64} {M' : Mem} (hS : Shp M') (h1 : EvR l J F L c n As M (.inl (some (.int 0))) (pL M' 212 0 v)) (h2 : EvR l J7 F7 160 0 0 As7 (pL M' 212 0 v) (.inl (some (.long v'))) M2) (he : v' = v) (hr : Rf (pL M' 212 0 v) M2) (ht : t6 M2) (hP : P M2) : SemJ l J J7 F L c n F7 As As7 M P := by
  subst he
  exact smJ_g hS h1 h2 hr ht hP
theorem smZ_q {v v' : Bool} {M' : Mem} (hS : Shp M') (h1 : EvR l J F L c n As M (.inl (some (.int 0))) (pL M' 212 0 (if v then 1 else 0))) (h2 : EvR l J7 F7 160 0 0 As7 (pL M' 212 0 (if v then 1 else 0)) (.inl (some (.int (b1 v')))) M2) (he : v' = v) (hr : Rf (pL M' 212 0 (if v then 1 else 0)) M2) (ht : t6 M2) (hP : P M2) : SemZ l J J7 F L c n F7 As As7 M P := by
  subst he
  exact smZ_g hS h1 h2 hr ht hP
theorem smD_q {v v' : UInt64} {M' : Mem} (hS : Shp M') (hv : Op.cmpValue (FP.dcmp v v) CmpOp.l = 0) (h1 : EvR l J F L c n As M (.inl (some (.int 0))) (sD M' 213 (fun_set (mD M' 213) 0 v))) (h2 : EvR l J7 F7 160 0 0 As7 (sD M' 213 (fun_set (mD M' 213) 0 v)) (.inl (some (.double v'))) M2) (he : v' = v) (hr : Rf (sD M' 213 (fun_set (mD M' 213) 0 v)) M2) (ht : t6 M2) (hP : P M2) : SemD l J J7 F L c n F7 As As7 M P := by
  subst he
  exact smD_g hS hv h1 h2 hr ht hP
theorem smF_q {v v' : UInt32} {M' : Mem} (hS : Shp M') (hv : Op.cmpValue (FP.dcmp (FP.f2d v) (FP.f2d v)) CmpOp.l = 0) (hv2 : vf_n64 (FP.f2d v)) (h1 : EvR l J F L c n As M (.inl (some (.int 0))) (sD M' 213 (fun_set (mD M' 213) 0 (FP.f2d v)))) (h2 : EvR l J7 F7 160 0 0 As7 (sD M' 213 (fun_set (mD M' 213) 0 (FP.f2d v))) (.inl (some (.float v'))) M2) (he : v' = v) (hr : Rf (sD M' 213 (fun_set (mD M' 213) 0 (FP.f2d v))) M2) (ht : t6 M2) (hP : P M2) : SemF l J J7 F L c n F7 As As7 M P := by
  subst he
  exact smF_g hS hv hv2 h1 h2 hr ht hP
theorem uL_u (x : Int32) : x.toInt64 &&& 4294967295 = uL x := rfl
end
end
-- 57.fpc
section
/-! quotients compared with themselves -/
theorem ord_self {d : FP.Core.Datum} (h : d ≠ .nan) : FP.Core.order d d = some .eq := by
  cases d with
  | nan => exact absurd rfl h
  | inf s => simp [FP.Core.order]
  | fin s c q => simp [FP.Core.order]
theorem dec_nn64 {n : Nat} (h : n ≤ 9218868437227405312) : FP.Core.decode FP.Core.b64 n ≠ .nan := by
  have e1 : FP.Core.Fmt.tails FP.Core.b64 = 4503599627370496 := rfl
  have e2 : FP.Core.Fmt.exps FP.Core.b64 = 2048 := rfl
  unfold FP.Core.decode FP.Core.fieldE FP.Core.fieldT
  rw [e1, e2]
  split
  · rw [if_pos (by omega)]
    exact fun h => by cases h
  · split <;> exact fun h => by cases h
theorem cmp_self64 {v : UInt64} (h : v.toNat ≤ 9218868437227405312) : Op.cmpValue (FP.dcmp v v) CmpOp.l = 0 := by
  unfold FP.dcmp FP.Core.dcmp FP.Core.cmp
  rw [ord_self (dec_nn64 h)]
  rfl
theorem dns_le {f : Nat → Int32} {n : Nat} (h0 : 1 ≤ n) (hn : n ≤ 32) : (FP.ddiv (FP.i2d (onesF f n)) (FP.i2d (nI n * nI n))).toNat ≤ 9218868437227405312 := by
  rw [onesF_n]
  have h := quo64 (d_num (onesN f n) (by have := onesN_le f n; omega)) (d_den n (by omega) (by omega))
  show (UInt64.ofNat (FP.Core.encode FP.Core.b64 (FP.Core.quotient FP.Core.b64 _ _))).toNat ≤ 9218868437227405312
  rw [UInt64.toNat_ofNat']
  exact Nat.le_trans (Nat.mod_le _ _) h
theorem mrc_le {f : Nat → Int32} {n : Nat} (h0 : 1 ≤ n) (hn : n ≤ 32) : (FP.fdiv (FP.i2f (onesF f n)) (FP.i2f (nI n))).toNat ≤ 2139095040 := by
  rw [onesF_n]
  have h := quo32 (f_num (onesN f n) (by have := onesN_le f n; omega)) (f_den n (by omega) (by omega))
  show (UInt32.ofNat (FP.Core.encode FP.Core.b32 (FP.Core.quotient FP.Core.b32 _ _))).toNat ≤ 2139095040
  rw [UInt32.toNat_ofNat']
  exact Nat.le_trans (Nat.mod_le _ _) h
theorem rnd_64 {d : FP.Core.Datum} (h : d = .inf false ∨ ∃ c q, d = .fin false c q) : FP.Core.encode FP.Core.b64 (FP.Core.round FP.Core.b64 d) ≤ 9218868437227405312 := by
  rcases h with rfl | ⟨c, q, rfl⟩
  · decide +kernel
  · show FP.Core.encode _ (FP.Core.roundRatio FP.Core.b64 false c 1 q) ≤ _
    unfold FP.Core.roundRatio
    by_cases hc : c = 0
    · rw [if_pos hc]; decide +kernel
    · rw [if_neg hc]
      exact enc64 _ _ (Int.le_max_left ..)
theorem dec_32 {n : Nat} (h : n ≤ 2139095040) : FP.Core.decode FP.Core.b32 n = .inf false ∨ ∃ c q, FP.Core.decode FP.Core.b32 n = .fin false c q := by
  have e1 : FP.Core.Fmt.tails FP.Core.b32 = 8388608 := rfl
  have e2 : FP.Core.Fmt.exps FP.Core.b32 = 256 := rfl
  have e3 : FP.Core.fieldS FP.Core.b32 n = false := by
    unfold FP.Core.fieldS
    rw [e1, e2]
    have h9 : n / 8388608 / 256 % 2 = 0 := by omega
    rw [h9]
    rfl
  unfold FP.Core.decode
  rw [e3]
  unfold FP.Core.fieldE FP.Core.fieldT
  rw [e1, e2]
  split
  · rw [if_pos (by omega)]
    exact Or.inl rfl
  · split
    · exact Or.inr ⟨_, _, rfl⟩
    · exact Or.inr ⟨_, _, rfl⟩
theorem f2d_le {v : UInt32} (h : v.toNat ≤ 2139095040) : (FP.f2d v).toNat ≤ 9218868437227405312 := by
  have hn : ¬ FP.Core.fIsNaN v = true := by
    unfold FP.Core.fIsNaN FP.Core.isNaN
    rw [decide_eq_true_eq]
    intro q
    rcases dec_32 h with e | ⟨c, q9, e⟩
    · rw [e] at q; cases q
    · rw [e] at q; cases q
  unfold FP.f2d
  rw [if_neg hn]
  show (UInt64.ofNat (FP.Core.encode FP.Core.b64 (FP.Core.round FP.Core.b64 (FP.Core.decode FP.Core.b32 v.toNat)))).toNat ≤ 9218868437227405312
  rw [UInt64.toNat_ofNat']
  exact Nat.le_trans (Nat.mod_le _ _) (rnd_64 (dec_32 h))
theorem n64_le {v : UInt64} (h : v.toNat ≤ 9218868437227405312) : vf_n64 v := by
  unfold vf_n64
  rw [UInt64.le_iff_toNat_le, UInt64.toNat_and]
  exact Nat.le_trans Nat.and_le_left h
end
-- 581.mul
section
/-! products by blocks with tables are products -/
theorem jn_z (f x : Int32) : jn f x 0 = x := by
  unfold jn
  split
  · exact Int32.or_zero
  · exact Int32.xor_zero
theorem jn_as (f x y z : Int32) : jn f (jn f x y) z = jn f x (jn f y z) := by
  unfold jn
  split
  · exact Int32.or_assoc _ _ _
  · exact Int32.xor_assoc _ _ _
/-- what the table holds for a set -/
def tJ (f : Int32) (g : Nat → Int32) (x : Nat) : Nat → Int32
  | 0 => 0
  | c + 1 => jn f (tJ f g x c) (if x.testBit c = true then g c else 0)
theorem tJ_cg {f : Int32} {g : Nat → Int32} {x y : Nat} : ∀ {c : Nat}, (∀ j, j < c → x.testBit j = y.testBit j) → tJ f g x c = tJ f g y c
  | 0, _ => rfl
  | c + 1, h => by
    unfold tJ
    rw [tJ_cg (fun j hj => h j (by omega)), h c (by omega)]
theorem tJ_0 {f : Int32} {g : Nat → Int32} : ∀ c, tJ f g 0 c = 0
  | 0 => rfl
  | c + 1 => by
    unfold tJ
    rw [tJ_0 c, Nat.zero_testBit, if_neg (by decide), jn_z]
theorem ftIn_lo {f : Int32} {tb : Nat → Int32} {v : Int32} {half j : Nat} (hj : j < half) : ∀ s, ftIn f tb v half s j = tb j
  | 0 => rfl
  | s + 1 => by
    unfold ftIn fun_set
    rw [if_neg (by omega), ftIn_lo hj s]
theorem ftIn_hi {f : Int32} {tb : Nat → Int32} {v : Int32} {half j : Nat} : ∀ s, s ≤ half → j < s → ftIn f tb v half s (half + j) = jn f (tb j) v
  | 0, _, h => absurd h (Nat.not_lt_zero _)
  | s + 1, hs, h => by
    unfold ftIn fun_set
    by_cases e : j = s
    · subst e
      rw [if_pos rfl, ftIn_lo (by omega)]
    · rw [if_neg (by omega), ftIn_hi s (by omega) (by omega)]
theorem ft_ok {f : Int32} {tb b : Nat → Int32} {st : Nat} (h0 : tb 0 = 0) : ∀ c x, x < 2 ^ c → ftOut f tb b st c x = tJ f (fun j => b (st + j)) x c
  | 0, x, h => by
    have e : x = 0 := by
      rw [Nat.pow_zero] at h
      omega
    subst e
    exact h0
  | c + 1, x, h => by
    unfold ftOut tJ
    by_cases hx : x < 2 ^ c
    · rw [ftIn_lo hx, ft_ok h0 c x hx, Nat.testBit_lt_two_pow hx, if_neg (by decide), jn_z]
    · obtain ⟨j, rfl⟩ : ∃ j, x = 2 ^ c + j := ⟨x - 2 ^ c, by omega⟩
      have hj : j < 2 ^ c := by
        rw [Nat.pow_succ] at h
        omega
      rw [ftIn_hi _ (Nat.le_refl _) hj, ft_ok h0 c j hj, tJ_cg (x := 2 ^ c + j) (y := j) (fun i hi => Nat.testBit_two_pow_add_gt hi j), Nat.testBit_two_pow_add_eq, Nat.testBit_lt_two_pow hj]
      rfl
theorem ft_0 {f : Int32} {tb b : Nat → Int32} {st : Nat} (h0 : tb 0 = 0) (c : Nat) : ftOut f tb b st c 0 = 0 := by
  rw [ft_ok h0 c 0 (Nat.two_pow_pos c), tJ_0]
theorem hb_nI {m i : Nat} (hi : i < 32) : hb (nI m) i = m.testBit i := by
  show (BitVec.ofNat 32 m).getLsbD i = _
  rw [BitVec.getLsbD_ofNat]
  simp [hi]
theorem hb_us {x : Int32} {c : Nat} (hc : c < 32) (i : Nat) : hb (us x (nI c)) i = hb x (c + i) := by
  unfold hb us
  rw [ush32 x hc, BitVec.getLsbD_ushiftRight]
theorem hb_setI {x : Int32} {st c : Nat} (hst : st < 32) (hc : c ≤ 32) (i : Nat) : hb (setI x st c) i = (hb x (st + i) && decide (i < c)) := by
  unfold setI
  rw [hb_and, hb_us hst, hb_lowM hc]
theorem setN_b {x : Int32} {st c : Nat} (hst : st < 32) (hc : c ≤ 8) {i : Nat} (hi : i < c) : (setN x st c).testBit i = hb x (st + i) := by
  rw [← hb_nI (show i < 32 by omega), ← (setI_n x st hc).1, hb_setI hst (by omega)]
  simp [hi]
theorem setN_lt {x : Int32} {st c : Nat} (hst : st < 32) (hc : c ≤ 8) : setN x st c < 2 ^ c := by
  refine Nat.lt_pow_two_of_testBit _ (fun i hi => ?_)
  by_cases h : i < 32
  · rw [← hb_nI h, ← (setI_n x st hc).1, hb_setI hst (by omega)]
    simp
    omega
  · refine Nat.testBit_lt_two_pow ?_
    have h1 := (setI_n x st hc).2
    have h2 : 2 ^ 8 ≤ 2 ^ i := Nat.pow_le_pow_right (by decide) (by omega)
    omega
theorem setN_0 {x : Int32} {st c : Nat} (hc : c ≤ 8) (h : setI x st c = 0) : setN x st c = 0 := by
  unfold setN
  rw [h]
  rfl
theorem mlI_add {fl : Bool} {g : Nat → Int32} {x : Int32} {st y : Nat} : ∀ c, (∀ j, j < c → y.testBit j = hb x (st + j)) → mlI fl g x (st + c) = jn (b1 fl) (mlI fl g x st) (tJ (b1 fl) (fun j => g (st + j)) y c)
  | 0, _ => by
    rw [Nat.add_zero]
    exact (jn_z _ _).symm
  | c + 1, h => by
    show jn (b1 fl) (mlI fl g x (st + c)) (if hb x (st + c) = true then g (st + c) else 0) = jn (b1 fl) (mlI fl g x st) (jn (b1 fl) (tJ (b1 fl) (fun j => g (st + j)) y c) (if y.testBit c = true then g (st + c) else 0))
    rw [mlI_add c (fun j hj => h j (by omega)), jn_as, h c (by omega)]
theorem te_ok {f : Int32} {tb a g : Nat → Int32} {st c : Nat} : ∀ i r, teG f tb a st c g i r = if r < i then (if setI (a r) st c = 0 then g r else jn f (g r) (tb (setN (a r) st c))) else g r
  | 0, r => by rw [if_neg (Nat.not_lt_zero _)]; rfl
  | i + 1, r => by
    unfold teG
    by_cases e : r = i
    · subst e
      have hlt : r < r + 1 := Nat.lt_succ_self r
      by_cases z : setI (a r) st c = 0
      · rw [if_pos z, if_pos hlt, if_pos z, te_ok r r, if_neg (Nat.lt_irrefl r)]
      · rw [if_neg z, if_pos hlt, if_neg z]
        unfold fun_set
        rw [if_pos rfl, te_ok r r, if_neg (Nat.lt_irrefl r)]
    · have h1 : (if setI (a i) st c = 0 then teG f tb a st c g i else fun_set (teG f tb a st c g i) i (jn f (teG f tb a st c g i i) (tb (setN (a i) st c)))) r = teG f tb a st c g i r := by
        split
        · rfl
        · unfold fun_set
          rw [if_neg e]
      rw [h1, te_ok i r]
      by_cases h2 : r < i
      · rw [if_pos h2, if_pos (show r < i + 1 by omega)]
      · rw [if_neg h2, if_neg (show ¬ r < i + 1 by omega)]
theorem tc_ok {a : Nat → Int32} {st c t : Nat} : ∀ i, teC a st c (nI t) i = nI (tkI a st c t i)
  | 0 => rfl
  | i + 1 => by
    unfold teC tkI
    rw [tc_ok i]
    split
    · rfl
    · exact nI_o1 _
theorem mul_ok {fl : Bool} {n bl : Nat} {a b tb g : Nat → Int32} (h0 : tb 0 = 0) (hb1 : 1 ≤ bl) (hb8 : bl ≤ 8) (hn : n ≤ 32) : ∀ k, k ≤ blocks n bl →
    (mulIt (b1 fl) n bl a b tb g k).1 0 = 0 ∧ (∀ r, r < n → (mulIt (b1 fl) n bl a b tb g k).2.1 r = mlI fl b (a r) (min n (k * bl))) ∧ (mulIt (b1 fl) n bl a b tb g k).2.2.1 = nI (mdN n bl k) ∧ (mulIt (b1 fl) n bl a b tb g k).2.2.2 = nI (tkN a n bl k)
  | 0, _ => by
    refine ⟨h0, fun r hr => ?_, rfl, rfl⟩
    show wr g (fun _ => 0) n r = _
    rw [wr_lt hr, Nat.zero_mul, Nat.min_zero]
    rfl
  | k + 1, hk => by
    obtain ⟨i1, i2, i3, i4⟩ := mul_ok (a := a) (b := b) (g := g) (fl := fl) h0 hb1 hb8 hn k (by omega)
    have hlt : k * bl < n := blocks_lt (by omega) (by omega)
    have hc8 : min bl (n - k * bl) ≤ 8 := by omega
    have hst : k * bl < 32 := by omega
    have e1 : min n ((k + 1) * bl) = k * bl + min bl (n - k * bl) := by
      rw [Nat.succ_mul]
      omega
    have e2 : min n (k * bl) = k * bl := by omega
    unfold mulIt mulStep
    refine ⟨ft_0 i1 _, fun r hr => ?_, ?_, ?_⟩
    · show teG _ _ a _ _ _ n r = _
      rw [te_ok, if_pos hr, i2 r hr, e1, e2, mlI_add (y := setN (a r) (k * bl) (min bl (n - k * bl))) _ (fun j hj => setN_b hst hc8 hj)]
      rw [ft_ok i1 _ _ (setN_lt hst hc8)]
      split
      · rename_i hz
        rw [setN_0 hc8 hz, tJ_0, jn_z]
      · rfl
    · show (mulIt (b1 fl) n bl a b tb g k).2.2.1 + (nI (2 ^ min bl (n - k * bl)) - 1) = _
      rw [i3, nI_m1 (Nat.one_le_two_pow), mdN]
      exact (Int32.ofNat_add _ _).symm
    · show teC a _ _ (mulIt (b1 fl) n bl a b tb g k).2.2.2 n = _
      rw [i4, tc_ok, tkN]
theorem mul_all {fl : Bool} {n bl : Nat} {a b tb g : Nat → Int32} (h0 : tb 0 = 0) (hb1 : 1 ≤ bl) (hb8 : bl ≤ 8) (hn : n ≤ 32) :
    (mulIt (b1 fl) n bl a b tb g (blocks n bl)).1 0 = 0 ∧ (∀ r, r < n → (mulIt (b1 fl) n bl a b tb g (blocks n bl)).2.1 r = mlF fl a b n r) ∧ (mulIt (b1 fl) n bl a b tb g (blocks n bl)).2.2.1 = nI (mdN n bl (blocks n bl)) ∧ (mulIt (b1 fl) n bl a b tb g (blocks n bl)).2.2.2 = nI (tkN a n bl (blocks n bl)) := by
  obtain ⟨i1, i2, i3, i4⟩ := mul_ok (a := a) (b := b) (g := g) (fl := fl) h0 hb1 hb8 hn _ (Nat.le_refl _)
  refine ⟨i1, fun r hr => ?_, i3, i4⟩
  rw [i2 r hr, show min n (blocks n bl * bl) = n by have := (blocks_ge (n := n) (bl := bl) (by omega)).1; omega]
  rfl
end
-- 582.pow
section
/-! powers: both go through the same products -/
theorem mlI_cg {fl : Bool} {g g' : Nat → Int32} {x : Int32} : ∀ n, (∀ c, c < n → g c = g' c) → mlI fl g x n = mlI fl g' x n
  | 0, _ => rfl
  | n + 1, h => by
    unfold mlI
    rw [mlI_cg n (fun c hc => h c (by omega)), h n (by omega)]
theorem mlF_cg {fl : Bool} {f f' g g' : Nat → Int32} {n r : Nat} (hf : f r = f' r) (hg : ∀ c, c < n → g c = g' c) : mlF fl f g n r = mlF fl f' g' n r := by
  unfold mlF
  rw [hf]
  exact mlI_cg n hg
theorem tkI_cg {f f' : Nat → Int32} {st c t : Nat} : ∀ i, (∀ r, r < i → f r = f' r) → tkI f st c t i = tkI f' st c t i
  | 0, _ => rfl
  | i + 1, h => by
    unfold tkI
    rw [tkI_cg i (fun r hr => h r (by omega)), h i (by omega)]
theorem tkN_cg {f f' : Nat → Int32} {n bl : Nat} (h : ∀ r, r < n → f r = f' r) : ∀ k, tkN f n bl k = tkN f' n bl k
  | 0 => rfl
  | k + 1 => by
    unfold tkN
    rw [tkN_cg h k, tkI_cg n h]
def rsC (s : RS) : Nat → Int32 := match s.1 with
  | true => s.2.2.2.1
  | false => s.2.2.1
/-- both powers so far; whether a product was made -/
def pwR (n : Nat) (s : RS) (q : PW) (made : Prop) : Prop := s.2.1 0 = 0 ∧ (∀ r, r < n → rsC s r = q.1 r) ∧ (made → ∃ a b : Nat, s.2.2.2.2.1 = nI a ∧ s.2.2.2.2.2 = nI b ∧ q.2.1 = lN a ∧ q.2.2.1 = lN b)
theorem pwR_mul {fl : Bool} {n bl : Nat} {s : RS} {q : PW} {made : Prop} {base : Option (Nat → Int32)} {g : Nat → Int32} (h : pwR n s q made) (hb1 : 1 ≤ bl) (hb8 : bl ≤ 8) (hn : n ≤ 32) (hg : ∀ r, r < n → (base.getD (rsC s)) r = g r) : pwR n (rsMul (b1 fl) n bl base s) (pwX q.1 g fl n bl q.2.2.2) True := by
  obtain ⟨h0, h1, -⟩ := h
  obtain ⟨F, tb, p, o, m1, m2⟩ := s
  cases F
  · obtain ⟨a1, a2, a3, a4⟩ := mul_all (fl := fl) (a := p) (b := base.getD p) (g := o) h0 hb1 hb8 hn
    refine ⟨a1, fun r hr => (a2 r hr).trans (mlF_cg (h1 r hr) hg), fun _ => ⟨_, _, a3, a4.trans (congrArg nI (tkN_cg h1 _)), rfl, rfl⟩⟩
  · obtain ⟨a1, a2, a3, a4⟩ := mul_all (fl := fl) (a := o) (b := base.getD o) (g := p) h0 hb1 hb8 hn
    refine ⟨a1, fun r hr => (a2 r hr).trans (mlF_cg (h1 r hr) hg), fun _ => ⟨_, _, a3, a4.trans (congrArg nI (tkN_cg h1 _)), rfl, rfl⟩⟩
theorem hb_shr {x : Int32} {b i : Nat} (hb9 : b < 32) (hi : i < 32) : hb (x >>> (nI b &&& 31)) i = if b + i < 32 then hb x (b + i) else x.toBitVec.msb := by
  have e : ((nI b &&& 31).toBitVec.smod 32).toNat = b := (by decide +kernel : ∀ b, b < 32 → ((nI b &&& 31).toBitVec.smod 32).toNat = b) b hb9
  show (x >>> (nI b &&& 31)).toBitVec.getLsbD i = _
  rw [Int32.toBitVec_shiftRight]
  show (BitVec.sshiftRight x.toBitVec ((nI b &&& 31).toBitVec.smod 32).toNat).getLsbD i = _
  rw [e, BitVec.getLsbD_sshiftRight]
  have h9 : ¬ 32 ≤ i := by omega
  simp [h9, hb]
theorem hiB_top {x : Int32} : ∀ k, 1 ≤ hiB x k → hb x (hiB x k - 1) = true
  | 0, h => by
    unfold hiB at h
    omega
  | k + 1, h => by
    unfold hiB at h ⊢
    by_cases q : hb x k = true
    · rw [if_pos q]
      exact q
    · rw [if_neg q] at h ⊢
      exact hiB_top k h
theorem hiB_abv {x : Int32} : ∀ k i, hiB x k ≤ i → i < k → hb x i = false
  | 0, i, _, h => absurd h (Nat.not_lt_zero _)
  | k + 1, i, h1, h2 => by
    unfold hiB at h1
    by_cases q : hb x k = true
    · rw [if_pos q] at h1
      omega
    · rw [if_neg q] at h1
      by_cases e : i = k
      · rw [e]
        exact Bool.eq_false_iff.mpr q
      · exact hiB_abv k i h1 (by omega)
theorem hb_big {m i : Nat} (hm : m ≤ 1000000) (hi : 20 ≤ i) : hb (nI m) i = false := by
  by_cases h : i < 32
  · rw [hb_nI h]
    refine Nat.testBit_lt_two_pow ?_
    have h2 : 2 ^ 20 ≤ 2 ^ i := Nat.pow_le_pow_right (by decide) hi
    omega
  · exact hb_ge (by omega)
theorem shr_0 {m b : Nat} (hm : m ≤ 1000000) (hb9 : b < 32) : nI m >>> (nI b &&& 31) = 0 ↔ ∀ i, b ≤ i → hb (nI m) i = false := by
  have hmsb : (nI m).toBitVec.msb = false := by
    rw [BitVec.msb_eq_getLsbD_last]
    exact hb_big hm (by decide)
  constructor
  · intro h i hi
    by_cases h2 : i < 32
    · have h3 := hb_shr (x := nI m) (i := i - b) hb9 (by omega)
      rw [h, hb_0, if_pos (by omega), show b + (i - b) = i by omega] at h3
      exact h3.symm
    · exact hb_ge (by omega)
  · intro h
    refine hb_ext (fun i hi => ?_)
    rw [hb_shr hb9 hi, hb_0, hmsb]
    split
    · exact h _ (by omega)
    · rfl
theorem pwR_all {fl : Bool} {n bl m : Nat} {base g : Nat → Int32} {s0 : RS} {q0 : PW} (hm : m ≤ 1000000) (h : pwR n s0 q0 False) (hb1 : 1 ≤ bl) (hb8 : bl ≤ 8) (hn : n ≤ 32) (hg : ∀ r, r < n → base r = g r) :
    pwR n (rsIt (b1 fl) n bl base (nI m) s0 20) (pwL g fl n bl (nI m) (hiB (nI m) 21) q0) (0 < m) := by
  have hK : hiB (nI m) 21 ≤ 20 := by
    rcases Nat.lt_or_ge 20 (hiB (nI m) 21) with h1 | h1
    · have h2 := hiB_top (x := nI m) 21 (by omega)
      rw [hb_big hm (by omega)] at h2
      cases h2
    · exact h1
  have habv : ∀ i, hiB (nI m) 21 ≤ i → hb (nI m) i = false := fun i hi => by
    by_cases h2 : i < 21
    · exact hiB_abv 21 i hi h2
    · exact hb_big hm (by omega)
  have st1 : ∀ i, i ≤ 20 - hiB (nI m) 21 → rsIt (b1 fl) n bl base (nI m) s0 i = s0 := by
    intro i
    induction i with
    | zero => intro _; rfl
    | succ i ih =>
      intro hi
      unfold rsIt rsB rsA
      rw [ih (by omega), habv (19 - i) (by omega), if_pos ((shr_0 hm (by omega)).mpr (fun j hj => habv j (by omega))), if_neg (by decide)]
  have st2 : ∀ k, k ≤ hiB (nI m) 21 → ∀ i, i + k = 20 → ∀ (q : PW) (md : Prop), pwR n (rsIt (b1 fl) n bl base (nI m) s0 i) q md → pwR n (rsIt (b1 fl) n bl base (nI m) s0 20) (pwL g fl n bl (nI m) k q) (md ∨ 0 < k) := by
    intro k
    induction k with
    | zero =>
      intro _ i hi q md hq
      have e : i = 20 := by omega
      subst e
      refine ⟨hq.1, hq.2.1, fun h9 => hq.2.2 ?_⟩
      rcases h9 with h9 | h9
      · exact h9
      · exact absurd h9 (Nat.lt_irrefl 0)
    | succ k ih =>
      intro hk i hi q md hq
      have e : 19 - i = k := by omega
      have hne : ¬ nI m >>> (nI k &&& 31) = 0 := fun h9 => by
        have h2 := hiB_top (x := nI m) 21 (by omega)
        rw [(shr_0 hm (by omega)).mp h9 _ (by omega)] at h2
        cases h2
      have h1 : pwR n (rsIt (b1 fl) n bl base (nI m) s0 (i + 1)) (pwB g fl n bl (nI m) k q) True := by
        unfold rsIt rsB rsA pwB
        rw [e, if_neg hne]
        have a1 := pwR_mul (fl := fl) (bl := bl) (base := none) (g := q.1) hq hb1 hb8 hn hq.2.1
        split
        · exact pwR_mul (base := some base) a1 hb1 hb8 hn hg
        · exact a1
      have h2 := ih (by omega) (i + 1) (by omega) _ _ h1
      exact ⟨h2.1, h2.2.1, fun _ => h2.2.2 (Or.inl trivial)⟩
  have h3 := st2 _ (Nat.le_refl _) (20 - hiB (nI m) 21) (by omega) q0 False (by rw [st1 _ (Nat.le_refl _)]; exact h)
  refine ⟨h3.1, h3.2.1, fun h0 => h3.2.2 (Or.inr ?_)⟩
  rcases Nat.eq_zero_or_pos (hiB (nI m) 21) with h4 | h4
  · exfalso
    have h5 : nI m = 0 := hb_ext (fun i hi => by rw [habv i (by omega), hb_0])
    have h7 := congrArg Int32.toNatClampNeg h5
    have h8 : (nI m).toNatClampNeg = m := nI_clamp (by omega)
    rw [h8] at h7
    have h9 : (0 : Int32).toNatClampNeg = 0 := by decide
    omega
  · exact h4
end
-- 583.gen
section
/-! laws of both sides -/
abbrev Am (M : Mem) : Nat → Nat → Int32 := fun s r => mI M (6 + 2 * s) r
theorem wIn_id {g : Nat → Int32} {m : Nat} : ∀ {i : Nat}, (∀ x, x < i → hb (g x) m = true → g x ||| g m = g x) → wIn g m i = g
  | 0, _ => rfl
  | i + 1, h => by
    unfold wIn
    rw [wIn_id (fun x hx => h x (by omega))]
    split
    · rename_i h9
      rw [h i (by omega) h9]
      funext k
      unfold fun_set
      split
      · rename_i e
        rw [e]
      · rfl
    · rfl
theorem wO_id {g : Nat → Int32} {n : Nat} (h : ∀ x m, x < n → m < n → hb (g x) m = true → g x ||| g m = g x) : ∀ {k : Nat}, k ≤ n → wOut g n k = g
  | 0, _ => rfl
  | k + 1, hk => by
    unfold wOut
    rw [wO_id h (k := k) (by omega), wIn_id (fun x hx => h x k hx (by omega))]
theorem sv_cg {s s' : ES} : ∀ {d r : Nat}, (∀ i, r ≤ i → i < r + d → s.2.1 i = s'.2.1 i) → solvB s d r = solvB s' d r
  | 0, _, _ => rfl
  | d + 1, r, h => by
    unfold solvB
    rw [h r (Nat.le_refl r) (by omega), sv_cg (fun i h1 h2 => h i (by omega) (by omega))]
theorem on_cg {f g : Nat → Int32} : ∀ {n : Nat}, (∀ r, r < n → f r = g r) → onesF f n = onesF g n
  | 0, _ => rfl
  | n + 1, h => by
    unfold onesF
    rw [on_cg (fun r hr => h r (by omega)), h n (by omega)]
theorem stV_eq {R : Mem} {r t n : Nat} (ht : t < 6) : stV R r t n = onesF (mI R r) n := by
  unfold stV storeM
  rw [noteM_ne (by omega) (by omega), sI_self]
  exact on_cg (fun i hi => wr_lt hi)
theorem mk_V {R : Mem} {f : Nat → Int32} {t n : Nat} (ht : t < 6) : stV (mkM R f n) 195 t n = onesF f n := by
  rw [stV_eq ht]
  unfold mkM
  rw [sI_self]
  exact on_cg (fun i hi => wr_lt hi)
def cnt (K : Nat → Bool) : Nat → Nat
  | 0 => 0
  | k + 1 => cnt K k + (K k).toNat
theorem kc_ok {M : Mem} {K : Nat → Bool} : ∀ k, (∀ s, s < k → mI M (5 + 2 * s) 1 = b1 (K s)) → keptC M k = cnt K k
  | 0, _ => by rw [keptC.eq_1]; rfl
  | k + 1, h => by
    rw [keptC.eq_2, kc_ok k (fun s hs => h s (by omega)), h k (by omega)]
    show (if b1 (K k) = 0 then cnt K k else cnt K k + 1) = cnt K k + (K k).toNat
    cases K k
    · exact if_pos rfl
    · exact if_neg (by decide)
theorem km_ok {u : Nat → Int64} {K : Nat → Bool} : ∀ k, (∀ s, s < k → u (4 + s) = b1L (K s)) → kmI u k = nI (cnt K k)
  | 0, _ => rfl
  | k + 1, h => by
    show kmI u k + (u (4 + k)).toInt32 = nI (cnt K k + (K k).toNat)
    rw [km_ok k (fun s hs => h s (by omega)), h k (by omega)]
    cases K k
    · exact Int32.add_zero _
    · exact nI_o1 _

theorem thr_I {M : Mem} {x : Int32} {i : Nat} (hi : i ≠ 198) : mI (thr M x) i = mI M i := by
  unfold thr
  exact sI_ne hi
theorem k01_b (b : Bool) : k01 (b1 b) := by
  cases b
  · exact Or.inl rfl
  · exact Or.inr rfl
theorem pI_at9 (M : Mem) (i k : Nat) (x : Int32) : mI (pI M i k x) i k = x := by
  show fun_set (mI M) i (fun_set (mI M i) k x) i k = x
  unfold fun_set
  rw [if_pos rfl, if_pos rfl]
theorem pr_V {R : Mem} {a b t n bl : Nat} {fl : Bool} (ha : a < 6) (hb9 : b < 6) (ht : t < 6) (h0 : mI R 188 0 = 0) (hb1 : 1 ≤ bl) (hb8 : bl ≤ 8) (hn : n ≤ 32) : stV (prM R a b n bl (b1 fl)) 195 t n = onesF (mlF fl (mI R (6 + 2 * a)) (mI R (6 + 2 * b)) n) n := by
  rw [stV_eq ht]
  refine on_cg (fun r hr => ?_)
  have e5 : mI (begMem R (b1 fl)) 187 5 = b1 fl := by
    unfold begMem
    exact pI_at9 _ _ _ _
  obtain ⟨-, h2, -, -⟩ := mul_all (fl := fl) (a := mI R (6 + 2 * a)) (b := mI R (6 + 2 * b)) (g := mI R 195) h0 hb1 hb8 hn
  rw [← h2 r hr]
  unfold prM workM
  rw [show ∀ X : Mem, mI (pI (pI X 3 3 (mI X 187 6)) 3 4 (mI X 187 7)) 195 = mI X 195 from fun X => by rw [sI_ne (by decide), sI_ne (by decide)]]
  unfold mulMem
  rw [sI_ne (by decide), sI_self]
  unfold mulEnd
  rw [e5, begMem_ne (by omega), begMem_ne (by omega), begMem_ne (by decide), begMem_ne (by decide)]
theorem rs_C {M : Mem} {s : RS} : mI (rsMem M s) (rsP s) = rsC s := by
  obtain ⟨F, tb, p, o, m1, m2⟩ := s
  cases F
  · show mI (sI (sI (sI (sI M 188 tb) 189 p) 190 o) 187 (fun_set (fun_set (mI M 187) 6 m1) 7 m2)) 189 = p
    rw [sI_ne (by decide), sI_ne (by decide), sI_self]
  · show mI (sI (sI (sI (sI M 188 tb) 189 p) 190 o) 187 (fun_set (fun_set (mI M 187) 6 m1) 7 m2)) 190 = o
    rw [sI_ne (by decide), sI_self]
theorem pw_V {R M1 : Mem} {s t n bl m : Nat} {fl : Bool} {g : Nat → Int32} (hs : s < 6) (ht : t < 6) (h0 : mI R 188 0 = 0) (hb1 : 1 ≤ bl) (hb8 : bl ≤ 8) (hn : n ≤ 32) (hm : m ≤ 1000000) (hg : ∀ r, r < n → mI R (6 + 2 * s) r = g r) : stV (pwM R s n bl (b1 fl) (nI m)) (rsP (pwE R s n bl (b1 fl) (nI m))) t n = onesF (pqE M1 g fl n bl (nI m)).1 n := by
  rw [stV_eq ht]
  have e5 : mI (begMem R (b1 fl)) 187 5 = b1 fl := by
    unfold begMem
    exact pI_at9 _ _ _ _
  have h1 := pwR_all (fl := fl) (bl := bl) (base := mI R (6 + 2 * s)) (s0 := rs0 (begMem R (b1 fl)) n) (q0 := pwS M1) hm ⟨by
    show mI (begMem R (b1 fl)) 188 0 = 0
    rw [begMem_ne (by decide)]
    exact h0, fun r hr => wr_lt hr, fun h9 => h9.elim⟩ hb1 hb8 hn hg
  have e6 : pwE R s n bl (b1 fl) (nI m) = rsIt (b1 fl) n bl (mI R (6 + 2 * s)) (nI m) (rs0 (begMem R (b1 fl)) n) 20 := by
    unfold pwE raiseEnd
    rw [e5, begMem_ne (by omega)]
  rw [← e6] at h1
  refine on_cg (fun r hr => ?_)
  rw [show (pqE M1 g fl n bl (nI m)).1 r = (pwL g fl n bl (nI m) (hiB (nI m) 21) (pwS M1)).1 r from rfl, ← h1.2.1 r hr, ← rs_C (M := begMem R (b1 fl))]
  have hp := (rs_ids (pwE R s n bl (b1 fl) (nI m))).1
  unfold pwM
  generalize pwE R s n bl (b1 fl) (nI m) = e at *
  have hp3 : rsP e ≠ 3 := by omega
  split
  · unfold workM
    rw [show ∀ X : Mem, mI (pI (pI X 3 3 (mI X 187 6)) 3 4 (mI X 187 7)) (rsP e) = mI X (rsP e) from fun X => by rw [sI_ne hp3, sI_ne hp3]]
  · rfl
theorem kp_b {R : Mem} {s s' n : Nat} {b : Bool} (h0 : mI R (5 + 2 * s') 1 = 0) : mI (mxAnew (pI R (5 + 2 * s) 1 (b1 b)) (5 + 2 * s) (nI n)) (5 + 2 * s') 1 = b1 (if s' = s then b else false) := by
  by_cases e : s' = s
  · subst e
    rw [if_pos rfl]
    have h1 : ∀ (X : Mem) (m : Nat) (x : Int32), mI (mxAnew X m x) m 1 = mI X m 1 := by
      intro X m x
      unfold mxAnew
      split
      · rfl
      · unfold mxLook
        split
        · show fun_set (mI X) m (fun_set (mI X m) 4 _) m 1 = _
          unfold fun_set
          rw [if_pos rfl, if_neg (by decide)]
        · simp [fun_set, mI, sI]
    rw [h1]
    show fun_set (mI R) (5 + 2 * s') (fun_set (mI R (5 + 2 * s')) 1 (b1 b)) (5 + 2 * s') 1 = _
    unfold fun_set
    rw [if_pos rfl, if_pos rfl]
  · rw [if_neg e, mxAnew_ne (by omega), sI_ne (by omega), h0]
    rfl
theorem pL_o9 {M : Mem} {i k j : Nat} {x : Int64} (h : j ≠ k) : mL (pL M i k x) i j = mL M i j := by
  show fun_set (mL M) i (fun_set (mL M i) k x) i j = mL M i j
  unfold fun_set
  rw [if_pos rfl, if_neg h]
theorem kr_b {X : Mem} {s s' : Nat} {b : Bool} {x : Int32} (hs : s < 6) (hs' : s' < 6) (h0 : mL X 199 (4 + s') = 0) : mL (anM (kpS X s b) s x) 199 (4 + s') = b1L (if s' = s then b else false) := by
  have h1 : ∀ (Y : Mem), mL (anM Y s x) 199 (4 + s') = mL Y 199 (4 + s') := by
    intro Y
    unfold anM
    show fun_set (mL (lkM Y s x)) 199 (fun_set (mL (lkM Y s x) 199) (22 + s) _) 199 (4 + s') = _
    unfold fun_set
    rw [if_pos rfl, if_neg (by omega)]
    unfold lkM
    split
    · rw [pL_o9 (by omega), pL_o9 (by omega)]
    · rfl
  rw [h1]
  unfold kpS
  show fun_set (mL X) 199 (fun_set (mL X 199) (4 + s) (b1L b)) 199 (4 + s') = _
  unfold fun_set
  rw [if_pos rfl]
  by_cases e : s' = s
  · subst e
    rw [if_pos rfl, if_pos rfl]
  · rw [if_neg (by omega), if_neg e, h0]
    rfl
theorem ap_n {len : Nat} {T : Nat → Int32} {x : Int64} : ∀ k, len + mrB x k ≤ 600 → (apL len T x k).1 = len + mrB x k
  | 0, _ => rfl
  | k + 1, h => by
    unfold apL
    unfold mrB at h ⊢
    by_cases e : bI x k = 0
    · rw [if_pos e] at h ⊢
      rw [if_pos e]
      exact ap_n k h
    · rw [if_neg e] at h ⊢
      rw [if_neg e, if_pos (by rw [ap_n k (by omega)]; omega)]
      show (apL len T x k).1 + 1 = _
      rw [ap_n k (by omega)]
      omega
theorem ap_V (M : Mem) {len : Nat} {x : Int64} : apV M len x = agV len x := by
  unfold apV agV
  rw [mrB_n]
  split
  · rfl
  · rw [ap_n 8 (by omega)]
end
-- 584.clo
section
/-! closures: what Warshall's rows hold -/
/-- the least relation that holds the edges and goes on -/
def TC (f : Nat → Int32) (n a b : Nat) : Prop := ∀ T : Nat → Nat → Prop, (∀ x y, x < n → y < n → hb (f x) y = true → T x y) → (∀ x y z, T x y → T y z → T x z) → T a b
def wfr (n : Nat) (f : Nat → Int32) : Prop := ∀ r, r < n → ∀ c, n ≤ c → hb (f r) c = false
theorem wfr_lt {n r c : Nat} {f : Nat → Int32} (h : wfr n f) (hr : r < n) (hc : hb (f r) c = true) : c < n := by
  rcases Nat.lt_or_ge c n with h1 | h1
  · exact h1
  · rw [h r hr c h1] at hc
    cases hc
theorem tc_e {f : Nat → Int32} {n a b : Nat} (ha : a < n) (hb9 : b < n) (h : hb (f a) b = true) : TC f n a b := fun T h1 _ => h1 a b ha hb9 h
theorem tc_t {f : Nat → Int32} {n a b c : Nat} (h : TC f n a b) (g : TC f n b c) : TC f n a c := fun T h1 h2 => h2 _ _ _ (h T h1 h2) (g T h1 h2)
theorem tc_lt {f : Nat → Int32} {n a b : Nat} (h : TC f n a b) : a < n ∧ b < n := h (fun x y => x < n ∧ y < n) (fun _ _ hx hy _ => ⟨hx, hy⟩) (fun _ _ _ h1 h2 => ⟨h1.1, h2.2⟩)
theorem tc_m {f g : Nat → Int32} {n a b : Nat} (h : ∀ x y, x < n → y < n → hb (f x) y = true → TC g n x y) (q : TC f n a b) : TC g n a b := q (fun x y => TC g n x y) h (fun _ _ _ h1 h2 => tc_t h1 h2)
theorem wIn_ok {g : Nat → Int32} {m : Nat} : ∀ i r, wIn g m i r = if r < i ∧ hb (g r) m = true then g r ||| g m else g r
  | 0, r => by rw [if_neg (fun h => Nat.not_lt_zero _ h.1)]; rfl
  | i + 1, r => by
    have hm : ∀ x, x = m → wIn g m i x = g x := by
      intro x hx
      rw [wIn_ok i x]
      split
      · rw [hx]
        exact Int32.or_self
      · rfl
    show (if hb (wIn g m i i) m = true then fun_set (wIn g m i) i (wIn g m i i ||| wIn g m i m) else wIn g m i) r = _
    have hi : wIn g m i i = g i := by
      rw [wIn_ok i i, if_neg (fun h => Nat.lt_irrefl _ h.1)]
    rw [hi, hm m rfl]
    by_cases e : r = i
    · subst e
      by_cases h : hb (g r) m = true
      · rw [if_pos h, if_pos ⟨Nat.lt_succ_self r, h⟩]
        unfold fun_set
        rw [if_pos rfl]
      · rw [if_neg h, if_neg (fun q => h q.2), hi]
    · have h1 : (if hb (g i) m = true then fun_set (wIn g m i) i (g i ||| g m) else wIn g m i) r = wIn g m i r := by
        split
        · unfold fun_set
          rw [if_neg e]
        · rfl
      rw [h1, wIn_ok i r]
      by_cases h2 : r < i ∧ hb (g r) m = true
      · rw [if_pos h2, if_pos ⟨Nat.lt_succ_of_lt h2.1, h2.2⟩]
      · rw [if_neg h2, if_neg (fun q => h2 ⟨by omega, q.2⟩)]
/-- a step, by bits -/
theorem wO_b {f : Nat → Int32} {n k a b : Nat} (ha : a < n) : hb (wOut f n (k + 1) a) b = (hb (wOut f n k a) b || (hb (wOut f n k a) k && hb (wOut f n k k) b)) := by
  show hb (wIn (wOut f n k) k n a) b = _
  rw [wIn_ok]
  by_cases h : hb (wOut f n k a) k = true
  · rw [if_pos ⟨ha, h⟩, hb_or, h, Bool.true_and]
  · rw [if_neg (fun q => h q.2), Bool.eq_false_iff.mpr h, Bool.false_and, Bool.or_false]
theorem wO_up {f : Nat → Int32} {n a b : Nat} (ha : a < n) : ∀ k, hb (f a) b = true → hb (wOut f n k a) b = true
  | 0, h => h
  | k + 1, h => by rw [wO_b ha, wO_up ha k h, Bool.true_or]
theorem wO_wf {f : Nat → Int32} {n : Nat} (h : wfr n f) : ∀ k, k ≤ n → wfr n (wOut f n k)
  | 0, _ => h
  | k + 1, hk => fun r hr c hc => by
    rw [wO_b hr, wO_wf h k (by omega) r hr c hc, wO_wf h k (by omega) k (by omega) c hc, Bool.and_false, Bool.or_false]
theorem wO_tc {f : Nat → Int32} {n : Nat} (h : wfr n f) : ∀ k, k ≤ n → ∀ a b, a < n → hb (wOut f n k a) b = true → TC f n a b
  | 0, _, a, b, ha, q => tc_e ha (wfr_lt h ha q) q
  | k + 1, hk, a, b, ha, q => by
    rw [wO_b ha] at q
    cases h1 : hb (wOut f n k a) b
    · rw [h1, Bool.false_or, Bool.and_eq_true] at q
      exact tc_t (wO_tc h k (by omega) a k ha q.1) (wO_tc h k (by omega) k b (by omega) q.2)
    · exact wO_tc h k (by omega) a b ha h1
theorem wO_cl {f : Nat → Int32} {n : Nat} : ∀ k, k ≤ n → ∀ m, m < k → ∀ a b, a < n → hb (wOut f n k a) m = true → hb (wOut f n k m) b = true → hb (wOut f n k a) b = true
  | 0, _, m, hm, _, _, _, _, _ => absurd hm (Nat.not_lt_zero _)
  | k + 1, hk, m, hm, a, b, ha, h1, h2 => by
    have ih := wO_cl (f := f) (n := n) k (by omega)
    rw [wO_b ha] at h1 ⊢
    rw [wO_b (show m < n by omega)] at h2
    by_cases e : m = k
    · subst e
      have h3 : hb (wOut f n m a) m = true := by
        cases h4 : hb (wOut f n m a) m
        · rw [h4] at h1
          cases h1
        · rfl
      have h5 : hb (wOut f n m m) b = true := by
        cases h6 : hb (wOut f n m m) b
        · rw [h6, Bool.and_false] at h2
          cases h2
        · rfl
      rw [h3, h5]
      exact Bool.or_true _
    · have hmk : m < k := by omega
      have hm2 : m < n := by omega
      rw [Bool.or_eq_true, Bool.and_eq_true] at h1 h2 ⊢
      rcases h1 with h1 | ⟨h1, h1'⟩
      · rcases h2 with h2 | ⟨h2, h2'⟩
        · exact Or.inl (ih m hmk a b ha h1 h2)
        · exact Or.inr ⟨ih m hmk a k ha h1 h2, h2'⟩
      · rcases h2 with h2 | ⟨h2, h2'⟩
        · exact Or.inr ⟨h1, ih m hmk k b (by omega) h1' h2⟩
        · exact Or.inr ⟨h1, h2'⟩
/-- Warshall's rows are the closure -/
theorem wO_ok {f : Nat → Int32} {n a b : Nat} (h : wfr n f) (ha : a < n) : hb (wOut f n n a) b = true ↔ TC f n a b := by
  constructor
  · exact wO_tc h n (Nat.le_refl n) a b ha
  · intro q
    have h2 := q (fun x y => x < n ∧ y < n ∧ hb (wOut f n n x) y = true) (fun x y hx hy e => ⟨hx, hy, wO_up hx n e⟩) (fun x y z h1 h2 => ⟨h1.1, h2.2.1, wO_cl n (Nat.le_refl n) y h1.2.1 x z h1.1 h1.2.2 h2.2.2⟩)
    exact h2.2.2
theorem wO_cg {f g : Nat → Int32} {n : Nat} (h : ∀ r, r < n → f r = g r) : ∀ k, k ≤ n → ∀ r, r < n → wOut f n k r = wOut g n k r
  | 0, _, r, hr => h r hr
  | k + 1, hk, r, hr => by
    unfold wOut
    rw [wIn_ok, wIn_ok, wO_cg h k (by omega) r hr, wO_cg h k (by omega) k (by omega)]
/-- two rows of bits below n that hold the same -/
theorem row_eq {f g : Nat → Int32} {n r : Nat} (hf : wfr n f) (hg : wfr n g) (hr : r < n) (h : ∀ b, b < n → (hb (f r) b = true ↔ hb (g r) b = true)) : f r = g r := by
  refine hb_ext (fun i _ => ?_)
  by_cases hi : i < n
  · have := h i hi
    cases h1 : hb (f r) i <;> cases h2 : hb (g r) i
    · rfl
    · exact absurd (this.mpr h2) (by rw [h1]; decide)
    · exact absurd (this.mp h1) (by rw [h2]; decide)
    · rfl
  · rw [hf r hr i (by omega), hg r hr i (by omega)]
end
-- 585.clo
section
/-! closures when an edge comes -/
theorem hb_tn {f : Nat → Int32} {r q x y : Nat} (hq : q < 32) : hb (tnF f r q x) y = if x = r then Bool.xor (hb (f r) y) (decide (y = q)) else hb (f x) y := by
  unfold tnF fun_set
  by_cases e : x = r
  · rw [if_pos e, if_pos e, hb_xor, hb_bitI hq]
  · rw [if_neg e, if_neg e]
theorem tn_wf {f : Nat → Int32} {n r q : Nat} (h : wfr n f) (hr : r < n) (hq : q < n) (hn : n ≤ 32) : wfr n (tnF f r q) := fun x hx c hc => by
  rw [hb_tn (by omega)]
  split
  · rw [h r hr c hc, decide_eq_false (by omega)]
    rfl
  · exact h x hx c hc
theorem tc_add {f : Nat → Int32} {n r q a b : Nat} (hr : r < n) (hq : q < n) (hn : n ≤ 32) (h0 : hb (f r) q = false) (ha : a < n) (hb9 : b < n) :
    TC (tnF f r q) n a b ↔ TC f n a b ∨ ((a = r ∨ TC f n a r) ∧ (q = b ∨ TC f n q b)) := by
  have e1 : ∀ x y, hb (f x) y = true → hb (tnF f r q x) y = true := fun x y h => by
    rw [hb_tn (by omega)]
    by_cases e : x = r
    · rw [if_pos e]
      rw [e] at h
      rw [h]
      by_cases e2 : y = q
      · rw [e2, h0] at h
        cases h
      · rw [decide_eq_false e2]
        rfl
    · rw [if_neg e]
      exact h
  have e2 : TC (tnF f r q) n r q := tc_e hr hq (by
    rw [hb_tn (by omega), if_pos rfl, h0, decide_eq_true rfl]
    rfl)
  have e3 : ∀ x y, TC f n x y → TC (tnF f r q) n x y := fun x y h => tc_m (fun u v hu hv q9 => tc_e hu hv (e1 u v q9)) h
  constructor
  · intro h
    refine h (fun x y => TC f n x y ∨ ((x = r ∨ TC f n x r) ∧ (q = y ∨ TC f n q y))) (fun x y hx hy e => ?_) (fun x y z h1 h2 => ?_)
    · rw [hb_tn (by omega)] at e
      by_cases e9 : x = r
      · rw [if_pos e9] at e
        by_cases e8 : y = q
        · exact Or.inr ⟨Or.inl e9, Or.inl e8.symm⟩
        · rw [decide_eq_false e8, Bool.xor_false] at e
          exact Or.inl (tc_e hx hy (by rw [e9]; exact e))
      · rw [if_neg e9] at e
        exact Or.inl (tc_e hx hy e)
    · rcases h1 with h1 | ⟨h1, h1'⟩
      · rcases h2 with h2 | ⟨h2, h2'⟩
        · exact Or.inl (tc_t h1 h2)
        · refine Or.inr ⟨Or.inr ?_, h2'⟩
          rcases h2 with h2 | h2
          · rw [← h2]
            exact h1
          · exact tc_t h1 h2
      · rcases h2 with h2 | ⟨h2, h2'⟩
        · refine Or.inr ⟨h1, Or.inr ?_⟩
          rcases h1' with h1' | h1'
          · rw [h1']
            exact h2
          · exact tc_t h1' h2
        · exact Or.inr ⟨h1, h2'⟩
  · rintro (h | ⟨h1, h2⟩)
    · exact e3 _ _ h
    · have h3 : TC (tnF f r q) n r b := by
        rcases h2 with h2 | h2
        · rw [← h2]
          exact e2
        · exact tc_t e2 (e3 _ _ h2)
      rcases h1 with h1 | h1
      · rw [h1]
        exact h3
      · exact tc_t (e3 _ _ h1) h3
theorem ext_ok {g : Nat → Int32} {nodes tg : Int32} : ∀ k r, extF g nodes tg k r = if r < k ∧ hb nodes r = true then g r ||| tg else g r
  | 0, r => by rw [if_neg (fun h => Nat.not_lt_zero _ h.1)]; rfl
  | k + 1, r => by
    show (if hb nodes k = true then fun_set (extF g nodes tg k) k (extF g nodes tg k k ||| tg) else extF g nodes tg k) r = _
    have hkk : extF g nodes tg k k = g k := by rw [ext_ok k k, if_neg (fun h : k < k ∧ hb nodes k = true => Nat.lt_irrefl _ h.1)]
    rw [hkk]
    by_cases e : r = k
    · subst e
      by_cases h : hb nodes r = true
      · rw [if_pos h, if_pos ⟨Nat.lt_succ_self r, h⟩]
        unfold fun_set
        rw [if_pos rfl]
      · rw [if_neg h, if_neg (fun q => h q.2), hkk]
    · have h1 : (if hb nodes k = true then fun_set (extF g nodes tg k) k (g k ||| tg) else extF g nodes tg k) r = extF g nodes tg k r := by
        split
        · unfold fun_set
          rw [if_neg e]
        · rfl
      rw [h1, ext_ok k r]
      by_cases h2 : r < k ∧ hb nodes r = true
      · rw [if_pos h2, if_pos ⟨Nat.lt_succ_of_lt h2.1, h2.2⟩]
      · rw [if_neg h2, if_neg (fun q => h2 ⟨by omega, q.2⟩)]
theorem nd_b {g : Nat → Int32} {r n i : Nat} (hr : r < n) (hn : n ≤ 32) (hi : i < n) : hb (nodesTo g r n) i = true ↔ i = r ∨ hb (g i) r = true := by
  unfold nodesTo
  rw [hb_or, hb_colOf n hn, hb_bitI (by omega), decide_eq_true hi, Bool.true_and, Bool.or_eq_true, decide_eq_true_eq]
  exact Or.comm
theorem put_1 {f g : Nat → Int32} {n r q : Nat} (hw : wfr n f) (hg : ∀ i, i < n → g i = wOut f n n i) (hr : r < n) (hq : q < n) (hn : n ≤ 32) (h0 : hb (f r) q = false) {i : Nat} (hi : i < n) :
    extF g (nodesTo g r n) (g q ||| bitI q) n i = wOut (tnF f r q) n n i := by
  have hgw : wfr n g := fun x hx c hc => by
    rw [hg x hx]
    exact wO_wf hw n (Nat.le_refl n) x hx c hc
  have hgb : ∀ x y, x < n → (hb (g x) y = true ↔ TC f n x y) := fun x y hx => by
    rw [hg x hx]
    exact wO_ok hw hx
  refine row_eq (n := n) ?_ (wO_wf (tn_wf hw hr hq hn) n (Nat.le_refl n)) hi (fun b hb9 => ?_)
  · intro x hx c hc
    rw [ext_ok]
    split
    · rw [hb_or, hb_or, hgw x hx c hc, hgw q hq c hc, hb_bitI (by omega), decide_eq_false (by omega)]
      rfl
    · exact hgw x hx c hc
  · rw [wO_ok (tn_wf hw hr hq hn) hi, tc_add hr hq hn h0 hi hb9, ext_ok]
    by_cases h1 : hb (nodesTo g r n) i = true
    · rw [if_pos ⟨hi, h1⟩, hb_or, hb_or, hb_bitI (by omega), Bool.or_eq_true, Bool.or_eq_true, decide_eq_true_eq, hgb i b hi, hgb q b hq]
      have h2 : i = r ∨ TC f n i r := by
        rcases (nd_b hr hn hi).mp h1 with h3 | h3
        · exact Or.inl h3
        · exact Or.inr ((hgb i r hi).mp h3)
      constructor
      · rintro (h | h | h)
        · exact Or.inl h
        · exact Or.inr ⟨h2, Or.inr h⟩
        · exact Or.inr ⟨h2, Or.inl h.symm⟩
      · rintro (h | ⟨-, h | h⟩)
        · exact Or.inl h
        · exact Or.inr (Or.inr h.symm)
        · exact Or.inr (Or.inl h)
    · rw [if_neg (fun q9 => h1 q9.2), hgb i b hi]
      constructor
      · exact Or.inl
      · rintro (h | ⟨h, -⟩)
        · exact h
        · exfalso
          refine h1 ((nd_b hr hn hi).mpr ?_)
          rcases h with h | h
          · exact Or.inl h
          · exact Or.inr ((hgb i r hi).mpr h)
theorem bc_0 : bcJ 0 = 0 := by decide +kernel
theorem gain_1 {g : Nat → Int32} {nodes tg : Int32} : ∀ k, gainF g nodes tg k = dfF (extF g nodes tg k) g k
  | 0 => rfl
  | k + 1 => by
    show (if hb nodes k = true then gainF g nodes tg k + bcJ (tg &&& (g k ^^^ -1)) else gainF g nodes tg k) = dfF (extF g nodes tg (k + 1)) g k + bcJ (extF g nodes tg (k + 1) k ^^^ g k)
    have e1 : dfF (extF g nodes tg (k + 1)) g k = dfF (extF g nodes tg k) g k := by
      have : ∀ j, j ≤ k → dfF (extF g nodes tg (k + 1)) g j = dfF (extF g nodes tg k) g j := by
        intro j
        induction j with
        | zero => intro _; rfl
        | succ j ih =>
          intro hj
          unfold dfF
          rw [ih (by omega), ext_ok, ext_ok]
          by_cases h : hb nodes j = true
          · rw [if_pos ⟨by omega, h⟩, if_pos ⟨by omega, h⟩]
          · rw [if_neg (fun q => h q.2), if_neg (fun q => h q.2)]
      exact this k (Nat.le_refl k)
    rw [e1, ← gain_1 k, ext_ok]
    by_cases h : hb nodes k = true
    · rw [if_pos h, if_pos ⟨Nat.lt_succ_self k, h⟩]
      congr 1
      congr 1
      refine hb_ext (fun i hi => ?_)
      rw [hb_and, hb_xor, hb_xor, hb_or, hb_m1 hi]
      cases hb tg i <;> cases hb (g k) i <;> rfl
    · rw [if_neg h, if_neg (fun q => h q.2), Int32.xor_self, bc_0, Int32.add_zero]
theorem df_cg {f f' g g' : Nat → Int32} : ∀ n, (∀ r, r < n → f r = f' r) → (∀ r, r < n → g r = g' r) → dfF f g n = dfF f' g' n
  | 0, _, _ => rfl
  | n + 1, h, h' => by
    unfold dfF
    rw [df_cg n (fun r hr => h r (by omega)) (fun r hr => h' r (by omega)), h n (by omega), h' n (by omega)]
/-- what comes with an edge -/
theorem gain_ok {f g : Nat → Int32} {n r q : Nat} (hw : wfr n f) (hg : ∀ i, i < n → g i = wOut f n n i) (hr : r < n) (hq : q < n) (hn : n ≤ 32) (h0 : hb (f r) q = false) :
    gainW g (nodesTo g r n) q n = dfF (wOut (tnF f r q) n n) (wOut f n n) n := by
  unfold gainW
  rw [gain_1]
  exact df_cg n (fun i hi => put_1 hw hg hr hq hn h0 hi) hg
end
-- 586.clo
section
/-! closures when an edge goes -/
theorem hb_neq {x y : Int32} (h : x ≠ y) (hs : ∀ c, hb y c = true → hb x c = true) : ∃ c, c < 32 ∧ hb x c = true ∧ hb y c = false := by
  refine Classical.byContradiction fun q => h (hb_ext fun i hi => ?_)
  cases h1 : hb x i
  · cases h2 : hb y i
    · rfl
    · rw [hs i h2] at h1
      cases h1
  · cases h2 : hb y i
    · exact absurd ⟨i, hi, h1, h2⟩ q
    · rfl
theorem pcb_add {K : Nat → Bool} {t n : Nat} (ht : K t = false) (hn : t < n) : pcb (fun i => K i || decide (i = t)) n = pcb K n + 1 := by
  have h1 := pcb_clear (fun i => K i || decide (i = t)) t (by rw [decide_eq_true rfl, Bool.or_true]) n
  rw [if_pos hn] at h1
  rw [← h1]
  congr 1
  refine pcb_congr n (fun i _ => ?_)
  by_cases e : i = t
  · rw [e, decide_eq_true rfl, ht]
    rfl
  · rw [decide_eq_false e, Bool.or_false]
    exact (Bool.and_true _)
theorem pcb_le {K : Nat → Bool} : ∀ n, pcb K n ≤ n
  | 0 => Nat.le_refl 0
  | n + 1 => by
    have := pcb_le (K := K) n
    unfold pcb
    cases K n
    · show pcb K n + 0 ≤ n + 1
      omega
    · show pcb K n + 1 ≤ n + 1
      omega
theorem pcb_all {K : Nat → Bool} : ∀ n, pcb K n = n → ∀ i, i < n → K i = true
  | 0, _, i, hi => absurd hi (Nat.not_lt_zero _)
  | n + 1, h, i, hi => by
    have h1 := pcb_le (K := K) n
    have h2 : pcb K n + (K n).toNat = n + 1 := h
    cases h3 : K n
    · rw [h3] at h2
      have h4 : (false : Bool).toNat = 0 := rfl
      omega
    · rw [h3] at h2
      have h4 : (true : Bool).toNat = 1 := rfl
      by_cases e : i = n
      · rw [e]
        exact h3
      · exact pcb_all n (by omega) i (by omega)
theorem rl_ok {f : Nat → Int32} {n a : Nat} (hw : wfr n f) (hn : n ≤ 32) : ∀ (d : Nat) (fd dn : Int32), (∀ c, n ≤ c → hb fd c = false) → (∀ c, hb dn c = true → hb fd c = true) → (∀ x, x < n → hb dn x = true → ∀ y, hb (f x) y = true → hb fd y = true) → (∀ y, hb fd y = true → TC f n a y) → pcb (hb dn) n + d = n →
    (∀ y, hb (reachL f d fd dn) y = true → TC f n a y) ∧ (∀ y, hb fd y = true → hb (reachL f d fd dn) y = true) ∧ (∀ x, x < n → hb (reachL f d fd dn) x = true → ∀ y, hb (f x) y = true → hb (reachL f d fd dn) y = true)
  | 0, fd, dn, h1, h2, h3, h4, h5 => by
    refine ⟨h4, fun _ h => h, fun x hx hxb y hy => h3 x hx (pcb_all n (by omega) x hx) y hy⟩
  | d + 1, fd, dn, h1, h2, h3, h4, h5 => by
    unfold reachL
    by_cases e : fd = dn
    · rw [if_pos e]
      exact ⟨h4, fun _ h => h, fun x hx hxb y hy => h3 x hx (by rw [← e]; exact hxb) y hy⟩
    · rw [if_neg e]
      obtain ⟨c, hc32, hc1, hc2⟩ := hb_neq e h2
      have hz : fd &&& (dn ^^^ -1) ≠ 0 := hb_ne0 (t := c) (by rw [hb_and, hb_not hc32, hc1, hc2]; rfl)
      obtain ⟨k1, -⟩ := low_ex hz
      generalize lowN (fd &&& (dn ^^^ -1)) = v at *
      have hv32 : v < 32 := by
        rcases Nat.lt_or_ge v 32 with q | q
        · exact q
        · rw [hb_ge q] at k1
          cases k1
      rw [hb_and, hb_not hv32, Bool.and_eq_true] at k1
      have hv1 := k1.1
      have hv2 : hb dn v = false := by
        cases q : hb dn v
        · rfl
        · have := k1.2
          rw [q] at this
          cases this
      have hvn : v < n := by
        rcases Nat.lt_or_ge v n with q | q
        · exact q
        · rw [h1 v q] at hv1
          cases hv1
      obtain ⟨r1, r2, r3⟩ := rl_ok (a := a) hw hn d (fd ||| f v) (dn ||| bitI v) (fun c hc => by rw [hb_or, h1 c hc, hw v hvn c hc]; rfl) (fun c hc => by
          rw [hb_or, Bool.or_eq_true, hb_bitI hv32, decide_eq_true_eq] at hc
          rw [hb_or, Bool.or_eq_true]
          rcases hc with hc | hc
          · exact Or.inl (h2 c hc)
          · rw [hc]
            exact Or.inl hv1) (fun x hx hc y hy => by
          rw [hb_or, Bool.or_eq_true, hb_bitI hv32, decide_eq_true_eq] at hc
          rw [hb_or, Bool.or_eq_true]
          rcases hc with hc | hc
          · exact Or.inl (h3 x hx hc y hy)
          · rw [hc] at hy
            exact Or.inr hy) (fun y hy => by
          rw [hb_or, Bool.or_eq_true] at hy
          rcases hy with hy | hy
          · exact h4 y hy
          · exact tc_t (h4 v hv1) (tc_e hvn (wfr_lt hw hvn hy) hy)) (by
          have q : pcb (hb (dn ||| bitI v)) n = pcb (fun i => hb dn i || decide (i = v)) n := pcb_congr n (fun i _ => by rw [hb_or, hb_bitI hv32])
          rw [q, pcb_add hv2 hvn]
          omega)
      exact ⟨r1, fun y hy => r2 y (by rw [hb_or, hy]; rfl), r3⟩
theorem rc_ok {f : Nat → Int32} {n a : Nat} (hw : wfr n f) (ha : a < n) (hn : n ≤ 32) {b : Nat} : hb (reachL f n (f a) 0) b = true ↔ TC f n a b := by
  have h0 : pcb (hb 0) n = 0 := by
    have : ∀ k, pcb (hb 0) k = 0 := by
      intro k
      induction k with
      | zero => rfl
      | succ k ih =>
        unfold pcb
        rw [ih, hb_0]
        rfl
    exact this n
  obtain ⟨r1, r2, r3⟩ := rl_ok (a := a) hw hn n (f a) 0 (fun c hc => hw a ha c hc) (fun c hc => by rw [hb_0] at hc; cases hc) (fun x _ hc => by rw [hb_0] at hc; cases hc) (fun y hy => tc_e ha (wfr_lt hw ha hy) hy) (by rw [h0]; omega)
  refine ⟨r1 b, fun q => ?_⟩
  exact q (fun x y => (x = a ∨ hb (reachL f n (f a) 0) x = true) → hb (reachL f n (f a) 0) y = true) (fun x y hx _ e h => by
    rcases h with h | h
    · rw [h] at e
      exact r2 y e
    · exact r3 x hx h y e) (fun x y z g1 g2 h => g2 (Or.inr (g1 h))) (Or.inl rfl)
theorem rc_wf {f : Nat → Int32} {n a c : Nat} (hw : wfr n f) (ha : a < n) (hn : n ≤ 32) (hc : n ≤ c) : hb (reachL f n (f a) 0) c = false := by
  cases h : hb (reachL f n (f a) 0) c
  · rfl
  · have := tc_lt ((rc_ok hw ha hn).mp h)
    omega
/-- a row that a search makes is Warshall's -/
theorem rc_wO {f : Nat → Int32} {n a : Nat} (hw : wfr n f) (ha : a < n) (hn : n ≤ 32) : reachL f n (f a) 0 = wOut f n n a := hb_ext (fun i _ => by
  have h1 := rc_ok hw ha hn (b := i)
  have h2 := wO_ok hw ha (b := i)
  cases q1 : hb (reachL f n (f a) 0) i <;> cases q2 : hb (wOut f n n a) i
  · rfl
  · exact absurd (h1.mpr (h2.mp q2)) (by rw [q1]; decide)
  · exact absurd (h2.mpr (h1.mp q1)) (by rw [q2]; decide)
  · rfl)
/-- nodes that do not come to r go on without its edge -/
theorem tc_off {f : Nat → Int32} {n r q a b : Nat} (hr : r < n) (hq : q < n) (hn : n ≤ 32) (h1 : hb (f r) q = true) (hna : ¬ (a = r ∨ TC f n a r)) : TC f n a b ↔ TC (tnF f r q) n a b := by
  have e1 : ∀ x y, hb (tnF f r q x) y = true → hb (f x) y = true := fun x y h => by
    rw [hb_tn (by omega)] at h
    by_cases e : x = r
    · rw [if_pos e] at h
      rw [e]
      by_cases e2 : y = q
      · rw [e2]
        exact h1
      · rw [decide_eq_false e2, Bool.xor_false] at h
        exact h
    · rw [if_neg e] at h
      exact h
  have e3 : ∀ x y, TC (tnF f r q) n x y → TC f n x y := fun x y h => tc_m (fun u v hu hv q9 => tc_e hu hv (e1 u v q9)) h
  constructor
  · intro h
    have h2 := h (fun x y => (x = r ∨ TC f n x r) ∨ TC (tnF f r q) n x y) (fun x y hx hy e => by
      by_cases e9 : x = r
      · exact Or.inl (Or.inl e9)
      · refine Or.inr (tc_e hx hy ?_)
        rw [hb_tn (by omega), if_neg e9]
        exact e) (fun x y z g1 g2 => by
      rcases g1 with g1 | g1
      · exact Or.inl g1
      · rcases g2 with (g2 | g2) | g2
        · rw [← g2]
          exact Or.inl (Or.inr (e3 _ _ g1))
        · exact Or.inl (Or.inr (tc_t (e3 _ _ g1) g2))
        · exact Or.inr (tc_t g1 g2))
    rcases h2 with h2 | h2
    · exact absurd h2 hna
    · exact h2
  · exact e3 a b
theorem mend_ok {g f : Nat → Int32} {nodes : Int32} {n : Nat} : ∀ k r, mendG g f nodes n k r = if r < k ∧ hb nodes r = true then reachL f n (f r) 0 else g r
  | 0, r => by rw [if_neg (fun h => Nat.not_lt_zero _ h.1)]; rfl
  | k + 1, r => by
    show (if hb nodes k = true then fun_set (mendG g f nodes n k) k (reachL f n (f k) 0) else mendG g f nodes n k) r = _
    by_cases e : r = k
    · subst e
      by_cases h : hb nodes r = true
      · rw [if_pos h, if_pos ⟨Nat.lt_succ_self r, h⟩]
        unfold fun_set
        rw [if_pos rfl]
      · rw [if_neg h, if_neg (fun q => h q.2), mend_ok r r, if_neg (fun h : r < r ∧ hb nodes r = true => Nat.lt_irrefl _ h.1)]
    · have h1 : (if hb nodes k = true then fun_set (mendG g f nodes n k) k (reachL f n (f k) 0) else mendG g f nodes n k) r = mendG g f nodes n k r := by
        split
        · unfold fun_set
          rw [if_neg e]
        · rfl
      rw [h1, mend_ok k r]
      by_cases h2 : r < k ∧ hb nodes r = true
      · rw [if_pos h2, if_pos ⟨Nat.lt_succ_of_lt h2.1, h2.2⟩]
      · rw [if_neg h2, if_neg (fun q => h2 ⟨by omega, q.2⟩)]
theorem put_0 {f g : Nat → Int32} {n r q : Nat} (hw : wfr n f) (hg : ∀ i, i < n → g i = wOut f n n i) (hr : r < n) (hq : q < n) (hn : n ≤ 32) (h1 : hb (f r) q = true) {i : Nat} (hi : i < n) :
    mendG g (tnF f r q) (nodesTo g r n) n n i = wOut (tnF f r q) n n i := by
  have hgb : ∀ x y, x < n → (hb (g x) y = true ↔ TC f n x y) := fun x y hx => by
    rw [hg x hx]
    exact wO_ok hw hx
  rw [mend_ok]
  by_cases h : hb (nodesTo g r n) i = true
  · rw [if_pos ⟨hi, h⟩]
    exact rc_wO (tn_wf hw hr hq hn) hi hn
  · rw [if_neg (fun q9 => h q9.2), hg i hi]
    refine row_eq (n := n) (wO_wf hw n (Nat.le_refl n)) (wO_wf (tn_wf hw hr hq hn) n (Nat.le_refl n)) hi (fun b _ => ?_)
    rw [wO_ok hw hi, wO_ok (tn_wf hw hr hq hn) hi]
    refine tc_off hr hq hn h1 (fun q9 => h ((nd_b hr hn hi).mpr ?_))
    rcases q9 with q9 | q9
    · exact Or.inl q9
    · exact Or.inr ((hgb i r hi).mpr q9)
/-- less edges, less closure -/
theorem wO_sub {f : Nat → Int32} {n r q : Nat} (hw : wfr n f) (hr : r < n) (hq : q < n) (hn : n ≤ 32) (h1 : hb (f r) q = true) {i b : Nat} (hi : i < n) (h : hb (wOut (tnF f r q) n n i) b = true) : hb (wOut f n n i) b = true := by
  rw [wO_ok (tn_wf hw hr hq hn) hi] at h
  rw [wO_ok hw hi]
  refine tc_m (fun x y hx hy e => tc_e hx hy ?_) h
  rw [hb_tn (by omega)] at e
  by_cases e9 : x = r
  · rw [if_pos e9] at e
    rw [e9]
    by_cases e2 : y = q
    · rw [e2]
      exact h1
    · rw [decide_eq_false e2, Bool.xor_false] at e
      exact e
  · rw [if_neg e9] at e
    exact e
/-- what goes with an edge -/
theorem loss_F {g f : Nat → Int32} {nodes : Int32} {n : Nat} : ∀ k, mendS g f nodes n k = lossF g f nodes n k
  | 0 => rfl
  | k + 1 => by
    unfold mendS lossF
    rw [loss_F k, mend_ok, if_neg (fun h : k < k ∧ hb nodes k = true => Nat.lt_irrefl _ h.1)]
theorem loss_ok {f g : Nat → Int32} {n r q : Nat} (hw : wfr n f) (hg : ∀ i, i < n → g i = wOut f n n i) (hr : r < n) (hq : q < n) (hn : n ≤ 32) (h1 : hb (f r) q = true) : ∀ k, k ≤ n →
    lossF g (tnF f r q) (nodesTo g r n) n k = dfF (wOut (tnF f r q) n n) (wOut f n n) k
  | 0, _ => rfl
  | k + 1, hk => by
    unfold lossF dfF
    rw [loss_ok hw hg hr hq hn h1 k (by omega)]
    have hk2 : k < n := by omega
    have e0 := put_0 hw hg hr hq hn h1 hk2
    rw [mend_ok] at e0
    by_cases h : hb (nodesTo g r n) k = true
    · rw [if_pos h]
      rw [if_pos ⟨hk2, h⟩] at e0
      rw [e0, hg k hk2]
      congr 1
      congr 1
      refine hb_ext (fun i hi => ?_)
      rw [hb_and, hb_xor, hb_xor, hb_m1 hi]
      have := wO_sub hw hr hq hn h1 hk2 (b := i)
      cases q1 : hb (wOut (tnF f r q) n n k) i <;> cases q2 : hb (wOut f n n k) i <;> first | rfl | exact absurd (this q1) (by rw [q2]; decide)
    · rw [if_neg h]
      rw [if_neg (fun q9 => h q9.2), hg k hk2] at e0
      rw [e0, Int32.xor_self, bc_0, Int32.add_zero]
end
-- 587.clo
section
/-! numbers of nodes; edges that are not needed -/
theorem prR_n {g : Nat → Int32} {r : Nat} : ∀ k, prR g r k = nI (pcb (fun i => decide (i = r) || hb (g i) r) k)
  | 0 => rfl
  | k + 1 => by
    unfold prR pcb
    rw [prR_n k]
    by_cases h : k = r ∨ hb (g k) r = true
    · rw [if_pos h]
      have h2 : (decide (k = r) || hb (g k) r) = true := by
        rw [Bool.or_eq_true, decide_eq_true_eq]
        exact h
      rw [h2]
      exact nI_o1 _
    · rw [if_neg h]
      have h2 : (decide (k = r) || hb (g k) r) = false := by
        rw [Bool.eq_false_iff]
        intro q
        rw [Bool.or_eq_true, decide_eq_true_eq] at q
        exact h q
      rw [h2]
      rfl
theorem nd_n {g : Nat → Int32} {r n : Nat} (hr : r < n) (hn : n ≤ 32) : bcJ (nodesTo g r n) = prR g r n := by
  rw [bcJ_n, prR_n, pcN_b]
  congr 1
  have hz : ∀ i, n ≤ i → hb (nodesTo g r n) i = false := fun i hi => by
    unfold nodesTo
    rw [hb_or, hb_colOf n hn, hb_bitI (by omega), decide_eq_false (by omega), decide_eq_false (by omega)]
    rfl
  rw [pcb_trunc 32 hn hz]
  refine pcb_congr n (fun i hi => ?_)
  have h1 := nd_b (g := g) hr hn hi
  cases q1 : hb (nodesTo g r n) i
  · rw [q1] at h1
    cases q2 : (decide (i = r) || hb (g i) r)
    · rfl
    · rw [Bool.or_eq_true, decide_eq_true_eq] at q2
      exact absurd (h1.mpr q2) (by decide)
  · rw [q1] at h1
    have := h1.mp rfl
    symm
    rw [Bool.or_eq_true, decide_eq_true_eq]
    exact this
theorem prR_cg {g g' : Nat → Int32} {r : Nat} : ∀ n, (∀ i, i < n → g i = g' i) → prR g r n = prR g' r n
  | 0, _ => rfl
  | n + 1, h => by
    unfold prR
    rw [prR_cg n (fun i hi => h i (by omega)), h n (by omega)]
theorem tc_cg {f g : Nat → Int32} {n a b : Nat} (h : ∀ i, i < n → f i = g i) : TC f n a b ↔ TC g n a b :=
  ⟨tc_m (fun x _ hx hy e => tc_e hx hy (by rw [← h x hx]; exact e)), tc_m (fun x _ hx hy e => tc_e hx hy (by rw [h x hx]; exact e))⟩
theorem eqB_ok {f g : Nat → Int32} : ∀ n, eqB f g n = true ↔ ∀ k, k < n → f k = g k
  | 0 => ⟨fun _ k hk => absurd hk (Nat.not_lt_zero _), fun _ => rfl⟩
  | n + 1 => by
    unfold eqB
    rw [Bool.and_eq_true, eqB_ok n, decide_eq_true_eq]
    constructor
    · rintro ⟨h1, h2⟩ k hk
      by_cases e : k = n
      · rw [e]
        exact h2
      · exact h1 k (by omega)
    · intro h
      exact ⟨fun k hk => h k (by omega), h n (by omega)⟩
theorem clr_x {x : Int32} {k : Nat} (hk : k < 32) (h : hb x k = true) : x &&& (bitI k ^^^ -1) = x ^^^ bitI k := hb_ext (fun i hi => by
  rw [hb_and, hb_xor, hb_xor, hb_m1 hi, hb_bitI hk]
  by_cases e : i = k
  · rw [e, h, decide_eq_true rfl]
    rfl
  · rw [decide_eq_false e]
    cases hb x i <;> rfl)
/-- an edge is not needed exactly if its end is reached without it -/
theorem need_ok {f g : Nat → Int32} {n a b : Nat} (hf : wfr n f) (hg : wfr n g) (hT : ∀ x y, TC g n x y ↔ TC f n x y) (ha : a < n) (hb9 : b < n) (hn : n ≤ 32) (h : hb (g a) b = true) :
    eqB (wOut (tnF g a b) n n) (wOut f n n) n = true ↔ TC (tnF g a b) n a b := by
  have e1 : ∀ x y, hb (tnF g a b x) y = true → hb (g x) y = true := fun x y q => by
    rw [hb_tn (by omega)] at q
    by_cases e : x = a
    · rw [if_pos e] at q
      rw [e]
      by_cases e2 : y = b
      · rw [e2]
        exact h
      · rw [decide_eq_false e2, Bool.xor_false] at q
        exact q
    · rw [if_neg e] at q
      exact q
  have hw := tn_wf hg ha hb9 hn
  rw [eqB_ok]
  constructor
  · intro q
    have h1 : TC f n a b := (hT a b).mp (tc_e ha hb9 h)
    rw [← wO_ok hf ha, ← q a ha, wO_ok hw ha] at h1
    exact h1
  · intro q i hi
    refine row_eq (n := n) (wO_wf hw n (Nat.le_refl n)) (wO_wf hf n (Nat.le_refl n)) hi (fun y _ => ?_)
    rw [wO_ok hw hi, wO_ok hf hi, ← hT]
    constructor
    · exact tc_m (fun u v hu hv q9 => tc_e hu hv (e1 u v q9))
    · refine tc_m (fun u v hu hv q9 => ?_)
      by_cases e : u = a ∧ v = b
      · rw [e.1, e.2]
        exact q
      · refine tc_e hu hv ?_
        rw [hb_tn (by omega)]
        by_cases e2 : u = a
        · rw [if_pos e2, ← e2, q9, decide_eq_false (fun e3 => e ⟨e2, e3⟩)]
          rfl
        · rw [if_neg e2]
          exact q9
/-- one edge of both sides' going through -/
theorem dn_1 {f g g' : Nat → Int32} {n a k : Nat} (hf : wfr n f) (hE : ∀ i, i < n → g i = g' i) (hg : wfr n g') (hT : ∀ x y, TC g' n x y ↔ TC f n x y) (ha : a < n) (hk : k < n) (hn : n ≤ 32) :
    (∀ i, i < n → (if hb (g a) k = true then (if hb (reachL (fun_set g a (g a &&& (bitI k ^^^ -1))) n (g a &&& (bitI k ^^^ -1)) 0) k = true then fun_set g a (g a &&& (bitI k ^^^ -1)) else g) else g) i = (if rcB f n a k g' = true then tnF g' a k else g') i) ∧
    wfr n (if rcB f n a k g' = true then tnF g' a k else g') ∧ (∀ x y, TC (if rcB f n a k g' = true then tnF g' a k else g') n x y ↔ TC f n x y) := by
  by_cases h : hb (g' a) k = true
  · have e2 : fun_set g a (g a &&& (bitI k ^^^ -1)) = tnF g a k := by
      unfold tnF
      rw [clr_x (by omega) (by rw [hE a ha]; exact h)]
    have e3 : g a &&& (bitI k ^^^ -1) = tnF g a k a := by
      rw [← e2]
      unfold fun_set
      rw [if_pos rfl]
    have hE2 : ∀ i, i < n → tnF g a k i = tnF g' a k i := fun i hi => by
      unfold tnF fun_set
      rw [hE a ha, hE i hi]
    have hgw : wfr n g := fun x hx c hc => by
      rw [hE x hx]
      exact hg x hx c hc
    have e4 : hb (reachL (tnF g a k) n (tnF g a k a) 0) k = true ↔ eqB (wOut (tnF g' a k) n n) (wOut f n n) n = true := by
      rw [rc_ok (tn_wf hgw ha hk hn) ha hn, need_ok hf hg hT ha hk hn h, tc_cg hE2]
    rw [if_pos (by rw [hE a ha]; exact h), e3, show fun_set g a (tnF g a k a) = tnF g a k by rw [← e3]; exact e2]
    by_cases q : eqB (wOut (tnF g' a k) n n) (wOut f n n) n = true
    · have hr : rcB f n a k g' = true := by
        unfold rcB
        rw [h, q]
        rfl
      rw [if_pos (e4.mpr q), if_pos hr]
      refine ⟨hE2, tn_wf hg ha hk hn, fun x y => ?_⟩
      have h5 := (eqB_ok n).mp q
      have h6 : ∀ x y, x < n → (TC (tnF g' a k) n x y ↔ TC f n x y) := fun x y hx => by
        rw [← wO_ok (tn_wf hg ha hk hn) hx, h5 x hx, wO_ok hf hx]
      constructor
      · intro h7
        exact (h6 x y (tc_lt h7).1).mp h7
      · intro h7
        exact (h6 x y (tc_lt h7).1).mpr h7
    · have hr : ¬ rcB f n a k g' = true := by
        unfold rcB
        rw [h, Bool.true_and]
        exact q
      rw [if_neg (fun q2 => q (e4.mp q2)), if_neg hr]
      exact ⟨hE, hg, hT⟩
  · have hr : ¬ rcB f n a k g' = true := by
      unfold rcB
      rw [Bool.eq_false_iff.mpr h, Bool.false_and]
      exact Bool.false_ne_true
    rw [if_neg (by rw [hE a ha]; exact h), if_neg hr]
    exact ⟨hE, hg, hT⟩
def rcI (f : Nat → Int32) (n : Nat) (g : Nat → Int32) (j : Nat) : Prop := (∀ i, i < n → g i = rcF f n j i) ∧ wfr n (rcF f n j) ∧ ∀ x y, TC (rcF f n j) n x y ↔ TC f n x y
theorem dn_row {f g : Nat → Int32} {n a : Nat} (hf : wfr n f) (ha : a < n) (hn : n ≤ 32) (h : rcI f n g (a * n)) : ∀ k, k ≤ n → rcI f n (dnF g a n k) (a * n + k)
  | 0, _ => h
  | k + 1, hk => by
    obtain ⟨h1, h2, h3⟩ := dn_row hf ha hn h k (by omega)
    have hk2 : k < n := by omega
    have d1 : (a * n + k) / n = a := by
      rw [Nat.mul_comm, Nat.mul_add_div (by omega), Nat.div_eq_of_lt hk2, Nat.add_zero]
    have d2 : (a * n + k) % n = k := by
      rw [Nat.mul_comm, Nat.mul_add_mod, Nat.mod_eq_of_lt hk2]
    have h4 := dn_1 hf h1 h2 h3 ha hk2 hn
    have e : rcF f n (a * n + (k + 1)) = if rcB f n a k (rcF f n (a * n + k)) = true then tnF (rcF f n (a * n + k)) a k else rcF f n (a * n + k) := by
      show rcF f n ((a * n + k) + 1) = _
      rw [rcF, d1, d2]
    unfold rcI
    rw [e]
    exact h4
theorem rd_ok {f g : Nat → Int32} {n : Nat} (hf : wfr n f) (hE : ∀ i, i < n → g i = f i) (hn : n ≤ 32) : ∀ k, k ≤ n → rcI f n (rdG g n k) (k * n)
  | 0, _ => by
    rw [Nat.zero_mul]
    exact ⟨hE, hf, fun _ _ => Iff.rfl⟩
  | k + 1, hk => by
    rw [Nat.succ_mul]
    exact dn_row hf (by omega) hn (rd_ok hf hE hn k (by omega)) n (Nat.le_refl n)
end
-- 588.eli
section
/-! elimination looks at the rows below n alone -/
def esR (P : Prop) (n : Nat) (s t : ES) : Prop := (∀ i, i < n → s.1 i = t.1 i) ∧ (P → ∀ i, i < n → s.2.1 i = t.2.1 i) ∧ (∀ j, j < s.2.2.2 → s.2.2.1 j = t.2.2.1 j) ∧ s.2.2.2 = t.2.2.2 ∧ s.2.2.2 ≤ n
theorem rnt_cg {f g : Nat → Int32} {c : Nat} : ∀ d r, (∀ i, r ≤ i → i < r + d → f i = g i) → rnt f c d r = rnt g c d r
  | 0, _, _ => rfl
  | d + 1, r, h => by
    unfold rnt
    rw [h r (Nat.le_refl r) (by omega), rnt_cg d (r + 1) (fun i h1 h2 => h i (by omega) (by omega))]
theorem rntR_lt {f : Nat → Int32} {c : Nat} : ∀ d r v, rnt f c d r = some v → r ≤ v ∧ v < r + d
  | 0, _, _, h => by cases h
  | d + 1, r, v, h => by
    unfold rnt at h
    split at h
    · cases h
      omega
    · have := rntR_lt d (r + 1) v h
      omega
theorem swp_at {f : Nat → Int32} {a b i : Nat} : swp f a b i = if i = b then f a else if i = a then f b else f i := by
  unfold swp fun_set
  by_cases e : i = b
  · rw [if_pos e]
  · rw [if_neg e]
theorem swp_cg {f g : Nat → Int32} {n a b : Nat} (ha : a < n) (hb9 : b < n) (h : ∀ i, i < n → f i = g i) {i : Nat} (hi : i < n) : swp f a b i = swp g a b i := by
  rw [swp_at, swp_at, h a ha, h b hb9, h i hi]
theorem clGR_ok {t c : Nat} {lf rt : Nat → Int32} : ∀ k i, (clG t c lf rt k).1 i = (if i < k ∧ i ≠ t ∧ hb (lf i) c = true then lf i ^^^ lf t else lf i) ∧ (clG t c lf rt k).2 i = (if i < k ∧ i ≠ t ∧ hb (lf i) c = true then rt i ^^^ rt t else rt i)
  | 0, i => by
    rw [if_neg (fun h => Nat.not_lt_zero _ h.1), if_neg (fun h => Nat.not_lt_zero _ h.1)]
    exact ⟨rfl, rfl⟩
  | k + 1, i => by
    have hk := clGR_ok (t := t) (c := c) (lf := lf) (rt := rt) k k
    rw [if_neg (fun h => Nat.lt_irrefl _ h.1), if_neg (fun h => Nat.lt_irrefl _ h.1)] at hk
    have ht := clGR_ok (t := t) (c := c) (lf := lf) (rt := rt) k t
    rw [if_neg (fun h => h.2.1 rfl), if_neg (fun h => h.2.1 rfl)] at ht
    have hi := clGR_ok (t := t) (c := c) (lf := lf) (rt := rt) k i
    unfold clG
    rw [hk.1, ht.1, hk.2, ht.2]
    by_cases e : i = k
    · subst e
      by_cases q : i ≠ t ∧ hb (lf i) c = true
      · rw [if_pos q, if_pos ⟨Nat.lt_succ_self i, q⟩, if_pos ⟨Nat.lt_succ_self i, q⟩]
        unfold fun_set
        exact ⟨if_pos rfl, if_pos rfl⟩
      · rw [if_neg q, if_neg (fun h => q h.2), if_neg (fun h => q h.2)]
        exact hk
    · have h1 : ∀ x y : Nat → Int32, ∀ v w : Int32, (if k ≠ t ∧ hb (lf k) c = true then (fun_set x k v, fun_set y k w) else (x, y)).1 i = x i ∧ (if k ≠ t ∧ hb (lf k) c = true then (fun_set x k v, fun_set y k w) else (x, y)).2 i = y i := by
        intro x y v w
        split
        · unfold fun_set
          exact ⟨if_neg e, if_neg e⟩
        · exact ⟨rfl, rfl⟩
      have h2 := h1 (clG t c lf rt k).1 (clG t c lf rt k).2 (lf k ^^^ lf t) (rt k ^^^ rt t)
      have e9 : ((clG t c lf rt k).1, (clG t c lf rt k).2) = clG t c lf rt k := rfl
      rw [e9] at h2
      rw [h2.1, h2.2, hi.1, hi.2]
      have h3 : (i < k ∧ i ≠ t ∧ hb (lf i) c = true) ↔ (i < k + 1 ∧ i ≠ t ∧ hb (lf i) c = true) := ⟨fun h => ⟨by omega, h.2⟩, fun h => ⟨by omega, h.2⟩⟩
      constructor
      · by_cases q : i < k ∧ i ≠ t ∧ hb (lf i) c = true
        · rw [if_pos q, if_pos (h3.mp q)]
        · rw [if_neg q, if_neg (fun h => q (h3.mpr h))]
      · by_cases q : i < k ∧ i ≠ t ∧ hb (lf i) c = true
        · rw [if_pos q, if_pos (h3.mp q)]
        · rw [if_neg q, if_neg (fun h => q (h3.mpr h))]
theorem el_step {P : Prop} {n c : Nat} {s t : ES} (h : esR P n s t) : esR P n (elStep n c s) (elStep n c t) := by
  obtain ⟨h1, h2, h3, h4, h5⟩ := h
  have e : rnt s.1 c (n - s.2.2.2) s.2.2.2 = rnt t.1 c (n - t.2.2.2) t.2.2.2 := by
    rw [← h4]
    exact rnt_cg _ _ (fun i _ hi => h1 i (by omega))
  unfold elStep
  rw [← e]
  cases q : rnt s.1 c (n - s.2.2.2) s.2.2.2 with
  | none => exact ⟨h1, h2, h3, h4, h5⟩
  | some r =>
    obtain ⟨r1, r2⟩ := rntR_lt _ _ _ q
    have hr : r < n := by omega
    have hc : s.2.2.2 < n := by omega
    have a1 : ∀ i, i < n → swp s.1 r s.2.2.2 i = swp t.1 r s.2.2.2 i := fun i hi => swp_cg hr hc h1 hi
    have a2 : P → ∀ i, i < n → swp s.2.1 r s.2.2.2 i = swp t.2.1 r s.2.2.2 i := fun q9 i hi => swp_cg hr hc (h2 q9) hi
    dsimp only
    rw [← h4]
    refine ⟨fun i hi => ?_, fun q9 i hi => ?_, fun j hj => ?_, rfl, (show s.2.2.2 + 1 ≤ n from hc)⟩
    · show (clG s.2.2.2 c (swp s.1 r s.2.2.2) (swp s.2.1 r s.2.2.2) n).1 i = (clG s.2.2.2 c (swp t.1 r s.2.2.2) (swp t.2.1 r s.2.2.2) n).1 i
      rw [(clGR_ok n i).1, (clGR_ok n i).1, a1 i hi, a1 _ hc]
    · show (clG s.2.2.2 c (swp s.1 r s.2.2.2) (swp s.2.1 r s.2.2.2) n).2 i = (clG s.2.2.2 c (swp t.1 r s.2.2.2) (swp t.2.1 r s.2.2.2) n).2 i
      rw [(clGR_ok n i).2, (clGR_ok n i).2, a1 i hi, a2 q9 i hi, a2 q9 _ hc]
    · show fun_set s.2.2.1 s.2.2.2 (nI c) j = fun_set t.2.2.1 s.2.2.2 (nI c) j
      unfold fun_set
      have hj2 : j < s.2.2.2 + 1 := hj
      by_cases e9 : j = s.2.2.2
      · rw [if_pos e9, if_pos e9]
      · rw [if_neg e9, if_neg e9]
        exact h3 j (by omega)
theorem el_all {P : Prop} {n : Nat} {s t : ES} (h : esR P n s t) : ∀ k, esR P n (elIt n s k) (elIt n t k)
  | 0 => h
  | k + 1 => el_step (el_all h k)
theorem so_cg {s t : ES} : ∀ k, (∀ j, j < k → s.2.1 j = t.2.1 j ∧ s.2.2.1 j = t.2.2.1 j) → solF s k = solF t k
  | 0, _ => rfl
  | k + 1, h => by
    unfold solF
    rw [so_cg k (fun j hj => h j (by omega)), (h k (by omega)).1, (h k (by omega)).2]
/-- rows of bits below n stay such -/
theorem el_wf {n : Nat} : ∀ (k : Nat) (s : ES), s.2.2.2 ≤ n → wfr n s.2.1 → wfr n (elIt n s k).2.1
  | 0, s, _, h => h
  | k + 1, s, h0, h => by
    have ih := el_wf k s h0 h
    have hc := (el_all (P := True) (n := n) (s := s) (t := s) ⟨fun _ _ => rfl, fun _ _ _ => rfl, fun _ _ => rfl, rfl, h0⟩ k).2.2.2.2
    unfold elIt
    generalize elIt n s k = u at *
    unfold elStep
    cases q : rnt u.1 k (n - u.2.2.2) u.2.2.2 with
    | none => exact ih
    | some r =>
      obtain ⟨r1, r2⟩ := rntR_lt _ _ _ q
      have hr : r < n := by omega
      have hc2 : u.2.2.2 < n := by omega
      have hw : wfr n (swp u.2.1 r u.2.2.2) := fun x hx c hcx => by
        rw [swp_at]
        split
        · exact ih r hr c hcx
        · split
          · exact ih _ hc2 c hcx
          · exact ih x hx c hcx
      intro x hx c hcx
      show hb ((clG u.2.2.2 k (swp u.1 r u.2.2.2) (swp u.2.1 r u.2.2.2) n).2 x) c = false
      rw [(clGR_ok n x).2]
      split
      · rw [hb_xor, hw x hx c hcx, hw _ hc2 c hcx]
        rfl
      · exact hw x hx c hcx
end
-- 5885.lev
section
/-! ways: the class's search from the start beside the reference's measures to the end -/
theorem wy_jr {f : Nat → Int32} {x : Int32} {y : Nat} : ∀ m, hb (jrF f x m) y = true ↔ ∃ i, i < m ∧ hb x i = true ∧ hb (f i) y = true
  | 0 => ⟨fun h => absurd (show hb 0 y = true from h) (by rw [hb_0]; decide), fun ⟨i, h, _⟩ => absurd h (Nat.not_lt_zero _)⟩
  | m + 1 => by
    have ih := wy_jr (f := f) (x := x) (y := y) m
    unfold jrF
    by_cases h : hb x m = true
    · rw [if_pos h, hb_or, Bool.or_eq_true, ih]
      constructor
      · rintro (⟨i, h1, h2, h3⟩ | h1)
        · exact ⟨i, by omega, h2, h3⟩
        · exact ⟨m, Nat.lt_succ_self m, h, h1⟩
      · rintro ⟨i, h1, h2, h3⟩
        by_cases e : i = m
        · rw [e] at h3
          exact Or.inr h3
        · exact Or.inl ⟨i, by omega, h2, h3⟩
    · rw [if_neg h, ih]
      constructor
      · rintro ⟨i, h1, h2, h3⟩
        exact ⟨i, by omega, h2, h3⟩
      · rintro ⟨i, h1, h2, h3⟩
        by_cases e : i = m
        · rw [e] at h2
          exact absurd h2 h
        · exact ⟨i, by omega, h2, h3⟩
theorem wy_0 {f : Nat → Int32} {n y a : Nat} : wkB f n y 0 a = true ↔ a = y := ⟨fun h => of_decide_eq_true (p := a = y) h, fun h => decide_eq_true (p := a = y) h⟩
theorem wy_1 {f : Nat → Int32} {n y a : Nat} (hy : y < n) : hb (f a) y = true ↔ wkB f n y 1 a = true := by
  rw [wkB_s]
  constructor
  · intro h
    exact ⟨y, hy, h, wy_0.mpr rfl⟩
  · rintro ⟨i, i1, i2, i3⟩
    rw [← wy_0.mp i3]
    exact i2
/-- a way, lengthened at its end -/
theorem wy_e {f : Nat → Int32} {n y : Nat} (hy : y < n) : ∀ e a, a < n → (wkB f n y (e + 1) a = true ↔ ∃ j, j < n ∧ wkB f n j e a = true ∧ hb (f j) y = true)
  | 0, a, ha => by
    rw [← wy_1 hy]
    constructor
    · intro h
      exact ⟨a, ha, wy_0.mpr rfl, h⟩
    · rintro ⟨j, h1, h2, h3⟩
      rw [wy_0.mp h2]
      exact h3
  | e + 1, a, ha => by
    rw [wkB_s]
    constructor
    · rintro ⟨i, h1, h2, h3⟩
      obtain ⟨j, j1, j2, j3⟩ := (wy_e hy e i h1).mp h3
      exact ⟨j, j1, wkB_s.mpr ⟨i, h1, h2, j2⟩, j3⟩
    · rintro ⟨j, j1, j2, j3⟩
      obtain ⟨i, h1, h2, h3⟩ := wkB_s.mp j2
      exact ⟨i, h1, h2, (wy_e hy e i h1).mpr ⟨j, j1, h3, j3⟩⟩
/-- what the search finds -/
theorem wy_fe {f : Nat → Int32} {n a b : Nat} (ha : a < n) (hb9 : b < n) : ∀ (d e : Nat) (x : Int32), (∀ y, y < n → (hb x y = true ↔ wkB f n y e a = true)) →
    (feF f b n d e x = -1 ∧ ∀ k, e ≤ k → k < e + d → wkB f n b k a = false) ∨ (∃ k, e ≤ k ∧ k < e + d ∧ feF f b n d e x = nI k ∧ wkB f n b k a = true ∧ ∀ j, e ≤ j → j < k → wkB f n b j a = false)
  | 0, e, x, h2 => Or.inl ⟨rfl, fun k k1 k2 => absurd k2 (by omega)⟩
  | d + 1, e, x, h2 => by
    unfold feF
    by_cases h : hb x b = true
    · rw [if_pos h]
      exact Or.inr ⟨e, Nat.le_refl e, by omega, rfl, (h2 b hb9).mp h, fun j j1 j2 => absurd j2 (by omega)⟩
    · rw [if_neg h]
      have h0 : wkB f n b e a = false := by
        cases q : wkB f n b e a
        · rfl
        · exact absurd ((h2 b hb9).mpr q) h
      have h3 := wy_fe ha hb9 d (e + 1) (jrF f x n) (fun y hy => by
          rw [wy_jr, wy_e hy e a ha]
          constructor
          · rintro ⟨i, i1, i2, i3⟩
            exact ⟨i, i1, (h2 i i1).mp i2, i3⟩
          · rintro ⟨i, i1, i2, i3⟩
            exact ⟨i, i1, (h2 i i1).mpr i2, i3⟩)
      rcases h3 with ⟨r1, r2⟩ | ⟨k, k1, k2, k3, k4, k5⟩
      · refine Or.inl ⟨r1, fun k k1 k2 => ?_⟩
        by_cases e9 : k = e
        · rw [e9]
          exact h0
        · exact r2 k (by omega) (by omega)
      · refine Or.inr ⟨k, by omega, by omega, k3, k4, fun j j1 j2 => ?_⟩
        by_cases e9 : j = e
        · rw [e9]
          exact h0
        · exact k5 j (by omega) j2
/-- places and pigeons -/
theorem wy_ph : ∀ (n m : Nat) (g : Nat → Nat), (∀ i, i < m → g i < n) → (∀ i j, i < m → j < m → g i = g j → i = j) → m ≤ n
  | 0, m, g, h1, _ => by
    rcases Nat.eq_zero_or_pos m with h | h
    · omega
    · have := h1 0 h
      omega
  | n + 1, 0, _, _, _ => Nat.zero_le _
  | n + 1, m + 1, g, h1, h2 => by
    have h3 := wy_ph n m (fun i => if g i = n then g m else g i) (fun i hi => by
      have a1 := h1 i (by omega)
      have a2 := h1 m (Nat.lt_succ_self m)
      show (if g i = n then g m else g i) < n
      by_cases e : g i = n
      · rw [if_pos e]
        have a3 : g m ≠ n := fun q => by
          have := h2 i m (by omega) (by omega) (by rw [e, q])
          omega
        omega
      · rw [if_neg e]
        omega) (fun i j hi hj e => by
      have e : (if g i = n then g m else g i) = (if g j = n then g m else g j) := e
      by_cases e1 : g i = n
      · rw [if_pos e1] at e
        by_cases e2 : g j = n
        · exact h2 i j (by omega) (by omega) (by rw [e1, e2])
        · rw [if_neg e2] at e
          have := h2 m j (by omega) (by omega) e
          omega
      · rw [if_neg e1] at e
        by_cases e2 : g j = n
        · rw [if_pos e2] at e
          have := h2 i m (by omega) (by omega) e
          omega
        · rw [if_neg e2] at e
          exact h2 i j (by omega) (by omega) e)
    omega
/-- at k edges from t, and at no fewer -/
abbrev wyL (f : Nat → Int32) (n t k a : Nat) : Prop := wkB f n t k a = true ∧ ∀ j, j < k → wkB f n t j a = false
theorem wy_t {f : Nat → Int32} {n t k a i : Nat} (h : wyL f n t (k + 1) a) (i1 : i < n) (i2 : hb (f a) i = true) (i3 : wkB f n t k i = true) : wyL f n t k i := ⟨i3, fun j hj => by
  cases q : wkB f n t j i
  · rfl
  · have h3 := h.2 (j + 1) (by omega)
    rw [wkB_s.mpr ⟨i, i1, i2, q⟩] at h3
    cases h3⟩
theorem wy_s {f : Nat → Int32} {n t k a : Nat} (h : wyL f n t (k + 1) a) : ∃ i, i < n ∧ hb (f a) i = true ∧ wyL f n t k i := by
  obtain ⟨i, i1, i2, i3⟩ := wkB_s.mp h.1
  exact ⟨i, i1, i2, wy_t h i1 i2 i3⟩
theorem wy_d {f : Nat → Int32} {n t k : Nat} : ∀ d a, a < n → wyL f n t (k + d) a → ∃ i, i < n ∧ wyL f n t k i
  | 0, a, ha, h => ⟨a, ha, h⟩
  | d + 1, a, ha, h => by
    obtain ⟨i, i1, _, i3⟩ := wy_s (k := k + d) h
    exact wy_d d i i1 i3
theorem wy_u {f : Nat → Int32} {n t j k a : Nat} (h : wyL f n t j a) (g : wyL f n t k a) : j = k := by
  rcases Nat.lt_trichotomy j k with q | q | q
  · have h3 := g.2 j q
    rw [h.1] at h3
    cases h3
  · exact q
  · have h3 := h.2 k q
    rw [g.1] at h3
    cases h3
theorem wy_lt {f : Nat → Int32} {n t k a : Nat} (ha : a < n) (h : wyL f n t k a) : k < n := by
  have h1 : ∀ j, ∃ i, i < n ∧ (j ≤ k → wyL f n t j i) := fun j => by
    by_cases q : j ≤ k
    · obtain ⟨i, i1, i2⟩ := wy_d (k := j) (k - j) a ha (by rw [show j + (k - j) = k by omega]; exact h)
      exact ⟨i, i1, fun _ => i2⟩
    · exact ⟨a, ha, fun q2 => absurd q2 q⟩
  have h2 := wy_ph n (k + 1) (fun j => Classical.choose (h1 j)) (fun j _ => (Classical.choose_spec (h1 j)).1) (fun i j hi hj e => by
    have a1 := (Classical.choose_spec (h1 i)).2 (by omega)
    have a2 := (Classical.choose_spec (h1 j)).2 (by omega)
    have e : Classical.choose (h1 i) = Classical.choose (h1 j) := e
    rw [e] at a1
    exact wy_u a1 a2)
  omega
theorem wy_far {f : Nat → Int32} {n t a e : Nat} (hn : n ≤ 32) (he : e < 2147483648) : farF f n t n a = nI e ↔ e < n ∧ wyL f n t e a := fstI_at (P := fun m => wkB f n t m a) n (by omega) he
theorem wy_no {f : Nat → Int32} {n t a : Nat} (hn : n ≤ 32) : farF f n t n a = -1 ↔ ∀ m, m < n → wkB f n t m a = false := fstI_none (P := fun m => wkB f n t m a) n (by omega)
/-- distance -/
theorem wy_ds {f : Nat → Int32} {n a b : Nat} (ha : a < n) (hb9 : b < n) (hn : n ≤ 32) : dsV f a b n = farF f n b n a := by
  unfold dsV
  by_cases e : a = b
  · rw [if_pos e]
    have h1 : farF f n b n a = nI 0 := (wy_far hn (by omega)).mpr ⟨by omega, wy_0.mpr e, fun j hj => absurd hj (Nat.not_lt_zero _)⟩
    exact h1.symm
  · rw [if_neg e]
    have h0 : wkB f n b 0 a = false := decide_eq_false e
    rcases wy_fe (f := f) ha hb9 n 1 (f a) (fun y hy => wy_1 hy) with ⟨r1, r2⟩ | ⟨k, k1, k2, k3, k4, k5⟩
    · rw [r1]
      refine ((wy_no hn).mpr fun m hm => ?_).symm
      by_cases q : m = 0
      · rw [q]
        exact h0
      · exact r2 m (by omega) (by omega)
    · have hL : wyL f n b k a := ⟨k4, fun j hj => by
        by_cases q : j = 0
        · rw [q]
          exact h0
        · exact k5 j (by omega) hj⟩
      rw [k3]
      exact ((wy_far hn (by omega)).mpr ⟨wy_lt ha hL, hL⟩).symm
/-- around -/
theorem wy_ar {f : Nat → Int32} {n a : Nat} (hn : n ≤ 32) : ∀ m, (arF f n a m = -1 ∧ ∀ k, k < m → hb (f a) k = true → farF f n a n k = -1) ∨ (∃ e, e < n ∧ arF f n a m = nI (e + 1) ∧ (∃ k, k < m ∧ hb (f a) k = true ∧ farF f n a n k = nI e) ∧ ∀ k e', k < m → hb (f a) k = true → e' < n → farF f n a n k = nI e' → e ≤ e')
  | 0 => Or.inl ⟨rfl, fun k hk => absurd hk (Nat.not_lt_zero _)⟩
  | m + 1 => by
    have ih := wy_ar (f := f) (a := a) hn m
    unfold arF
    by_cases h1 : hb (f a) m = true
    · rcases fstI_cases (fun j => wkB f n a j m) n (by omega) with q | ⟨x, x1, q⟩
      · have q : farF f n a n m = -1 := q
        rw [if_neg (fun h => h.2.1 q)]
        rcases ih with ⟨i1, i2⟩ | ⟨e, i1, i2, ⟨k, i3, i5⟩, i4⟩
        · refine Or.inl ⟨i1, fun k hk h => ?_⟩
          by_cases e : k = m
          · rw [e]
            exact q
          · exact i2 k (by omega) h
        · refine Or.inr ⟨e, i1, i2, ⟨k, by omega, i5⟩, fun k e' hk h he' h' => ?_⟩
          by_cases e9 : k = m
          · rw [e9, q] at h'
            exact absurd h'.symm (nI_m1' (by omega))
          · exact i4 k e' (by omega) h he' h'
      · have q : farF f n a n m = nI x := q
        have q1 : farF f n a n m ≠ -1 := fun z => nI_m1' (k := x) (by omega) (q.symm.trans z)
        rcases ih with ⟨i1, i2⟩ | ⟨e, i1, i2, ⟨k, i3, i5⟩, i4⟩
        · rw [if_pos ⟨h1, q1, Or.inl i1⟩]
          refine Or.inr ⟨x, x1, by rw [q]; exact nI_1 x, ⟨m, Nat.lt_succ_self m, h1, q⟩, fun k e' hk h he' h' => ?_⟩
          by_cases e9 : k = m
          · rw [e9, q] at h'
            have := (nI_eq (by omega) (by omega)).mp h'
            omega
          · rw [i2 k (by omega) h] at h'
            exact absurd h'.symm (nI_m1' (by omega))
        · by_cases h2 : x < e
          · rw [if_pos ⟨h1, q1, Or.inr (by rw [q, i2, nI_1]; exact (nI_ltI (by omega) (by omega)).mpr (by omega))⟩]
            refine Or.inr ⟨x, x1, by rw [q]; exact nI_1 x, ⟨m, Nat.lt_succ_self m, h1, q⟩, fun k e' hk h he' h' => ?_⟩
            by_cases e9 : k = m
            · rw [e9, q] at h'
              have := (nI_eq (by omega) (by omega)).mp h'
              omega
            · have := i4 k e' (by omega) h he' h'
              omega
          · rw [if_neg (fun h => by
              rcases h.2.2 with z | z
              · rw [i2] at z
                exact nI_m1' (by omega) z
              · rw [q, i2, nI_1] at z
                have := (nI_ltI (by omega) (by omega)).mp z
                omega)]
            refine Or.inr ⟨e, i1, i2, ⟨k, by omega, i5⟩, fun k e' hk h he' h' => ?_⟩
            by_cases e9 : k = m
            · rw [e9, q] at h'
              have := (nI_eq (by omega) (by omega)).mp h'
              omega
            · exact i4 k e' (by omega) h he' h'
    · rw [if_neg (fun h => h1 h.1)]
      rcases ih with ⟨i1, i2⟩ | ⟨e, i1, i2, ⟨k, i3, i5⟩, i4⟩
      · refine Or.inl ⟨i1, fun k hk h => ?_⟩
        by_cases e : k = m
        · rw [e] at h
          exact absurd h h1
        · exact i2 k (by omega) h
      · refine Or.inr ⟨e, i1, i2, ⟨k, by omega, i5⟩, fun k e' hk h he' h' => ?_⟩
        by_cases e9 : k = m
        · rw [e9] at h
          exact absurd h h1
        · exact i4 k e' (by omega) h he' h'
theorem wy_af {f : Nat → Int32} {n a : Nat} (ha : a < n) (hn : n ≤ 32) : feF f a n n 1 (f a) = arF f n a n := by
  rcases wy_fe (f := f) ha ha n 1 (f a) (fun y hy => wy_1 hy) with ⟨r1, r2⟩ | ⟨k, k1, k2, k3, k4, k5⟩
  · rw [r1]
    rcases wy_ar (f := f) (a := a) hn n with ⟨i1, i2⟩ | ⟨e, i1, i2, ⟨k, i3, i5, i6⟩, i4⟩
    · exact i1.symm
    · have h1 := ((wy_far hn (by omega)).mp i6).2.1
      have h2 := r2 (e + 1) (by omega) (by omega)
      rw [wkB_s.mpr ⟨k, i3, i5, h1⟩] at h2
      cases h2
  · rw [k3]
    obtain ⟨d, rfl⟩ : ∃ d, k = d + 1 := ⟨k - 1, by omega⟩
    obtain ⟨i, j1, j2, j3⟩ := wkB_s.mp k4
    have h0 : ∃ x, x < n ∧ x ≤ d ∧ farF f n a n i = nI x := by
      rcases fstI_cases (fun j => wkB f n a j i) n (by omega) with q | ⟨x, x1, q⟩
      · have h2 := (wy_no (f := f) (t := a) (a := i) hn).mp q d (by omega)
        rw [j3] at h2
        cases h2
      · refine ⟨x, x1, ?_, q⟩
        have h2 := ((wy_far (f := f) (t := a) (a := i) (e := x) hn (by omega)).mp q).2
        rcases Nat.lt_or_ge d x with z | z
        · have h3 := h2.2 d z
          rw [j3] at h3
          cases h3
        · exact z
    obtain ⟨x, x1, x2, x3⟩ := h0
    rcases wy_ar (f := f) (a := a) hn n with ⟨i1, i2⟩ | ⟨e, i1, i2, ⟨k, i3, i5, i6⟩, i4⟩
    · have h2 := i2 i j1 j2
      rw [x3] at h2
      exact absurd h2 (nI_m1' (by omega))
    · rw [i2]
      have h1 := ((wy_far hn (by omega)).mp i6).2.1
      have h2 := i4 i x j1 j2 x1 x3
      have h3 : e = d := by
        rcases Nat.lt_or_ge e d with z | z
        · have h4 := k5 (e + 1) (by omega) (by omega)
          rw [wkB_s.mpr ⟨k, i3, i5, h1⟩] at h4
          cases h4
        · omega
      rw [h3]
/-- girth -/
theorem wy_gi {f : Nat → Int32} {n : Nat} (hn : n ≤ 32) : ∀ k, k ≤ n → giV f n k = grF f n k
  | 0, _ => rfl
  | k + 1, hk => by
    unfold giV grF
    rw [wy_gi hn k (by omega), wy_af (by omega) hn]
/-- levels -/
theorem wy_ri {f : Nat → Int32} {x : Int32} {y : Nat} : ∀ m, m ≤ 32 → (hb (rwlI f x m) y = true ↔ y < m ∧ f y &&& x ≠ 0)
  | 0, _ => ⟨fun h => absurd (show hb 0 y = true from h) (by rw [hb_0]; decide), fun h => absurd h.1 (Nat.not_lt_zero _)⟩
  | m + 1, hm => by
    have ih := wy_ri (f := f) (x := x) (y := y) m (by omega)
    unfold rwlI
    by_cases h : f m &&& x = 0
    · rw [if_pos h, ih]
      constructor
      · rintro ⟨h1, h2⟩
        exact ⟨by omega, h2⟩
      · rintro ⟨h1, h2⟩
        by_cases e : y = m
        · rw [e] at h2
          exact absurd h h2
        · exact ⟨by omega, h2⟩
    · rw [if_neg h, hb_or, Bool.or_eq_true, hb_bitI (by omega), decide_eq_true_eq, ih]
      constructor
      · rintro (⟨h1, h2⟩ | h1)
        · exact ⟨by omega, h2⟩
        · rw [h1]
          exact ⟨Nat.lt_succ_self m, h⟩
      · rintro ⟨h1, h2⟩
        by_cases e : y = m
        · exact Or.inr e
        · exact Or.inl ⟨by omega, h2⟩
theorem wy_rf {f : Nat → Int32} {n b : Nat} (hb9 : b < n) (hn : n ≤ 32) : ∀ k y, hb (rwlF f b n k) y = true ↔ y < n ∧ wkB f n b k y = true
  | 0, y => by
    show hb (bitI b) y = true ↔ _
    rw [hb_bitI (by omega), decide_eq_true_eq, wy_0]
    constructor
    · intro h
      exact ⟨by omega, h⟩
    · exact fun h => h.2
  | k + 1, y => by
    show hb (rwlI f (rwlF f b n k) n) y = true ↔ _
    rw [wy_ri n hn, wkB_s]
    constructor
    · rintro ⟨h1, h2⟩
      have h3 := (low_ex h2).1
      generalize lowN (f y &&& rwlF f b n k) = c at h3
      rw [hb_and, Bool.and_eq_true, wy_rf hb9 hn k c] at h3
      exact ⟨h1, c, h3.2.1, h3.1, h3.2.2⟩
    · rintro ⟨h1, c, h2, h3, h4⟩
      exact ⟨h1, hb_ne0 (t := c) (by rw [hb_and, h3, (wy_rf hb9 hn k c).mpr ⟨h2, h4⟩]; rfl)⟩
/-- the nodes of the first shortest way -/
theorem wy_nd {f : Nat → Int32} {n a b k : Nat} (ha : a < n) (hb9 : b < n) (hn : n ≤ 32) (hL : wyL f n b k a) : ∀ m, m ≤ k → ndF f (rwlF f b n) k a m = spF f n b a m ∧ ndF f (rwlF f b n) k a m < n ∧ wyL f n b (k - m) (ndF f (rwlF f b n) k a m)
  | 0, _ => ⟨rfl, ha, hL⟩
  | m + 1, hm => by
    obtain ⟨h1, h2, h3⟩ := wy_nd ha hb9 hn hL m (by omega)
    have hk : k < n := wy_lt ha hL
    obtain ⟨d, hd⟩ : ∃ d, k - m = d + 1 := ⟨k - m - 1, by omega⟩
    have hd2 : k - (m + 1) = d := by omega
    rw [hd] at h3
    show lowN (f (ndF f (rwlF f b n) k a m) &&& rwlF f b n (k - m - 1)) = nxF f n b (spF f n b a m) ∧ lowN (f (ndF f (rwlF f b n) k a m) &&& rwlF f b n (k - m - 1)) < n ∧ wyL f n b (k - (m + 1)) (lowN (f (ndF f (rwlF f b n) k a m) &&& rwlF f b n (k - m - 1)))
    rw [hd2, show k - m - 1 = d by omega, ← h1]
    generalize ndF f (rwlF f b n) k a m = h at *
    obtain ⟨q1, q2, q3, q4⟩ := nxF_ok (f := f) (t := b) (h := h) (e := d) hn ((wy_far hn (by omega)).mpr ⟨by omega, h3⟩) (by omega)
    have q5 := ((wy_far (f := f) (t := b) (a := nxF f n b h) (e := d) hn (by omega)).mp q3).2
    have h5 : lowN (f h &&& rwlF f b n d) = nxF f n b h := lowN_at (by omega) (by rw [hb_and, q2, (wy_rf hb9 hn d _).mpr ⟨q1, q5.1⟩]; rfl) (fun i hi => by
      cases z : hb (f h &&& rwlF f b n d) i
      · rfl
      · rw [hb_and, Bool.and_eq_true, wy_rf hb9 hn d i] at z
        exact absurd ⟨z.1, (wy_far hn (by omega)).mpr ⟨by omega, wy_t h3 z.2.1 z.1 z.2.2⟩⟩ (q4 i hi))
    rw [h5]
    exact ⟨rfl, q1, q5⟩
end
-- 5887.gl
section
/-! what comes and goes with an edge: the class's sums beside the reference's differences -/
theorem gl_pc {K L : Nat → Bool} : ∀ n, (∀ i, i < n → K i = true → L i = true) → pcb K n + pcb (fun i => Bool.xor (L i) (K i)) n = pcb L n
  | 0, _ => rfl
  | n + 1, h => by
    have ih := gl_pc n (fun i hi => h i (by omega))
    have e : (K n).toNat + (Bool.xor (L n) (K n)).toNat = (L n).toNat := by
      have h1 := h n (Nat.lt_succ_self n)
      cases q1 : K n <;> cases q2 : L n
      · rfl
      · rfl
      · exact absurd ((h1 q1).symm.trans q2) (by decide)
      · rfl
    show pcb K n + (K n).toNat + (pcb (fun i => Bool.xor (L i) (K i)) n + (Bool.xor (L n) (K n)).toNat) = pcb L n + (L n).toNat
    omega
theorem gl_bc {x y : Int32} (h : ∀ i, hb y i = true → hb x i = true) : pcN y + pcN (x ^^^ y) = pcN x := by
  have h1 := gl_pc (K := hb y) (L := hb x) 32 (fun i _ => h i)
  have h2 : pcb (hb (x ^^^ y)) 32 = pcb (fun i => Bool.xor (hb x i) (hb y i)) 32 := pcb_congr 32 (fun i _ => hb_xor x y i)
  rw [pcN_b, pcN_b, pcN_b, h2]
  exact h1
/-- rows within others: what they differ by -/
theorem gl_df {f g : Nat → Int32} : ∀ n, (∀ r, r < n → ∀ i, hb (g r) i = true → hb (f r) i = true) → ∃ k, onesN g n + k = onesN f n ∧ dfF f g n = nI k ∧ dfF g f n = nI k
  | 0, _ => ⟨0, rfl, rfl, rfl⟩
  | n + 1, h => by
    obtain ⟨k, h1, h2, h3⟩ := gl_df n (fun r hr => h r (by omega))
    have h4 := gl_bc (h n (Nat.lt_succ_self n))
    refine ⟨k + pcN (f n ^^^ g n), ?_, ?_, ?_⟩
    · show onesN g n + pcN (g n) + (k + pcN (f n ^^^ g n)) = onesN f n + pcN (f n)
      omega
    · show dfF f g n + bcJ (f n ^^^ g n) = _
      rw [h2, bcJ_n, nI_add]
    · show dfF g f n + bcJ (g n ^^^ f n) = _
      rw [h3, Int32.xor_comm, bcJ_n, nI_add]
theorem gl_on {f g : Nat → Int32} {n k : Nat} (h : onesN g n + k = onesN f n) : onesF f n - onesF g n = nI k := by
  rw [onesF_n, onesF_n, nI_sub' (by omega)]
  congr 1
  omega
theorem gl_up {f : Nat → Int32} {n r q i c : Nat} (hw : wfr n f) (hr : r < n) (hq : q < n) (hn : n ≤ 32) (h0 : hb (f r) q = false) (hi : i < n) (h : hb (wOut f n n i) c = true) : hb (wOut (tnF f r q) n n i) c = true := by
  rw [wO_ok hw hi] at h
  rw [wO_ok (tn_wf hw hr hq hn) hi, tc_add hr hq hn h0 hi (tc_lt h).2]
  exact Or.inl h
/-- an edge more -/
theorem gl_ga {f g : Nat → Int32} {n a b : Nat} (hw : wfr n f) (hg : ∀ i, i < n → g i = wOut f n n i) (ha : a < n) (hb9 : b < n) (hn : n ≤ 32) (h0 : hb (f a) b = false) :
    ∃ k, k ≤ 1024 ∧ gainW g (nodesTo g a n) b n = nI k ∧ pTv f n a b - pOv f n = nI k := by
  obtain ⟨k, h1, h2, -⟩ := gl_df (f := wOut (tnF f a b) n n) (g := wOut f n n) n (fun r hr i h => gl_up hw ha hb9 hn h0 hr h)
  have h3 := onesN_le (wOut (tnF f a b) n n) n
  exact ⟨k, by omega, (gain_ok hw hg ha hb9 hn h0).trans h2, gl_on h1⟩
/-- an edge that is there brings nothing -/
theorem gl_g0 {f g : Nat → Int32} {n a b : Nat} (hw : wfr n f) (hg : ∀ i, i < n → g i = wOut f n n i) (ha : a < n) (hb9 : b < n) (hn : n ≤ 32) (h0 : hb (f a) b = true) : ∀ k, k ≤ n → gainF g (nodesTo g a n) (g b ||| bitI b) k = 0
  | 0, _ => rfl
  | k + 1, hk => by
    have hk2 : k < n := by omega
    have hgb : ∀ x y, x < n → (hb (g x) y = true ↔ TC f n x y) := fun x y hx => by
      rw [hg x hx]
      exact wO_ok hw hx
    show (if hb (nodesTo g a n) k = true then gainF g (nodesTo g a n) (g b ||| bitI b) k + bcJ ((g b ||| bitI b) &&& (g k ^^^ -1)) else gainF g (nodesTo g a n) (g b ||| bitI b) k) = 0
    rw [gl_g0 hw hg ha hb9 hn h0 k (by omega)]
    by_cases h : hb (nodesTo g a n) k = true
    · rw [if_pos h]
      have h1 : TC f n k b := by
        rcases (nd_b ha hn hk2).mp h with q | q
        · rw [q]
          exact tc_e ha hb9 h0
        · exact tc_t ((hgb k a hk2).mp q) (tc_e ha hb9 h0)
      have e : (g b ||| bitI b) &&& (g k ^^^ -1) = 0 := hb_ext (fun i hi => by
        rw [hb_0, hb_and, hb_or, hb_not hi, hb_bitI (by omega)]
        cases q1 : hb (g k) i
        · cases q2 : hb (g b) i
          · by_cases q3 : i = b
            · rw [q3, (hgb k b hk2).mpr h1] at q1
              cases q1
            · rw [decide_eq_false q3]
              rfl
          · rw [(hgb k i hk2).mpr (tc_t h1 ((hgb b i hb9).mp q2))] at q1
            cases q1
        · rw [Bool.not_true, Bool.and_false])
      rw [e, bc_0]
      rfl
    · rw [if_neg h]
theorem gl_cg {g f f' : Nat → Int32} {nodes : Int32} {n : Nat} (hf : wfr n f) (hf' : wfr n f') (h : ∀ r, r < n → f r = f' r) (hn : n ≤ 32) : ∀ k, k ≤ n → lossF g f nodes n k = lossF g f' nodes n k
  | 0, _ => rfl
  | k + 1, hk => by
    have e : reachL f n (f k) 0 = reachL f' n (f' k) 0 := by
      rw [rc_wO hf (by omega) hn, rc_wO hf' (by omega) hn]
      exact wO_cg h n (Nat.le_refl n) k (by omega)
    unfold lossF
    rw [gl_cg hf hf' h hn k (by omega), e]
/-- an edge less -/
theorem gl_lB {f g f' : Nat → Int32} {n a b : Nat} (hw : wfr n f) (hg : ∀ i, i < n → g i = wOut f n n i) (ha : a < n) (hb9 : b < n) (hn : n ≤ 32) (h0 : hb (f a) b = true) (hf : ∀ r, r < n → f' r = tnF f a b r) :
    ∃ k, k ≤ 1024 ∧ lossB g f' a b n = nI k ∧ pOv f n - pTv f n a b = nI k ∧ pTv f n a b - pOv f n = -nI k := by
  have hw2 := tn_wf hw ha hb9 hn
  have hw' : wfr n f' := fun x hx c hc => by
    rw [hf x hx]
    exact hw2 x hx c hc
  obtain ⟨k, h1, -, h2⟩ := gl_df (f := wOut f n n) (g := wOut (tnF f a b) n n) n (fun r hr i h => wO_sub hw ha hb9 hn h0 hr h)
  have h3 := onesN_le (wOut f n n) n
  have h4 : pOv f n - pTv f n a b = nI k := gl_on h1
  refine ⟨k, by omega, ?_, h4, by rw [← h4, Int32.neg_sub]⟩
  unfold lossB
  have e : hb (reachL f' n (f' a) 0) b = true ↔ TC (tnF f a b) n a b := by
    rw [rc_ok hw' ha hn, tc_cg hf]
  by_cases q : hb (reachL f' n (f' a) 0) b = true
  · rw [if_pos q]
    have h5 := (eqB_ok n).mp ((need_ok hw hw (fun _ _ => Iff.rfl) ha hb9 hn h0).mpr (e.mp q))
    rw [← h4]
    unfold pOv pTv
    rw [on_cg h5, Int32.sub_self]
  · rw [if_neg q, gl_cg hw' hw2 hf hn n (Nat.le_refl n), loss_ok hw hg ha hb9 hn h0 n (Nat.le_refl n)]
    exact h2
/-- the most that a bit makes -/
theorem gl_a1 : ∀ k, k < 1025 → mtA (nI k) = nI k := by decide +kernel
theorem gl_a2 : ∀ k, k < 1025 → mtA (-nI k) = nI k := by decide +kernel
theorem gl_ge {f : Nat → Int32} {n : Nat} {bit : Bool} : ∀ k, -1 ≤ (mtS f n bit k).2
  | 0 => Int32.le_refl _
  | k + 1 => by
    have ih := gl_ge (f := f) (n := n) (bit := bit) k
    show -1 ≤ (if mtC f n bit k = true then (if (mtS f n bit k).2 < mtV f n k then nI k else (mtS f n bit k).1, if (mtS f n bit k).2 < mtV f n k then mtV f n k else (mtS f n bit k).2) else mtS f n bit k).2
    by_cases h : mtC f n bit k = true
    · rw [if_pos h]
      show -1 ≤ (if (mtS f n bit k).2 < mtV f n k then mtV f n k else (mtS f n bit k).2)
      by_cases h2 : (mtS f n bit k).2 < mtV f n k
      · rw [if_pos h2]
        exact Int32.le_of_lt (Int32.lt_of_le_of_lt ih h2)
      · rw [if_neg h2]
        exact ih
    · rw [if_neg h]
      exact ih
theorem gl_m1 {f : Nat → Int32} {n a j : Nat} {bit : Bool} (hj : j < n) (hn : n ≤ 32) : mtS f n bit (32 * a + j + 1) = if hb (f a) j = bit then (if (mtS f n bit (32 * a + j)).2 < mtA (pTv f n a j - pOv f n) then (nI (32 * a + j), mtA (pTv f n a j - pOv f n)) else mtS f n bit (32 * a + j)) else mtS f n bit (32 * a + j) := by
  have e1 : (32 * a + j) / 32 = a := by omega
  have e2 : (32 * a + j) % 32 = j := by omega
  have e3 : mtC f n bit (32 * a + j) = (hb (f a) j == bit) := by
    unfold mtC
    rw [e1, e2, decide_eq_true hj, Bool.true_and]
  have e4 : mtV f n (32 * a + j) = mtA (pTv f n a j - pOv f n) := by
    unfold mtV
    rw [e1, e2]
  show (if mtC f n bit (32 * a + j) = true then (if (mtS f n bit (32 * a + j)).2 < mtV f n (32 * a + j) then nI (32 * a + j) else (mtS f n bit (32 * a + j)).1, if (mtS f n bit (32 * a + j)).2 < mtV f n (32 * a + j) then mtV f n (32 * a + j) else (mtS f n bit (32 * a + j)).2) else mtS f n bit (32 * a + j)) = _
  rw [e3, e4]
  generalize mtS f n bit (32 * a + j) = S
  generalize mtA (pTv f n a j - pOv f n) = v
  by_cases h : hb (f a) j = bit
  · rw [if_pos h, if_pos (by rw [h]; exact beq_self_eq_true bit)]
    by_cases h2 : S.2 < v
    · rw [if_pos h2, if_pos h2, if_pos h2]
    · rw [if_neg h2, if_neg h2, if_neg h2]
  · rw [if_neg h, if_neg (fun q => h (eq_of_beq q))]
theorem gl_m2 {f : Nat → Int32} {n a : Nat} {bit : Bool} : ∀ d, n + d ≤ 32 → mtS f n bit (32 * a + n + d) = mtS f n bit (32 * a + n)
  | 0, _ => rfl
  | d + 1, hd => by
    rw [← gl_m2 (f := f) (n := n) (a := a) (bit := bit) d (by omega)]
    have e : ¬ mtC f n bit (32 * a + n + d) = true := by
      unfold mtC
      rw [decide_eq_false (by omega), Bool.false_and]
      decide
    show (if mtC f n bit (32 * a + n + d) = true then (if (mtS f n bit (32 * a + n + d)).2 < mtV f n (32 * a + n + d) then nI (32 * a + n + d) else (mtS f n bit (32 * a + n + d)).1, if (mtS f n bit (32 * a + n + d)).2 < mtV f n (32 * a + n + d) then mtV f n (32 * a + n + d) else (mtS f n bit (32 * a + n + d)).2) else mtS f n bit (32 * a + n + d)) = _
    rw [if_neg e]
theorem gl_m3 {f : Nat → Int32} {n a : Nat} {bit : Bool} (hn : n ≤ 32) : mtS f n bit (32 * (a + 1)) = mtS f n bit (32 * a + n) := by
  rw [← gl_m2 (f := f) (n := n) (a := a) (bit := bit) (32 - n) (by omega), show 32 * (a + 1) = 32 * a + n + (32 - n) by omega]
theorem gl_nu (a j : Nat) : 32 * nI a + nI j = nI (32 * a + j) := by
  show nI 32 * nI a + nI j = _
  rw [nI_mul, nI_add]
theorem gl_bi {f g : Nat → Int32} {n a : Nat} (hw : wfr n f) (hg : ∀ i, i < n → g i = wOut f n n i) (hn : n ≤ 32) (ha : a < n) : ∀ j, j ≤ n → beI f g n a (mtS f n false (32 * a)) j = mtS f n false (32 * a + j)
  | 0, _ => rfl
  | j + 1, hj => by
    have hj2 : j < n := by omega
    have hge := gl_ge (f := f) (n := n) (bit := false) (32 * a + j)
    show (if beG f g n a j ≤ (beI f g n a (mtS f n false (32 * a)) j).2 then beI f g n a (mtS f n false (32 * a)) j else (32 * nI a + nI j, beG f g n a j)) = mtS f n false (32 * a + j + 1)
    rw [gl_bi hw hg hn ha j (by omega), gl_m1 hj2 hn, gl_nu]
    generalize mtS f n false (32 * a + j) = S at *
    unfold beG
    by_cases h : hb (f a) j = true
    · rw [if_pos h, if_pos hge, if_neg (by rw [h]; decide)]
    · have h0 : hb (f a) j = false := Bool.eq_false_iff.mpr h
      obtain ⟨k, k1, k2, k3⟩ := gl_ga hw hg ha hj2 hn h0
      rw [if_neg h, if_pos h0, k2, k3, gl_a1 k (by omega)]
      by_cases h2 : S.2 < nI k
      · rw [if_pos h2, if_neg (Int32.not_le.mpr h2)]
      · rw [if_neg h2, if_pos (Int32.not_lt.mp h2)]
theorem gl_be {f g : Nat → Int32} {n : Nat} (hw : wfr n f) (hg : ∀ i, i < n → g i = wOut f n n i) (hn : n ≤ 32) : ∀ a, a ≤ n → beO f g n a = mtS f n false (32 * a)
  | 0, _ => rfl
  | a + 1, ha => by
    show beI f g n a (beO f g n a) n = _
    rw [gl_be hw hg hn a (by omega), gl_m3 hn]
    exact gl_bi hw hg hn (by omega) n (Nat.le_refl n)
theorem gl_gq {f g : Nat → Int32} {n a b : Nat} (hw : wfr n f) (hg : ∀ i, i < n → g i = wOut f n n i) (ha : a < n) (hb9 : b < n) (hn : n ≤ 32) (h0 : hb (f a) b = false) : pTv f n a b - pOv f n = gainW g (nodesTo g a n) b n := by
  obtain ⟨k, -, k2, k3⟩ := gl_ga hw hg ha hb9 hn h0
  exact k3.trans k2.symm
end
-- 589.inv
section
/-! the states of both sides, tied -/
theorem pI_at (M : Mem) (i k : Nat) (x : Int32) (a j : Nat) : mI (pI M i k x) a j = if a = i ∧ j = k then x else mI M a j := by
  show fun_set (mI M) i (fun_set (mI M i) k x) a j = _
  unfold fun_set
  by_cases e : a = i
  · rw [if_pos e]
    by_cases e2 : j = k
    · rw [if_pos e2, if_pos ⟨e, e2⟩]
    · rw [if_neg e2, if_neg (fun h => e2 h.2), e]
  · rw [if_neg e, if_neg (fun h => e h.1)]
/-- a slot of a state -/
def SS (M : Mem) (b : Nat) (u : Nat → Int64) (n s : Nat) : Prop := (∃ k : Bool, mI M (b + 2 + 2 * s) 1 = b1 k ∧ u (4 + s) = b1L k) ∧ mI M (b + 2 + 2 * s) 2 = (u (10 + s)).toInt32 ∧ mI M (b + 2 + 2 * s) 3 = (u (16 + s)).toInt32 ∧ mI M (b + 2 + 2 * s) 4 = (u (22 + s)).toInt32 ∧ (∀ r, r < n → u (28 + 32 * s + r) = uL (mI M (b + 3 + 2 * s) r)) ∧ wfr n (mI M (b + 3 + 2 * s))
def SR (M : Mem) (b : Nat) (u : Nat → Int64) (n : Nat) : Prop := (1 ≤ n ∧ n ≤ 32 ∧ mI M b 1 = nI n ∧ u 0 = lN n) ∧ (∃ bl, 1 ≤ bl ∧ bl ≤ 8 ∧ mI M b 2 = nI bl ∧ u 1 = lN bl) ∧ (∃ a, mI M b 3 = nI a ∧ u 2 = lN a) ∧ (∃ a, mI M b 4 = nI a ∧ u 3 = lN a) ∧ ∀ s, s < 6 → SS M b u n s
theorem SS_cg {M M' : Mem} {b n s : Nat} {u u' : Nat → Int64} (h : SS M b u n s) (h1 : ∀ j, 1 ≤ j → j ≤ 4 → mI M' (b + 2 + 2 * s) j = mI M (b + 2 + 2 * s) j) (h2 : ∀ r, r < n → mI M' (b + 3 + 2 * s) r = mI M (b + 3 + 2 * s) r) (h3 : u' (4 + s) = u (4 + s) ∧ u' (10 + s) = u (10 + s) ∧ u' (16 + s) = u (16 + s) ∧ u' (22 + s) = u (22 + s)) (h4 : ∀ r, r < n → u' (28 + 32 * s + r) = u (28 + 32 * s + r)) : SS M' b u' n s := by
  obtain ⟨⟨k, a1, a2⟩, a3, a4, a5, a6, a7⟩ := h
  obtain ⟨g1, g2, g3, g4⟩ := h3
  refine ⟨⟨k, by rw [h1 1 (by decide) (by decide)]; exact a1, by rw [g1]; exact a2⟩, by rw [h1 2 (by decide) (by decide), g2]; exact a3, by rw [h1 3 (by decide) (by decide), g3]; exact a4, by rw [h1 4 (by decide) (by decide), g4]; exact a5, fun r hr => by rw [h4 r hr, h2 r hr]; exact a6 r hr, fun r hr c hc => by rw [h2 r hr]; exact a7 r hr c hc⟩
theorem SR_cg {M M' : Mem} {b n : Nat} {u u' : Nat → Int64} (h : SR M b u n) (h1 : ∀ i, b ≤ i → i < b + 14 → mI M' i = mI M i) (h2 : ∀ i, i < 220 → u' i = u i) : SR M' b u' n := by
  obtain ⟨⟨a1, a2, a3, a4⟩, ⟨bl, b1', b2, b3, b4⟩, ⟨x, x1, x2⟩, ⟨y, y1, y2⟩, hs⟩ := h
  have e := h1 b (Nat.le_refl b) (by omega)
  refine ⟨⟨a1, a2, by rw [e]; exact a3, by rw [h2 0 (by decide)]; exact a4⟩, ⟨bl, b1', b2, by rw [e]; exact b3, by rw [h2 1 (by decide)]; exact b4⟩, ⟨x, by rw [e]; exact x1, by rw [h2 2 (by decide)]; exact x2⟩, ⟨y, by rw [e]; exact y1, by rw [h2 3 (by decide)]; exact y2⟩, fun s hs6 => ?_⟩
  refine SS_cg (hs s hs6) (fun j _ _ => by rw [h1 _ (by omega) (by omega)]) (fun r _ => by rw [h1 _ (by omega) (by omega)]) ⟨h2 _ (by omega), h2 _ (by omega), h2 _ (by omega), h2 _ (by omega)⟩ (fun r _ => h2 _ (by omega))
theorem SR_keep {M : Mem} {b n : Nat} {u : Nat → Int64} (h : SR M b u n) : keptOk M b := fun s hs => by
  obtain ⟨⟨k, a1, -⟩, -⟩ := h.2.2.2.2 s hs
  rw [a1]
  exact k01_b k
/-- a state copied -/
theorem mxTake_at {M : Mem} {m o i j : Nat} : mI (mxTake M m o) i j = if i = m ∧ 1 ≤ j ∧ j ≤ 4 then mI M o j else if i = m + 1 ∧ j < 32 then mI M (o + 1) j else mI M i j := by
  unfold mxTake
  rw [pI_at, pI_at, pI_at, pI_at]
  by_cases e : i = m
  · subst e
    by_cases q : 1 ≤ j ∧ j ≤ 4
    · rw [if_pos (show i = i ∧ 1 ≤ j ∧ j ≤ 4 from ⟨rfl, q⟩)]
      have : j = 1 ∨ j = 2 ∨ j = 3 ∨ j = 4 := by omega
      rcases this with rfl | rfl | rfl | rfl
      · rw [if_neg (fun h => by omega), if_neg (fun h => by omega), if_neg (fun h => by omega), if_pos ⟨rfl, rfl⟩]
      · rw [if_neg (fun h => by omega), if_neg (fun h => by omega), if_pos ⟨rfl, rfl⟩]
      · rw [if_neg (fun h => by omega), if_pos ⟨rfl, rfl⟩]
      · rw [if_pos ⟨rfl, rfl⟩]
    · rw [if_neg (fun h => by omega), if_neg (fun h => by omega), if_neg (fun h => by omega), if_neg (fun h => by omega), if_neg (fun h => q h.2), if_neg (fun h => by omega)]
      exact congrFun (sI_ne (by omega)) j
  · rw [if_neg (fun h => e h.1), if_neg (fun h => e h.1), if_neg (fun h => e h.1), if_neg (fun h => e h.1), if_neg (fun h => e h.1)]
    by_cases e2 : i = m + 1
    · subst e2
      rw [sI_self]
      unfold wr
      by_cases q : j < 32
      · rw [if_pos q, if_pos ⟨rfl, q⟩]
      · rw [if_neg q, if_neg (fun h => q h.2)]
    · rw [if_neg (fun h => e2 h.1)]
      exact congrFun (sI_ne (by omega)) j
theorem stTakeL_at {M : Mem} {b o : Nat} (hd : b + 14 ≤ o ∨ o + 14 ≤ b) : ∀ k, k ≤ 6 → ∀ s, s < k → (∀ j, 1 ≤ j → j ≤ 4 → mI (stTakeL M b o k) (b + 2 + 2 * s) j = mI M (o + 2 + 2 * s) j) ∧ (∀ r, r < 32 → mI (stTakeL M b o k) (b + 3 + 2 * s) r = mI M (o + 3 + 2 * s) r)
  | 0, _, s, hs => absurd hs (Nat.not_lt_zero _)
  | k + 1, hk, s, hs => by
    rw [stTakeL.eq_2]
    by_cases e : s = k
    · subst e
      have f1 : mI (stTakeL M b o s) (o + 2 + 2 * s) = mI M (o + 2 + 2 * s) := stTakeL_ne s (by omega) (by omega)
      have f2 : mI (stTakeL M b o s) (o + 2 + 2 * s + 1) = mI M (o + 2 + 2 * s + 1) := stTakeL_ne s (by omega) (by omega)
      constructor
      · intro j h1 h2
        rw [mxTake_at, if_pos ⟨rfl, h1, h2⟩, f1]
      · intro r hr
        rw [mxTake_at, if_neg (fun h => by omega), if_pos ⟨by omega, hr⟩, f2]
        congr 1
        omega
    · obtain ⟨g1, g2⟩ := stTakeL_at hd k (by omega) s (by omega)
      constructor
      · intro j h1 h2
        rw [mxTake_at, if_neg (fun h => by omega), if_neg (fun h => by omega)]
        exact g1 j h1 h2
      · intro r hr
        rw [mxTake_at, if_neg (fun h => by omega), if_neg (fun h => by omega)]
        exact g2 r hr
theorem stTake_at {M : Mem} {b o : Nat} (hd : b + 14 ≤ o ∨ o + 14 ≤ b) : (∀ j, 1 ≤ j → j ≤ 4 → mI (stTake M b o) b j = mI M o j) ∧ ∀ s, s < 6 → (∀ j, 1 ≤ j → j ≤ 4 → mI (stTake M b o) (b + 2 + 2 * s) j = mI M (o + 2 + 2 * s) j) ∧ (∀ r, r < 32 → mI (stTake M b o) (b + 3 + 2 * s) r = mI M (o + 3 + 2 * s) r) := by
  have h := stTakeL_at (M := M) hd 6 (Nat.le_refl 6)
  unfold stTake
  generalize stTakeL M b o 6 = M6 at h ⊢
  constructor
  · intro j h1 h2
    rw [pI_at, pI_at, pI_at, pI_at]
    have : j = 1 ∨ j = 2 ∨ j = 3 ∨ j = 4 := by omega
    rcases this with rfl | rfl | rfl | rfl
    · rw [if_neg (fun h => by omega), if_neg (fun h => by omega), if_neg (fun h => by omega), if_pos ⟨rfl, rfl⟩]
    · rw [if_neg (fun h => by omega), if_neg (fun h => by omega), if_pos ⟨rfl, rfl⟩]
    · rw [if_neg (fun h => by omega), if_pos ⟨rfl, rfl⟩]
    · rw [if_pos ⟨rfl, rfl⟩]
  · intro s hs
    obtain ⟨g1, g2⟩ := h s hs
    constructor
    · intro j h1 h2
      rw [pI_at, pI_at, pI_at, pI_at, if_neg (fun h => by omega), if_neg (fun h => by omega), if_neg (fun h => by omega), if_neg (fun h => by omega)]
      exact g1 j h1 h2
    · intro r hr
      rw [pI_at, pI_at, pI_at, pI_at, if_neg (fun h => by omega), if_neg (fun h => by omega), if_neg (fun h => by omega), if_neg (fun h => by omega)]
      exact g2 r hr
theorem SR_take {M : Mem} {b o n : Nat} {u : Nat → Int64} (hd : b + 14 ≤ o ∨ o + 14 ≤ b) (h : SR M o u n) : SR (stTake M b o) b u n := by
  obtain ⟨g1, g2⟩ := stTake_at (M := M) hd
  obtain ⟨⟨a1, a2, a3, a4⟩, ⟨bl, b1', b2, b3, b4⟩, ⟨x, x1, x2⟩, ⟨y, y1, y2⟩, hs⟩ := h
  refine ⟨⟨a1, a2, by rw [g1 1 (by decide) (by decide)]; exact a3, a4⟩, ⟨bl, b1', b2, by rw [g1 2 (by decide) (by decide)]; exact b3, b4⟩, ⟨x, by rw [g1 3 (by decide) (by decide)]; exact x1, x2⟩, ⟨y, by rw [g1 4 (by decide) (by decide)]; exact y1, y2⟩, fun s hs6 => ?_⟩
  obtain ⟨⟨k, c1, c2⟩, c3, c4, c5, c6, c7⟩ := hs s hs6
  obtain ⟨k1, k2⟩ := g2 s hs6
  refine ⟨⟨k, by rw [k1 1 (by decide) (by decide)]; exact c1, c2⟩, by rw [k1 2 (by decide) (by decide)]; exact c3, by rw [k1 3 (by decide) (by decide)]; exact c4, by rw [k1 4 (by decide) (by decide)]; exact c5, fun r hr => by rw [k2 r (by omega)]; exact c6 r hr, fun r hr c hc => by rw [k2 r (by omega)]; exact c7 r hr c hc⟩
end
-- 590.inv
section
/-! the invariant of a run -/
def IS (M : Mem) : Prop := ∀ q, q < 2 → keptOk M (145 + 14 * q) ∧ ((mI M 173 q = 0 ∧ mI M 203 q = 0) ∨ (mI M 173 q = 1 ∧ mI M 203 q = 1 ∧ ∃ n', SR M (145 + 14 * q) (fun j => mL M 202 (220 * q + j)) n'))
def IC (M : Mem) (n : Nat) : Prop := ∀ s, s < 6 → mI M (175 + 2 * s) 1 ≠ 0 → ∀ r, r < n → mI M (176 + 2 * s) r = wOut (mI M (6 + 2 * s)) n n r
def IR (M : Mem) : Prop := (∃ len, len ≤ 600 ∧ mI M 1 1 = nI len ∧ mI M 198 8 = nI len ∧ txt M (mI M 2) len) ∧ mI M 198 14 = mI M 1 5 ∧ mI M 198 15 = (if mI M 1 5 = 0 then -1 else mI M 1 4)
def IX (M : Mem) : Prop := mI M 188 0 = 0 ∧ bsOk M ∧ (∃ k, k ≤ 32 ∧ mI M 0 14 = nI k) ∧ ∃ w, w ≤ 32 ∧ mI M 198 24 = nI w
def IP (M : Mem) (n p c : Nat) : Prop := mI M 0 4 = nI p ∧ p < 8 ∧ mI M 0 5 = nI c ∧ c ≤ 8 ∧ mI M 198 5 = nI c ∧ ∀ i, i < c → SR M (32 + 14 * ((p + 8 - c + i) % 8)) (fun j => mL M 201 (220 * i + j)) n
def IV (M : Mem) (n p c : Nat) : Prop := Shp M ∧ SR M 3 (mL M 199) n ∧ IP M n p c ∧ IS M ∧ IC M n ∧ IR M ∧ IX M
def Inv (M : Mem) : Prop := ∃ n p c, IV M n p c
section
variable {M M' : Mem} {n p c : Nat}
theorem IV.S (h : IV M n p c) : Shp M := h.1
theorem IV.z (h : IV M n p c) : mI M 3 1 = nI n := h.2.1.1.2.2.1
theorem IV.n1 (h : IV M n p c) : 1 ≤ n := h.2.1.1.1
theorem IV.n32 (h : IV M n p c) : n ≤ 32 := h.2.1.1.2.1
theorem IV.D (h : IV M n p c) : Dk M n p c := ⟨h.1, h.z, h.n32, h.2.2.1.1, h.2.2.1.2.1, h.2.2.1.2.2.1, h.2.2.1.2.2.2.1, SR_keep h.2.1⟩
theorem IV.R (h : IV M n p c) : Rr M n (Am M) := ⟨h.1, h.2.1.1.2.2.2, h.n1, h.n32, fun s r hs hr => by
  have h9 := (h.2.1.2.2.2.2 s hs).2.2.2.2.1 r hr
  rw [show 3 + 3 + 2 * s = 6 + 2 * s by omega] at h9
  exact h9⟩
theorem IV.wf (h : IV M n p c) {s : Nat} (hs : s < 6) : wfr n (mI M (6 + 2 * s)) := by
  have h9 := (h.2.1.2.2.2.2 s hs).2.2.2.2.2
  rw [show 3 + 3 + 2 * s = 6 + 2 * s by omega] at h9
  exact h9
theorem IV.wA (h : IV M n p c) : wfA n (Am M) := fun s r hs hr c hc => h.wf hs r hr c hc
/-- the cells that the invariant speaks of, but for closures and 188 -/
def qId (i : Nat) : Prop := i ≤ 16 ∨ (32 ≤ i ∧ i < 174)
theorem iv_q (h : IV M n p c) (hS : Shp M') (e : ∀ i, qId i → i ≠ 0 → mI M' i = mI M i) (e0 : (mI M' 0 4 = mI M 0 4 ∧ mI M' 0 5 = mI M 0 5) ∧ ∃ k, k ≤ 32 ∧ mI M' 0 14 = nI k) (e199 : mL M' 199 = mL M 199) (e201 : mL M' 201 = mL M 201) (e202 : mL M' 202 = mL M 202) (hC : IC M' n) (h188 : mI M' 188 0 = 0) (hbs : bsOk M') (e203 : mI M' 203 = mI M 203) (e204 : mI M' 204 = mI M 204) (e198 : mI M' 198 5 = mI M 198 5 ∧ mI M' 198 8 = mI M 198 8 ∧ mI M' 198 14 = mI M 198 14 ∧ mI M' 198 15 = mI M 198 15 ∧ ∃ w, w ≤ 32 ∧ mI M' 198 24 = nI w) : IV M' n p c := by
  obtain ⟨-, h2, ⟨p1, p2, p3, p4, p5, p6⟩, h4, -, ⟨⟨len, l1, l2, l3, l4⟩, r2, r3⟩, x1, x2, x3, x4⟩ := h
  refine ⟨hS, SR_cg h2 (fun i h1 h2 => e i (Or.inl (by omega)) (by omega)) (fun i _ => by rw [e199]), ⟨by rw [e0.1.1]; exact p1, p2, by rw [e0.1.2]; exact p3, p4, by rw [e198.1]; exact p5, fun i hi => ?_⟩, fun q hq => ?_, hC, ⟨⟨len, l1, by rw [e 1 (Or.inl (by decide)) (by decide)]; exact l2, by rw [e198.2.1]; exact l3, fun i hi => ?_⟩, by rw [e198.2.2.1, e 1 (Or.inl (by decide)) (by decide)]; exact r2, by rw [e198.2.2.2.1, e 1 (Or.inl (by decide)) (by decide)]; exact r3⟩, h188, hbs, e0.2, e198.2.2.2.2⟩
  · have hm : (p + 8 - c + i) % 8 < 8 := Nat.mod_lt _ (by decide)
    exact SR_cg (p6 i hi) (fun j h1 h2 => e j (Or.inr (by omega)) (by omega)) (fun j _ => by rw [e201])
  · obtain ⟨k1, k2⟩ := h4 q hq
    have e173 := e 173 (Or.inr (by decide)) (by decide)
    refine ⟨fun s hs => by rw [e _ (Or.inr (by omega)) (by omega)]; exact k1 s hs, ?_⟩
    rcases k2 with ⟨a1, a2⟩ | ⟨a1, a2, n', a3⟩
    · exact Or.inl ⟨by rw [e173]; exact a1, by rw [e203]; exact a2⟩
    · exact Or.inr ⟨by rw [e173]; exact a1, by rw [e203]; exact a2, n', SR_cg a3 (fun j h1 h2 => e j (Or.inr (by omega)) (by omega)) (fun j _ => by rw [e202])⟩
  · obtain ⟨j, j1, j2, j3⟩ := l4 i hi
    exact ⟨j, j1, by rw [e 2 (Or.inl (by decide)) (by decide)]; exact j2, by rw [e204]; exact j3⟩
end
end
-- 591.inv
section
/-! what leaves the invariant -/
def Cq (M M' : Mem) : Prop := Cf M M' ∧ ∀ i, i < 175 → mI M' i = mI M i
def Rq (M M' : Mem) : Prop := Rf M M' ∧ (mL M' 199 = mL M 199 ∧ mL M' 201 = mL M 201 ∧ mL M' 202 = mL M 202) ∧ (bsOk M → bsOk M') ∧ (mI M' 203 = mI M 203 ∧ mI M' 204 = mI M 204) ∧ ∀ j, j ≠ 6 → j ≠ 22 → mI M' 198 j = mI M 198 j
section
variable {M M1 M' M2 : Mem} {n p c : Nat}
theorem Cq.rf (M : Mem) : Cq M M := ⟨Cf.rf M, fun _ _ => rfl⟩
theorem Cq.tr (h : Cq M M1) (g : Cq M1 M2) : Cq M M2 := ⟨h.1.tr g.1, fun i hi => (g.2 i hi).trans (h.2 i hi)⟩
theorem Rq.rf (M : Mem) : Rq M M := ⟨Rf.rf M, ⟨rfl, rfl, rfl⟩, fun h => h, ⟨rfl, rfl⟩, fun _ _ _ => rfl⟩
theorem Rq.tr (h : Rq M M1) (g : Rq M1 M2) : Rq M M2 := ⟨h.1.tr g.1, ⟨g.2.1.1.trans h.2.1.1, g.2.1.2.1.trans h.2.1.2.1, g.2.1.2.2.trans h.2.1.2.2⟩, fun q => g.2.2.1 (h.2.2.1 q), ⟨g.2.2.2.1.1.trans h.2.2.2.1.1, g.2.2.2.1.2.trans h.2.2.2.1.2⟩, fun j h1 h2 => (g.2.2.2.2 j h1 h2).trans (h.2.2.2.2 j h1 h2)⟩
theorem iv_c (h : IV M n p c) (hc : Cq M M') (hC : IC M' n) (h188 : mI M' 188 0 = 0) : IV M' n p c :=
  iv_q h (hc.1.S h.S) (fun i hi _ => hc.2 i (by unfold qId at hi; omega)) (by rw [hc.2 0 (by decide)]; exact ⟨⟨rfl, rfl⟩, h.2.2.2.2.2.2.2.2.1⟩) (by rw [hc.1.L]) (by rw [hc.1.L]) (by rw [hc.1.L]) hC h188 (fun i hi => by rw [hc.1.L]; exact h.2.2.2.2.2.2.2.1 i hi) (hc.1.I (by decide)) (hc.1.I (by decide)) (by rw [hc.1.I (Nat.le_refl 198)]; exact ⟨rfl, rfl, rfl, rfl, h.2.2.2.2.2.2.2.2.2⟩)
theorem iv_1 {v : Int64} (h : IV M n p c) : IV (pL M 212 0 v) n p c :=
  iv_q h h.1 (fun _ _ _ => rfl) ⟨⟨rfl, rfl⟩, h.2.2.2.2.2.2.2.2.1⟩ (sL_ne9 (by decide)) (sL_ne9 (by decide)) (sL_ne9 (by decide)) h.2.2.2.2.1 h.2.2.2.2.2.2.1 (fun i hi => by rw [sL_ne9 (by decide)]; exact h.2.2.2.2.2.2.2.1 i hi) rfl rfl ⟨rfl, rfl, rfl, rfl, h.2.2.2.2.2.2.2.2.2⟩
theorem iv_2 {f : Nat → UInt64} (h : IV M n p c) : IV (sD M 213 f) n p c := h
theorem iv_r (h : IV M n p c) (hr : Rq M M') : IV M' n p c := by
  have hI : ∀ i, i < 198 → mI M' i = mI M i := fun i hi => hr.1.I hi
  refine iv_q h (hr.1.S h.S) (fun i hi _ => hI i (by unfold qId at hi; omega)) (by rw [hI 0 (by decide)]; exact ⟨⟨rfl, rfl⟩, h.2.2.2.2.2.2.2.2.1⟩) hr.2.1.1 hr.2.1.2.1 hr.2.1.2.2 (fun s hs h1 r hr2 => ?_) (by rw [hI 188 (by decide)]; exact h.2.2.2.2.2.2.1) (hr.2.2.1 h.2.2.2.2.2.2.2.1) hr.2.2.2.1.1 hr.2.2.2.1.2 ⟨hr.2.2.2.2 5 (by decide) (by decide), hr.2.2.2.2 8 (by decide) (by decide), hr.2.2.2.2 14 (by decide) (by decide), hr.2.2.2.2 15 (by decide) (by decide), by rw [hr.2.2.2.2 24 (by decide) (by decide)]; exact h.2.2.2.2.2.2.2.2.2⟩
  rw [hI _ (by omega)] at h1
  rw [hI _ (by omega), hI _ (by omega)]
  exact h.2.2.2.2.1 s hs h1 r hr2
theorem rq_thr {x : Int32} (h : Rq M M1) : Rq M (thr M1 x) := h.tr ⟨rf_thr (Rf.rf _), ⟨rfl, rfl, rfl⟩, fun q => q, ⟨sI_ne (by decide), sI_ne (by decide)⟩, fun j h1 _ => by
  unfold thr
  rw [pI_at, if_neg (fun q => h1 q.2)]⟩
theorem rq_sL {i : Nat} {f : Nat → Int64} (hi : i = 205 ∨ i = 206 ∨ i = 207) (h : Rq M M1) : Rq M (sL M1 i f) := h.tr ⟨rf_sL (by omega) (Rf.rf _), ⟨sL_ne9 (by omega), sL_ne9 (by omega), sL_ne9 (by omega)⟩, fun q j hj => by
  rw [sL_ne9 (by omega)]
  exact q j hj, ⟨rfl, rfl⟩, fun _ _ _ => rfl⟩
theorem rq_hdM {x k : Nat} {f : Nat → Int32} (hi : x = 205 ∨ x = 206 ∨ x = 207) (h : Rq M M1) : Rq M (hdM M1 x k f) := by
  unfold hdM
  exact rq_sL hi h
theorem rq_sI {i : Nat} {f : Nat → Int32} (hi : i = 208 ∨ i = 210 ∨ i = 211) (h : Rq M M1) : Rq M (sI M1 i f) := h.tr ⟨rf_sI (by omega) (Rf.rf _), ⟨rfl, rfl, rfl⟩, fun q => q, ⟨sI_ne (by omega), sI_ne (by omega)⟩, fun j _ _ => congrFun (sI_ne (by omega)) j⟩
theorem rq_farM {f : Nat → Int32} {k t : Nat} (h : Rq M M1) : Rq M (farM M1 f k t) := by
  unfold farM
  exact rq_sI (Or.inl rfl) h
theorem rq_gfM {f : Nat → Int32} {k : Nat} (h : Rq M M1) : ∀ j, Rq M (gfM M1 f k j)
  | 0 => h
  | j + 1 => rq_farM h
theorem rq_209 {f : Nat → Int32} {k : Nat} (h : Rq M M1) : Rq M (sL M1 209 (wr (mL M1 209) (uR f) k)) := h.tr ⟨rf_sL (by decide) (Rf.rf _), ⟨sL_ne9 (by decide), sL_ne9 (by decide), sL_ne9 (by decide)⟩, fun q i hi => by
  show fun_set (mL M1) 209 (wr (mL M1 209) (uR f) k) 209 i = uL (fun_set (mL M1) 209 (wr (mL M1 209) (uR f) k) 209 i).toInt32
  unfold fun_set
  rw [if_pos rfl]
  unfold wr
  split
  · exact congrArg uL (uL_32 _).symm
  · exact q i hi, ⟨rfl, rfl⟩, fun _ _ _ => rfl⟩
theorem sL_I9 (X : Mem) (i : Nat) (f : Nat → Int64) : mI (sL X i f) = mI X := rfl
theorem rq_22 {X : Mem} {g : Nat → Int32} {v : Int32} (h : Rq M X) (e : mI X 198 = g) : Rq M (sI X 198 (fun_set g 22 v)) := by
  subst e
  refine h.tr ⟨rf_sI (by decide) (Rf.rf _), ⟨rfl, rfl, rfl⟩, fun q => q, ⟨sI_ne (by decide), sI_ne (by decide)⟩, fun j _ h22 => ?_⟩
  rw [sI_self]
  unfold fun_set
  rw [if_neg h22]
theorem rq_rbM {k : Nat} {s : ES} (h : Rq M M1) : Rq M (rbM M1 k s) := by
  have h1 := rq_sL (i := 205) (f := wr (mL M1 205) (uR s.1) k) (Or.inl rfl) h
  have e9 : mL (sL M1 205 (wr (mL M1 205) (uR s.1) k)) 209 = mL M1 209 := sL_ne9 (by decide)
  have e8 : mI (sL M1 205 (wr (mL M1 205) (uR s.1) k)) = mI M1 := sL_I9 _ _ _
  unfold rbM
  generalize sL M1 205 (wr (mL M1 205) (uR s.1) k) = X at *
  rw [← e9]
  have h2 := rq_209 (f := s.2.1) (k := k) h1
  have e7 := sL_I9 X 209 (wr (mL X 209) (uR s.2.1) k)
  generalize sL X 209 (wr (mL X 209) (uR s.2.1) k) = Y at *
  have h3 := rq_sI (i := 210) (f := s.2.2.1) (Or.inr (Or.inl rfl)) h2
  have e6 : mI (sI Y 210 s.2.2.1) 198 = mI Y 198 := sI_ne (by decide)
  generalize sI Y 210 s.2.2.1 = Z at *
  exact rq_22 h3 (by rw [e6, e7, e8])
end
end
-- 5915.inv
section
/-! what a call of both sides comes to, the answers compared where E holds -/
section
def SmI (E : Prop) (l : Launch) (J J7 : Jm) (F L c n F7 : Nat) (As As7 : List Value) (M : Mem) (P : Mem → Prop) : Prop := ∃ (kk b : Int32) (M1 M2 : Mem), EvR l J F L c n As M (.inl (some (.int kk))) M1 ∧ EvR l J7 F7 160 0 0 As7 M1 (.inl (some (.int b))) M2 ∧ Shp M1 ∧ Shp M2 ∧ mI M2 198 6 = kk ∧ (E → kk = 0 → mL M2 212 0 = b.toInt64) ∧ P M2
def SmJ (E : Prop) (l : Launch) (J J7 : Jm) (F L c n F7 : Nat) (As As7 : List Value) (M : Mem) (P : Mem → Prop) : Prop := ∃ (kk : Int32) (b : Int64) (M1 M2 : Mem), EvR l J F L c n As M (.inl (some (.int kk))) M1 ∧ EvR l J7 F7 160 0 0 As7 M1 (.inl (some (.long b))) M2 ∧ Shp M1 ∧ Shp M2 ∧ mI M2 198 6 = kk ∧ (E → kk = 0 → mL M2 212 0 = b) ∧ P M2
def SmZ (E : Prop) (l : Launch) (J J7 : Jm) (F L c n F7 : Nat) (As As7 : List Value) (M : Mem) (P : Mem → Prop) : Prop := ∃ (kk : Int32) (b : Bool) (M1 M2 : Mem), EvR l J F L c n As M (.inl (some (.int kk))) M1 ∧ EvR l J7 F7 160 0 0 As7 M1 (.inl (some (.int (b1 b)))) M2 ∧ Shp M1 ∧ Shp M2 ∧ mI M2 198 6 = kk ∧ (E → kk = 0 → mL M2 212 0 = if b then 1 else 0) ∧ P M2
def SmD (E : Prop) (l : Launch) (J J7 : Jm) (F L c n F7 : Nat) (As As7 : List Value) (M : Mem) (P : Mem → Prop) : Prop := ∃ (kk : Int32) (b : UInt64) (M1 M2 : Mem), EvR l J F L c n As M (.inl (some (.int kk))) M1 ∧ EvR l J7 F7 160 0 0 As7 M1 (.inl (some (.double b))) M2 ∧ Shp M1 ∧ Shp M2 ∧ mI M2 198 6 = kk ∧ (E → kk = 0 → mD M2 213 0 = b ∧ Op.cmpValue (FP.dcmp b b) CmpOp.l = 0) ∧ P M2
def SmF (E : Prop) (l : Launch) (J J7 : Jm) (F L c n F7 : Nat) (As As7 : List Value) (M : Mem) (P : Mem → Prop) : Prop := ∃ (kk : Int32) (b : UInt32) (M1 M2 : Mem), EvR l J F L c n As M (.inl (some (.int kk))) M1 ∧ EvR l J7 F7 160 0 0 As7 M1 (.inl (some (.float b))) M2 ∧ Shp M1 ∧ Shp M2 ∧ mI M2 198 6 = kk ∧ (E → kk = 0 → mD M2 213 0 = FP.f2d b ∧ Op.cmpValue (FP.dcmp (FP.f2d b) (FP.f2d b)) CmpOp.l = 0 ∧ vf_n64 (FP.f2d b)) ∧ P M2
def SmN (E : Prop) (l : Launch) (J J7 : Jm) (F L F7 L7 : Nat) (As As7 : List Value) (M : Mem) (P : Mem → Prop) : Prop := ∃ (a b : Int32) (M1 M2 : Mem), EvR l J F L 0 0 As M (.inl (some (.int a))) M1 ∧ EvR l J7 F7 L7 0 0 As7 M1 (.inl (some (.int b))) M2 ∧ Shp M1 ∧ Shp M2 ∧ (E → a = b) ∧ P M2
variable {E : Prop} {l : Launch} {M M' M2 : Mem} {n p c : Nat} {J J7 : Jm} {F L mc ms F7 : Nat} {As As7 : List Value}
theorem i1_at {v : Int64} : mL (pL M' 212 0 v) 212 0 = v := by
  show fun_set (mL M') 212 (fun_set (mL M' 212) 0 v) 212 0 = v
  unfold fun_set
  rw [if_pos rfl, if_pos rfl]
theorem i2_at {v : UInt64} : mD (sD M' 213 (fun_set (mD M' 213) 0 v)) 213 0 = v := by
  show fun_set (mD M') 213 (fun_set (mD M' 213) 0 v) 213 0 = v
  unfold fun_set
  rw [if_pos rfl, if_pos rfl]
theorem qI {v v' : Int32} (hI : IV M' n p c) (h1 : EvR l J F L mc ms As M (.inl (some (.int 0))) (pL M' 212 0 v.toInt64)) (h2 : EvR l J7 F7 160 0 0 As7 (pL M' 212 0 v.toInt64) (.inl (some (.int v'))) M2) (he : E → v' = v) (hr : Rf (pL M' 212 0 v.toInt64) M2) (ht : t6 M2) (hP : Inv M2) : SmI E l J J7 F L mc ms F7 As As7 M Inv :=
  ⟨0, v', _, _, h1, h2, hI.S, hr.S hI.S, ht, fun e _ => by rw [hr.L (by decide), i1_at, he e], hP⟩
theorem qJ {v v' : Int64} (hI : IV M' n p c) (h1 : EvR l J F L mc ms As M (.inl (some (.int 0))) (pL M' 212 0 v)) (h2 : EvR l J7 F7 160 0 0 As7 (pL M' 212 0 v) (.inl (some (.long v'))) M2) (he : E → v' = v) (hr : Rf (pL M' 212 0 v) M2) (ht : t6 M2) (hP : Inv M2) : SmJ E l J J7 F L mc ms F7 As As7 M Inv :=
  ⟨0, v', _, _, h1, h2, hI.S, hr.S hI.S, ht, fun e _ => by rw [hr.L (by decide), i1_at, he e], hP⟩
theorem qZ {v v' : Bool} (hI : IV M' n p c) (h1 : EvR l J F L mc ms As M (.inl (some (.int 0))) (pL M' 212 0 (if v then 1 else 0))) (h2 : EvR l J7 F7 160 0 0 As7 (pL M' 212 0 (if v then 1 else 0)) (.inl (some (.int (b1 v')))) M2) (he : E → v' = v) (hr : Rf (pL M' 212 0 (if v then 1 else 0)) M2) (ht : t6 M2) (hP : Inv M2) : SmZ E l J J7 F L mc ms F7 As As7 M Inv :=
  ⟨0, v', _, _, h1, h2, hI.S, hr.S hI.S, ht, fun e _ => by rw [hr.L (by decide), i1_at, he e], hP⟩
theorem qD {v v' : UInt64} (hI : IV M' n p c) (hv : Op.cmpValue (FP.dcmp v v) CmpOp.l = 0) (h1 : EvR l J F L mc ms As M (.inl (some (.int 0))) (sD M' 213 (fun_set (mD M' 213) 0 v))) (h2 : EvR l J7 F7 160 0 0 As7 (sD M' 213 (fun_set (mD M' 213) 0 v)) (.inl (some (.double v'))) M2) (he : E → v' = v) (hr : Rf (sD M' 213 (fun_set (mD M' 213) 0 v)) M2) (ht : t6 M2) (hP : Inv M2) : SmD E l J J7 F L mc ms F7 As As7 M Inv :=
  ⟨0, v', _, _, h1, h2, hI.S, hr.S hI.S, ht, fun e _ => by
    rw [hr.D, i2_at, he e]
    exact ⟨rfl, hv⟩, hP⟩
theorem qF {v v' : UInt32} (hI : IV M' n p c) (hv : Op.cmpValue (FP.dcmp (FP.f2d v) (FP.f2d v)) CmpOp.l = 0) (hv2 : vf_n64 (FP.f2d v)) (h1 : EvR l J F L mc ms As M (.inl (some (.int 0))) (sD M' 213 (fun_set (mD M' 213) 0 (FP.f2d v)))) (h2 : EvR l J7 F7 160 0 0 As7 (sD M' 213 (fun_set (mD M' 213) 0 (FP.f2d v))) (.inl (some (.float v'))) M2) (he : E → v' = v) (hr : Rf (sD M' 213 (fun_set (mD M' 213) 0 (FP.f2d v))) M2) (ht : t6 M2) (hP : Inv M2) : SmF E l J J7 F L mc ms F7 As As7 M Inv :=
  ⟨0, v', _, _, h1, h2, hI.S, hr.S hI.S, ht, fun e _ => by
    rw [hr.D, i2_at, he e]
    exact ⟨rfl, hv, hv2⟩, hP⟩
theorem iv_thr {x : Int32} (h : IV M n p c) : Inv (thr M x) := ⟨n, p, c, iv_r h (rq_thr (Rq.rf M))⟩
theorem xI {e b : Int32} (h : IV M n p c) (he : e ≠ 0) (h1 : EvR l J F L mc ms As M (.inl (some (.int e))) M) (h2 : EvR l J7 F7 160 0 0 As7 M (.inl (some (.int b))) (thr M e)) : SmI E l J J7 F L mc ms F7 As As7 M Inv :=
  ⟨e, b, _, _, h1, h2, h.S, (rf_thr (Rf.rf M)).S h.S, thr_6, fun _ q => absurd q he, iv_thr h⟩
theorem xJ {e : Int32} {b : Int64} (h : IV M n p c) (he : e ≠ 0) (h1 : EvR l J F L mc ms As M (.inl (some (.int e))) M) (h2 : EvR l J7 F7 160 0 0 As7 M (.inl (some (.long b))) (thr M e)) : SmJ E l J J7 F L mc ms F7 As As7 M Inv :=
  ⟨e, b, _, _, h1, h2, h.S, (rf_thr (Rf.rf M)).S h.S, thr_6, fun _ q => absurd q he, iv_thr h⟩
theorem xZ {e : Int32} {b : Bool} (h : IV M n p c) (he : e ≠ 0) (h1 : EvR l J F L mc ms As M (.inl (some (.int e))) M) (h2 : EvR l J7 F7 160 0 0 As7 M (.inl (some (.int (b1 b)))) (thr M e)) : SmZ E l J J7 F L mc ms F7 As As7 M Inv :=
  ⟨e, b, _, _, h1, h2, h.S, (rf_thr (Rf.rf M)).S h.S, thr_6, fun _ q => absurd q he, iv_thr h⟩
theorem xD {e : Int32} {b : UInt64} (h : IV M n p c) (he : e ≠ 0) (h1 : EvR l J F L mc ms As M (.inl (some (.int e))) M) (h2 : EvR l J7 F7 160 0 0 As7 M (.inl (some (.double b))) (thr M e)) : SmD E l J J7 F L mc ms F7 As As7 M Inv :=
  ⟨e, b, _, _, h1, h2, h.S, (rf_thr (Rf.rf M)).S h.S, thr_6, fun _ q => absurd q he, iv_thr h⟩
theorem xF {e : Int32} {b : UInt32} (h : IV M n p c) (he : e ≠ 0) (h1 : EvR l J F L mc ms As M (.inl (some (.int e))) M) (h2 : EvR l J7 F7 160 0 0 As7 M (.inl (some (.float b))) (thr M e)) : SmF E l J J7 F L mc ms F7 As As7 M Inv :=
  ⟨e, b, _, _, h1, h2, h.S, (rf_thr (Rf.rf M)).S h.S, thr_6, fun _ q => absurd q he, iv_thr h⟩
/-- the reference beside the class's rows -/
theorem iv_A {v : Int64} (h : IV M n p c) (hc : Cf M M') : Rr (pL M' 212 0 v) n (Am M) := ⟨hc.S h.S, by
  rw [sL_ne9 (by decide), hc.L]
  exact h.R.2.1, h.n1, h.n32, fun s r hs hr => by
  rw [sL_ne9 (by decide), hc.L]
  exact h.R.2.2.2.2 s r hs hr⟩
theorem iv_B {f : Nat → UInt64} (h : IV M n p c) (hc : Cf M M') : Rr (sD M' 213 f) n (Am M) := ⟨hc.S h.S, by
  show mL M' 199 0 = _
  rw [hc.L]
  exact h.R.2.1, h.n1, h.n32, fun s r hs hr => by
  show mL M' 199 _ = _
  rw [hc.L]
  exact h.R.2.2.2.2 s r hs hr⟩
/-- closures asked for -/
theorem cq_sI {i : Nat} {f : Nat → Int32} (hi : 175 ≤ i ∧ i < 198) : Cq M (sI M i f) := ⟨cf_sI hi.2 (Cf.rf M), fun j hj => sI_ne (by omega)⟩
theorem cq_clOf {s : Nat} (hs : s < 6) : Cq M (clOf M s n) := ⟨cf_clOf hs, fun i hi => clOf_ne (Or.inl hi) hs⟩
theorem cl_self {s : Nat} (hs : s < 6) (h0 : mI M (175 + 2 * s) 1 = 0) : mI (clOf M s n) (176 + 2 * s) = wOut (wr (mI M (176 + 2 * s)) (mI M (6 + 2 * s)) n) n n := by
  unfold clOf
  rw [if_pos h0]
  unfold clMake
  show mI (sI (sI M (175 + 2 * s + 1) _) (175 + 2 * s) _) (176 + 2 * s) = _
  rw [sI_ne (by omega), show 176 + 2 * s = 175 + 2 * s + 1 by omega, sI_self]
theorem cl_rows (h : IV M n p c) {s : Nat} (hs : s < 6) : ∀ r, r < n → mI (clOf M s n) (175 + 2 * s + 1) r = wOut (Am M s) n n r := fun r hr => by
  rw [show 175 + 2 * s + 1 = 176 + 2 * s by omega]
  by_cases h0 : mI M (175 + 2 * s) 1 = 0
  · rw [cl_self hs h0]
    exact wO_cg (fun i hi => wr_lt hi) n (Nat.le_refl n) r hr
  · unfold clOf
    rw [if_neg h0]
    exact h.2.2.2.2.1 s hs h0 r hr
theorem cl_ne {s i : Nat} (h1 : i ≠ 175 + 2 * s) (h2 : i ≠ 176 + 2 * s) : mI (clOf M s n) i = mI M i := by
  unfold clOf
  split
  · exact clMake_ne h1 (by omega)
  · rfl
theorem ic_clOf (h : IV M n p c) {s : Nat} (hs : s < 6) : IC (clOf M s n) n := fun t ht h1 r hr => by
  rw [cl_ne (i := 6 + 2 * t) (by omega) (by omega)]
  by_cases e : t = s
  · subst e
    rw [show 176 + 2 * t = 175 + 2 * t + 1 by omega]
    exact cl_rows h ht r hr
  · rw [cl_ne (by omega) (by omega)]
    rw [cl_ne (by omega) (by omega)] at h1
    exact h.2.2.2.2.1 t ht h1 r hr
theorem iv_clOf (h : IV M n p c) {s : Nat} (hs : s < 6) : IV (clOf M s n) n p c := iv_c h (cq_clOf hs) (ic_clOf h hs) (by
  rw [cl_ne (by omega) (by omega)]
  exact h.2.2.2.2.2.2.1)
theorem iv_sI (h : IV M n p c) {i : Nat} {f : Nat → Int32} (hi : (189 ≤ i ∧ i < 198) ∨ i = 187) : IV (sI M i f) n p c := iv_c h (cq_sI (by omega)) (fun t ht h1 r hr => by
  rw [sI_ne (by omega)] at h1
  rw [sI_ne (by omega), sI_ne (by omega)]
  exact h.2.2.2.2.1 t ht h1 r hr) (by
  rw [sI_ne (by omega)]
  exact h.2.2.2.2.2.2.1)
theorem iv_elMem (h : IV M n p c) (s : ES) : IV (elMem M s) n p c := by
  unfold elMem
  exact iv_sI (iv_sI (iv_sI (iv_sI h (Or.inl (by decide))) (Or.inl (by decide))) (Or.inl (by decide))) (Or.inl (by decide))
theorem iv_spM (h : IV M n p c) {s b k : Nat} : IV (spM M s b n k) n p c := by
  unfold spM
  exact iv_sI h (Or.inl (by decide))
theorem iv_lwMem (h : IV M n p c) {s a b : Nat} : IV (lwMem M s a b n) n p c := by
  unfold lwMem
  exact iv_sI h (Or.inl (by decide))
theorem iv_loM (h : IV M n p c) {s a b : Nat} (hs : s < 6) : IV (loM M s a b n) n p c := by
  unfold loM
  exact iv_clOf (iv_lwMem h) hs
theorem iv_wkI {s a : Nat} (hs : s < 6) {q : Mem × Int32 × Int32} (h : IV q.1 n p c) : ∀ k, IV (wkI s n a q k).1 n p c
  | 0 => h
  | k + 1 => by
    have ih := iv_wkI (a := a) hs h k
    show IV (wkM (wkI s n a q k).1 s n a k) n p c
    unfold wkM
    split
    · exact iv_loM ih hs
    · exact ih
theorem iv_wkO (h : IV M n p c) {s : Nat} (hs : s < 6) : ∀ k, IV (wkO M s n k).1 n p c
  | 0 => h
  | k + 1 => iv_wkI hs (iv_wkO h hs k) n
end
end
-- 5916.inv
section
/-! answers that are the same -/
theorem lN_any (a : Nat) : (lN a).toInt32 = nI a := by
  apply Int32.toBitVec_inj.mp
  show (BitVec.ofNat 64 a).signExtend 32 = BitVec.ofNat 32 a
  rw [BitVec.signExtend_eq_setWidth_of_le _ (by decide)]
  exact BitVec.setWidth_ofNat_of_le (by decide) a
theorem nI_le9 {x : Int32} {k : Nat} (h1 : ¬ x < 0) (h2 : x ≤ nI k) (hk : k < 2147483648) : ∃ j, j ≤ k ∧ x = nI j := by
  obtain ⟨j, hj, rfl⟩ := nI_of h1
  exact ⟨j, (nI_leI hj hk).mp h2, rfl⟩
theorem cnF_n {f : Nat → Int32} {c : Nat} : ∀ k, cnF f c k = nI (pcb (fun i => hb (f i) c) k)
  | 0 => rfl
  | k + 1 => by
    show cnF f c k + b1 (hb (f k) c) = nI (pcb (fun i => hb (f i) c) k + (hb (f k) c).toNat)
    rw [cnF_n k]
    cases hb (f k) c
    · exact Int32.add_zero _
    · exact nI_o1 _
theorem cn_ok {f : Nat → Int32} {c n : Nat} (hn : n ≤ 32) : bcJ (colOf f c n) = cnF f c n := by
  rw [bcJ_n, cnF_n, pcN_b]
  congr 1
  rw [pcb_trunc 32 hn (fun i hi => by rw [hb_colOf n hn, decide_eq_false (by omega), Bool.false_and])]
  exact pcb_congr n (fun i hi => by rw [hb_colOf n hn, decide_eq_true hi, Bool.true_and])
theorem smF_n {f : Nat → Int32} {n : Nat} : ∀ d i, smF f n d i = true ↔ ∀ j, i ≤ j → j < i + d → f j = colOf f j n
  | 0, i => ⟨fun _ j h1 h2 => absurd h2 (by omega), fun _ => rfl⟩
  | d + 1, i => by
    unfold smF
    by_cases e : f i = colOf f i n
    · rw [if_pos e, smF_n d (i + 1)]
      constructor
      · intro h j h1 h2
        by_cases e2 : j = i
        · rw [e2]
          exact e
        · exact h j (by omega) (by omega)
      · intro h j h1 h2
        exact h j (by omega) (by omega)
    · rw [if_neg e]
      constructor
      · intro h
        cases h
      · intro h
        exact absurd (h i (Nat.le_refl i) (by omega)) e
theorem sm_ok {f : Nat → Int32} {n : Nat} (hw : wfr n f) (hn : n ≤ 32) : smF f n n 0 = true ↔ syP f n := by
  rw [smF_n]
  constructor
  · intro h r hr c hc
    have h1 := h r (Nat.zero_le r) (by omega)
    have h2 : hb (f r) c = hb (colOf f r n) c := congrArg (fun x => hb x c) h1
    rw [h2, hb_colOf n hn, decide_eq_true (show c < n by omega), Bool.true_and]
  · intro h j _ hj
    have hj2 : j < n := by omega
    refine hb_ext (fun i _ => ?_)
    rw [hb_colOf n hn]
    by_cases hi : i < n
    · rw [decide_eq_true hi, Bool.true_and]
      rcases Nat.lt_trichotomy i j with q | q | q
      · exact h j hj2 i q
      · rw [q]
      · exact (h i hi j q).symm
    · rw [decide_eq_false hi, Bool.false_and]
      exact hw j hj2 i (by omega)
theorem col_cg {g g' : Nat → Int32} {a : Nat} : ∀ n, (∀ i, i < n → g i = g' i) → colOf g a n = colOf g' a n
  | 0, _ => rfl
  | n + 1, h => by
    unfold colOf
    rw [col_cg n (fun i hi => h i (by omega)), h n (by omega)]
theorem lm_cg {g g' : Nat → Int32} {a n : Nat} (ha : a < n) (h : ∀ i, i < n → g i = g' i) : lowMut g a n = lowMut g' a n := by
  unfold lowMut
  rw [h a ha, col_cg n h]
theorem cm_cg {g g' : Nat → Int32} {n : Nat} : ∀ k, k ≤ n → (∀ i, i < n → g i = g' i) → cmN g n k = cmN g' n k
  | 0, _, _ => rfl
  | k + 1, hk, h => by
    unfold cmN
    rw [cm_cg k (by omega) h, lm_cg (by omega) h]
section
variable {M R : Mem} {n p c : Nat}
theorem el_E {P : Prop} {s : Nat} {rt rt' g g' : Nat → Int32} (hrt : P → ∀ i, i < n → rt i = rt' i) : esR P n (elIt n (wr (mI M 192) (mI M (6 + 2 * s)) n, rt, g, 0) n) (elIt n (Am M s, rt', g', 0) n) :=
  el_all (P := P) (n := n) (s := (wr (mI M 192) (mI M (6 + 2 * s)) n, rt, g, 0)) (t := (Am M s, rt', g', 0)) ⟨fun i hi => wr_lt hi, hrt, fun j hj => absurd hj (Nat.not_lt_zero _), rfl, Nat.zero_le _⟩ n
theorem rk_E {s : Nat} : nI (rkR R n (Am M s)).2.2.2 = nI (elQ M s n 0).2.2.2 := by
  have h := el_E (M := M) (n := n) (P := False) (s := s) (rt := wr (mI M 193) (fun i => us 0 (nI i) &&& 1) n) (rt' := bsR R) (g := mI M 194) (g' := mI R 210) (fun q => q.elim)
  exact congrArg nI h.2.2.2.1.symm
theorem pv_E {s : Nat} {x : Int32} (hn : n ≤ 32) : (if ¬ x < 0 ∧ x < nI (rkR R n (Am M s)).2.2.2 then (rkR R n (Am M s)).2.2.1 x.toNatClampNeg else -1) = (if ¬ x < 0 ∧ x < nI (elQ M s n 0).2.2.2 then (elQ M s n 0).2.2.1 x.toNatClampNeg else -1) := by
  have h := el_E (M := M) (n := n) (P := False) (s := s) (rt := wr (mI M 193) (fun i => us 0 (nI i) &&& 1) n) (rt' := bsR R) (g := mI M 194) (g' := mI R 210) (fun q => q.elim)
  have hle := elQ_c M s n 0
  rw [show (rkR R n (Am M s)).2.2.2 = (elQ M s n 0).2.2.2 from h.2.2.2.1.symm]
  by_cases q : ¬ x < 0 ∧ x < nI (elQ M s n 0).2.2.2
  · rw [if_pos q, if_pos q]
    obtain ⟨j, hj, rfl⟩ := nI_of q.1
    rw [nI_clamp hj]
    have h3 := (nI_ltI hj (show (elQ M s n 0).2.2.2 < 2147483648 by omega)).mp q.2
    exact (h.2.2.1 j h3).symm
  · rw [if_neg q, if_neg q]
theorem sv_R {s : Nat} {x : Int32} : esR True n (elQ M s n x) (solR R n (Am M s) x) := el_E (fun _ i hi => wr_lt hi)
theorem sv_B {s : Nat} {x : Int32} : solvB (solR R n (Am M s) x) (n - (solR R n (Am M s) x).2.2.2) (solR R n (Am M s) x).2.2.2 = solvB (elQ M s n x) (n - (elQ M s n x).2.2.2) (elQ M s n x).2.2.2 := by
  have h := sv_R (M := M) (R := R) (n := n) (s := s) (x := x)
  rw [← h.2.2.2.1]
  exact (sv_cg (fun i _ hi => h.2.1 trivial i (by have := h.2.2.2.2; omega))).symm
theorem sv_F {s : Nat} {x : Int32} : solF (solR R n (Am M s) x) (solR R n (Am M s) x).2.2.2 = solF (elQ M s n x) (elQ M s n x).2.2.2 := by
  have h := sv_R (M := M) (R := R) (n := n) (s := s) (x := x)
  rw [← h.2.2.2.1]
  exact (so_cg _ (fun j hj => ⟨h.2.1 trivial j (by have := h.2.2.2.2; omega), h.2.2.1 j hj⟩)).symm
theorem sv_E {s : Nat} {x : Int32} : (if solvB (solR R n (Am M s) x) (n - (solR R n (Am M s) x).2.2.2) (solR R n (Am M s) x).2.2.2 = true then uL (solF (solR R n (Am M s) x) (solR R n (Am M s) x).2.2.2) else -1) = (if solvB (elQ M s n x) (n - (elQ M s n x).2.2.2) (elQ M s n x).2.2.2 = true then (solF (elQ M s n x) (elQ M s n x).2.2.2).toInt64 &&& 4294967295 else -1) := by
  rw [sv_B, sv_F]
  rfl
theorem fd_E {s : Nat} {x : Int32} : (if solvB (solR R n (Am M s) x) (n - (solR R n (Am M s) x).2.2.2) (solR R n (Am M s) x).2.2.2 = true then nI n - nI (solR R n (Am M s) x).2.2.2 else -1) = (if solvB (elQ M s n x) (n - (elQ M s n x).2.2.2) (elQ M s n x).2.2.2 = true then nI n - nI (elQ M s n x).2.2.2 else -1) := by
  rw [sv_B, (sv_R (M := M) (R := R) (n := n) (s := s) (x := x)).2.2.2.1]
theorem L1_9 {v : Int64} : mL (pL M 212 0 v) 199 = mL M 199 := sL_ne9 (by decide)
theorem b1_0' (k : Bool) : b1 k = 0 ↔ b1L k = 0 := by
  cases k
  · exact ⟨fun _ => rfl, fun _ => rfl⟩
  · exact ⟨fun h => absurd h (by decide), fun h => absurd h (by decide)⟩
theorem IV.SS (h : IV M n p c) {s : Nat} (hs : s < 6) : SS M 3 (mL M 199) n s := h.2.1.2.2.2.2 s hs
theorem kn_g (h : IV M n p c) {s j i : Nat} (hs : s < 6) (hj : mI M (5 + 2 * s) j = (mL M 199 i).toInt32) {v : Int64} : (if mL (pL M 212 0 v) 199 (4 + s) = 0 then (-1 : Int32) else (mL (pL M 212 0 v) 199 i).toInt32) = (if mI M (5 + 2 * s) 1 = 0 then -1 else mI M (5 + 2 * s) j) := by
  obtain ⟨⟨k, k1, k2⟩, -⟩ := h.SS hs
  rw [show 3 + 2 + 2 * s = 5 + 2 * s by omega] at k1
  rw [L1_9, k2, k1, hj]
  by_cases q : b1 k = 0
  · rw [if_pos q, if_pos ((b1_0' k).mp q)]
  · rw [if_neg q, if_neg (fun e => q ((b1_0' k).mpr e))]
theorem kn_0 (h : IV M n p c) {s : Nat} (hs : s < 6) {v : Int64} : (if mL (pL M 212 0 v) 199 (4 + s) = 0 then (-1 : Int32) else (mL (pL M 212 0 v) 199 (10 + 6 * 0 + s)).toInt32) = (if mI M (5 + 2 * s) 1 = 0 then -1 else mI M (5 + 2 * s) 2) := kn_g h hs (by
  have := (h.SS hs).2.1
  rw [show 3 + 2 + 2 * s = 5 + 2 * s by omega] at this
  exact this)
theorem kn_1 (h : IV M n p c) {s : Nat} (hs : s < 6) {v : Int64} : (if mL (pL M 212 0 v) 199 (4 + s) = 0 then (-1 : Int32) else (mL (pL M 212 0 v) 199 (10 + 6 * 1 + s)).toInt32) = (if mI M (5 + 2 * s) 1 = 0 then -1 else mI M (5 + 2 * s) 3) := kn_g h hs (by
  have := (h.SS hs).2.2.1
  rw [show 3 + 2 + 2 * s = 5 + 2 * s by omega] at this
  exact this)
theorem kn_2 (h : IV M n p c) {s : Nat} (hs : s < 6) {v : Int64} : (if mL (pL M 212 0 v) 199 (4 + s) = 0 then (-1 : Int32) else (mL (pL M 212 0 v) 199 (10 + 6 * 2 + s)).toInt32) = (if mI M (5 + 2 * s) 1 = 0 then -1 else mI M (5 + 2 * s) 4) := kn_g h hs (by
  have := (h.SS hs).2.2.2.1
  rw [show 3 + 2 + 2 * s = 5 + 2 * s by omega] at this
  exact this)
theorem wk_0 (h : IV M n p c) {v : Int64} : (mL (pL M 212 0 v) 199 (2 + 0)).toInt32 = mI M 3 3 := by
  obtain ⟨a, a1, a2⟩ := h.2.1.2.2.1
  rw [L1_9, show 2 + 0 = 2 from rfl, a2, a1, lN_any]
theorem wk_1 (h : IV M n p c) {v : Int64} : (mL (pL M 212 0 v) 199 (2 + 1)).toInt32 = mI M 3 4 := by
  obtain ⟨a, a1, a2⟩ := h.2.1.2.2.2.1
  rw [L1_9, show 2 + 1 = 3 from rfl, a2, a1, lN_any]
/-- which slots are kept -/
def kpB (M : Mem) (s : Nat) : Bool := decide (mI M (5 + 2 * s) 1 = 1)
theorem kpB_ok (h : IV M n p c) {s : Nat} (hs : s < 6) : mI M (5 + 2 * s) 1 = b1 (kpB M s) ∧ mL M 199 (4 + s) = b1L (kpB M s) := by
  obtain ⟨⟨k, k1, k2⟩, -⟩ := h.SS hs
  rw [show 3 + 2 + 2 * s = 5 + 2 * s by omega] at k1
  have e : kpB M s = k := by
    unfold kpB
    rw [k1]
    cases k <;> decide
  rw [e]
  exact ⟨k1, k2⟩
theorem ct_0 (h : IV M n p c) {v : Int64} : (if 0 < 2 then (mL (pL M 212 0 v) 199 0).toInt32 else if (0 : Nat) = 2 then kmI (mL (pL M 212 0 v) 199) 6 else mI (pL M 212 0 v) 198 5) = mI M 3 1 := by
  rw [if_pos (by decide), L1_9, h.2.1.1.2.2.2, h.z, lN_any]
theorem ct_1 (h : IV M n p c) {v : Int64} : (if 1 < 2 then (mL (pL M 212 0 v) 199 1).toInt32 else if (1 : Nat) = 2 then kmI (mL (pL M 212 0 v) 199) 6 else mI (pL M 212 0 v) 198 5) = mI M 3 2 := by
  obtain ⟨a, -, -, a1, a2⟩ := h.2.1.2.1
  rw [if_pos (by decide), L1_9, a2, a1, lN_any]
theorem ct_2 (h : IV M n p c) {v : Int64} : (if 2 < 2 then (mL (pL M 212 0 v) 199 2).toInt32 else if (2 : Nat) = 2 then kmI (mL (pL M 212 0 v) 199) 6 else mI (pL M 212 0 v) 198 5) = nI (keptC M 6) := by
  rw [if_neg (by decide), if_pos rfl, L1_9, km_ok (K := kpB M) 6 (fun s hs => (kpB_ok h hs).2), kc_ok (K := kpB M) 6 (fun s hs => (kpB_ok h hs).1)]
theorem ct_3 (h : IV M n p c) {v : Int64} : (if 3 < 2 then (mL (pL M 212 0 v) 199 3).toInt32 else if (3 : Nat) = 2 then kmI (mL (pL M 212 0 v) 199) 6 else mI (pL M 212 0 v) 198 5) = mI M 0 5 := by
  rw [if_neg (by decide), if_neg (by decide)]
  exact h.2.2.1.2.2.2.2.1.trans h.2.2.1.2.2.1.symm
end
end
-- 5917.wk
section
/-! what goes with an edge, in a desk -/
section
variable {M : Mem} {n p c : Nat}
theorem gl_lo (h : IV M n p c) {s a b : Nat} (hs : s < 6) (ha : a < n) (hb9 : b < n) (h0 : hb (mI M (6 + 2 * s) a) b = true) : ∃ k, k ≤ 1024 ∧ loV M s a b n = nI k ∧ pOv (Am M s) n - pTv (Am M s) n a b = nI k ∧ pTv (Am M s) n a b - pOv (Am M s) n = -nI k := by
  have hn := h.n32
  have hI : IV (lwMem M s a b n) n p c := iv_lwMem h
  have hrow : Am (lwMem M s a b n) s = Am M s := by
    have e := lwMem_ne (M := M) (s := s) (a := a) (b := b) (n := n) (i := 6 + 2 * s) (by omega)
    funext r
    exact congrFun e r
  have hg := cl_rows hI hs
  rw [hrow] at hg
  unfold loV
  rw [show 176 + 2 * s = 175 + 2 * s + 1 by omega]
  refine gl_lB (f := Am M s) (h.wf hs) hg ha hb9 hn h0 (fun r hr => ?_)
  unfold lwMem
  rw [sI_self]
  unfold tnF fun_set
  by_cases e : r = a
  · rw [if_pos e, if_pos e]
    exact clr_x (by omega) h0
  · rw [if_neg e, if_neg e]
    exact wr_lt hr
theorem gl_lq (h : IV M n p c) {s a b : Nat} (hs : s < 6) (ha : a < n) (hb9 : b < n) (h0 : hb (mI M (6 + 2 * s) a) b = true) : pOv (Am M s) n - pTv (Am M s) n a b = loV M s a b n := by
  obtain ⟨k, -, k2, k3, -⟩ := gl_lo h hs ha hb9 h0
  exact k3.trans k2.symm
theorem gl_wi (h : IV M n p c) {s a : Nat} {q : Mem × Int32 × Int32} (hs : s < 6) (ha : a < n) (hq : IV q.1 n p c) (hN : Nr M q.1) (he : q.2 = mtS (Am M s) n true (32 * a)) : ∀ j, j ≤ n → (wkI s n a q j).2 = mtS (Am M s) n true (32 * a + j)
  | 0, _ => he
  | j + 1, hj => by
    have hn := h.n32
    have hj2 : j < n := by omega
    have ih := gl_wi h hs ha hq hN he j (by omega)
    have hI := iv_wkI (a := a) hs hq j
    have hNj := (wkI_nr (n := n) (a := a) hN hs j).2 (6 + 2 * s) (by omega)
    have hge := gl_ge (f := Am M s) (n := n) (bit := true) (32 * a + j)
    show (if wkL (wkI s n a q j).1 s n a j ≤ (wkI s n a q j).2.2 then (wkI s n a q j).2 else (32 * nI a + nI j, wkL (wkI s n a q j).1 s n a j)) = mtS (Am M s) n true (32 * a + j + 1)
    rw [ih, gl_m1 hj2 hn, gl_nu]
    generalize (wkI s n a q j).1 = Mj at *
    have hA : Am Mj s = Am M s := by
      funext r
      exact congrFun hNj r
    generalize mtS (Am M s) n true (32 * a + j) = S at *
    unfold wkL
    rw [hNj]
    by_cases h0 : hb (mI M (6 + 2 * s) a) j = true
    · obtain ⟨k, k1, k2, -, k3⟩ := gl_lo hI hs ha hj2 (by rw [hNj]; exact h0)
      rw [hA] at k3
      have h9 : hb (Am M s a) j = true := h0
      rw [if_pos h0, if_pos h9, k2, k3, gl_a2 k (by omega)]
      by_cases h2 : S.2 < nI k
      · rw [if_pos h2, if_neg (Int32.not_le.mpr h2)]
      · rw [if_neg h2, if_pos (Int32.not_lt.mp h2)]
    · have h9 : ¬ hb (Am M s a) j = true := h0
      rw [if_neg h0, if_pos hge, if_neg h9]
theorem gl_wo (h : IV M n p c) {s : Nat} (hs : s < 6) : ∀ a, a ≤ n → (wkO M s n a).2 = mtS (Am M s) n true (32 * a)
  | 0, _ => rfl
  | a + 1, ha => by
    show (wkI s n a (wkO M s n a) n).2 = _
    rw [gl_m3 h.n32]
    exact gl_wi h hs (by omega) (iv_wkO h hs a) (wkO_nr h.S hs a) (gl_wo h hs a (by omega)) n (Nat.le_refl n)
end
end
-- 592.is
section
/-! calls of both sides, from the invariant to the invariant (592) -/
section
variable {l : Launch} {M : Mem} {n p c : Nat}
theorem sm_bit (h : IV M n p c) (x1 : Int32) (x2 : Int32) (x3 : Int32) : SmI True l jL_bit jX7_bit 10 183 3 18 4 [.ref 0, .int x1, .int x2, .int x3, .ref 212] [.ref 198, .int x1, .int x2, .int x3] M Inv := by
  have hS := h.S
  have hz := h.z
  have hn := h.n32
  have hn1 := h.n1
  by_cases hr : inR x1 6 ∧ inR x2 n ∧ inR x3 n
  · obtain ⟨s, hs, rfl⟩ := inR_of hr.1 (by decide)
    obtain ⟨a, ha, rfl⟩ := inR_of hr.2.1 (by omega)
    obtain ⟨b, hb9, rfl⟩ := inR_of hr.2.2 (by omega)
    have q := q_bit (l := l) hS hz hn hs ha hb9
    have hI := h
    have hc := Cf.rf M
    exact qI hI (w_bit q (shK hS rfl) (shK hI.S rfl)) (n_bit (iv_A h hc) hs ha hb9) (fun e9 => rfl) (rq_thr (Rq.rf _)).1 (t6_thr) ⟨n, p, c, iv_r (iv_1 hI) (rq_thr (Rq.rf _))⟩
  · exact xI h (by decide) (wx_bit (x_bit hS hz hr) (shK hS rfl)) (t_bit h.R hr)

theorem sm_row (h : IV M n p c) (x1 : Int32) (x2 : Int32) : SmJ True l jL_row jX7_row 9 162 2 12 4 [.ref 0, .int x1, .int x2, .ref 212] [.ref 198, .int x1, .int x2] M Inv := by
  have hS := h.S
  have hz := h.z
  have hn := h.n32
  have hn1 := h.n1
  by_cases hr : inR x1 6 ∧ inR x2 n
  · obtain ⟨s, hs, rfl⟩ := inR_of hr.1 (by decide)
    obtain ⟨r, hr2, rfl⟩ := inR_of hr.2 (by omega)
    have q := q_row (l := l) hS hz hn hs hr2
    have hI := h
    have hc := Cf.rf M
    exact qJ hI (w_row q (shK hS rfl) (shK hI.S rfl)) (n_row (iv_A h hc) hs hr2) (fun e9 => (uL_u _).symm) (rq_thr (Rq.rf _)).1 (t6_thr) ⟨n, p, c, iv_r (iv_1 hI) (rq_thr (Rq.rf _))⟩
  · exact xJ h (by decide) (wx_row (x_row hS hz hr) (shK hS rfl)) (t_row h.R hr)

theorem sm_rank (h : IV M n p c) (x1 : Int32) (x2 : Int32) (x3 : Int32) : SmI True l jL_rank jX7_rank 9 163 3 18 4 [.ref 0, .int x1, .int x2, .int x3, .ref 212] [.ref 198, .int x1, .int x2, .int x3] M Inv := by
  have hS := h.S
  have hz := h.z
  have hn := h.n32
  have hn1 := h.n1
  by_cases hr : inR x1 6 ∧ inR x2 n
  · by_cases h3 : ¬ x3 < 0 ∧ x3 ≤ nI n
    · obtain ⟨s, hs, rfl⟩ := inR_of hr.1 (by decide)
      obtain ⟨r, hr2, rfl⟩ := inR_of hr.2 (by omega)
      obtain ⟨c9, hc9, rfl⟩ := nI_le9 h3.1 h3.2 (by omega)
      have q := q_rank (l := l) hS hz hn hs hr2 hc9
      have hI := h
      have hc := Cf.rf M
      exact qI hI (w_rank q (shK hS rfl) (shK hI.S rfl)) (n_rank (iv_A h hc) hs hr2 hc9) (fun e9 => rfl) (rq_thr (Rq.rf _)).1 (t6_thr) ⟨n, p, c, iv_r (iv_1 hI) (rq_thr (Rq.rf _))⟩
    · exact xI h (by decide) (wy_rank (y_rank hS hz hr.1 hr.2 h3) (shK hS rfl)) (u_rank h.R hr.1 hr.2 h3)
  · exact xI h (by decide) (wx_rank (x_rank hS hz hr) (shK hS rfl)) (t_rank h.R hr)

theorem sm_select (h : IV M n p c) (x1 : Int32) (x2 : Int32) (x3 : Int32) : SmI True l jL_select jX7_select 9 163 2 12 4 [.ref 0, .int x1, .int x2, .int x3, .ref 212] [.ref 198, .int x1, .int x2, .int x3] M Inv := by
  have hS := h.S
  have hz := h.z
  have hn := h.n32
  have hn1 := h.n1
  by_cases hr : inR x1 6 ∧ inR x2 n
  · obtain ⟨s, hs, rfl⟩ := inR_of hr.1 (by decide)
    obtain ⟨r, hr2, rfl⟩ := inR_of hr.2 (by omega)
    have q := q_select (l := l) (x := x3) hS hz hn hs hr2
    have hI := h
    have hc := Cf.rf M
    exact qI hI (w_select q (shK hS rfl) (shK hI.S rfl)) (n_select (iv_A h hc) h.wA hs hr2) (fun e9 => rfl) (rq_thr (Rq.rf _)).1 (t6_thr) ⟨n, p, c, iv_r (iv_1 hI) (rq_thr (Rq.rf _))⟩
  · exact xI h (by decide) (wx_select (x_select hS hz hr) (shK hS rfl)) (t_select h.R hr)

theorem sm_ones (h : IV M n p c) (x1 : Int32) : SmI True l jL_ones jX7_ones 8 141 1 6 4 [.ref 0, .int x1, .ref 212] [.ref 198, .int x1] M Inv := by
  have hS := h.S
  have hz := h.z
  have hn := h.n32
  have hn1 := h.n1
  by_cases hr : inR x1 6
  · obtain ⟨s, hs, rfl⟩ := inR_of hr (by decide)
    have q := q_ones (l := l) hS hz hn hs
    have hI := h
    have hc := Cf.rf M
    exact qI hI (w_ones q (shK hS rfl) (shK hI.S rfl)) (n_ones (iv_A h hc) hs) (fun e9 => rfl) (rq_thr (Rq.rf _)).1 (t6_thr) ⟨n, p, c, iv_r (iv_1 hI) (rq_thr (Rq.rf _))⟩
  · exact xI h (by decide) (wx_ones (x_ones hS hr) (shK hS rfl)) (t_ones h.R hr)

theorem sm_columnOnes (h : IV M n p c) (x1 : Int32) (x2 : Int32) : SmI True l jL_columnOnes jX7_columnOnes 9 162 2 12 4 [.ref 0, .int x1, .int x2, .ref 212] [.ref 198, .int x1, .int x2] M Inv := by
  have hS := h.S
  have hz := h.z
  have hn := h.n32
  have hn1 := h.n1
  by_cases hr : inR x1 6 ∧ inR x2 n
  · obtain ⟨s, hs, rfl⟩ := inR_of hr.1 (by decide)
    obtain ⟨r, hr2, rfl⟩ := inR_of hr.2 (by omega)
    have q := q_columnOnes (l := l) hS hz hn hs hr2
    have hI := h
    have hc := Cf.rf M
    exact qI hI (w_columnOnes q (shK hS rfl) (shK hI.S rfl)) (n_columnOnes (iv_A h hc) hs hr2) (fun e9 => (cn_ok hn).symm) (rq_thr (Rq.rf _)).1 (t6_thr) ⟨n, p, c, iv_r (iv_1 hI) (rq_thr (Rq.rf _))⟩
  · exact xI h (by decide) (wx_columnOnes (x_columnOnes hS hz hr) (shK hS rfl)) (t_columnOnes h.R hr)

theorem sm_sameAs (h : IV M n p c) (x1 : Int32) (x2 : Int32) : SmI True l jL_sameAs jX7_sameAs 9 162 2 12 4 [.ref 0, .int x1, .int x2, .ref 212] [.ref 198, .int x1, .int x2] M Inv := by
  have hS := h.S
  have hz := h.z
  have hn := h.n32
  have hn1 := h.n1
  by_cases hr : inR x1 6 ∧ inR x2 n
  · obtain ⟨s, hs, rfl⟩ := inR_of hr.1 (by decide)
    obtain ⟨r, hr2, rfl⟩ := inR_of hr.2 (by omega)
    have q := q_sameAs (l := l) hS hz hn hs hr2
    have hI := h
    have hc := Cf.rf M
    exact qI hI (w_sameAs q (shK hS rfl) (shK hI.S rfl)) (n_sameAs (iv_A h hc) hs hr2) (fun e9 => rfl) (rq_thr (Rq.rf _)).1 (t6_thr) ⟨n, p, c, iv_r (iv_1 hI) (rq_thr (Rq.rf _))⟩
  · exact xI h (by decide) (wx_sameAs (x_sameAs hS hz hr) (shK hS rfl)) (t_sameAs h.R hr)

theorem sm_classOf (h : IV M n p c) (x1 : Int32) (x2 : Int32) : SmI True l jL_classOf jX7_classOf 9 163 2 12 4 [.ref 0, .int x1, .int x2, .ref 212] [.ref 198, .int x1, .int x2] M Inv := by
  have hS := h.S
  have hz := h.z
  have hn := h.n32
  have hn1 := h.n1
  by_cases hr : inR x1 6 ∧ inR x2 n
  · obtain ⟨s, hs, rfl⟩ := inR_of hr.1 (by decide)
    obtain ⟨r, hr2, rfl⟩ := inR_of hr.2 (by omega)
    have q := q_classOf (l := l) hS hz hn hs hr2
    have hI := h
    have hc := Cf.rf M
    exact qI hI (w_classOf q (shK hS rfl) (shK hI.S rfl)) (n_classOf (iv_A h hc) hs hr2) (fun e9 => rfl) (rq_thr (Rq.rf _)).1 (t6_thr) ⟨n, p, c, iv_r (iv_1 hI) (rq_thr (Rq.rf _))⟩
  · exact xI h (by decide) (wx_classOf (x_classOf hS hz hr) (shK hS rfl)) (t_classOf h.R hr)

theorem sm_nearest (h : IV M n p c) (x1 : Int32) (x2 : Int32) : SmI True l jL_nearest jX7_nearest 9 167 2 12 4 [.ref 0, .int x1, .int x2, .ref 212] [.ref 198, .int x1, .int x2] M Inv := by
  have hS := h.S
  have hz := h.z
  have hn := h.n32
  have hn1 := h.n1
  by_cases hr : inR x1 6 ∧ inR x2 n
  · obtain ⟨s, hs, rfl⟩ := inR_of hr.1 (by decide)
    obtain ⟨r, hr2, rfl⟩ := inR_of hr.2 (by omega)
    have q := q_nearest (l := l) hS hz hn hs hr2
    have hI := h
    have hc := Cf.rf M
    exact qI hI (w_nearest q (shK hS rfl) (shK hI.S rfl)) (n_nearest (iv_A h hc) hs hr2) (fun e9 => rfl) (rq_thr (Rq.rf _)).1 (t6_thr) ⟨n, p, c, iv_r (iv_1 hI) (rq_thr (Rq.rf _))⟩
  · exact xI h (by decide) (wx_nearest (x_nearest hS hz hr) (shK hS rfl)) (t_nearest h.R hr)

theorem sm_classes (h : IV M n p c) (x1 : Int32) : SmI True l jL_classes jX7_classes 8 141 1 6 4 [.ref 0, .int x1, .ref 212] [.ref 198, .int x1] M Inv := by
  have hS := h.S
  have hz := h.z
  have hn := h.n32
  have hn1 := h.n1
  by_cases hr : inR x1 6
  · obtain ⟨s, hs, rfl⟩ := inR_of hr (by decide)
    have q := q_classes (l := l) hS hz hn hs
    have hI := h
    have hc := Cf.rf M
    exact qI hI (w_classes q (shK hS rfl) (shK hI.S rfl)) (n_classes (iv_A h hc) hs) (fun e9 => rfl) (rq_thr (Rq.rf _)).1 (t6_thr) ⟨n, p, c, iv_r (iv_1 hI) (rq_thr (Rq.rf _))⟩
  · exact xI h (by decide) (wx_classes (x_classes hS hr) (shK hS rfl)) (t_classes h.R hr)

theorem sm_find (h : IV M n p c) (x1 : Int32) (x2 : Int64) : SmI True l jL_find jX7_find 8 143 1 6 4 [.ref 0, .int x1, .long x2, .ref 212] [.ref 198, .int x1, .long x2] M Inv := by
  have hS := h.S
  have hz := h.z
  have hn := h.n32
  have hn1 := h.n1
  by_cases hr : inR x1 6
  · obtain ⟨s, hs, rfl⟩ := inR_of hr (by decide)
    have q := q_find (l := l) (x := x2) hS hz hn hs
    have hI := h
    have hc := Cf.rf M
    exact qI hI (w_find q (shK hS rfl) (shK hI.S rfl)) (n_find (iv_A h hc) hs) (fun e9 => rfl) (rq_thr (Rq.rf _)).1 (t6_thr) ⟨n, p, c, iv_r (iv_1 hI) (rq_thr (Rq.rf _))⟩
  · exact xI h (by decide) (wx_find (x_find hS hr) (shK hS rfl)) (t_find h.R hr)

theorem sm_density (h : IV M n p c) (x1 : Int32) : SmD True l jL_density jX7_density 9 171 1 6 4 [.ref 0, .int x1, .ref 213] [.ref 198, .int x1] M Inv := by
  have hS := h.S
  have hz := h.z
  have hn := h.n32
  have hn1 := h.n1
  by_cases hr : inR x1 6
  · obtain ⟨s, hs, rfl⟩ := inR_of hr (by decide)
    have q := q_density (l := l) hS hz hn1 hn hs
    have hI := h
    have hc := Cf.rf M
    exact qD hI (cmp_self64 (dns_le hn1 hn)) (w_density q (shK hS rfl) (shK hI.S rfl)) (n_density (iv_B h hc) hs) (fun e9 => rfl) (rq_thr (Rq.rf _)).1 (t6_thr) ⟨n, p, c, iv_r (iv_2 hI) (rq_thr (Rq.rf _))⟩
  · exact xD h (by decide) (wx_density (x_density hS hr) (shK hS rfl)) (t_density h.R hr)

theorem sm_isSymmetric (h : IV M n p c) (x1 : Int32) : SmZ True l jL_isSymmetric jX7_isSymmetric 8 143 1 6 4 [.ref 0, .int x1, .ref 212] [.ref 198, .int x1] M Inv := by
  have hS := h.S
  have hz := h.z
  have hn := h.n32
  have hn1 := h.n1
  by_cases hr : inR x1 6
  · obtain ⟨s, hs, rfl⟩ := inR_of hr (by decide)
    have q := q_isSymmetric (l := l) hS hz hn hs
    have hI := h
    have hc := Cf.rf M
    exact qZ hI (w_isSymmetric q (shK hS rfl) (shK hI.S rfl)) (n_isSymmetric (iv_A h hc) hs (sm_ok (h.wf hs) hn)) (fun e9 => rfl) (rq_thr (Rq.rf _)).1 (t6_thr) ⟨n, p, c, iv_r (iv_1 hI) (rq_thr (Rq.rf _))⟩
  · exact xZ (b := false) h (by decide) (wx_isSymmetric (x_isSymmetric hS hr) (shK hS rfl)) (t_isSymmetric h.R hr)

theorem sm_order (h : IV M n p c) (x1 : Int32) (x2 : Int32) : SmI True l jL_order jX7_order 8 146 1 6 4 [.ref 0, .int x1, .int x2, .ref 212] [.ref 198, .int x1, .int x2] M Inv := by
  have hS := h.S
  have hz := h.z
  have hn := h.n32
  have hn1 := h.n1
  by_cases hr : inR x1 6
  · obtain ⟨s, hs, rfl⟩ := inR_of hr (by decide)
    have q := q_order (l := l) (x := x2) hS hz hn hs
    have hI := h
    have hc := Cf.rf M
    exact qI hI (w_order q (shK hS rfl) (shK hI.S rfl)) (n_order (iv_A h hc) hs) (fun e9 => rfl) (rq_thr (Rq.rf _)).1 (t6_thr) ⟨n, p, c, iv_r (iv_1 hI) (rq_thr (Rq.rf _))⟩
  · exact xI h (by decide) (wx_order (x_order hS hr) (shK hS rfl)) (t_order h.R hr)

theorem sm_triangles (h : IV M n p c) (x1 : Int32) : SmI True l jL_triangles jX7_triangles 8 146 1 6 4 [.ref 0, .int x1, .ref 212] [.ref 198, .int x1] M Inv := by
  have hS := h.S
  have hz := h.z
  have hn := h.n32
  have hn1 := h.n1
  by_cases hr : inR x1 6
  · obtain ⟨s, hs, rfl⟩ := inR_of hr (by decide)
    have q := q_triangles (l := l) hS hz hn hs
    have hI := h
    have hc := Cf.rf M
    exact qI hI (w_triangles q (shK hS rfl) (shK hI.S rfl)) (n_triangles (iv_A h hc) hs) (fun e9 => rfl) (rq_thr (Rq.rf _)).1 (t6_thr) ⟨n, p, c, iv_r (iv_1 hI) (rq_thr (Rq.rf _))⟩
  · exact xI h (by decide) (wx_triangles (x_triangles hS hr) (shK hS rfl)) (t_triangles h.R hr)

end
end
-- 593.is
section
/-! calls of both sides, from the invariant to the invariant (593) -/
section
variable {l : Launch} {M : Mem} {n p c : Nat}
theorem sm_reaches (h : IV M n p c) (x1 : Int32) (x2 : Int32) (x3 : Int32) : SmI True l jL_reaches jX7_reaches 10 183 3 18 4 [.ref 0, .int x1, .int x2, .int x3, .ref 212] [.ref 198, .int x1, .int x2, .int x3] M Inv := by
  have hS := h.S
  have hz := h.z
  have hn := h.n32
  have hn1 := h.n1
  by_cases hr : inR x1 6 ∧ inR x2 n ∧ inR x3 n
  · obtain ⟨s, hs, rfl⟩ := inR_of hr.1 (by decide)
    obtain ⟨a, ha, rfl⟩ := inR_of hr.2.1 (by omega)
    obtain ⟨b, hb9, rfl⟩ := inR_of hr.2.2 (by omega)
    have q := q_reaches (l := l) hS hz hn hs ha hb9
    have hI := iv_clOf h hs
    have hc := cf_clOf (M := M) (n := n) hs
    exact qI hI (w_reaches q (shK hS rfl) (shK hI.S rfl)) (n_reaches (iv_A h hc) hs ha hb9) (fun e9 => by rw [cl_rows h hs a ha]) (rq_hdM (Or.inl rfl) (rq_thr (Rq.rf _))).1 (t6_hdM t6_thr) ⟨n, p, c, iv_r (iv_1 hI) (rq_hdM (Or.inl rfl) (rq_thr (Rq.rf _)))⟩
  · exact xI h (by decide) (wx_reaches (x_reaches hS hz hr) (shK hS rfl)) (t_reaches h.R hr)

theorem sm_reached (h : IV M n p c) (x1 : Int32) (x2 : Int32) : SmI True l jL_reached jX7_reached 9 162 2 12 4 [.ref 0, .int x1, .int x2, .ref 212] [.ref 198, .int x1, .int x2] M Inv := by
  have hS := h.S
  have hz := h.z
  have hn := h.n32
  have hn1 := h.n1
  by_cases hr : inR x1 6 ∧ inR x2 n
  · obtain ⟨s, hs, rfl⟩ := inR_of hr.1 (by decide)
    obtain ⟨r, hr2, rfl⟩ := inR_of hr.2 (by omega)
    have q := q_reached (l := l) hS hz hn hs hr2
    have hI := iv_clOf h hs
    have hc := cf_clOf (M := M) (n := n) hs
    exact qI hI (w_reached q (shK hS rfl) (shK hI.S rfl)) (n_reached (iv_A h hc) hs hr2) (fun e9 => by rw [cl_rows h hs r hr2]) (rq_hdM (Or.inl rfl) (rq_thr (Rq.rf _))).1 (t6_hdM t6_thr) ⟨n, p, c, iv_r (iv_1 hI) (rq_hdM (Or.inl rfl) (rq_thr (Rq.rf _)))⟩
  · exact xI h (by decide) (wx_reached (x_reached hS hz hr) (shK hS rfl)) (t_reached h.R hr)

theorem sm_pairs (h : IV M n p c) (x1 : Int32) : SmI True l jL_pairs jX7_pairs 8 141 1 6 4 [.ref 0, .int x1, .ref 212] [.ref 198, .int x1] M Inv := by
  have hS := h.S
  have hz := h.z
  have hn := h.n32
  have hn1 := h.n1
  by_cases hr : inR x1 6
  · obtain ⟨s, hs, rfl⟩ := inR_of hr (by decide)
    have q := q_pairs (l := l) hS hz hn hs
    have hI := iv_clOf h hs
    have hc := cf_clOf (M := M) (n := n) hs
    exact qI hI (w_pairs q (shK hS rfl) (shK hI.S rfl)) (n_pairs (iv_A h hc) hs) (fun e9 => on_cg (fun r hr9 => (cl_rows h hs r hr9).symm)) (rq_hdM (Or.inl rfl) (rq_thr (Rq.rf _))).1 (t6_hdM t6_thr) ⟨n, p, c, iv_r (iv_1 hI) (rq_hdM (Or.inl rfl) (rq_thr (Rq.rf _)))⟩
  · exact xI h (by decide) (wx_pairs (x_pairs hS hr) (shK hS rfl)) (t_pairs h.R hr)

theorem sm_meanReach (h : IV M n p c) (x1 : Int32) : SmF True l jL_meanReach jX7_meanReach 9 171 1 6 4 [.ref 0, .int x1, .ref 213] [.ref 198, .int x1] M Inv := by
  have hS := h.S
  have hz := h.z
  have hn := h.n32
  have hn1 := h.n1
  by_cases hr : inR x1 6
  · obtain ⟨s, hs, rfl⟩ := inR_of hr (by decide)
    have hle := mrc_le (f := mI (clOf M s n) (175 + 2 * s + 1)) (n := n) hn1 hn
    have q := q_meanReach (l := l) hS hz hn1 hn hs
    have hI := iv_clOf h hs
    have hc := cf_clOf (M := M) (n := n) hs
    exact qF hI (cmp_self64 (f2d_le hle)) (n64_le (f2d_le hle)) (w_meanReach q (shK hS rfl) (shK hI.S rfl) (n64_le (f2d_le hle))) (n_meanReach (iv_B h hc) hs) (fun e9 => by rw [on_cg (f := wOut (Am M s) n n) (fun r hr9 => (cl_rows h hs r hr9).symm)]) (rq_hdM (Or.inl rfl) (rq_thr (Rq.rf _))).1 (t6_hdM t6_thr) ⟨n, p, c, iv_r (iv_2 hI) (rq_hdM (Or.inl rfl) (rq_thr (Rq.rf _)))⟩
  · exact xF h (by decide) (wx_meanReach (x_meanReach hS hr) (shK hS rfl)) (t_meanReach h.R hr)

theorem sm_component (h : IV M n p c) (x1 : Int32) (x2 : Int32) : SmI True l jL_component jX7_component 9 162 2 12 4 [.ref 0, .int x1, .int x2, .ref 212] [.ref 198, .int x1, .int x2] M Inv := by
  have hS := h.S
  have hz := h.z
  have hn := h.n32
  have hn1 := h.n1
  by_cases hr : inR x1 6 ∧ inR x2 n
  · obtain ⟨s, hs, rfl⟩ := inR_of hr.1 (by decide)
    obtain ⟨r, hr2, rfl⟩ := inR_of hr.2 (by omega)
    have q := q_component (l := l) hS hz hn hs hr2
    have hI := iv_clOf h hs
    have hc := cf_clOf (M := M) (n := n) hs
    exact qI hI (w_component q (shK hS rfl) (shK hI.S rfl)) (n_component (iv_A h hc) hs hr2) (fun e9 => by rw [lm_cg hr2 (fun i hi => (cl_rows h hs i hi).symm)]) (rq_hdM (Or.inl rfl) (rq_thr (Rq.rf _))).1 (t6_hdM t6_thr) ⟨n, p, c, iv_r (iv_1 hI) (rq_hdM (Or.inl rfl) (rq_thr (Rq.rf _)))⟩
  · exact xI h (by decide) (wx_component (x_component hS hz hr) (shK hS rfl)) (t_component h.R hr)

theorem sm_components (h : IV M n p c) (x1 : Int32) : SmI True l jL_components jX7_components 8 144 1 6 4 [.ref 0, .int x1, .ref 212] [.ref 198, .int x1] M Inv := by
  have hS := h.S
  have hz := h.z
  have hn := h.n32
  have hn1 := h.n1
  by_cases hr : inR x1 6
  · obtain ⟨s, hs, rfl⟩ := inR_of hr (by decide)
    have q := q_components (l := l) hS hz hn hs
    have hI := iv_clOf h hs
    have hc := cf_clOf (M := M) (n := n) hs
    exact qI hI (w_components q (shK hS rfl) (shK hI.S rfl)) (n_components (iv_A h hc) hs) (fun e9 => cm_cg n (Nat.le_refl n) (fun i hi => (cl_rows h hs i hi).symm)) (rq_hdM (Or.inl rfl) (rq_thr (Rq.rf _))).1 (t6_hdM t6_thr) ⟨n, p, c, iv_r (iv_1 hI) (rq_hdM (Or.inl rfl) (rq_thr (Rq.rf _)))⟩
  · exact xI h (by decide) (wx_components (x_components hS hr) (shK hS rfl)) (t_components h.R hr)

end
end
-- 594.is
section
/-! calls of both sides, from the invariant to the invariant (594) -/
section
variable {l : Launch} {M : Mem} {n p c : Nat}
theorem sm_distance (h : IV M n p c) (x1 : Int32) (x2 : Int32) (x3 : Int32) : SmI True l jL_distance jX7_distance 10 183 3 18 4 [.ref 0, .int x1, .int x2, .int x3, .ref 212] [.ref 198, .int x1, .int x2, .int x3] M Inv := by
  have hS := h.S
  have hz := h.z
  have hn := h.n32
  have hn1 := h.n1
  by_cases hr : inR x1 6 ∧ inR x2 n ∧ inR x3 n
  · obtain ⟨s, hs, rfl⟩ := inR_of hr.1 (by decide)
    obtain ⟨a, ha, rfl⟩ := inR_of hr.2.1 (by omega)
    obtain ⟨b, hb9, rfl⟩ := inR_of hr.2.2 (by omega)
    have q := q_distance (l := l) hS hz hn hs ha hb9
    have hI := h
    have hc := Cf.rf M
    exact qI hI (w_distance q (shK hS rfl) (shK hI.S rfl)) (n_distance (iv_A h hc) hs ha hb9) (fun e9 => (wy_ds ha hb9 hn).symm) (rq_farM (rq_thr (Rq.rf _))).1 (t6_farM t6_thr) ⟨n, p, c, iv_r (iv_1 hI) (rq_farM (rq_thr (Rq.rf _)))⟩
  · exact xI h (by decide) (wx_distance (x_distance hS hz hr) (shK hS rfl)) (t_distance h.R hr)

theorem sm_around (h : IV M n p c) (x1 : Int32) (x2 : Int32) : SmI True l jL_around jX7_around 9 162 2 12 4 [.ref 0, .int x1, .int x2, .ref 212] [.ref 198, .int x1, .int x2] M Inv := by
  have hS := h.S
  have hz := h.z
  have hn := h.n32
  have hn1 := h.n1
  by_cases hr : inR x1 6 ∧ inR x2 n
  · obtain ⟨s, hs, rfl⟩ := inR_of hr.1 (by decide)
    obtain ⟨r, hr2, rfl⟩ := inR_of hr.2 (by omega)
    have q := q_around (l := l) hS hz hn hs hr2
    have hI := h
    have hc := Cf.rf M
    exact qI hI (w_around q (shK hS rfl) (shK hI.S rfl)) (n_around (iv_A h hc) hs hr2) (fun e9 => (wy_af hr2 hn).symm) (rq_farM (rq_thr (Rq.rf _))).1 (t6_farM t6_thr) ⟨n, p, c, iv_r (iv_1 hI) (rq_farM (rq_thr (Rq.rf _)))⟩
  · exact xI h (by decide) (wx_around (x_around hS hz hr) (shK hS rfl)) (t_around h.R hr)

theorem sm_girth (h : IV M n p c) (x1 : Int32) : SmI True l jL_girth jX7_girth 8 144 1 6 4 [.ref 0, .int x1, .ref 212] [.ref 198, .int x1] M Inv := by
  have hS := h.S
  have hz := h.z
  have hn := h.n32
  have hn1 := h.n1
  by_cases hr : inR x1 6
  · obtain ⟨s, hs, rfl⟩ := inR_of hr (by decide)
    have q := q_girth (l := l) hS hz hn hs
    have hI := h
    have hc := Cf.rf M
    exact qI hI (w_girth q (shK hS rfl) (shK hI.S rfl)) (n_girth (iv_A h hc) hs) (fun e9 => (wy_gi hn n (Nat.le_refl n)).symm) (rq_gfM (rq_thr (Rq.rf _)) n).1 (t6_gfM t6_thr n) ⟨n, p, c, iv_r (iv_1 hI) (rq_gfM (rq_thr (Rq.rf _)) n)⟩
  · exact xI h (by decide) (wx_girth (x_girth hS hr) (shK hS rfl)) (t_girth h.R hr)

theorem sm_gained (h : IV M n p c) (x1 : Int32) (x2 : Int32) (x3 : Int32) : SmI True l jL_gained jX7_gained 10 184 3 18 4 [.ref 0, .int x1, .int x2, .int x3, .ref 212] [.ref 198, .int x1, .int x2, .int x3] M Inv := by
  have hS := h.S
  have hz := h.z
  have hn := h.n32
  have hn1 := h.n1
  by_cases hr : inR x1 6 ∧ inR x2 n ∧ inR x3 n
  · obtain ⟨s, hs, rfl⟩ := inR_of hr.1 (by decide)
    obtain ⟨a, ha, rfl⟩ := inR_of hr.2.1 (by omega)
    obtain ⟨b, hb9, rfl⟩ := inR_of hr.2.2 (by omega)
    have q := q_gained (l := l) hS hz hn hs ha hb9
    have hI := iv_clOf h hs
    have hc := cf_clOf (M := M) (n := n) hs
    have hR := fun v => iv_A (v := v) h hc
    by_cases hb0 : hb (Am M s a) b = true
    · have n3 := fun v => n_gained (l := l) (hR v) hs ha hb9
      simp only [if_pos hb0] at n3
      exact qI hI (w_gained q (shK hS rfl) (shK hI.S rfl)) (n3 _) (fun e9 => (gl_g0 (f := Am M s) (h.wf hs) (cl_rows h hs) ha hb9 hn hb0 n (Nat.le_refl n)).symm) (rq_thr (Rq.rf _)).1 (t6_thr) ⟨n, p, c, iv_r (iv_1 hI) (rq_thr (Rq.rf _))⟩
    · have n3 := fun v => n_gained (l := l) (hR v) hs ha hb9
      simp only [if_neg hb0] at n3
      exact qI hI (w_gained q (shK hS rfl) (shK hI.S rfl)) (n3 _) (fun e9 => gl_gq (f := Am M s) (h.wf hs) (cl_rows h hs) ha hb9 hn (Bool.eq_false_iff.mpr hb0)) (rq_hdM (Or.inl rfl) (rq_thr (Rq.rf _))).1 (t6_hdM t6_thr) ⟨n, p, c, iv_r (iv_1 hI) (rq_hdM (Or.inl rfl) (rq_thr (Rq.rf _)))⟩
  · exact xI h (by decide) (wx_gained (x_gained hS hz hr) (shK hS rfl)) (t_gained h.R hr)

theorem sm_lost (h : IV M n p c) (x1 : Int32) (x2 : Int32) (x3 : Int32) : SmI True l jL_lost jX7_lost 10 213 3 18 4 [.ref 0, .int x1, .int x2, .int x3, .ref 212] [.ref 198, .int x1, .int x2, .int x3] M Inv := by
  have hS := h.S
  have hz := h.z
  have hn := h.n32
  have hn1 := h.n1
  by_cases hr : inR x1 6 ∧ inR x2 n ∧ inR x3 n
  · obtain ⟨s, hs, rfl⟩ := inR_of hr.1 (by decide)
    obtain ⟨a, ha, rfl⟩ := inR_of hr.2.1 (by omega)
    obtain ⟨b, hb9, rfl⟩ := inR_of hr.2.2 (by omega)
    have q := q_lost (l := l) hS hz hn hs ha hb9
    by_cases hb0 : hb (Am M s a) b = true
    · rw [if_pos hb0, if_pos hb0] at q
      have hI := iv_loM (a := a) (b := b) h hs
      have hc := cf_loM (M := M) (a := a) (b := b) (n := n) hs
      have n3 := fun v => n_lost (l := l) (iv_A (v := v) h hc) hs ha hb9
      simp only [if_pos hb0] at n3
      exact qI hI (w_lost q (shK hS rfl) (shK hI.S rfl)) (n3 _) (fun e9 => gl_lq h hs ha hb9 hb0) (rq_hdM (Or.inl rfl) (rq_thr (Rq.rf _))).1 (t6_hdM t6_thr) ⟨n, p, c, iv_r (iv_1 hI) (rq_hdM (Or.inl rfl) (rq_thr (Rq.rf _)))⟩
    · rw [if_neg hb0, if_neg hb0] at q
      have n3 := fun v => n_lost (l := l) (iv_A (v := v) h (Cf.rf M)) hs ha hb9
      simp only [if_neg hb0] at n3
      exact qI h (w_lost q (shK hS rfl) (shK hS rfl)) (n3 _) (fun e9 => rfl) (rq_thr (Rq.rf _)).1 (t6_thr) ⟨n, p, c, iv_r (iv_1 h) (rq_thr (Rq.rf _))⟩
  · exact xI h (by decide) (wx_lost (x_lost hS hz hr) (shK hS rfl)) (t_lost h.R hr)

theorem sm_bestEdge (h : IV M n p c) (x1 : Int32) : SmI True l jL_bestEdge jX7_bestEdge 8 169 1 6 5 [.ref 0, .int x1, .ref 212] [.ref 198, .int x1] M Inv := by
  have hS := h.S
  have hz := h.z
  have hn := h.n32
  have hn1 := h.n1
  by_cases hr : inR x1 6
  · obtain ⟨s, hs, rfl⟩ := inR_of hr (by decide)
    have q := q_bestEdge (l := l) hS hz hn hs
    have hI := iv_clOf h hs
    have hc := cf_clOf (M := M) (n := n) hs
    exact qI hI (w_bestEdge q (shK hS rfl) (shK hI.S rfl)) (n_bestEdge (iv_A h hc) hs) (fun e9 => congrArg Prod.fst (gl_be (f := Am M s) (h.wf hs) (cl_rows h hs) hn n (Nat.le_refl n)).symm) (rq_hdM (Or.inl rfl) (rq_thr (Rq.rf _))).1 (t6_hdM t6_thr) ⟨n, p, c, iv_r (iv_1 hI) (rq_hdM (Or.inl rfl) (rq_thr (Rq.rf _)))⟩
  · exact xI h (by decide) (wx_bestEdge (x_bestEdge hS hr) (shK hS rfl)) (t_bestEdge h.R hr)

theorem sm_weakest (h : IV M n p c) (x1 : Int32) : SmI True l jL_weakest jX7_weakest 8 217 1 6 5 [.ref 0, .int x1, .ref 212] [.ref 198, .int x1] M Inv := by
  have hS := h.S
  have hz := h.z
  have hn := h.n32
  have hn1 := h.n1
  by_cases hr : inR x1 6
  · obtain ⟨s, hs, rfl⟩ := inR_of hr (by decide)
    have q := q_weakest (l := l) hS hz hn hs
    have hI := iv_wkO h hs n
    have hc := cf_wkO (M := M) (n := n) hs n
    exact qI hI (w_weakest q (shK hS rfl) (shK hI.S rfl)) (n_weakest (iv_A h hc) hs) (fun e9 => congrArg Prod.fst (gl_wo h hs n (Nat.le_refl n)).symm) (rq_hdM (Or.inl rfl) (rq_thr (Rq.rf _))).1 (t6_hdM t6_thr) ⟨n, p, c, iv_r (iv_1 hI) (rq_hdM (Or.inl rfl) (rq_thr (Rq.rf _)))⟩
  · exact xI h (by decide) (wx_weakest (x_weakest hS hr) (shK hS rfl)) (t_weakest h.R hr)

theorem ds_n {f : Nat → Int32} {b n : Nat} (hn : n ≤ 32) : ∀ d e x, e + d = n + 1 → 1 ≤ e → feF f b n d e x = -1 ∨ ∃ k, k ≤ n ∧ feF f b n d e x = nI k
  | 0, _, _, _, _ => Or.inl rfl
  | d + 1, e, x, h1, h2 => by
    unfold feF
    split
    · exact Or.inr ⟨e, by omega, rfl⟩
    · exact ds_n hn d (e + 1) _ (by omega) (by omega)
theorem dsV_n {f : Nat → Int32} {a b n : Nat} (hn : n ≤ 32) : dsV f a b n = -1 ∨ ∃ k, k ≤ n ∧ dsV f a b n = nI k := by
  unfold dsV
  split
  · exact Or.inr ⟨0, Nat.zero_le _, rfl⟩
  · exact ds_n hn n 1 _ (by omega) (Nat.le_refl 1)
theorem fs_n {P : Nat → Bool} : ∀ m, fstI P m = -1 ∨ ∃ k, k < m ∧ fstI P m = nI k
  | 0 => Or.inl rfl
  | m + 1 => by
    unfold fstI
    split
    · split
      · exact Or.inr ⟨m, Nat.lt_succ_self m, rfl⟩
      · exact Or.inl rfl
    · rcases fs_n (P := P) m with h | ⟨k, h1, h2⟩
      · exact Or.inl h
      · exact Or.inr ⟨k, by omega, h2⟩
theorem stepM (h : IV M n p c) {s a b : Nat} (x : Int32) (hs : s < 6) (ha : a < n) (hb9 : b < n) : ∃ (M1 : Mem) (v : Int32), EvR l jX6_stepAt 10 190 3 18 [.ref 0, .int (nI s), .int (nI a), .int (nI b), .int x] M (.inl (some (.int v))) M1 ∧ IV M1 n p c ∧ Cf M M1 := by
  by_cases hx : ¬ x < 0 ∧ x ≤ dsV (mI M (6 + 2 * s)) a b n
  · rcases dsV_n (f := mI M (6 + 2 * s)) (a := a) (b := b) h.n32 with e | ⟨k, k1, k2⟩
    · rw [e] at hx
      exact absurd (Int32.lt_of_le_of_lt hx.2 (by decide)) hx.1
    · have h32 := h.n32
      rw [k2] at hx
      obtain ⟨j, hj, rfl⟩ := nI_le9 hx.1 hx.2 (by omega)
      exact ⟨_, _, q_stepAt h.S h.z h.n32 hs ha hb9 k2 k1 hj, iv_spM h, cf_spM⟩
  · exact ⟨_, _, v_stepAt h.S h.z h.n32 hs ha hb9 hx, h, Cf.rf M⟩
theorem stepR {M1 : Mem} {A : Nat → Nat → Int32} (h : Rr M1 n A) (hn : n ≤ 32) {s a b : Nat} (x : Int32) (hs : s < 6) (ha : a < n) (hb9 : b < n) : ∃ v : Int32, EvR l jX7_stepAt 4 160 0 0 [.ref 198, .int (nI s), .int (nI a), .int (nI b), .int x] M1 (.inl (some (.int v))) (farM (thr M1 0) (A s) n b) := by
  by_cases hx : 0 ≤ x ∧ x ≤ farF (A s) n b n a
  · rcases fs_n (P := fun m => wkB (A s) n b m a) n with e | ⟨k, k1, k2⟩
    · have e2 : farF (A s) n b n a = -1 := e
      rw [e2] at hx
      exact absurd (Int32.lt_of_le_of_lt hx.2 (by decide)) (Int32.not_lt.mpr hx.1)
    · have k3 : farF (A s) n b n a = nI k := k2
      rw [k3] at hx
      obtain ⟨j, hj, rfl⟩ := nI_le9 (Int32.not_lt.mpr hx.1) hx.2 (by omega)
      exact ⟨_, n_stepAt h hs ha hb9 k3 k1 hj⟩
  · exact ⟨_, o_stepAt h hs ha hb9 hx⟩
theorem stepB (h : IV M n p c) {s a b : Nat} (x : Int32) (hs : s < 6) (ha : a < n) (hb9 : b < n) : ∃ (M1 : Mem) (v : Int32), EvR l jX6_stepAt 10 190 3 18 [.ref 0, .int (nI s), .int (nI a), .int (nI b), .int x] M (.inl (some (.int v))) M1 ∧ IV M1 n p c ∧ Cf M M1 ∧ ∀ M2, Rr M2 n (Am M) → EvR l jX7_stepAt 4 160 0 0 [.ref 198, .int (nI s), .int (nI a), .int (nI b), .int x] M2 (.inl (some (.int v))) (farM (thr M2 0) (Am M s) n b) := by
  have hn := h.n32
  have e : dsV (mI M (6 + 2 * s)) a b n = farF (Am M s) n b n a := wy_ds ha hb9 hn
  by_cases hx : ¬ x < 0 ∧ x ≤ dsV (mI M (6 + 2 * s)) a b n
  · have hx2 := hx.2
    rcases fs_n (P := fun m => wkB (Am M s) n b m a) n with q | ⟨k, k1, q⟩
    · have q : farF (Am M s) n b n a = -1 := q
      rw [e, q] at hx2
      exact absurd (Int32.lt_of_le_of_lt hx2 (by decide)) hx.1
    · have q : farF (Am M s) n b n a = nI k := q
      have e2 := e.trans q
      rw [e2] at hx2
      obtain ⟨j, hj, rfl⟩ := nI_le9 hx.1 hx2 (by omega)
      have hL := ((wy_far hn (by omega)).mp q).2
      have h1 := (wy_nd ha hb9 hn hL j hj).1
      refine ⟨_, _, q_stepAt (l := l) h.S h.z hn hs ha hb9 e2 (by omega) hj, iv_spM h, cf_spM, fun M2 h2 => ?_⟩
      have n3 := n_stepAt (l := l) h2 hs ha hb9 q k1 hj
      rw [← h1] at n3
      exact n3
  · refine ⟨_, _, v_stepAt h.S h.z h.n32 hs ha hb9 hx, h, Cf.rf M, fun M2 h2 => ?_⟩
    exact o_stepAt h2 hs ha hb9 (fun h3 => hx ⟨Int32.not_lt.mpr h3.1, by rw [e]; exact h3.2⟩)
theorem sm_stepAt (h : IV M n p c) (x1 : Int32) (x2 : Int32) (x3 : Int32) (x4 : Int32) : SmI True l jL_stepAt jX7_stepAt 11 218 3 18 4 [.ref 0, .int x1, .int x2, .int x3, .int x4, .ref 212] [.ref 198, .int x1, .int x2, .int x3, .int x4] M Inv := by
  have hS := h.S
  have hz := h.z
  have hn := h.n32
  have hn1 := h.n1
  by_cases hr : inR x1 6 ∧ inR x2 n ∧ inR x3 n
  · obtain ⟨s, hs, rfl⟩ := inR_of hr.1 (by decide)
    obtain ⟨a, ha, rfl⟩ := inR_of hr.2.1 (by omega)
    obtain ⟨b, hb9, rfl⟩ := inR_of hr.2.2 (by omega)
    obtain ⟨M1, v, q, hI, hc, n3⟩ := stepB (l := l) h x4 hs ha hb9
    exact qI hI (w_stepAt q (shK hS rfl) (shK hI.S rfl)) (n3 _ (iv_A (v := v.toInt64) h hc)) (fun _ => rfl) (rq_farM (rq_thr (Rq.rf _))).1 (t6_farM t6_thr) ⟨n, p, c, iv_r (iv_1 hI) (rq_farM (rq_thr (Rq.rf _)))⟩
  · exact xI h (by decide) (wx_stepAt (x_stepAt hS hz hr) (shK hS rfl)) (t_stepAt h.R hr)

end
end
-- 595.is
section
/-! calls of both sides, from the invariant to the invariant (595) -/
section
variable {l : Launch} {M : Mem} {n p c : Nat}
theorem sm_fieldRank (h : IV M n p c) (x1 : Int32) : SmI True l jL_fieldRank jX7_fieldRank 8 171 1 6 4 [.ref 0, .int x1, .ref 212] [.ref 198, .int x1] M Inv := by
  have hS := h.S
  have hz := h.z
  have hn := h.n32
  have hn1 := h.n1
  by_cases hr : inR x1 6
  · obtain ⟨s, hs, rfl⟩ := inR_of hr (by decide)
    have q := q_fieldRank (l := l) hS hz hn hs
    have hI := iv_elMem h (elQ M s n 0)
    have hc := cf_elMem (M := M) (s := elQ M s n 0)
    exact qI hI (w_fieldRank q (shK hS rfl) (shK hI.S rfl)) (n_fieldRank (iv_A h hc) (iv_1 hI).2.2.2.2.2.2.2.1 hs) (fun e9 => rk_E) (rq_rbM (rq_thr (Rq.rf _))).1 (t6_rbM t6_thr) ⟨n, p, c, iv_r (iv_1 hI) (rq_rbM (rq_thr (Rq.rf _)))⟩
  · exact xI h (by decide) (wx_fieldRank (x_fieldRank hS hr) (shK hS rfl)) (t_fieldRank h.R hr)

theorem sm_pivot (h : IV M n p c) (x1 : Int32) (x2 : Int32) : SmI True l jL_pivot jX7_pivot 8 172 1 6 4 [.ref 0, .int x1, .int x2, .ref 212] [.ref 198, .int x1, .int x2] M Inv := by
  have hS := h.S
  have hz := h.z
  have hn := h.n32
  have hn1 := h.n1
  by_cases hr : inR x1 6
  · obtain ⟨s, hs, rfl⟩ := inR_of hr (by decide)
    have q := q_pivot (l := l) (x := x2) hS hz hn hs
    have hI := iv_elMem h (elQ M s n 0)
    have hc := cf_elMem (M := M) (s := elQ M s n 0)
    exact qI hI (w_pivot q (shK hS rfl) (shK hI.S rfl)) (n_pivot (iv_A h hc) (iv_1 hI).2.2.2.2.2.2.2.1 hs) (fun e9 => pv_E hn) (rq_rbM (rq_thr (Rq.rf _))).1 (t6_rbM t6_thr) ⟨n, p, c, iv_r (iv_1 hI) (rq_rbM (rq_thr (Rq.rf _)))⟩
  · exact xI h (by decide) (wx_pivot (x_pivot hS hr) (shK hS rfl)) (t_pivot h.R hr)

theorem sm_solve (h : IV M n p c) (x1 : Int32) (x2 : Int64) : SmJ True l jL_solve jX7_solve 8 173 1 6 4 [.ref 0, .int x1, .long x2, .ref 212] [.ref 198, .int x1, .long x2] M Inv := by
  have hS := h.S
  have hz := h.z
  have hn := h.n32
  have hn1 := h.n1
  by_cases hr : inR x1 6
  · obtain ⟨s, hs, rfl⟩ := inR_of hr (by decide)
    have q := q_solve (l := l) (x := x2) hS hz hn hs
    have hI := iv_elMem h (elQ M s n x2.toInt32)
    have hc := cf_elMem (M := M) (s := elQ M s n x2.toInt32)
    exact qJ hI (w_solve q (shK hS rfl) (shK hI.S rfl)) (n_solve (iv_A h hc) hs) (fun e9 => sv_E) (rq_rbM (rq_thr (Rq.rf _))).1 (t6_rbM t6_thr) ⟨n, p, c, iv_r (iv_1 hI) (rq_rbM (rq_thr (Rq.rf _)))⟩
  · exact xJ h (by decide) (wx_solve (x_solve hS hr) (shK hS rfl)) (t_solve h.R hr)

theorem sm_freedom (h : IV M n p c) (x1 : Int32) (x2 : Int64) : SmI True l jL_freedom jX7_freedom 8 173 1 6 4 [.ref 0, .int x1, .long x2, .ref 212] [.ref 198, .int x1, .long x2] M Inv := by
  have hS := h.S
  have hz := h.z
  have hn := h.n32
  have hn1 := h.n1
  by_cases hr : inR x1 6
  · obtain ⟨s, hs, rfl⟩ := inR_of hr (by decide)
    have q := q_freedom (l := l) (x := x2) hS hz hn hs
    have hI := iv_elMem h (elQ M s n x2.toInt32)
    have hc := cf_elMem (M := M) (s := elQ M s n x2.toInt32)
    exact qI hI (w_freedom q (shK hS rfl) (shK hI.S rfl)) (n_freedom (iv_A h hc) hs) (fun e9 => fd_E) (rq_rbM (rq_thr (Rq.rf _))).1 (t6_rbM t6_thr) ⟨n, p, c, iv_r (iv_1 hI) (rq_rbM (rq_thr (Rq.rf _)))⟩
  · exact xI h (by decide) (wx_freedom (x_freedom hS hr) (shK hS rfl)) (t_freedom h.R hr)

end
end
-- 596.is
section
/-! calls of both sides, from the invariant to the invariant (596) -/
section
variable {l : Launch} {M : Mem} {n p c : Nat}
theorem sm_kept (h : IV M n p c) (x1 : Int32) (x2 : Int32) : SmI True l jL_kept jX7_kept 8 143 2 12 4 [.ref 0, .int x1, .int x2, .ref 212] [.ref 198, .int x1, .int x2] M Inv := by
  have hS := h.S
  have hz := h.z
  have hn := h.n32
  have hn1 := h.n1
  by_cases hr : inR x1 6
  · by_cases h4 : ¬ x2 < 0 ∧ x2 ≤ 2
    · obtain ⟨s, hs, rfl⟩ := inR_of hr (by decide)
      obtain ⟨w9, hw9, rfl⟩ := nI_of2 (n := 2) (by decide) h4.1 h4.2
      match w9, hw9 with
      | 0, _ =>
        have q := q_kept0 (l := l) hS hs
        exact qI h (w_kept q (shK hS rfl) (shK hS rfl)) (n_kept (w := 0) (iv_A h (Cf.rf M)) hs (by decide)) (fun e9 => kn_0 h hs) (rq_thr (Rq.rf _)).1 (t6_thr) ⟨n, p, c, iv_r (iv_1 h) (rq_thr (Rq.rf _))⟩
      | 1, _ =>
        have q := q_kept1 (l := l) hS hs
        exact qI h (w_kept q (shK hS rfl) (shK hS rfl)) (n_kept (w := 1) (iv_A h (Cf.rf M)) hs (by decide)) (fun e9 => kn_1 h hs) (rq_thr (Rq.rf _)).1 (t6_thr) ⟨n, p, c, iv_r (iv_1 h) (rq_thr (Rq.rf _))⟩
      | 2, _ =>
        have q := q_kept2 (l := l) hS hs
        exact qI h (w_kept q (shK hS rfl) (shK hS rfl)) (n_kept (w := 2) (iv_A h (Cf.rf M)) hs (by decide)) (fun e9 => kn_2 h hs) (rq_thr (Rq.rf _)).1 (t6_thr) ⟨n, p, c, iv_r (iv_1 h) (rq_thr (Rq.rf _))⟩
    · exact xI h (by decide) (wy_kept (y_kept hS hr h4) (shK hS rfl)) (u_kept' h.R hr h4)
  · exact xI h (by decide) (wx_kept (x_kept hS hr) (shK hS rfl)) (t_kept h.R hr)

theorem sm_work (h : IV M n p c) (x1 : Int32) : SmI True l jL_work jX7_work 8 141 1 6 4 [.ref 0, .int x1, .ref 212] [.ref 198, .int x1] M Inv := by
  have hS := h.S
  have hz := h.z
  have hn := h.n32
  have hn1 := h.n1
  by_cases hr : ¬ x1 < 0 ∧ x1 ≤ 1
  · obtain ⟨w9, hw9, rfl⟩ := nI_of2 (n := 1) (by decide) hr.1 hr.2
    match w9, hw9 with
    | 0, _ =>
      have q := q_work0 (l := l) hS
      exact qI h (w_work q (shK hS rfl) (shK hS rfl)) (n_work (w := 0) (iv_A h (Cf.rf M)) (by decide)) (fun e9 => wk_0 h) (rq_thr (Rq.rf _)).1 (t6_thr) ⟨n, p, c, iv_r (iv_1 h) (rq_thr (Rq.rf _))⟩
    | 1, _ =>
      have q := q_work1 (l := l) hS
      exact qI h (w_work q (shK hS rfl) (shK hS rfl)) (n_work (w := 1) (iv_A h (Cf.rf M)) (by decide)) (fun e9 => wk_1 h) (rq_thr (Rq.rf _)).1 (t6_thr) ⟨n, p, c, iv_r (iv_1 h) (rq_thr (Rq.rf _))⟩
  · exact xI h (by decide) (wx_work (x_work hS hr) (shK hS rfl)) (t_work hS hr)

theorem sm_count (h : IV M n p c) (x1 : Int32) : SmI True l jL_count jX7_count 8 141 1 6 4 [.ref 0, .int x1, .ref 212] [.ref 198, .int x1] M Inv := by
  have hS := h.S
  have hz := h.z
  have hn := h.n32
  have hn1 := h.n1
  by_cases hr : ¬ x1 < 0 ∧ x1 ≤ 3
  · obtain ⟨w9, hw9, rfl⟩ := nI_of2 (n := 3) (by decide) hr.1 hr.2
    match w9, hw9 with
    | 0, _ =>
      have q := q_count0 (l := l) hS
      exact qI h (w_count q (shK hS rfl) (shK hS rfl)) (n_count (w := 0) (iv_A h (Cf.rf M)) (by decide)) (fun e9 => ct_0 h) (rq_thr (Rq.rf _)).1 (t6_thr) ⟨n, p, c, iv_r (iv_1 h) (rq_thr (Rq.rf _))⟩
    | 1, _ =>
      have q := q_count1 (l := l) hS
      exact qI h (w_count q (shK hS rfl) (shK hS rfl)) (n_count (w := 1) (iv_A h (Cf.rf M)) (by decide)) (fun e9 => ct_1 h) (rq_thr (Rq.rf _)).1 (t6_thr) ⟨n, p, c, iv_r (iv_1 h) (rq_thr (Rq.rf _))⟩
    | 2, _ =>
      have q := q_count2 (l := l) hS
      exact qI h (w_count q (shK hS rfl) (shK hS rfl)) (n_count (w := 2) (iv_A h (Cf.rf M)) (by decide)) (fun e9 => ct_2 h) (rq_thr (Rq.rf _)).1 (t6_thr) ⟨n, p, c, iv_r (iv_1 h) (rq_thr (Rq.rf _))⟩
    | 3, _ =>
      have q := q_count3 (l := l) hS
      exact qI h (w_count q (shK hS rfl) (shK hS rfl)) (n_count (w := 3) (iv_A h (Cf.rf M)) (by decide)) (fun e9 => ct_3 h) (rq_thr (Rq.rf _)).1 (t6_thr) ⟨n, p, c, iv_r (iv_1 h) (rq_thr (Rq.rf _))⟩
  · exact xI h (by decide) (wx_count (x_count hS hr) (shK hS rfl)) (t_count hS hr)

theorem sm_outputByte (h : IV M n p c) (x1 : Int32) : SmN False l jX6_outputByte jX7_outputByte 0 0 4 160 [.ref 0, .int x1] [.ref 198, .int x1] M Inv := by
  have hS := h.S
  have hz := h.z
  have hn := h.n32
  have hn1 := h.n1
  obtain ⟨k, k1, k2⟩ := h.2.2.2.2.2.2.2.2.1
  obtain ⟨w, w1, w2⟩ := h.2.2.2.2.2.2.2.2.2
  exact ⟨_, _, _, _, q_outputByte hS k2 k1, n_outputByte hS w2 w1, hS, (rf_thr (Rf.rf M)).S hS, fun e9 => False.elim e9, iv_thr h⟩

theorem sm_loadError (h : IV M n p c)  : SmN True l jX6_loadError jX7_loadError 0 0 4 160 [.ref 0] [.ref 198] M Inv := by
  have hS := h.S
  have hz := h.z
  have hn := h.n32
  have hn1 := h.n1
  exact ⟨_, _, _, _, q_loadErr hS, n_loadErr hS, hS, (rf_thr (Rf.rf M)).S hS, fun _ => h.2.2.2.2.2.1.2.1.symm, iv_thr h⟩

theorem sm_loadStatement (h : IV M n p c)  : SmN True l jX6_loadStatement jX7_loadStatement 0 0 4 160 [.ref 0] [.ref 198] M Inv := by
  have hS := h.S
  have hz := h.z
  have hn := h.n32
  have hn1 := h.n1
  exact ⟨_, _, _, _, q_loadStatement hS, n_loadStatement hS, hS, (rf_thr (Rf.rf M)).S hS, fun _ => h.2.2.2.2.2.1.2.2.symm, iv_thr h⟩

end
end
-- 597.inv
section
/-! the present state changed on both sides -/
def lkU (u : Nat → Int64) (s : Nat) (x : Int32) : Nat → Int64 := if u (4 + s) = 1 then fun_set (fun_set u (10 + s) x.toInt64) (16 + s) (u (16 + s) + x.toInt64) else u
def anU (u : Nat → Int64) (s : Nat) (x : Int32) : Nat → Int64 := fun_set (lkU u s x) (22 + s) (lkU u s x (22 + s) + u (4 + s))
theorem fsu_at {u : Nat → Int64} {i j : Nat} {x : Int64} : fun_set u i x j = if j = i then x else u j := rfl
section
variable {M R : Mem} {n : Nat} {u : Nat → Int64}
theorem lkM_U {s : Nat} {x : Int32} : mL (lkM M s x) 199 = lkU (mL M 199) s x := by
  unfold lkM lkU
  split
  · show fun_set (mL (pL M 199 (10 + s) x.toInt64)) 199 (fun_set (mL (pL M 199 (10 + s) x.toInt64) 199) (16 + s) (mL M 199 (16 + s) + x.toInt64)) 199 = _
    have e : mL (pL M 199 (10 + s) x.toInt64) 199 = fun_set (mL M 199) (10 + s) x.toInt64 := pL_0 _ _ _ _
    rw [e]
    exact if_pos rfl
  · rfl
theorem anM_U {s : Nat} {x : Int32} : mL (anM M s x) 199 = anU (mL M 199) s x := by
  unfold anM anU
  show fun_set (mL (lkM M s x)) 199 (fun_set (mL (lkM M s x) 199) (22 + s) (mL (lkM M s x) 199 (22 + s) + mL M 199 (4 + s))) 199 = _
  rw [lkM_U]
  exact if_pos rfl
theorem lkU_ne {s j : Nat} {x : Int32} (h1 : j ≠ 10 + s) (h2 : j ≠ 16 + s) : lkU u s x j = u j := by
  unfold lkU
  split
  · rw [fsu_at, if_neg h2, fsu_at, if_neg h1]
  · rfl
theorem anU_ne {s j : Nat} {x : Int32} (h1 : j ≠ 10 + s) (h2 : j ≠ 16 + s) (h3 : j ≠ 22 + s) : anU u s x j = u j := by
  unfold anU
  rw [fsu_at, if_neg h3, lkU_ne h1 h2]
theorem b1L_1 (k : Bool) : b1L k = 1 ↔ k = true := by
  cases k
  · exact ⟨fun h => absurd h (by decide), fun h => by cases h⟩
  · exact ⟨fun _ => rfl, fun _ => rfl⟩
theorem b1_0k (k : Bool) : b1 k = 0 ↔ k = false := by
  cases k
  · exact ⟨fun _ => rfl, fun _ => rfl⟩
  · exact ⟨fun h => absurd h (by decide), fun h => by cases h⟩
theorem i64_32 (x : Int32) : x.toInt64.toInt32 = x := Int32.toInt32_toInt64 x
theorem SS_lk {s : Nat} {x : Int32} (h : SS M 3 u n s) : SS (mxLook M (5 + 2 * s) x) 3 (lkU u s x) n s := by
  obtain ⟨⟨k, a1, a2⟩, a3, a4, a5, a6, a7⟩ := h
  rw [show 3 + 2 + 2 * s = 5 + 2 * s by omega] at a1 a3 a4 a5
  unfold SS mxLook lkU
  rw [show 3 + 2 + 2 * s = 5 + 2 * s by omega, a1, a2]
  cases k
  · rw [if_pos ((b1_0k false).mpr rfl), if_neg (fun h => by cases (b1L_1 false).mp h)]
    exact ⟨⟨false, a1, a2⟩, a3, a4, a5, a6, a7⟩
  · rw [if_neg (fun h => by cases (b1_0k true).mp h), if_pos ((b1L_1 true).mpr rfl)]
    have e3 : 3 + 3 + 2 * s ≠ 5 + 2 * s := by omega
    refine ⟨⟨true, ?_, ?_⟩, ?_, ?_, ?_, fun r hr => ?_, fun r hr c hc => ?_⟩
    · rw [pI_at, if_neg (fun h => absurd h.2 (by decide)), pI_at, if_neg (fun h => absurd h.2 (by decide))]
      exact a1
    · rw [fsu_at, if_neg (by omega), fsu_at, if_neg (by omega)]
      exact a2
    · rw [pI_at, if_neg (fun h => absurd h.2 (by decide)), pI_at, if_pos ⟨rfl, rfl⟩, fsu_at, if_neg (by omega), fsu_at, if_pos rfl, i64_32]
    · rw [pI_at, if_pos ⟨rfl, rfl⟩, pI_at, if_neg (fun h => absurd h.2 (by decide)), fsu_at, if_pos rfl, a4, Int64.toInt32_add, i64_32]
    · rw [pI_at, if_neg (fun h => absurd h.2 (by decide)), pI_at, if_neg (fun h => absurd h.2 (by decide)), fsu_at, if_neg (by omega), fsu_at, if_neg (by omega)]
      exact a5
    · rw [pI_at, if_neg (fun h => e3 h.1), pI_at, if_neg (fun h => e3 h.1), fsu_at, if_neg (by omega), fsu_at, if_neg (by omega)]
      exact a6 r hr
    · rw [pI_at, if_neg (fun h => e3 h.1), pI_at, if_neg (fun h => e3 h.1)]
      exact a7 r hr c hc
theorem SR_lk {s : Nat} {x : Int32} (hs : s < 6) (h : SR M 3 u n) : SR (mxLook M (5 + 2 * s) x) 3 (lkU u s x) n := by
  obtain ⟨⟨a1, a2, a3, a4⟩, ⟨bl, b1', b2, b3, b4⟩, ⟨y, y1, y2⟩, ⟨z, z1, z2⟩, hS⟩ := h
  have e : mI (mxLook M (5 + 2 * s) x) 3 = mI M 3 := mxLook_ne (by omega)
  have g : ∀ j, j < 4 → lkU u s x j = u j := fun j hj => lkU_ne (by omega) (by omega)
  refine ⟨⟨a1, a2, by rw [e]; exact a3, by rw [g 0 (by decide)]; exact a4⟩, ⟨bl, b1', b2, by rw [e]; exact b3, by rw [g 1 (by decide)]; exact b4⟩, ⟨y, by rw [e]; exact y1, by rw [g 2 (by decide)]; exact y2⟩, ⟨z, by rw [e]; exact z1, by rw [g 3 (by decide)]; exact z2⟩, fun t ht => ?_⟩
  by_cases q : t = s
  · subst q
    exact SS_lk (hS t ht)
  · exact SS_cg (hS t ht) (fun j _ _ => by rw [mxLook_ne (by omega)]) (fun r _ => by rw [mxLook_ne (by omega)]) ⟨lkU_ne (by omega) (by omega), lkU_ne (by omega) (by omega), lkU_ne (by omega) (by omega), lkU_ne (by omega) (by omega)⟩ (fun r _ => lkU_ne (by omega) (by omega))
theorem SR_an {s : Nat} {x : Int32} (hs : s < 6) (h : SR M 3 u n) : SR (mxAnew M (5 + 2 * s) x) 3 (anU u s x) n := by
  have h1 := SR_lk (x := x) hs h
  obtain ⟨⟨k, k1, k2⟩, c3, c4, c5, c6, c7⟩ := h.2.2.2.2 s hs
  rw [show 3 + 2 + 2 * s = 5 + 2 * s by omega] at k1
  have hm : ∀ i j, mI (mxAnew M (5 + 2 * s) x) i j = if i = 5 + 2 * s ∧ j = 4 ∧ k = true then mI (mxLook M (5 + 2 * s) x) (5 + 2 * s) 4 + 1 else mI (mxLook M (5 + 2 * s) x) i j := fun i j => by
    unfold mxAnew
    rw [k1]
    cases k
    · rw [if_pos ((b1_0k false).mpr rfl), if_neg (fun h => by cases h.2.2)]
      unfold mxLook
      rw [k1, if_pos ((b1_0k false).mpr rfl)]
    · rw [if_neg (fun h => by cases (b1_0k true).mp h), pI_at]
      by_cases q : i = 5 + 2 * s ∧ j = 4
      · rw [if_pos q, if_pos ⟨q.1, q.2, rfl⟩]
      · rw [if_neg q, if_neg (fun h => q ⟨h.1, h.2.1⟩)]
  have hu : ∀ j, anU u s x j = if j = 22 + s then lkU u s x (22 + s) + b1L k else lkU u s x j := fun j => by
    unfold anU
    rw [fsu_at, k2]
  obtain ⟨⟨a1, a2, a3, a4⟩, ⟨bl, b1', b2, b3, b4⟩, ⟨y, y1, y2⟩, ⟨z, z1, z2⟩, hS⟩ := h1
  have e : ∀ j, mI (mxAnew M (5 + 2 * s) x) 3 j = mI (mxLook M (5 + 2 * s) x) 3 j := fun j => by rw [hm, if_neg (fun h => by omega)]
  have g : ∀ j, j ≠ 22 + s → anU u s x j = lkU u s x j := fun j hj => by rw [hu, if_neg hj]
  refine ⟨⟨a1, a2, by rw [e]; exact a3, by rw [g 0 (by omega)]; exact a4⟩, ⟨bl, b1', b2, by rw [e]; exact b3, by rw [g 1 (by omega)]; exact b4⟩, ⟨y, by rw [e]; exact y1, by rw [g 2 (by omega)]; exact y2⟩, ⟨z, by rw [e]; exact z1, by rw [g 3 (by omega)]; exact z2⟩, fun t ht => ?_⟩
  by_cases q : t = s
  · subst q
    obtain ⟨⟨k', f1, f2⟩, f3, f4, f5, f6, f7⟩ := hS t ht
    rw [show 3 + 2 + 2 * t = 5 + 2 * t by omega] at f1 f3 f4 f5
    unfold SS
    rw [show 3 + 2 + 2 * t = 5 + 2 * t by omega]
    refine ⟨⟨k', by rw [hm, if_neg (fun h => by omega)]; exact f1, by rw [g _ (by omega)]; exact f2⟩, by rw [hm, if_neg (fun h => by omega), g _ (by omega)]; exact f3, by rw [hm, if_neg (fun h => by omega), g _ (by omega)]; exact f4, ?_, fun r hr => by rw [g _ (by omega), hm, if_neg (fun h => by omega)]; exact f6 r hr, fun r hr c hc => by rw [hm, if_neg (fun h => by omega)]; exact f7 r hr c hc⟩
    rw [hm, hu, if_pos rfl, f5]
    cases k
    · rw [if_neg (fun h => by cases h.2.2)]
      show (lkU u t x (22 + t)).toInt32 = (lkU u t x (22 + t) + 0).toInt32
      rw [Int64.add_zero]
    · rw [if_pos ⟨rfl, rfl, rfl⟩]
      show (lkU u t x (22 + t)).toInt32 + 1 = (lkU u t x (22 + t) + 1).toInt32
      rw [Int64.toInt32_add]
      rfl
  · exact SS_cg (hS t ht) (fun j _ _ => by rw [hm, if_neg (fun h => by omega)]) (fun r _ => by rw [hm, if_neg (fun h => by omega)]) ⟨g _ (by omega), g _ (by omega), g _ (by omega), g _ (by omega)⟩ (fun r _ => g _ (by omega))
theorem ly_at {t k i : Nat} {f : Nat → Int32} : lyF u t f k i = if 28 + 32 * t ≤ i ∧ i < 28 + 32 * t + k then uL (f (i - (28 + 32 * t))) else u i := rfl
theorem SR_row {t : Nat} {f g : Nat → Int32} (ht : t < 6) (h : SR M 3 u n) (hg : ∀ r, r < n → g r = f r) (hf : wfr n f) : SR (sI M (6 + 2 * t) g) 3 (lyF u t f n) n := by
  obtain ⟨⟨a1, a2, a3, a4⟩, ⟨bl, b1', b2, b3, b4⟩, ⟨y, y1, y2⟩, ⟨z, z1, z2⟩, hS⟩ := h
  have e : ∀ i, i ≠ 6 + 2 * t → mI (sI M (6 + 2 * t) g) i = mI M i := fun i hi => sI_ne hi
  have gu : ∀ j, j < 28 → lyF u t f n j = u j := fun j hj => by rw [ly_at, if_neg (fun h => by omega)]
  refine ⟨⟨a1, a2, by rw [e 3 (by omega)]; exact a3, by rw [gu 0 (by decide)]; exact a4⟩, ⟨bl, b1', b2, by rw [e 3 (by omega)]; exact b3, by rw [gu 1 (by decide)]; exact b4⟩, ⟨y, by rw [e 3 (by omega)]; exact y1, by rw [gu 2 (by decide)]; exact y2⟩, ⟨z, by rw [e 3 (by omega)]; exact z1, by rw [gu 3 (by decide)]; exact z2⟩, fun s hs => ?_⟩
  by_cases q : s = t
  · subst q
    obtain ⟨⟨k', f1, f2⟩, f3, f4, f5, f6, f7⟩ := hS s ht
    have e2 := e (3 + 2 + 2 * s) (by omega)
    have e3 : mI (sI M (6 + 2 * s) g) (3 + 3 + 2 * s) = g := by rw [show 3 + 3 + 2 * s = 6 + 2 * s by omega, sI_self]
    refine ⟨⟨k', by rw [e2]; exact f1, by rw [gu _ (by omega)]; exact f2⟩, by rw [e2, gu _ (by omega)]; exact f3, by rw [e2, gu _ (by omega)]; exact f4, by rw [e2, gu _ (by omega)]; exact f5, fun r hr => ?_, fun r hr c hc => ?_⟩
    · rw [e3, ly_at, if_pos ⟨by omega, by omega⟩, hg r hr, show 28 + 32 * s + r - (28 + 32 * s) = r by omega]
    · rw [e3, hg r hr]
      exact hf r hr c hc
  · exact SS_cg (hS s hs) (fun j _ _ => by rw [e _ (by omega)]) (fun r _ => by rw [e _ (by omega)]) ⟨gu _ (by omega), gu _ (by omega), gu _ (by omega), gu _ (by omega)⟩ (fun r hr => by rw [ly_at, if_neg (fun h => by omega)])
theorem SR_175 {i j : Nat} {x : Int32} (hi : 17 ≤ i) (h : SR M 3 u n) : SR (pI M i j x) 3 u n := SR_cg h (fun k _ hk => sI_ne (by omega)) (fun _ _ => rfl)
theorem SR_store {r t : Nat} {f : Nat → Int32} (ht : t < 6) (h : SR R 3 u n) (hg : ∀ i, i < n → mI R r i = f i) (hf : wfr n f) : SR (storeM R r t n) 3 (anU (lyF u t f n) t (nI n)) n := by
  unfold storeM noteM
  exact SR_an ht (SR_175 (by omega) (SR_row ht h (fun i hi => by rw [wr_lt hi]; exact hg i hi) hf))
end
end
-- 5980.inv
section
/-! a change remembered on both sides -/
abbrev cyP (p : Nat) : Nat := if p = 7 then 0 else p + 1
abbrev cyC (c : Nat) : Nat := if c = 8 then 8 else c + 1
def Cu (R M1 : Mem) : Prop := Cf R M1 ∧ ∀ i, i < 3 ∨ (17 ≤ i ∧ i < 175) → mI M1 i = mI R i
def Ru (K M2 : Mem) : Prop := Rf K M2 ∧ (mL M2 201 = mL K 201 ∧ mL M2 202 = mL K 202) ∧ (bsOk K → bsOk M2) ∧ (mI M2 203 = mI K 203 ∧ mI M2 204 = mI K 204) ∧ ∀ j, j ≠ 6 → j ≠ 22 → mI M2 198 j = mI K 198 j
section
variable {M M1 M2 K N X : Mem} {n p c : Nat}
theorem rem_0 {j : Nat} : mI (remM M p c) 0 j = if j = 5 then nI (cyC c) else if j = 4 then nI (cyP p) else mI M 0 j := by
  have h0 : mI (stTake M (32 + 14 * p) 3) 0 = mI M 0 := stTake_ne (Or.inl (by omega))
  unfold remM
  generalize stTake M (32 + 14 * p) 3 = X at *
  rw [pI_at, pI_at, h0]
  by_cases e : j = 5
  · rw [if_pos ⟨rfl, e⟩, if_pos e]
  · rw [if_neg (fun h => e h.2), if_neg e]
    by_cases e2 : j = 4
    · rw [if_pos ⟨rfl, e2⟩, if_pos e2]
    · rw [if_neg (fun h => e2 h.2), if_neg e2]
theorem rem_i {i : Nat} (h0 : i ≠ 0) (h : i < 32 + 14 * p ∨ 46 + 14 * p ≤ i) : mI (remM M p c) i = mI M i := by
  have h1 : mI (stTake M (32 + 14 * p) 3) i = mI M i := stTake_ne (by omega)
  unfold remM
  generalize stTake M (32 + 14 * p) 3 = X at *
  rw [sI_ne h0, sI_ne h0, h1]
theorem rem_t (h : SR M 3 (mL M 199) n) : SR (remM M p c) (32 + 14 * p) (mL M 199) n := by
  have h1 : SR (stTake M (32 + 14 * p) 3) (32 + 14 * p) (mL M 199) n := SR_take (Or.inr (by omega)) h
  unfold remM
  generalize stTake M (32 + 14 * p) 3 = X at *
  exact SR_cg h1 (fun i h1 h2 => by rw [sI_ne (by omega), sI_ne (by omega)]) (fun _ _ => rfl)
theorem paC_n (hc : c ≤ 8) : paC c + 1 = cyC c := by
  unfold paC cyC
  split
  · rfl
  · rfl
theorem ring_up (h : IV M n p c) {i : Nat} (hi : i < cyC c) : SR (remM M p c) (32 + 14 * ((cyP p + 8 - cyC c + i) % 8)) (fun j => cpF (paW (mL M 201) c) (paC c) (mL M 199) 0 220 (220 * i + j)) n := by
  obtain ⟨p1, p2, p3, p4, p5, p6⟩ := h.2.2.1
  have hpc := paC_n p4
  by_cases e : i = paC c
  · have e2 : (cyP p + 8 - cyC c + i) % 8 = p := by
      have : cyP p = (p + 1) % 8 := by
        unfold cyP
        split
        · rename_i h9
          rw [h9]
        · omega
      have h9 : cyC c ≤ 8 := by unfold cyC; split <;> omega
      omega
    rw [e2]
    refine SR_cg (rem_t h.2.1) (fun _ _ _ => rfl) (fun j hj => ?_)
    unfold cpF
    rw [if_pos ⟨by omega, by omega⟩]
    congr 1
    omega
  · have hi2 : i < paC c := by omega
    have key : ∃ k, k < c ∧ (cyP p + 8 - cyC c + i) % 8 = (p + 8 - c + k) % 8 ∧ (p + 8 - c + k) % 8 ≠ p ∧ ∀ j, j < 220 → paW (mL M 201) c (220 * i + j) = mL M 201 (220 * k + j) := by
      have hn : cyP p = (p + 1) % 8 := by
        unfold cyP
        split
        · rename_i h9
          rw [h9]
        · omega
      by_cases q : c = 8
      · subst q
        have h7 : i < 7 := hi2
        refine ⟨i + 1, by omega, ?_, by omega, fun j hj => ?_⟩
        · rw [hn, show cyC 8 = 8 from rfl]
          omega
        · show shF (mL M 201) 1540 (220 * i + j) = _
          unfold shF
          rw [if_pos (by omega)]
          congr 1
          omega
      · have e3 : paC c = c := if_neg q
        have e4 : cyC c = c + 1 := if_neg q
        refine ⟨i, by omega, ?_, by omega, fun j hj => ?_⟩
        · rw [hn, e4]
          omega
        · unfold paW
          rw [if_neg q]
    obtain ⟨k, k1, k2, k3, k4⟩ := key
    rw [k2]
    have hm : (p + 8 - c + k) % 8 < 8 := Nat.mod_lt _ (by decide)
    have h6 := p6 k k1
    generalize (p + 8 - c + k) % 8 = t at *
    refine SR_cg h6 (fun j h1 h2 => rem_i (by omega) (by omega)) (fun j hj => ?_)
    unfold cpF
    rw [if_neg (by omega)]
    exact k4 j hj
/-- the reference's memory once the past is kept -/
theorem k0_I {j : Nat} (h5 : j ≠ 5) (h6 : j ≠ 6) : mI (k0M N c) 198 j = mI N 198 j := by
  unfold k0M kepM thr
  rw [pI_at, if_neg (fun h => h5 h.2)]
  show mI (pI N 198 6 0) 198 j = _
  rw [pI_at, if_neg (fun h => h6 h.2)]
theorem k0_5 : mI (k0M N c) 198 5 = nI (paC c + 1) := by
  unfold k0M kepM
  exact pI_at9 _ _ _ _
theorem k0_o {i : Nat} (h : i ≠ 198) : mI (k0M N c) i = mI N i := by
  unfold k0M kepM thr
  rw [sI_ne h]
  show mI (pI N 198 6 0) i = _
  exact sI_ne h
theorem k0_L1 : mL (k0M N c) 201 = cpF (paW (mL N 201) c) (paC c) (mL N 199) 0 220 := by
  unfold k0M kepM
  show mL (sL (thr N 0) 201 _) 201 = _
  exact sL_self _ _ _
theorem k0_L {i : Nat} (h : i ≠ 201) : mL (k0M N c) i = mL N i := k0M_ne h
theorem Cu.tr (h : Cu X M1) (g : Cu M1 M2) : Cu X M2 := ⟨h.1.tr g.1, fun i hi => (g.2 i hi).trans (h.2 i hi)⟩
theorem Cu.rf (X : Mem) : Cu X X := ⟨Cf.rf X, fun _ _ => rfl⟩
theorem Cq.cu (h : Cq X M1) : Cu X M1 := ⟨h.1, fun i hi => h.2 i (by omega)⟩
theorem Ru.tr (h : Ru K M1) (g : Ru M1 M2) : Ru K M2 := ⟨h.1.tr g.1, ⟨g.2.1.1.trans h.2.1.1, g.2.1.2.trans h.2.1.2⟩, fun q => g.2.2.1 (h.2.2.1 q), ⟨g.2.2.2.1.1.trans h.2.2.2.1.1, g.2.2.2.1.2.trans h.2.2.2.1.2⟩, fun j h1 h2 => (g.2.2.2.2 j h1 h2).trans (h.2.2.2.2 j h1 h2)⟩
theorem Rq.ru (h : Rq K M1) : Ru K M1 := ⟨h.1, ⟨h.2.1.2.1, h.2.1.2.2⟩, h.2.2.1, h.2.2.2.1, h.2.2.2.2⟩
theorem ru_sL {f : Nat → Int64} (h : Ru K M1) : Ru K (sL M1 199 f) := h.tr ⟨rf_sL (by decide) (Rf.rf _), ⟨sL_ne9 (by decide), sL_ne9 (by decide)⟩, fun q i hi => by
  rw [sL_ne9 (by decide)]
  exact q i hi, ⟨rfl, rfl⟩, fun _ _ _ => rfl⟩
theorem ru_lkM {s : Nat} {x : Int32} (h : Ru K M1) : Ru K (lkM M1 s x) := by
  unfold lkM
  split
  · exact ru_sL (ru_sL h)
  · exact h
theorem ru_anM {s : Nat} {x : Int32} (h : Ru K M1) : Ru K (anM M1 s x) := by
  unfold anM
  exact ru_sL (ru_lkM h)
theorem ru_lsM {t k : Nat} {f : Nat → Int32} (h : Ru K M1) : Ru K (lsM M1 t k f) := by
  unfold lsM lyM
  exact ru_anM (ru_sL h)
theorem cu_sI {i : Nat} {f : Nat → Int32} (hi : (3 ≤ i ∧ i < 17) ∨ (175 ≤ i ∧ i < 198)) (h : Cu X M1) : Cu X (sI M1 i f) := h.tr ⟨cf_sI (by omega) (Cf.rf _), fun j hj => sI_ne (by omega)⟩
theorem cu_pI {i j : Nat} {x : Int32} (hi : (3 ≤ i ∧ i < 17) ∨ (175 ≤ i ∧ i < 198)) (h : Cu X M1) : Cu X (pI M1 i j x) := cu_sI hi h
theorem cu_mxLook {s : Nat} {x : Int32} (hs : s < 6) (h : Cu X M1) : Cu X (mxLook M1 (5 + 2 * s) x) := by
  unfold mxLook
  split
  · exact h
  · exact cu_pI (by omega) (cu_pI (by omega) h)
theorem cu_mxAnew {s : Nat} {x : Int32} (hs : s < 6) (h : Cu X M1) : Cu X (mxAnew M1 (5 + 2 * s) x) := by
  unfold mxAnew
  split
  · exact h
  · exact cu_pI (by omega) (cu_mxLook hs h)
theorem cu_noteM {s : Nat} {x : Int32} (hs : s < 6) (h : Cu X M1) : Cu X (noteM M1 s x) := by
  unfold noteM
  exact cu_mxAnew hs (cu_pI (by omega) h)
theorem cu_storeM {r t k : Nat} (ht : t < 6) (h : Cu X M1) : Cu X (storeM M1 r t k) := by
  unfold storeM
  exact cu_noteM ht (cu_sI (by omega) h)
/-- the invariant over a change that both remember -/
theorem iv_u (h : IV M n p c) {v : Int64} (hC : Cu (remM M p c) M1) (hR : Ru (k0M (pL M1 212 0 v) c) M2) (hs : SR M2 3 (mL M2 199) n) (hc : IC M2 n) (h188 : mI M2 188 0 = 0) : IV M2 n (cyP p) (cyC c) := by
  have hp : p < 8 := h.2.2.1.2.1
  have hc8 : c ≤ 8 := h.2.2.1.2.2.2.1
  have hcm : Cf M M1 := (cf_remM hp).tr hC.1
  have hSN : Shp (pL M1 212 0 v) := hcm.S h.S
  have hNL : ∀ i, i ≠ 212 → mL (pL M1 212 0 v) i = mL M i := fun i hi => by rw [sL_ne9 hi, hcm.L]
  have hNI : ∀ i, mI (pL M1 212 0 v) i = mI M1 i := fun _ => rfl
  generalize pL M1 212 0 v = N at *
  have hK := rf_k0M (c := c) (Rf.rf N)
  have hI : ∀ i, i < 198 → mI M2 i = mI M1 i := fun i hi => by rw [hR.1.I hi, hK.I hi, hNI]
  have h9 : ∀ i, i < 3 ∨ (17 ≤ i ∧ i < 175) → mI M2 i = mI (remM M p c) i := fun i hi => by rw [hI i (by omega), hC.2 i hi]
  have hN198 : ∀ i, 198 ≤ i → mI N i = mI M i := fun i hi => by rw [hNI, hcm.I hi]
  have h8 : ∀ j, j ≠ 5 → j ≠ 6 → j ≠ 22 → mI M2 198 j = mI M 198 j := fun j a b d => by rw [hR.2.2.2.2 j b d, k0_I a b, hN198 198 (Nat.le_refl _)]
  have hpc := paC_n hc8
  obtain ⟨-, -, -, h4, -, ⟨⟨len, l1, l2, l3, l4⟩, r2, r3⟩, -, x2, ⟨kk, x3, x5⟩, w, w1, w2⟩ := id h
  refine ⟨hR.1.S (hK.S hSN), hs, ⟨?_, ?_, ?_, ?_, ?_, fun i hi => ?_⟩, fun q hq => ?_, hc, ⟨⟨len, l1, ?_, ?_, fun i hi => ?_⟩, ?_, ?_⟩, h188, hR.2.2.1 ?_, ⟨kk, x3, ?_⟩, w, w1, ?_⟩
  · rw [h9 0 (by decide), rem_0, if_neg (by decide), if_pos rfl]
  · unfold cyP
    split <;> omega
  · rw [h9 0 (by decide), rem_0, if_pos rfl]
  · unfold cyC
    split <;> omega
  · rw [hR.2.2.2.2 5 (by decide) (by decide), k0_5, hpc]
  · have hm : (cyP p + 8 - cyC c + i) % 8 < 8 := Nat.mod_lt _ (by decide)
    refine SR_cg (ring_up h hi) (fun j h1 h2 => h9 j (by omega)) (fun j _ => ?_)
    rw [hR.2.1.1, k0_L1, hNL 201 (by decide), hNL 199 (by decide)]
  · obtain ⟨k1, k2⟩ := h4 q hq
    have e : ∀ i, 145 ≤ i → i < 174 → mI M2 i = mI M i := fun i a b => by rw [h9 i (by omega), rem_i (by omega) (by omega)]
    have e3 : mI M2 203 = mI M 203 := by rw [hR.2.2.2.1.1, k0_o (by decide), hN198 203 (by decide)]
    refine ⟨fun s hs6 => by rw [e _ (by omega) (by omega)]; exact k1 s hs6, ?_⟩
    rw [e 173 (by decide) (by decide), e3]
    rcases k2 with k2 | ⟨a1, a2, n', a3⟩
    · exact Or.inl k2
    · refine Or.inr ⟨a1, a2, n', SR_cg a3 (fun i a b => e i (by omega) (by omega)) (fun j _ => ?_)⟩
      rw [hR.2.1.2, k0_L (by decide), hNL 202 (by decide)]
  · rw [h9 1 (by decide), rem_i (by decide) (by omega)]
    exact l2
  · rw [h8 8 (by decide) (by decide) (by decide)]
    exact l3
  · obtain ⟨j, j1, j2, j3⟩ := l4 i hi
    refine ⟨j, j1, ?_, ?_⟩
    · rw [h9 2 (by decide), rem_i (by decide) (by omega)]
      exact j2
    · rw [hR.2.2.2.1.2, k0_o (by decide), hN198 204 (by decide)]
      exact j3
  · rw [h8 14 (by decide) (by decide) (by decide), h9 1 (by decide), rem_i (by decide) (by omega)]
    exact r2
  · rw [h8 15 (by decide) (by decide) (by decide), h9 1 (by decide), rem_i (by decide) (by omega)]
    exact r3
  · intro i hi
    rw [k0_L (by decide), hNL 209 (by decide)]
    exact x2 i hi
  · rw [h9 0 (by decide), rem_0, if_neg (by decide), if_neg (by decide)]
    exact x5
  · rw [h8 24 (by decide) (by decide) (by decide)]
    exact w2
/-- a change that lays rows into a slot -/
theorem ic_an {s : Nat} {x : Int32} (hs : s < 6) (h : IC M n) : IC (mxAnew M (5 + 2 * s) x) n := fun t ht h1 r hr => by
  rw [mxAnew_ne (by omega)] at h1
  rw [mxAnew_ne (by omega), mxAnew_ne (by omega)]
  exact h t ht h1 r hr
theorem ic_lk {s : Nat} {x : Int32} (hs : s < 6) (h : IC M n) : IC (mxLook M (5 + 2 * s) x) n := fun t ht h1 r hr => by
  rw [mxLook_ne (by omega)] at h1
  rw [mxLook_ne (by omega), mxLook_ne (by omega)]
  exact h t ht h1 r hr
theorem ic_row {t : Nat} {g : Nat → Int32} {x : Int32} (ht9 : t < 6) (h : IC M n) : IC (noteM (sI M (6 + 2 * t) g) t x) n := by
  unfold noteM
  refine ic_an ht9 (fun s hs h1 r hr => ?_)
  by_cases e : s = t
  · subst e
    rw [pI_at, if_pos ⟨rfl, rfl⟩] at h1
    exact absurd rfl h1
  · rw [sI_ne (by omega), sI_ne (by omega)] at h1
    rw [sI_ne (by omega), sI_ne (by omega), sI_ne (by omega), sI_ne (by omega)]
    exact h s hs h1 r hr
theorem store_188 {r t k : Nat} (ht : t < 6) (h : mI M 188 0 = 0) : mI (storeM M r t k) 188 0 = 0 := by
  unfold storeM
  rw [noteM_ne (by omega) (by omega), sI_ne (by omega)]
  exact h
theorem ic_store {r t k : Nat} (ht : t < 6) (h : IC M n) : IC (storeM M r t k) n := by
  unfold storeM
  exact ic_row ht h
theorem iv_store (h : IV M n p c) {r t : Nat} {v : Int64} {f : Nat → Int32} (ht : t < 6) (hX : Cu (remM M p c) X) (hs : SR X 3 (mL K 199) n) (hC : IC X n) (h188 : mI X 188 0 = 0) (hg : ∀ i, i < n → mI X r i = f i) (hf : wfr n f) (hK : Ru (k0M (pL (storeM X r t n) 212 0 v) c) K) : IV (lsM K t n f) n (cyP p) (cyC c) := by
  have hI : ∀ i, i < 198 → mI (lsM K t n f) i = mI (storeM X r t n) i := fun i hi => by
    rw [(rf_lsM (t := t) (n := n) (f := f) (Rf.rf K)).I hi, hK.1.I hi, (rf_k0M (c := c) (Rf.rf _)).I hi]
  refine iv_u h (cu_storeM ht hX) (ru_lsM hK) ?_ (fun s hs6 h1 r9 hr => ?_) ?_
  · have e : mL (lsM K t n f) 199 = anU (lyF (mL K 199) t f n) t (nI n) := by
      unfold lsM
      rw [anM_U]
      unfold lyM
      rw [show mL (sL K 199 (lyF (mL K 199) t f n)) 199 = lyF (mL K 199) t f n from sL_self _ _ _]
    rw [e]
    exact SR_cg (SR_store ht hs hg hf) (fun i h1 h2 => hI i (by omega)) (fun _ _ => rfl)
  · rw [hI _ (by omega)] at h1
    rw [hI _ (by omega), hI _ (by omega)]
    exact ic_store ht hC s hs6 h1 r9 hr
  · rw [hI _ (by omega)]
    exact store_188 ht h188
end
end
-- 5981.inv
section
/-! a change of both sides, answer and invariant -/
section
variable {E : Prop} {l : Launch} {M M0 M' M1 M2 K N X : Mem} {n p c : Nat} {J J7 : Jm} {F L mc ms F7 : Nat} {As As7 : List Value}
theorem uI {v v' : Int32} (hS : Shp M') (h1 : EvR l J F L mc ms As M (.inl (some (.int 0))) (pL M' 212 0 v.toInt64)) (h2 : EvR l J7 F7 160 0 0 As7 (pL M' 212 0 v.toInt64) (.inl (some (.int v'))) M2) (he : E → v' = v) (hr : Rf (pL M' 212 0 v.toInt64) M2) (ht : t6 M2) (hP : Inv M2) : SmI E l J J7 F L mc ms F7 As As7 M Inv :=
  ⟨0, v', _, _, h1, h2, hS, hr.S hS, ht, fun e _ => by rw [hr.L (by decide), i1_at, he e], hP⟩
theorem iv_c5 (h : IV M n p c) (hc : Cf M M') (v : Int64) : mI (pL M' 212 0 v) 198 5 = nI c := by
  show mI M' 198 5 = nI c
  rw [hc.I (Nat.le_refl 198)]
  exact h.2.2.1.2.2.2.2.1
theorem uStoreV (h : IV M0 n p c) {r t : Nat} {f : Nat → Int32} {w w' : Int32} (G : Mem → Mem) (ht : t < 6) (hX : Cu (remM M0 p c) X) (hs : ∀ N, mL N 199 = mL M0 199 → SR X 3 (mL (G N) 199) n) (hC : IC X n) (h188 : mI X 188 0 = 0) (hg : ∀ i, i < n → mI X r i = f i) (hf : wfr n f) (h1 : Shp (storeM X r t n) → EvR l J F L mc ms As M (.inl (some (.int 0))) (pL (storeM X r t n) 212 0 w.toInt64)) (h2 : ∀ v : Int64, Rr (pL (storeM X r t n) 212 0 v) n (Am M0) → mI (pL (storeM X r t n) 212 0 v) 198 5 = nI c → mL (pL (storeM X r t n) 212 0 v) 199 = mL M0 199 → EvR l J7 F7 160 0 0 As7 (pL (storeM X r t n) 212 0 v) (.inl (some (.int w'))) (lsM (G (pL (storeM X r t n) 212 0 v)) t n f)) (hG : ∀ N, Ru (k0M N c) (G N)) (h6 : ∀ N, t6 (G N)) (he : E → w' = w) : SmI E l J J7 F L mc ms F7 As As7 M Inv := by
  have hp : p < 8 := h.2.2.1.2.1
  have hc9 : Cf M0 (storeM X r t n) := (cf_remM hp).tr (cu_storeM ht hX).1
  have e9 : ∀ v : Int64, mL (pL (storeM X r t n) 212 0 v) 199 = mL M0 199 := fun v => by rw [sL_ne9 (by decide), hc9.L]
  exact uI (hc9.S h.S) (h1 (hc9.S h.S)) (h2 _ (iv_A h hc9) (iv_c5 h hc9 _) (e9 _)) he (rf_lsM ((rf_k0M (Rf.rf _)).tr (hG _).1)) (t6_lsM (h6 _)) ⟨n, _, _, iv_store h ht hX (hs _ (e9 _)) hC h188 hg hf (hG _)⟩
theorem uStore (h : IV M0 n p c) {r t : Nat} {f : Nat → Int32} (G : Mem → Mem) (ht : t < 6) (hX : Cu (remM M0 p c) X) (hs : ∀ N, mL N 199 = mL M0 199 → SR X 3 (mL (G N) 199) n) (hC : IC X n) (h188 : mI X 188 0 = 0) (hg : ∀ i, i < n → mI X r i = f i) (hf : wfr n f) (h1 : Shp (storeM X r t n) → EvR l J F L mc ms As M (.inl (some (.int 0))) (pL (storeM X r t n) 212 0 (stV X r t n).toInt64)) (h2 : ∀ v : Int64, Rr (pL (storeM X r t n) 212 0 v) n (Am M0) → mI (pL (storeM X r t n) 212 0 v) 198 5 = nI c → mL (pL (storeM X r t n) 212 0 v) 199 = mL M0 199 → EvR l J7 F7 160 0 0 As7 (pL (storeM X r t n) 212 0 v) (.inl (some (.int (onesF f n)))) (lsM (G (pL (storeM X r t n) 212 0 v)) t n f)) (hG : ∀ N, Ru (k0M N c) (G N)) (h6 : ∀ N, t6 (G N)) : SmI E l J J7 F L mc ms F7 As As7 M Inv := by
  refine uStoreV h G ht hX hs hC h188 hg hf h1 h2 hG h6 (fun _ => ?_)
  rw [stV_eq ht]
  exact on_cg (fun i hi => (hg i hi).symm)
/-- the memory in which the past is kept: its present state -/
theorem rem_m {i : Nat} (h0 : i ≠ 0) (h : i < 32 ∨ 144 ≤ i) (hp : p < 8) : mI (remM M p c) i = mI M i := rem_i h0 (by omega)
theorem sr_X (h : IV M n p c) (hX : ∀ i, 3 ≤ i → i < 17 → mI X i = mI (remM M p c) i) {u : Nat → Int64} (hu : u = mL M 199) : SR X 3 u n := by
  subst hu
  exact SR_cg h.2.1 (fun i h1 h2 => by rw [hX i h1 (by omega), rem_m (by omega) (by omega) h.2.2.1.2.1]) (fun _ _ => rfl)
theorem ic_X (h : IV M n p c) (hX : ∀ i, 4 ≤ i → i < 187 → mI X i = mI (remM M p c) i) : IC X n := fun t ht h1 r hr => by
  have hp : p < 8 := h.2.2.1.2.1
  rw [hX _ (by omega) (by omega), rem_m (by omega) (by omega) hp] at h1
  rw [hX _ (by omega) (by omega), hX _ (by omega) (by omega), rem_m (by omega) (by omega) hp, rem_m (by omega) (by omega) hp]
  exact h.2.2.2.2.1 t ht h1 r hr
theorem X188 (h : IV M n p c) (hX : mI X 188 = mI (remM M p c) 188) : mI X 188 0 = 0 := by
  rw [hX, rem_m (by decide) (by decide) h.2.2.1.2.1]
  exact h.2.2.2.2.2.2.1
theorem rqG {x : Nat} {f : Nat → Int32} (hi : x = 205 ∨ x = 206 ∨ x = 207) (N : Mem) : Rq (k0M N c) (hdM (k0M N c) x n f) := rq_hdM hi (Rq.rf _)
theorem G199 (h : Rq (k0M N c) K) (hN : mL N 199 = mL M 199) : mL K 199 = mL M 199 := by rw [h.2.1.1, k0_L (by decide), hN]
theorem G199' (h : Rq (k0M N c) K) : mL K 199 = mL N 199 := by rw [h.2.1.1, k0_L (by decide)]
theorem uMkV (h : IV M n p c) {t : Nat} {g f : Nat → Int32} {w w' : Int32} (ht : t < 6) (hg : ∀ i, i < n → g i = f i) (hf : wfr n f) (h1 : Shp (storeM (mkM (remM M p c) g n) 195 t n) → EvR l J F L mc ms As M (.inl (some (.int 0))) (pL (storeM (mkM (remM M p c) g n) 195 t n) 212 0 w.toInt64)) (h2 : ∀ v : Int64, Rr (pL (storeM (mkM (remM M p c) g n) 195 t n) 212 0 v) n (Am M) → mI (pL (storeM (mkM (remM M p c) g n) 195 t n) 212 0 v) 198 5 = nI c → mL (pL (storeM (mkM (remM M p c) g n) 195 t n) 212 0 v) 199 = mL M 199 → EvR l J7 F7 160 0 0 As7 (pL (storeM (mkM (remM M p c) g n) 195 t n) 212 0 v) (.inl (some (.int w'))) (lsM (hdM (k0M (pL (storeM (mkM (remM M p c) g n) 195 t n) 212 0 v) c) 205 n f) t n f)) (he : E → w' = w) : SmI E l J J7 F L mc ms F7 As As7 M Inv := by
  have hne : ∀ i, i ≠ 195 → mI (mkM (remM M p c) g n) i = mI (remM M p c) i := fun i hi => mk_ne hi
  refine uStoreV h (fun N => hdM (k0M N c) 205 n f) ht ?_ (fun N hN => sr_X h (fun i a b => hne i (by omega)) (G199 (rqG (Or.inl rfl) N) hN)) (ic_X h (fun i a b => hne i (by omega))) (X188 h (hne 188 (by decide))) (fun i hi => ?_) hf h1 h2 (fun N => (rqG (Or.inl rfl) N).ru) (fun N => t6_hdM t6_k0M) he
  · unfold mkM
    exact cu_sI (by decide) (Cu.rf _)
  · unfold mkM
    rw [sI_self, wr_lt hi]
    exact hg i hi
theorem uMk (h : IV M n p c) {t : Nat} {g f : Nat → Int32} (ht : t < 6) (hg : ∀ i, i < n → g i = f i) (hf : wfr n f) (h1 : Shp (storeM (mkM (remM M p c) g n) 195 t n) → EvR l J F L mc ms As M (.inl (some (.int 0))) (pL (storeM (mkM (remM M p c) g n) 195 t n) 212 0 (stV (mkM (remM M p c) g n) 195 t n).toInt64)) (h2 : ∀ v : Int64, Rr (pL (storeM (mkM (remM M p c) g n) 195 t n) 212 0 v) n (Am M) → mI (pL (storeM (mkM (remM M p c) g n) 195 t n) 212 0 v) 198 5 = nI c → mL (pL (storeM (mkM (remM M p c) g n) 195 t n) 212 0 v) 199 = mL M 199 → EvR l J7 F7 160 0 0 As7 (pL (storeM (mkM (remM M p c) g n) 195 t n) 212 0 v) (.inl (some (.int (onesF f n)))) (lsM (hdM (k0M (pL (storeM (mkM (remM M p c) g n) 195 t n) 212 0 v) c) 205 n f) t n f)) : SmI E l J J7 F L mc ms F7 As As7 M Inv := by
  refine uMkV h ht hg hf h1 h2 (fun _ => ?_)
  rw [stV_eq ht]
  unfold mkM
  rw [sI_self]
  exact on_cg (fun i hi => by rw [wr_lt hi, hg i hi])
/-- rows of bits below n -/
theorem wf_col {f : Nat → Int32} (hn : n ≤ 32) : wfr n (fun k => colOf f k n) := fun r _ c hc => by
  show hb (colOf f r n) c = false
  rw [hb_colOf n hn, decide_eq_false (by omega)]
  rfl
theorem wf_comb {f g : Nat → Int32} {how : Nat} (hf : wfr n f) (hg : wfr n g) : wfr n (fun k => comb (f k) (g k) how) := fun r hr c hc => by
  have a := hf r hr c hc
  have b := hg r hr c hc
  show hb (comb (f r) (g r) how) c = false
  unfold comb
  split
  · rw [hb_and, a]
    rfl
  · rw [hb_or, a, b]
    rfl
  · rw [hb_xor, a, b]
    rfl
  · rw [hb_and, a]
    rfl
theorem hb_exch {x : Int32} {a b i : Nat} (ha : a < n) (hb9 : b < n) (hn : n ≤ 32) (hi : n ≤ i) : hb (exch x a b) i = hb x i := by
  unfold exch
  split
  · rfl
  · rw [hb_xor, hb_xor, hb_bitI (by omega), hb_bitI (by omega), decide_eq_false (by omega), decide_eq_false (by omega), Bool.xor_false, Bool.xor_false]
theorem wf_ex {f : Nat → Int32} {a b : Nat} (hf : wfr n f) (ha : a < n) (hb9 : b < n) (hn : n ≤ 32) : wfr n (exF f a b) := fun r hr c hc => by
  unfold exF
  rw [hb_exch ha hb9 hn hc]
  refine hf _ ?_ c hc
  unfold srcN
  split
  · exact hb9
  · split
    · exact ha
    · exact hr
theorem wO_n {f : Nat → Int32} (hf : wfr n f) : wfr n (wOut f n n) := wO_wf hf n (Nat.le_refl n)
end
end
-- 5982.us
section
/-! calls that change, from the invariant to the invariant (598) -/
section
variable {l : Launch} {M : Mem} {n p c : Nat}
theorem sm_copy (h : IV M n p c) (x1 : Int32) (x2 : Int32) : SmI True l jL_copy jX7_copy 8 162 2 12 4 [.ref 0, .int x1, .int x2, .ref 212] [.ref 198, .int x1, .int x2] M Inv := by
  have hS := h.S
  have hz := h.z
  have hn := h.n32
  have hn1 := h.n1
  have hc8 := h.2.2.1.2.2.2.1
  by_cases hr : inR x1 6 ∧ inR x2 6
  · obtain ⟨s, hs, rfl⟩ := inR_of hr.1 (by decide)
    obtain ⟨t, ht, rfl⟩ := inR_of hr.2 (by decide)
    exact uStore h (fun N => hdM (k0M N c) 205 n (Am M s)) ht (Cu.rf _) (fun N hN => sr_X h (fun _ _ _ => rfl) (G199 (rqG (Or.inl rfl) N) hN)) (ic_X h (fun _ _ _ => rfl)) (X188 h rfl) (fun i hi => by rw [rem_m (by omega) (by omega) h.2.2.1.2.1]) (h.wf hs) (fun hS9 => w_copy (u_copy h.D hs ht) (shK hS rfl) (shK hS9 rfl)) (fun v a b _ => n_copy a b hc8 hs ht) (fun N => (rqG (Or.inl rfl) N).ru) (fun N => t6_hdM t6_k0M)
  · exact xI h (by decide) (wx_copy (x_copy hS hr) (shK hS rfl)) (t_copy h.R hr)

theorem sm_transpose (h : IV M n p c) (x1 : Int32) (x2 : Int32) : SmI True l jL_transpose jX7_transpose 8 163 2 12 4 [.ref 0, .int x1, .int x2, .ref 212] [.ref 198, .int x1, .int x2] M Inv := by
  have hS := h.S
  have hz := h.z
  have hn := h.n32
  have hn1 := h.n1
  have hc8 := h.2.2.1.2.2.2.1
  by_cases hr : inR x1 6 ∧ inR x2 6
  · obtain ⟨s, hs, rfl⟩ := inR_of hr.1 (by decide)
    obtain ⟨t, ht, rfl⟩ := inR_of hr.2 (by decide)
    exact uMk h ht (fun _ _ => rfl) (wf_col hn) (fun hS9 => w_transpose (u_transpose h.D hs ht) (shK hS rfl) (shK hS9 rfl)) (fun v a b _ => n_transpose a b hc8 hs ht)
  · exact xI h (by decide) (wx_transpose (x_transpose hS hr) (shK hS rfl)) (t_transpose h.R hr)

theorem sm_combine (h : IV M n p c) (x1 : Int32) (x2 : Int32) (x3 : Int32) (x4 : Int32) : SmI True l jL_combine jX7_combine 8 165 4 24 4 [.ref 0, .int x1, .int x2, .int x3, .int x4, .ref 212] [.ref 198, .int x1, .int x2, .int x3, .int x4] M Inv := by
  have hS := h.S
  have hz := h.z
  have hn := h.n32
  have hn1 := h.n1
  have hc8 := h.2.2.1.2.2.2.1
  by_cases hr : inR x1 6 ∧ inR x2 6 ∧ inR x3 6
  · obtain ⟨a, ha, rfl⟩ := inR_of hr.1 (by decide)
    obtain ⟨b, hb9, rfl⟩ := inR_of hr.2.1 (by decide)
    obtain ⟨t, ht, rfl⟩ := inR_of hr.2.2 (by decide)
    by_cases h4 : ¬ x4 < 0 ∧ x4 ≤ 3
    · obtain ⟨w9, hw9, rfl⟩ := nI_of2 (n := 3) (by decide) h4.1 h4.2
      exact uMk h ht (fun _ _ => rfl) (wf_comb (h.wf ha) (h.wf hb9)) (fun hS9 => w_combine (u_combine h.D ha hb9 ht (by omega)) (shK hS rfl) (shK hS9 rfl)) (fun v a9 b9 _ => n_combine a9 b9 hc8 ha hb9 ht (by omega))
    · exact xI h (by decide) (wy_combine (y_combine hS hr.1 hr.2.1 hr.2.2 h4) (shK hS rfl)) (u_combine' h.R hr.1 hr.2.1 hr.2.2 h4)
  · exact xI h (by decide) (wx_combine (x_combine hS hr) (shK hS rfl)) (t_combine h.R hr)

theorem sm_exchange (h : IV M n p c) (x1 : Int32) (x2 : Int32) (x3 : Int32) : SmI True l jL_exchange jX7_exchange 10 187 3 18 4 [.ref 0, .int x1, .int x2, .int x3, .ref 212] [.ref 198, .int x1, .int x2, .int x3] M Inv := by
  have hS := h.S
  have hz := h.z
  have hn := h.n32
  have hn1 := h.n1
  have hc8 := h.2.2.1.2.2.2.1
  by_cases hr : inR x1 6 ∧ inR x2 n ∧ inR x3 n
  · obtain ⟨t, ht, rfl⟩ := inR_of hr.1 (by decide)
    obtain ⟨a, ha, rfl⟩ := inR_of hr.2.1 (by omega)
    obtain ⟨b, hb9, rfl⟩ := inR_of hr.2.2 (by omega)
    exact uMkV (g := exF (mI M (6 + 2 * t)) a b) (f := exF (Am M t) a b) (w := exC (mI M (6 + 2 * t)) a b n) (w' := exC (Am M t) a b n) h ht (fun _ _ => rfl) (wf_ex (h.wf ht) ha hb9 hn) (fun hS9 => w_exchange (u_exchange h.D ht ha hb9) (shK hS rfl) (shK hS9 rfl)) (fun v a9 b9 _ => n_exchange a9 b9 hc8 ht ha hb9) (fun _ => rfl)
  · exact xI h (by decide) (wx_exchange (x_exchange hS hz hr) (shK hS rfl)) (t_exchange h.R hr)

theorem clR (h : IV M n p c) {s : Nat} (hs : s < 6) : (∀ r, r < n → mI (clOf (remM M p c) s n) (175 + 2 * s + 1) r = wOut (Am M s) n n r) ∧ IC (clOf (remM M p c) s n) n ∧ Cu (remM M p c) (clOf (remM M p c) s n) := by
  have hp := h.2.2.1.2.1
  have hR := ic_X h (X := remM M p c) (fun _ _ _ => rfl)
  have e6 : ∀ t, t < 6 → mI (remM M p c) (6 + 2 * t) = mI M (6 + 2 * t) := fun t ht => rem_m (by omega) (by omega) hp
  have hcu : Cu (remM M p c) (clOf (remM M p c) s n) := (cq_clOf hs).cu
  have e7 : Am M s = mI (remM M p c) (6 + 2 * s) := (e6 s hs).symm
  rw [e7]
  generalize remM M p c = R at *
  have k1 : ∀ r, r < n → mI (clOf R s n) (175 + 2 * s + 1) r = wOut (mI R (6 + 2 * s)) n n r := fun r hr => by
    rw [show 175 + 2 * s + 1 = 176 + 2 * s by omega]
    by_cases h0 : mI R (175 + 2 * s) 1 = 0
    · rw [cl_self hs h0]
      exact wO_cg (fun i hi => wr_lt hi) n (Nat.le_refl n) r hr
    · unfold clOf
      rw [if_neg h0]
      exact hR s hs h0 r hr
  refine ⟨k1, fun t ht h1 r hr => ?_, hcu⟩
  rw [cl_ne (i := 6 + 2 * t) (by omega) (by omega)]
  by_cases e : t = s
  · subst e
    rw [show 176 + 2 * t = 175 + 2 * t + 1 by omega]
    exact k1 r hr
  · rw [cl_ne (by omega) (by omega)]
    rw [cl_ne (by omega) (by omega)] at h1
    exact hR t ht h1 r hr
theorem sm_close (h : IV M n p c) (x1 : Int32) (x2 : Int32) : SmI True l jL_close jX7_close 8 162 2 12 4 [.ref 0, .int x1, .int x2, .ref 212] [.ref 198, .int x1, .int x2] M Inv := by
  have hS := h.S
  have hz := h.z
  have hn := h.n32
  have hn1 := h.n1
  have hc8 := h.2.2.1.2.2.2.1
  by_cases hr : inR x1 6 ∧ inR x2 6
  · obtain ⟨s, hs, rfl⟩ := inR_of hr.1 (by decide)
    obtain ⟨t, ht, rfl⟩ := inR_of hr.2 (by decide)
    obtain ⟨k1, k2, k3⟩ := clR h hs
    exact uStore h (fun N => hdM (k0M N c) 205 n (wOut (Am M s) n n)) ht k3 (fun N hN => sr_X h (fun i a b => cl_ne (by omega) (by omega)) (G199 (rqG (Or.inl rfl) N) hN)) k2 (X188 h (cl_ne (by omega) (by omega))) k1 (wO_n (h.wf hs)) (fun hS9 => w_close (u_close h.D hs ht) (shK hS rfl) (shK hS9 rfl)) (fun v a b _ => n_close a b hc8 hs ht) (fun N => (rqG (Or.inl rfl) N).ru) (fun N => t6_hdM t6_k0M)
  · exact xI h (by decide) (wx_close (x_close hS hr) (shK hS rfl)) (t_close h.R hr)

end
end
-- 5983.us
section
/-! calls that change, from the invariant to the invariant (5981) -/
section
variable {l : Launch} {M : Mem} {n p c : Nat}
theorem rq_rcM {K N : Mem} {f : Nat → Int32} {k : Nat} (h : Rq K N) : Rq K (rcM N n f k) := by
  unfold rcM
  exact rq_sL (Or.inr (Or.inl rfl)) (rq_hdM (Or.inl rfl) (rq_hdM (Or.inr (Or.inr rfl)) h))
theorem sm_reduce (h : IV M n p c) (x1 : Int32) (x2 : Int32) : SmI True l jL_reduce jX7_reduce 8 163 2 12 4 [.ref 0, .int x1, .int x2, .ref 212] [.ref 198, .int x1, .int x2] M Inv := by
  have hS := h.S
  have hz := h.z
  have hn := h.n32
  have hn1 := h.n1
  have hc8 := h.2.2.1.2.2.2.1
  by_cases hr : inR x1 6 ∧ inR x2 6
  · obtain ⟨s, hs, rfl⟩ := inR_of hr.1 (by decide)
    obtain ⟨t, ht, rfl⟩ := inR_of hr.2 (by decide)
    have hne : ∀ i, i ≠ 195 → mI (rdX (remM M p c) s n) i = mI (remM M p c) i := fun i hi => sI_ne hi
    have e6 : mI (remM M p c) (6 + 2 * s) = mI M (6 + 2 * s) := rem_m (by omega) (by omega) h.2.2.1.2.1
    have hq := rd_ok (g := wr (mI (remM M p c) 195) (mI (remM M p c) (6 + 2 * s)) n) (h.wf hs) (fun i hi => by rw [wr_lt hi, e6]) hn n (Nat.le_refl n)
    have hcu : Cu (remM M p c) (rdX (remM M p c) s n) := by
      unfold rdX
      exact cu_sI (by decide) (Cu.rf _)
    have hg : ∀ i, i < n → mI (rdX (remM M p c) s n) 195 i = rcF (Am M s) n (n * n) i := fun i hi => by
      unfold rdX
      rw [sI_self]
      exact hq.1 i hi
    exact uStore h (fun N => rcM (k0M N c) n (Am M s) (n * n)) ht hcu (fun N hN => sr_X h (fun i a b => hne i (by omega)) (G199 (rq_rcM (Rq.rf _)) hN)) (ic_X h (fun i a b => hne i (by omega))) (X188 h (hne 188 (by decide))) hg hq.2.1 (fun hS9 => w_reduce (u_reduce h.D hs ht) (shK hS rfl) (shK hS9 rfl)) (fun v a b _ => n_reduce a b hc8 hs ht) (fun N => (rq_rcM (Rq.rf _)).ru) (fun N => t6_rcM t6_k0M)
  · exact xI h (by decide) (wx_reduce (x_reduce hS hr) (shK hS rfl)) (t_reduce h.R hr)

end
end
-- 5984.pw
section
/-! products and powers beside the counts of the state -/
section
variable {M N K Y T R : Mem} {n p c : Nat}
theorem SR_ct {X : Mem} {u : Nat → Int64} {a b : Nat} (h : SR M 3 u n) (h3 : mI X 3 3 = nI a) (h4 : mI X 3 4 = nI b) (h1 : mI X 3 1 = mI M 3 1) (h2 : mI X 3 2 = mI M 3 2) (hi : ∀ i, 4 ≤ i → i < 17 → mI X i = mI M i) : SR X 3 (fun_set (fun_set u 2 (lN a)) 3 (lN b)) n := by
  obtain ⟨⟨a1, a2, a3, a4⟩, ⟨bl, b1', b2, b3, b4⟩, -, -, hS⟩ := h
  have g : ∀ j, j ≠ 2 → j ≠ 3 → fun_set (fun_set u 2 (lN a)) 3 (lN b) j = u j := fun j h2 h3 => by rw [fsu_at, if_neg h3, fsu_at, if_neg h2]
  refine ⟨⟨a1, a2, by rw [h1]; exact a3, by rw [g 0 (by decide) (by decide)]; exact a4⟩, ⟨bl, b1', b2, by rw [h2]; exact b3, by rw [g 1 (by decide) (by decide)]; exact b4⟩, ⟨a, h3, by rw [fsu_at, if_neg (by decide), fsu_at, if_pos rfl]⟩, ⟨b, h4, by rw [fsu_at, if_pos rfl]⟩, fun s hs => ?_⟩
  exact SS_cg (hS s hs) (fun j _ _ => by rw [hi _ (by omega) (by omega)]) (fun r _ => by rw [hi _ (by omega) (by omega)]) ⟨g _ (by omega) (by omega), g _ (by omega) (by omega), g _ (by omega) (by omega), g _ (by omega) (by omega)⟩ (fun r _ => g _ (by omega) (by omega))
theorem wk_3 {j : Nat} : mI (workM Y) 3 j = if j = 4 then mI Y 187 7 else if j = 3 then mI Y 187 6 else mI Y 3 j := by
  unfold workM
  rw [pI_at, pI_at]
  by_cases e : j = 4
  · rw [if_pos ⟨rfl, e⟩, if_pos e]
  · rw [if_neg (fun h => e h.2), if_neg e]
    by_cases e2 : j = 3
    · rw [if_pos ⟨rfl, e2⟩, if_pos e2]
    · rw [if_neg (fun h => e2 h.2), if_neg e2]
theorem wk_ne {i : Nat} (h : i ≠ 3) : mI (workM Y) i = mI Y i := by
  unfold workM
  rw [sI_ne h, sI_ne h]
theorem bg_5 {f : Int32} : mI (begMem R f) 187 5 = f := by
  unfold begMem
  exact pI_at9 _ _ _ _
theorem pr_X {a b bl : Nat} {fl : Bool} (ha : a < 6) (hb9 : b < 6) (h0 : mI R 188 0 = 0) (hb1 : 1 ≤ bl) (hb8 : bl ≤ 8) (hn : n ≤ 32) : mI (prM R a b n bl (b1 fl)) 188 0 = 0 ∧ mI (prM R a b n bl (b1 fl)) 3 3 = nI (mdN n bl (blocks n bl)) ∧ mI (prM R a b n bl (b1 fl)) 3 4 = nI (tkN (mI R (6 + 2 * a)) n bl (blocks n bl)) ∧ (∀ j, j ≠ 3 → j ≠ 4 → mI (prM R a b n bl (b1 fl)) 3 j = mI R 3 j) ∧ (∀ i, i ≠ 3 → i ≠ 187 → i ≠ 188 → i ≠ 195 → mI (prM R a b n bl (b1 fl)) i = mI R i) ∧ ∀ r, r < n → mI (prM R a b n bl (b1 fl)) 195 r = mlF fl (mI R (6 + 2 * a)) (mI R (6 + 2 * b)) n r := by
  obtain ⟨m1, m2, m3, m4⟩ := mul_all (fl := fl) (a := mI R (6 + 2 * a)) (b := mI R (6 + 2 * b)) (tb := mI R 188) (g := mI R 195) h0 hb1 hb8 hn
  have eE : mulEnd (begMem R (b1 fl)) n bl (6 + 2 * a) (6 + 2 * b) 195 = mulIt (b1 fl) n bl (mI R (6 + 2 * a)) (mI R (6 + 2 * b)) (mI R 188) (mI R 195) (blocks n bl) := by
    unfold mulEnd
    rw [bg_5, begMem_ne (by omega), begMem_ne (by omega), begMem_ne (by decide), begMem_ne (by decide)]
  unfold prM
  rw [eE]
  generalize mulIt (b1 fl) n bl (mI R (6 + 2 * a)) (mI R (6 + 2 * b)) (mI R 188) (mI R 195) (blocks n bl) = e at *
  have hB : ∀ i, i ≠ 187 → mI (begMem R (b1 fl)) i = mI R i := fun i hi => begMem_ne hi
  generalize begMem R (b1 fl) = B at *
  have q188 : mI (mulMem B 195 e) 188 = e.1 := by
    unfold mulMem
    rw [sI_ne (by decide), sI_ne (by decide), sI_self]
  have q195 : mI (mulMem B 195 e) 195 = e.2.1 := by
    unfold mulMem
    rw [sI_ne (by decide), sI_self]
  have q6 : mI (mulMem B 195 e) 187 6 = e.2.2.1 := by
    unfold mulMem
    rw [sI_self, fs_ne _ _ (by decide), fs_self]
  have q7 : mI (mulMem B 195 e) 187 7 = e.2.2.2 := by
    unfold mulMem
    rw [sI_self, fs_self]
  have qn : ∀ i, i ≠ 187 → i ≠ 188 → i ≠ 195 → mI (mulMem B 195 e) i = mI R i := fun i h1 h2 h3 => by rw [mulMem_ne h1 h2 h3, hB i h1]
  refine ⟨by rw [wk_ne (by decide), q188]; exact m1, by rw [wk_3, if_neg (by decide), if_pos rfl, q6]; exact m3, by rw [wk_3, if_pos rfl, q7]; exact m4, fun j h1 h2 => by rw [wk_3, if_neg h2, if_neg h1, qn 3 (by decide) (by decide) (by decide)], fun i h1 h2 h3 h4 => by rw [wk_ne h1, qn i h2 h3 h4], fun r hr => by rw [wk_ne (by decide), q195]; exact m2 r hr⟩
theorem rsM_at {s : RS} : mI (rsMem Y s) 188 = s.2.1 ∧ mI (rsMem Y s) 187 6 = s.2.2.2.2.1 ∧ mI (rsMem Y s) 187 7 = s.2.2.2.2.2 := by
  unfold rsMem
  refine ⟨by rw [sI_ne (by decide), sI_ne (by decide), sI_ne (by decide), sI_self], by rw [sI_self, fs_ne _ _ (by decide), fs_self], by rw [sI_self, fs_self]⟩
theorem pw_X {s bl m : Nat} {fl : Bool} {g : Nat → Int32} (hs : s < 6) (h0 : mI R 188 0 = 0) (hb1 : 1 ≤ bl) (hb8 : bl ≤ 8) (hn : n ≤ 32) (hm : m ≤ 1000000) (hg : ∀ r, r < n → mI R (6 + 2 * s) r = g r) {u : Nat → Int64} (h : SR R 3 u n) (hu : mL K 199 = u) : mI (pwM R s n bl (b1 fl) (nI m)) 188 0 = 0 ∧ (∀ i, 4 ≤ i → i < 187 → mI (pwM R s n bl (b1 fl) (nI m)) i = mI R i) ∧ (∀ r, r < n → mI (pwM R s n bl (b1 fl) (nI m)) (rsP (pwE R s n bl (b1 fl) (nI m))) r = (pqE K g fl n bl (nI m)).1 r) ∧ SR (pwM R s n bl (b1 fl) (nI m)) 3 (fun_set (fun_set u 2 (pqE K g fl n bl (nI m)).2.1) 3 (pqE K g fl n bl (nI m)).2.2.1) n ∧ Cu R (pwM R s n bl (b1 fl) (nI m)) := by
  have h1 := pwR_all (fl := fl) (bl := bl) (base := mI R (6 + 2 * s)) (s0 := rs0 (begMem R (b1 fl)) n) (q0 := pwS K) hm ⟨by
    show mI (begMem R (b1 fl)) 188 0 = 0
    rw [begMem_ne (by decide)]
    exact h0, fun r hr => wr_lt hr, fun h9 => h9.elim⟩ hb1 hb8 hn hg
  have e6 : pwE R s n bl (b1 fl) (nI m) = rsIt (b1 fl) n bl (mI R (6 + 2 * s)) (nI m) (rs0 (begMem R (b1 fl)) n) 20 := by
    unfold pwE raiseEnd
    rw [bg_5, begMem_ne (by omega)]
  rw [← e6] at h1
  have hq0 : m = 0 → pqE K g fl n bl (nI m) = pwS K := by
    intro e
    subst e
    rfl
  have eq9 : pwL g fl n bl (nI m) (hiB (nI m) 21) (pwS K) = pqE K g fl n bl (nI m) := rfl
  rw [eq9] at h1
  have hC : Cu R (pwM R s n bl (b1 fl) (nI m)) := ⟨cf_pwM, fun i hi => by
    unfold pwM
    generalize pwE R s n bl (b1 fl) (nI m) = e
    split
    · rw [wk_ne (by omega), rsMem_ne (by omega), begMem_ne (by omega)]
    · rw [rsMem_ne (by omega), begMem_ne (by omega)]⟩
  have hp := (rs_ids (pwE R s n bl (b1 fl) (nI m))).1
  have hpos : 0 < nI m ↔ 0 < m := nI_ltI (a := 0) (b := m) (by omega) (by omega)
  refine ⟨?_, ?_, ?_, ?_, hC⟩
  · have g1 := h1.1
    unfold pwM
    generalize pwE R s n bl (b1 fl) (nI m) = e at *
    split
    · rw [wk_ne (by decide), rsM_at.1]
      exact g1
    · rw [rsM_at.1]
      exact g1
  · intro i a b
    unfold pwM
    generalize pwE R s n bl (b1 fl) (nI m) = e at *
    split
    · rw [wk_ne (by omega), rsMem_ne (by omega), begMem_ne (by omega)]
    · rw [rsMem_ne (by omega), begMem_ne (by omega)]
  · intro r hr
    have g1 := h1.2.1 r hr
    rw [← rs_C (M := begMem R (b1 fl))] at g1
    unfold pwM
    generalize pwE R s n bl (b1 fl) (nI m) = e at *
    split
    · rw [wk_ne (by omega)]
      exact g1
    · exact g1
  · by_cases e0 : 0 < m
    · obtain ⟨a, b, g1, g2, g3, g4⟩ := h1.2.2 e0
      rw [g3, g4]
      refine SR_ct h ?_ ?_ ?_ ?_ (fun i a9 b9 => ?_) <;> unfold pwM <;> rw [if_pos (hpos.mpr e0)] <;> generalize pwE R s n bl (b1 fl) (nI m) = e at *
      · rw [wk_3, if_neg (by decide), if_pos rfl, rsM_at.2.1]
        exact g1
      · rw [wk_3, if_pos rfl, rsM_at.2.2]
        exact g2
      · rw [wk_3, if_neg (by decide), if_neg (by decide), rsMem_ne (by decide), begMem_ne (by decide)]
      · rw [wk_3, if_neg (by decide), if_neg (by decide), rsMem_ne (by decide), begMem_ne (by decide)]
      · rw [wk_ne (by omega), rsMem_ne (by omega), begMem_ne (by omega)]
    · have em : m = 0 := by omega
      rw [hq0 em]
      have e2 : (pwS K).2.1 = u 2 := by rw [← hu]; rfl
      have e3 : (pwS K).2.2.1 = u 3 := by rw [← hu]; rfl
      rw [e2, e3]
      refine SR_cg h (fun i a b => ?_) (fun j _ => ?_)
      · unfold pwM
        rw [if_neg (fun q => e0 (hpos.mp q))]
        generalize pwE R s n bl (b1 fl) (nI m) = e at *
        rw [rsMem_ne (by omega), begMem_ne (by omega)]
      · rw [fsu_at, fsu_at]
        split
        · rename_i q
          rw [q]
        · split
          · rename_i q
            rw [q]
          · rfl
/-- the reference's memories -/
theorem ru_ctM {a b : Nat} (h : Ru K N) : Ru K (ctM N a b) := by
  unfold ctM
  exact ru_sL (ru_sL h)
theorem ru_hdM {x k : Nat} {f : Nat → Int32} (hi : x = 205 ∨ x = 206 ∨ x = 207) (h : Ru K N) : Ru K (hdM N x k f) := h.tr (rq_hdM hi (Rq.rf _)).ru
theorem ru_h2 {x : Nat} {f : Nat → Int64} (hi : x = 205 ∨ x = 206 ∨ x = 207) (h : Ru K N) : Ru K (sL N x f) := h.tr (rq_sL hi (Rq.rf _)).ru
theorem ru_muM {fl : Bool} {f g : Nat → Int32} {bl : Nat} (h : Ru K N) : Ru K (muM N fl f g n bl) := by
  unfold muM
  exact ru_hdM (Or.inr (Or.inr rfl)) (ru_ctM h)
theorem ru_pqM {s : PW} (h : Ru K N) : Ru K (pqM N n s) := by
  unfold pqM
  exact ru_hdM (Or.inl rfl) (ru_h2 (Or.inr (Or.inr rfl)) (ru_sL (ru_sL h)))
theorem kp_L {i : Nat} (h : i ≠ 201) : mL (kepM Y c) i = mL Y i := sL_ne h
theorem kp_L1 : mL (kepM Y c) 201 = cpF (paW (mL Y 201) c) (paC c) (mL Y 199) 0 220 := sL_self _ _ _
theorem kp_o {i : Nat} (h : i ≠ 198) : mI (kepM Y c) i = mI Y i := sI_ne h
theorem kp_198 {j : Nat} : mI (kepM Y c) 198 j = if j = 5 then nI (paC c + 1) else mI Y 198 j := by
  unfold kepM
  rw [pI_at]
  by_cases e : j = 5
  · rw [if_pos ⟨rfl, e⟩, if_pos e]
  · rw [if_neg (fun h => e h.2), if_neg e]
theorem ru_kep (h : Rq T Y) : Ru (kepM T c) (kepM Y c) := by
  obtain ⟨⟨f1, f2, f3, f4, f5, f6, f7⟩, ⟨l1, l2, l3⟩, hb9, ⟨i1, i2⟩, h8⟩ := h
  refine ⟨⟨f1, f2, f3, f4, f5, fun i hi => by rw [kp_o (by omega), kp_o (by omega)]; exact f6 i hi, fun i hi => by rw [kp_L (by omega), kp_L (by omega)]; exact f7 i hi⟩, ⟨by rw [kp_L1, kp_L1, l1, l2], by rw [kp_L (by decide), kp_L (by decide)]; exact l3⟩, fun q i hi => ?_, ⟨by rw [kp_o (by decide), kp_o (by decide)]; exact i1, by rw [kp_o (by decide), kp_o (by decide)]; exact i2⟩, fun j h6 h22 => ?_⟩
  · have := hb9 (fun i hi => by
      have := q i hi
      rw [kp_L (by decide)] at this
      exact this) i hi
    rw [kp_L (by decide)]
    exact this
  · rw [kp_198, kp_198, h8 j h6 h22]
theorem iv_E {s : Nat} : esR True n (ivE M s n) (ivR R n (Am M s)) := el_E (M := M) (P := True) (fun _ i hi => wr_lt hi)
theorem ivR_cg {f : Nat → Int32} (h : mI N 210 = mI M 210) : ivR N n f = ivR M n f := by
  unfold ivR
  rw [h]
end
end
-- 5985.us
section
/-! calls that change, from the invariant to the invariant (5985) -/
section
variable {l : Launch} {M : Mem} {n p c : Nat}
theorem Ru.rf (K : Mem) : Ru K K := (Rq.rf K).ru
theorem t6_pqM {N : Mem} {s : PW} (h : t6 N) : t6 (pqM N n s) := by
  unfold pqM
  exact t6_hdM (t6_sL (t6_sL (t6_sL h)))
theorem ml_z {fl : Bool} {g : Nat → Int32} {x : Int32} (hg : wfr n g) {i : Nat} (hi : n ≤ i) : ∀ k, k ≤ n → hb (mlI fl g x k) i = false
  | 0, _ => hb_0 i
  | k + 1, hk => by
    have h1 := ml_z (fl := fl) (x := x) hg hi k (by omega)
    have h2 : hb (if hb x k = true then g k else 0) i = false := by
      split
      · exact hg k (by omega) i hi
      · exact hb_0 i
    unfold mlI jn
    split
    · rw [hb_or, h1, h2]
      rfl
    · rw [hb_xor, h1, h2]
      rfl
theorem wf_ml {fl : Bool} {f g : Nat → Int32} (hg : wfr n g) : wfr n (mlF fl f g n) := fun r _ c hc => ml_z hg hc n (Nat.le_refl n)
theorem wf_pwL {fl : Bool} {g : Nat → Int32} {bl : Nat} {x : Int32} (hg : wfr n g) : ∀ k (s : PW), wfr n s.1 → wfr n (pwL g fl n bl x k s).1
  | 0, _, h => h
  | k + 1, s, h => wf_pwL hg k _ (by
    unfold pwB
    split
    · exact wf_ml hg
    · exact wf_ml h)
theorem wf_pq {K : Mem} {fl : Bool} {g : Nat → Int32} {bl : Nat} {x : Int32} (hg : wfr n g) (hn : n ≤ 32) : wfr n (pqE K g fl n bl x).1 := wf_pwL hg _ _ (fun r hr c hc => by
  show hb (bitI r) c = false
  rw [hb_bitI (by omega), decide_eq_false (by omega)])
theorem bl_ok (h : IV M n p c) : ∃ bl, 1 ≤ bl ∧ bl ≤ 8 ∧ mI M 3 2 = nI bl ∧ mL M 199 1 = lN bl := h.2.1.2.1
theorem sm_product (h : IV M n p c) (x1 : Int32) (x2 : Int32) (x3 : Int32) (x4 : Bool) : SmI True l jL_product jX7_product 8 164 3 18 4 [.ref 0, .int x1, .int x2, .int x3, .int (b1 x4), .ref 212] [.ref 198, .int x1, .int x2, .int x3, .int (b1 x4)] M Inv := by
  have hS := h.S
  have hz := h.z
  have hn := h.n32
  have hn1 := h.n1
  have hc8 := h.2.2.1.2.2.2.1
  by_cases hr : inR x1 6 ∧ inR x2 6 ∧ inR x3 6
  · obtain ⟨a, ha, rfl⟩ := inR_of hr.1 (by decide)
    obtain ⟨b, hb9, rfl⟩ := inR_of hr.2.1 (by decide)
    obtain ⟨t, ht, rfl⟩ := inR_of hr.2.2 (by decide)
    obtain ⟨bl, bl1, bl8, bl2, bl3⟩ := bl_ok h
    have hp := h.2.2.1.2.1
    have ea : mI (remM M p c) (6 + 2 * a) = mI M (6 + 2 * a) := rem_m (by omega) (by omega) hp
    have eb : mI (remM M p c) (6 + 2 * b) = mI M (6 + 2 * b) := rem_m (by omega) (by omega) hp
    have e188 : mI (remM M p c) 188 0 = 0 := X188 h rfl
    obtain ⟨q1, q2, q3, q4, q5, q6⟩ := pr_X (fl := x4) ha hb9 e188 bl1 bl8 hn
    rw [ea] at q3
    rw [ea, eb] at q6
    have hu := u_product (l := l) (f := b1 x4) h.D bl2 bl1 bl8 ha hb9 ht (k01_b x4)
    have hcu : Cu (remM M p c) (prM (remM M p c) a b n bl (b1 x4)) := ⟨cf_prM, fun i hi => q5 i (by omega) (by omega) (by omega) (by omega)⟩
    generalize prM (remM M p c) a b n bl (b1 x4) = X at *
    refine uStore h (f := mlF x4 (Am M a) (Am M b) n) (fun N => muM (hdM (hdM (k0M N c) 205 n (Am M a)) 206 n (Am M b)) x4 (Am M a) (Am M b) n bl) ht hcu (fun N hN => ?_) (ic_X h (fun i a9 b9 => q5 i (by omega) ?_ ?_ ?_)) q1 q6 (wf_ml (h.wf hb9)) (fun hS9 => w_product hu (shK hS rfl) (shK hS9 rfl)) (fun v a9 b9 c9 => n_product a9 b9 hc8 (by rw [c9]; exact bl3) bl1 bl8 ha hb9 ht) (fun N => ru_muM (ru_hdM (Or.inr (Or.inl rfl)) (ru_hdM (Or.inl rfl) (Ru.rf _)))) (fun N => t6_muM (t6_hdM (t6_hdM t6_k0M)))
    · rw [mu_9, hdM_ne (by decide), hdM_ne (by decide), k0_L (by decide), hN]
      exact SR_ct (sr_X h (X := remM M p c) (fun _ _ _ => rfl) rfl) q2 q3 (q4 1 (by decide) (by decide)) (q4 2 (by decide) (by decide)) (fun i a9 b9 => q5 i (by omega) (by omega) (by omega) (by omega))
    all_goals omega
  · exact xI h (by decide) (wx_product (x_product hS hr) (shK hS rfl)) (t_product h.R hr)

theorem sm_power (h : IV M n p c) (x1 : Int32) (x2 : Int32) (x3 : Int32) (x4 : Bool) : SmI True l jL_power jX7_power 8 165 4 24 4 [.ref 0, .int x1, .int x2, .int x3, .int (b1 x4), .ref 212] [.ref 198, .int x1, .int x2, .int x3, .int (b1 x4)] M Inv := by
  have hS := h.S
  have hz := h.z
  have hn := h.n32
  have hn1 := h.n1
  have hc8 := h.2.2.1.2.2.2.1
  by_cases hr : inR x1 6 ∧ inR x3 6
  · by_cases h4 : ¬ x2 < 0 ∧ x2 ≤ 1000000
    · obtain ⟨s, hs, rfl⟩ := inR_of hr.1 (by decide)
      obtain ⟨t, ht, rfl⟩ := inR_of hr.2 (by decide)
      obtain ⟨m, hm, rfl⟩ := nI_of2 (M := 1000000) (n := 1000000) (by decide) h4.1 h4.2
      obtain ⟨bl, bl1, bl8, bl2, bl3⟩ := bl_ok h
      have hp := h.2.2.1.2.1
      have e6 : mI (remM M p c) (6 + 2 * s) = mI M (6 + 2 * s) := rem_m (by omega) (by omega) hp
      have e188 : mI (remM M p c) 188 0 = 0 := X188 h rfl
      obtain ⟨q1, q2, q3, q4, q5⟩ := pw_X (K := M) (fl := x4) (g := Am M s) hs e188 bl1 bl8 hn (show m ≤ 1000000 by omega) (fun r hr => by rw [e6]) (sr_X h (X := remM M p c) (fun _ _ _ => rfl) rfl) rfl
      have hu := u_power (l := l) (f := b1 x4) (x := nI m) h.D bl2 bl1 bl8 hs ht (k01_b x4) h4.1 h4.2
      have hcf : ∀ r0, Cf M (storeM (pwM (remM M p c) s n bl (b1 x4) (nI m)) r0 t n) := fun r0 => (cf_remM hp).tr (cu_storeM ht q5).1
      generalize pwM (remM M p c) s n bl (b1 x4) (nI m) = X at *
      generalize rsP (pwE (remM M p c) s n bl (b1 x4) (nI m)) = r0 at *
      have hPq : ∀ v, pqE (pL (storeM X r0 t n) 212 0 v) (Am M s) x4 n bl (nI m) = pqE M (Am M s) x4 n bl (nI m) := fun v => by
        unfold pqE pwS
        rw [sL_ne9 (by decide), sL_ne9 (by decide), (hcf r0).L]
      refine uStore h (f := (pqE M (Am M s) x4 n bl (nI m)).1) (fun N => pqM (hdM (k0M N c) 206 n (Am M s)) n (pqE M (Am M s) x4 n bl (nI m))) ht q5 (fun N hN => ?_) (ic_X h (fun i a b => q2 i a b)) q1 q3 (wf_pq (h.wf hs) hn) (fun hS9 => w_power hu (shK hS rfl) (shK hS9 rfl)) (fun v a9 b9 c9 => ?_) (fun N => ru_pqM (ru_hdM (Or.inr (Or.inl rfl)) (Ru.rf _))) (fun N => t6_pqM (t6_hdM t6_k0M))
      · rw [pq_9, hdM_ne (by decide), k0_L (by decide), hN]
        exact q4
      · have n9 := n_power (l := l) (x := nI m) (fl := x4) a9 b9 hc8 (by rw [c9]; exact bl3) bl1 bl8 hs ht h4
        unfold pwZ at n9
        rw [hPq v] at n9
        exact n9
    · exact xI h (by decide) (wy_power (y_power hS hr.1 hr.2 h4) (shK hS rfl)) (u_power' h.R hr.1 hr.2 h4)
  · exact xI h (by decide) (wx_power (x_power hS hr) (shK hS rfl)) (t_power h.R hr)

theorem sm_invert (h : IV M n p c) (x1 : Int32) (x2 : Int32) : SmI True l jL_invert jX7_invert 8 172 2 12 4 [.ref 0, .int x1, .int x2, .ref 212] [.ref 198, .int x1, .int x2] M Inv := by
  have hS := h.S
  have hz := h.z
  have hn := h.n32
  have hn1 := h.n1
  have hc8 := h.2.2.1.2.2.2.1
  by_cases hr : inR x1 6 ∧ inR x2 6
  · obtain ⟨s, hs, rfl⟩ := inR_of hr.1 (by decide)
    obtain ⟨t, ht, rfl⟩ := inR_of hr.2 (by decide)
    have hi := iv_elMem h (ivE M s n)
    have e6 : Am (elMem M (ivE M s n)) s = Am M s := by
      show mI (elMem M (ivE M s n)) (6 + 2 * s) = mI M (6 + 2 * s)
      unfold elMem
      rw [sI_ne (by omega), sI_ne (by omega), sI_ne (by omega), sI_ne (by omega)]
    have hE := iv_E (M := M) (R := M) (n := n) (s := s)
    have hu := u_invert (l := l) h.D hs ht
    have e4 : (ivR M n (Am M s)).2.2.2 = (ivE M s n).2.2.2 := hE.2.2.2.1.symm
    have hcE := cf_elMem (M := M) (s := ivE M s n)
    by_cases q : (ivE M s n).2.2.2 < n
    · rw [if_pos q, if_pos q] at hu
      have hcg : ∀ v : Int64, ivR (thr (pL (elMem M (ivE M s n)) 212 0 v) 0) n (Am M s) = ivR M n (Am M s) := fun v => ivR_cg (by
        rw [thr_I (by decide)]
        exact hcE.I (i := 210) (by decide))
      have n9 := fun v => o_invert (l := l) (iv_A (v := v) h hcE) hs ht (by rw [hcg v, e4]; exact q)
      refine uI hi.S (w_invert hu (shK hS rfl) (shK hi.S rfl)) (n9 _) (fun _ => rfl) (rf_rbM (rf_thr (Rf.rf _))) (t6_rbM t6_thr) ⟨n, p, c, iv_r (iv_1 hi) (rq_rbM (rq_thr (Rq.rf _)))⟩
    · rw [if_neg q, if_neg q] at hu
      have hp := h.2.2.1.2.1
      have e193 : mI (remM (elMem M (ivE M s n)) p c) 193 = (ivE M s n).2.1 := by
        rw [rem_m (by decide) (by decide) hp, el_r]
      have hwf : wfr n (ivR M n (Am M s)).2.1 := by
        unfold ivR
        exact el_wf n (Am M s, bitI, mI M 210, 0) (Nat.zero_le n) (fun r hr c hc => by
          show hb (bitI r) c = false
          rw [hb_bitI (by omega), decide_eq_false (by omega)])
      have hcf : Cf M (storeM (remM (elMem M (ivE M s n)) p c) 193 t n) := hcE.tr ((cf_remM hp).tr (cu_storeM (X := remM (elMem M (ivE M s n)) p c) ht (Cu.rf _)).1)
      have hcg : ∀ v : Int64, ivR (thr (pL (storeM (remM (elMem M (ivE M s n)) p c) 193 t n) 212 0 v) 0) n (Am M s) = ivR M n (Am M s) := fun v => ivR_cg (by
        rw [thr_I (by decide)]
        exact hcf.I (i := 210) (by decide))
      refine uStore hi (f := (ivR M n (Am M s)).2.1) (fun N => kepM (rbM (thr N 0) n (ivR M n (Am M s))) c) ht (Cu.rf _) (fun N hN => ?_) (ic_X hi (fun _ _ _ => rfl)) (X188 hi rfl) (fun i h9 => ?_) hwf (fun hS9 => w_invert hu (shK hS rfl) (shK hS9 rfl)) (fun v a9 b9 c9 => ?_) (fun N => ru_kep (rq_rbM (Rq.rf _))) (fun N => t6_kepM (t6_rbM t6_thr))
      · refine sr_X hi (fun _ _ _ => rfl) ?_
        rw [kp_L (by decide), (rq_rbM (M := thr N 0) (M1 := thr N 0) (Rq.rf _)).2.1.1]
        exact hN
      · rw [e193]
        exact hE.2.1 trivial i h9
      · have n9 := n_invert (l := l) a9 b9 hc8 hs ht (by rw [e6, hcg v, e4]; exact q)
        rw [e6, hcg v] at n9
        unfold inM at n9
        rw [hcg v] at n9
        exact n9
  · exact xI h (by decide) (wx_invert (x_invert hS hr) (shK hS rfl)) (t_invert h.R hr)

end
end
-- 5986.us
section
/-! calls that change, from the invariant to the invariant (5986) -/
section
variable {l : Launch} {M : Mem} {n p c : Nat}
theorem SR_set {X : Mem} {u : Nat → Int64} {s r : Nat} {y : Int32} (hs : s < 6) (hr : r < n) (hn : n ≤ 32) (h : SR X 3 u n) (hy : ∀ c, n ≤ c → hb y c = false) : SR (sI X (6 + 2 * s) (fun_set (mI X (6 + 2 * s)) r y)) 3 (fun_set u (28 + 32 * s + r) (uL y)) n := by
  obtain ⟨-, -, -, -, c6, c7⟩ := h.2.2.2.2 s hs
  rw [show 3 + 3 + 2 * s = 6 + 2 * s by omega] at c6 c7
  have hw : wfr n (fun_set (mI X (6 + 2 * s)) r y) := fun x hx c hc => by
    unfold fun_set
    split
    · exact hy c hc
    · exact c7 x hx c hc
  refine SR_cg (SR_row hs h (fun _ _ => rfl) hw) (fun _ _ _ => rfl) (fun i hi => ?_)
  rw [fsu_at, ly_at]
  by_cases e : 28 + 32 * s ≤ i ∧ i < 28 + 32 * s + n
  · rw [if_pos e]
    by_cases e2 : i = 28 + 32 * s + r
    · rw [if_pos e2, e2, show 28 + 32 * s + r - (28 + 32 * s) = r by omega, fs_self]
    · rw [if_neg e2, fs_ne _ _ (by omega)]
      have := c6 (i - (28 + 32 * s)) (by omega)
      rw [show 28 + 32 * s + (i - (28 + 32 * s)) = i by omega] at this
      exact this
  · rw [if_neg e, if_neg (by omega)]
theorem low_z {x : Int64} (hn : n ≤ 32) : ∀ c, n ≤ c → hb (x.toInt32 &&& lowM n) c = false := fun c hc => by
  rw [hb_and, hb_lowM hn, decide_eq_false (by omega), Bool.and_false]
theorem anS_9 {N : Mem} {s i : Nat} {x : Int32} {y : Int64} : mL (anM (pL N 199 i y) s x) 199 = anU (fun_set (mL N 199) i y) s x := by
  rw [anM_U, pL_0]
theorem sm_setRow (h : IV M n p c) (x1 : Int32) (x2 : Int32) (x3 : Int64) : SmI True l jL_setRow jX7_setRow 9 176 2 12 4 [.ref 0, .int x1, .int x2, .long x3, .ref 212] [.ref 198, .int x1, .int x2, .long x3] M Inv := by
  have hS := h.S
  have hz := h.z
  have hn := h.n32
  have hn1 := h.n1
  have hc8 := h.2.2.1.2.2.2.1
  by_cases hr : inR x1 6 ∧ inR x2 n
  · obtain ⟨s, hs, rfl⟩ := inR_of hr.1 (by decide)
    obtain ⟨r, hr2, rfl⟩ := inR_of hr.2 (by omega)
    have hp := h.2.2.1.2.1
    have hu := u_setRow (l := l) (x := x3) h.D hs hr2
    have e6 : mI (remM M p c) (6 + 2 * s) = mI M (6 + 2 * s) := rem_m (by omega) (by omega) hp
    have hcu : Cu (remM M p c) (swM M s r n p c x3) := by
      unfold swM
      exact cu_noteM hs (cu_sI (by omega) (Cu.rf _))
    have hcf : Cf M (swM M s r n p c x3) := (cf_remM hp).tr hcu.1
    have hN : mL (pL (swM M s r n p c x3) 212 0 (swV M s r n x3).toInt64) 199 = mL M 199 := by rw [sL_ne9 (by decide), hcf.L]
    have n9 := n_setRow (l := l) (x := x3) (iv_A (v := (swV M s r n x3).toInt64) h hcf) (iv_c5 h hcf _) hc8 hs hr2
    have hRu : Ru (k0M (pL (swM M s r n p c x3) 212 0 (swV M s r n x3).toInt64) c) (anM (srM (k0M (pL (swM M s r n p c x3) 212 0 (swV M s r n x3).toInt64) c) s r (x3.toInt32 &&& lowM n)) s (nI n)) := by
      unfold srM
      exact ru_anM (ru_sL (Ru.rf _))
    have hI : ∀ i, i < 198 → mI (anM (srM (k0M (pL (swM M s r n p c x3) 212 0 (swV M s r n x3).toInt64) c) s r (x3.toInt32 &&& lowM n)) s (nI n)) i = mI (swM M s r n p c x3) i := fun i hi => by
      rw [hRu.1.I hi, (rf_k0M (c := c) (Rf.rf _)).I hi]
    refine uI (hcf.S hS) (w_setRow hu (shK hS rfl) (shK (hcf.S hS) rfl)) n9 (fun _ => ?_) (rf_anM (rf_srM (rf_k0M (Rf.rf _)))) (t6_anM (t6_srM t6_k0M)) ⟨n, _, _, iv_u h hcu hRu ?_ ?_ ?_⟩
    · unfold swV
      rw [Int32.xor_comm]
    · have e9 : mL (anM (srM (k0M (pL (swM M s r n p c x3) 212 0 (swV M s r n x3).toInt64) c) s r (x3.toInt32 &&& lowM n)) s (nI n)) 199 = anU (fun_set (mL M 199) (28 + 32 * s + r) (uL (x3.toInt32 &&& lowM n))) s (nI n) := by
        unfold srM
        rw [anS_9, k0_L (by decide), hN]
      rw [e9]
      refine SR_cg (M := swM M s r n p c x3) ?_ (fun i h1 h2 => hI i (by omega)) (fun _ _ => rfl)
      unfold swM noteM
      rw [← e6]
      exact SR_an hs (SR_175 (by omega) (SR_set hs hr2 hn (sr_X h (fun _ _ _ => rfl) rfl) (low_z hn)))
    · intro t ht h1 r9 hr9
      rw [hI _ (by omega)] at h1
      rw [hI _ (by omega), hI _ (by omega)]
      refine (?_ : IC (swM M s r n p c x3) n) t ht h1 r9 hr9
      unfold swM
      exact ic_row hs (ic_X h (fun _ _ _ => rfl))
    · rw [hI _ (by omega)]
      unfold swM
      rw [noteM_ne (by omega) (by omega), sI_ne (by omega)]
      exact X188 h rfl
  · exact xI h (by decide) (wx_setRow (x_setRow hS hz hr) (shK hS rfl)) (t_setRow h.R hr)

end
end
-- 5987.us
section
/-! calls that change, from the invariant to the invariant (5987) -/
section
variable {l : Launch} {M : Mem} {n p c : Nat}
theorem SR_km {X : Mem} {u : Nat → Int64} (h : SR X 3 u n) : kmI u 6 = nI (keptC X 6) := by
  have hk : ∀ s, s < 6 → mI X (5 + 2 * s) 1 = b1 (decide (mI X (5 + 2 * s) 1 = 1)) ∧ u (4 + s) = b1L (decide (mI X (5 + 2 * s) 1 = 1)) := fun s hs => by
    obtain ⟨⟨k, k1, k2⟩, -⟩ := h.2.2.2.2 s hs
    rw [show 3 + 2 + 2 * s = 5 + 2 * s by omega] at k1
    rw [k1, k2]
    cases k
    · exact ⟨by decide, by decide⟩
    · exact ⟨by decide, by decide⟩
  rw [km_ok (K := fun s => decide (mI X (5 + 2 * s) 1 = 1)) 6 (fun s hs => (hk s hs).2), kc_ok (K := fun s => decide (mI X (5 + 2 * s) 1 = 1)) 6 (fun s hs => (hk s hs).1)]
theorem SR_kp {X : Mem} {u : Nat → Int64} {s : Nat} {b : Bool} (hs : s < 6) (h : SR X 3 u n) : SR (pI X (5 + 2 * s) 1 (b1 b)) 3 (fun_set u (4 + s) (b1L b)) n := by
  obtain ⟨⟨a1, a2, a3, a4⟩, ⟨bl, b1', b2, b3, b4⟩, ⟨y, y1, y2⟩, ⟨z, z1, z2⟩, hS⟩ := h
  have e : ∀ i, i ≠ 5 + 2 * s → mI (pI X (5 + 2 * s) 1 (b1 b)) i = mI X i := fun i hi => sI_ne hi
  have g : ∀ j, j ≠ 4 + s → fun_set u (4 + s) (b1L b) j = u j := fun j hj => fs_ne _ _ hj
  refine ⟨⟨a1, a2, by rw [e 3 (by omega)]; exact a3, by rw [g 0 (by omega)]; exact a4⟩, ⟨bl, b1', b2, by rw [e 3 (by omega)]; exact b3, by rw [g 1 (by omega)]; exact b4⟩, ⟨y, by rw [e 3 (by omega)]; exact y1, by rw [g 2 (by omega)]; exact y2⟩, ⟨z, by rw [e 3 (by omega)]; exact z1, by rw [g 3 (by omega)]; exact z2⟩, fun t ht => ?_⟩
  by_cases q : t = s
  · subst q
    obtain ⟨-, c3, c4, c5, c6, c7⟩ := hS t ht
    rw [show 3 + 2 + 2 * t = 5 + 2 * t by omega] at c3 c4 c5
    unfold SS
    rw [show 3 + 2 + 2 * t = 5 + 2 * t by omega]
    refine ⟨⟨b, by rw [pI_at, if_pos ⟨rfl, rfl⟩], by rw [fs_self]⟩, ?_, ?_, ?_, fun r hr => ?_, fun r hr c hc => ?_⟩
    · rw [pI_at, if_neg (by omega), g _ (by omega)]
      exact c3
    · rw [pI_at, if_neg (by omega), g _ (by omega)]
      exact c4
    · rw [pI_at, if_neg (by omega), g _ (by omega)]
      exact c5
    · rw [g _ (by omega), e _ (by omega)]
      exact c6 r hr
    · rw [e _ (by omega)]
      exact c7 r hr c hc
  · exact SS_cg (hS t ht) (fun j _ _ => by rw [e _ (by omega)]) (fun r _ => by rw [e _ (by omega)]) ⟨g _ (by omega), g _ (by omega), g _ (by omega), g _ (by omega)⟩ (fun r _ => g _ (by omega))
theorem sm_keep (h : IV M n p c) (x1 : Int32) (x2 : Bool) : SmI True l jL_keep jX7_keep 8 163 1 6 4 [.ref 0, .int x1, .int (b1 x2), .ref 212] [.ref 198, .int x1, .int (b1 x2)] M Inv := by
  have hS := h.S
  have hz := h.z
  have hn := h.n32
  have hn1 := h.n1
  have hc8 := h.2.2.1.2.2.2.1
  by_cases hr : inR x1 6
  · obtain ⟨s, hs, rfl⟩ := inR_of hr (by decide)
    have hp := h.2.2.1.2.1
    have hu := u_keep (l := l) (f := b1 x2) h.D hs (k01_b x2)
    have hcu : Cu (remM M p c) (kpM M s n p c (b1 x2)) := by
      unfold kpM
      exact cu_mxAnew hs (cu_pI (by omega) (Cu.rf _))
    have hcf : Cf M (kpM M s n p c (b1 x2)) := (cf_remM hp).tr hcu.1
    have hR9 := SR_an (x := nI n) hs (SR_kp (b := x2) hs (sr_X h (X := remM M p c) (fun _ _ _ => rfl) rfl))
    have hI9 : IC (kpM M s n p c (b1 x2)) n := by
      unfold kpM
      have hIC := ic_X h (X := remM M p c) (fun _ _ _ => rfl)
      exact ic_an hs (fun t ht h1 r hr => by
        rw [sI_ne (by omega)] at h1
        rw [sI_ne (by omega), sI_ne (by omega)]
        exact hIC t ht h1 r hr)
    have h188 : mI (kpM M s n p c (b1 x2)) 188 0 = 0 := by
      unfold kpM
      rw [mxAnew_ne (by omega), sI_ne (by omega)]
      exact X188 h rfl
    have eK : mxAnew (pI (remM M p c) (5 + 2 * s) 1 (b1 x2)) (5 + 2 * s) (nI n) = kpM M s n p c (b1 x2) := rfl
    rw [eK] at hR9
    generalize kpM M s n p c (b1 x2) = X at *
    have hN : ∀ v : Int64, mL (pL X 212 0 v) 199 = mL M 199 := fun v => by rw [sL_ne9 (by decide), hcf.L]
    have n9 := fun v => n_keep (l := l) (b := x2) (iv_A (v := v) h hcf) (iv_c5 h hcf _) hc8 hs
    have e9 : ∀ v : Int64, mL (anM (kpS (k0M (pL X 212 0 v) c) s x2) s (nI n)) 199 = anU (fun_set (mL M 199) (4 + s) (b1L x2)) s (nI n) := fun v => by
      unfold kpS
      rw [anS_9, k0_L (by decide), hN]
    have hRu : ∀ v : Int64, Ru (k0M (pL X 212 0 v) c) (anM (kpS (k0M (pL X 212 0 v) c) s x2) s (nI n)) := fun v => by
      unfold kpS
      exact ru_anM (ru_sL (Ru.rf _))
    have hI : ∀ v : Int64, ∀ i, i < 198 → mI (anM (kpS (k0M (pL X 212 0 v) c) s x2) s (nI n)) i = mI X i := fun v i hi => by
      rw [(hRu v).1.I hi, (rf_k0M (c := c) (Rf.rf _)).I hi]
    refine uI (hcf.S hS) (w_keep hu (shK hS rfl) (shK (hcf.S hS) rfl)) (n9 _) (fun _ => ?_) (rf_anM (rf_kpS (rf_k0M (Rf.rf _)))) (t6_anM (t6_kpS t6_k0M)) ⟨n, _, _, iv_u h hcu (hRu _) ?_ ?_ ?_⟩
    · rw [e9]
      exact SR_km hR9
    · rw [e9]
      exact SR_cg hR9 (fun i a b => hI _ i (by omega)) (fun _ _ => rfl)
    · intro t ht h1 r hr9
      rw [hI _ _ (by omega)] at h1
      rw [hI _ _ (by omega), hI _ _ (by omega)]
      exact hI9 t ht h1 r hr9
    · rw [hI _ _ (by omega)]
      exact h188
  · exact xI h (by decide) (wx_keep (x_keep hS hr) (shK hS rfl)) (t_keep h.R hr)

theorem sm_setBlock (h : IV M n p c) (x1 : Int32) : SmI True l jL_setBlock jX7_setBlock 8 162 1 6 4 [.ref 0, .int x1, .ref 212] [.ref 198, .int x1] M Inv := by
  have hS := h.S
  have hz := h.z
  have hn := h.n32
  have hn1 := h.n1
  have hc8 := h.2.2.1.2.2.2.1
  by_cases hr : ¬ x1 < 1 ∧ x1 ≤ 8
  · have hp := h.2.2.1.2.1
    have hu := u_setBlock (l := l) h.D hr.1 hr.2
    obtain ⟨m, hm, rfl⟩ := nI_of2 (M := 8) (n := 8) (by decide) (fun q => hr.1 (Int32.lt_trans q (by decide))) hr.2
    have hm1 : 1 ≤ m := by
      rcases Nat.eq_zero_or_pos m with e | e
      · subst e
        exact absurd (by decide) hr.1
      · exact e
    have hcu : Cu (remM M p c) (pI (remM M p c) 3 2 (nI m)) := cu_pI (by decide) (Cu.rf _)
    have hcf : Cf M (pI (remM M p c) 3 2 (nI m)) := (cf_remM hp).tr hcu.1
    have hSR : SR (remM M p c) 3 (mL M 199) n := sr_X h (fun _ _ _ => rfl) rfl
    have hIC : IC (remM M p c) n := ic_X h (fun _ _ _ => rfl)
    have h188 : mI (remM M p c) 188 0 = 0 := X188 h rfl
    obtain ⟨bl, bl1, bl8, bl2, bl3⟩ := h.2.1.2.1
    generalize hX : remM M p c = R at *
    have hN : ∀ v : Int64, mL (pL (pI R 3 2 (nI m)) 212 0 v) 199 = mL M 199 := fun v => by rw [sL_ne9 (by decide), hcf.L]
    have n9 := fun v => n_setBlock (l := l) (iv_A (v := v) h hcf) (iv_c5 h hcf _) hc8 hr
    have hRu : ∀ v : Int64, Ru (k0M (pL (pI R 3 2 (nI m)) 212 0 v) c) (pL (k0M (pL (pI R 3 2 (nI m)) 212 0 v) c) 199 1 (nI m).toInt64) := fun v => ru_sL (Ru.rf _)
    have hI : ∀ v : Int64, ∀ i, i < 198 → mI (pL (k0M (pL (pI R 3 2 (nI m)) 212 0 v) c) 199 1 (nI m).toInt64) i = mI (pI R 3 2 (nI m)) i := fun v i hi => by
      rw [(hRu v).1.I hi, (rf_k0M (c := c) (Rf.rf _)).I hi]
    refine uI (hcf.S hS) (w_setBlock hu (shK hS rfl) (shK (hcf.S hS) rfl)) (n9 _) (fun _ => ?_) (rf_pL (by decide) (rf_k0M (Rf.rf _))) (t6_sL t6_k0M) ⟨n, _, _, iv_u h (by rw [hX]; exact hcu) (hRu _) ?_ ?_ ?_⟩
    · rw [hN, bl3, bl2, lN_any]
    · rw [pL_0, k0_L (by decide), hN]
      obtain ⟨⟨a1, a2, a3, a4⟩, -, ⟨y, y1, y2⟩, ⟨z, z1, z2⟩, hSS⟩ := hSR
      have g : ∀ j, j ≠ 1 → fun_set (mL M 199) 1 (nI m).toInt64 j = mL M 199 j := fun j hj => fs_ne _ _ hj
      have e : ∀ i, i ≠ 3 → i < 198 → mI (pL (k0M (pL (pI R 3 2 (nI m)) 212 0 (mI M 3 2).toInt64) c) 199 1 (nI m).toInt64) i = mI R i := fun i hi h9 => by
        rw [hI _ i h9]
        exact sI_ne hi
      have e3 : ∀ j, j ≠ 2 → mI (pL (k0M (pL (pI R 3 2 (nI m)) 212 0 (mI M 3 2).toInt64) c) 199 1 (nI m).toInt64) 3 j = mI R 3 j := fun j hj => by
        rw [hI _ 3 (by decide), pI_k hj]
      refine ⟨⟨a1, a2, by rw [e3 1 (by decide)]; exact a3, by rw [g 0 (by decide)]; exact a4⟩, ⟨m, hm1, by omega, by rw [hI _ 3 (by decide), pI_at9], by rw [fs_self]; exact nI_l (by omega)⟩, ⟨y, by rw [e3 3 (by decide)]; exact y1, by rw [g 2 (by decide)]; exact y2⟩, ⟨z, by rw [e3 4 (by decide)]; exact z1, by rw [g 3 (by decide)]; exact z2⟩, fun t ht => ?_⟩
      exact SS_cg (hSS t ht) (fun j _ _ => by rw [e _ (by omega) (by omega)]) (fun r _ => by rw [e _ (by omega) (by omega)]) ⟨g _ (by omega), g _ (by omega), g _ (by omega), g _ (by omega)⟩ (fun r _ => g _ (by omega))
    · intro t ht h1 r hr9
      rw [hI _ _ (by omega), sI_ne (by omega)] at h1
      rw [hI _ _ (by omega), hI _ _ (by omega), sI_ne (by omega), sI_ne (by omega)]
      exact hIC t ht h1 r hr9
    · rw [hI _ _ (by omega), sI_ne (by omega)]
      exact h188
  · exact xI h (by decide) (wx_setBlock (x_setBlock hS hr) (shK hS rfl)) (t_setBlock hS hr)

end
end
-- 5988.us
section
/-! calls that change, from the invariant to the invariant (5988) -/
section
variable {l : Launch} {M : Mem} {n p c : Nat}
theorem uU {E : Prop} {J J7 : Jm} {F L mc ms F7 : Nat} {As As7 : List Value} {M1 : Mem} {w w' : Int32} (h : IV M n p c) (G : Mem → Mem) (hX : Cu (remM M p c) M1) (h1 : Shp M1 → EvR l J F L mc ms As M (.inl (some (.int 0))) (pL M1 212 0 w.toInt64)) (h2 : ∀ v : Int64, Rr (pL M1 212 0 v) n (Am M) → mI (pL M1 212 0 v) 198 5 = nI c → EvR l J7 F7 160 0 0 As7 (pL M1 212 0 v) (.inl (some (.int w'))) (G (pL M1 212 0 v))) (he : E → w' = w) (hG : ∀ N, Ru (k0M N c) (G N)) (h6 : ∀ N, t6 (G N)) (hs : ∀ N, mL N 199 = mL M 199 → SR M1 3 (mL (G N) 199) n) (hC : IC M1 n) (h188 : mI M1 188 0 = 0) : SmI E l J J7 F L mc ms F7 As As7 M Inv := by
  have hcf : Cf M M1 := (cf_remM h.2.2.1.2.1).tr hX.1
  have hN : ∀ v : Int64, mL (pL M1 212 0 v) 199 = mL M 199 := fun v => by rw [sL_ne9 (by decide), hcf.L]
  have hI : ∀ v : Int64, ∀ i, i < 198 → mI (G (pL M1 212 0 v)) i = mI M1 i := fun v i hi => by
    rw [(hG _).1.I hi, (rf_k0M (c := c) (Rf.rf _)).I hi]
  refine uI (hcf.S h.S) (h1 (hcf.S h.S)) (h2 _ (iv_A h hcf) (iv_c5 h hcf _)) he ((rf_k0M (Rf.rf _)).tr (hG _).1) (h6 _) ⟨n, _, _, iv_u h hX (hG _) (SR_cg (hs _ (hN _)) (fun i a b => hI _ i (by omega)) (fun _ _ => rfl)) ?_ ?_⟩
  · intro t ht a r hr
    rw [hI _ _ (by omega)] at a
    rw [hI _ _ (by omega), hI _ _ (by omega)]
    exact hC t ht a r hr
  · rw [hI _ _ (by omega)]
    exact h188
theorem pt_X (h : IV M n p c) {s r k : Nat} {b : Bool} (hs : s < 6) (hr : r < n) (hk : k < n) (hb0 : hb (Am M s r) k ≠ b) : ∃ g', ptM (remM M p c) s r k n (b1 b) = sI (ptF (remM M p c) s r k n) (175 + 2 * s + 1) g' ∧ (∀ i, i < n → g' i = wOut (tnF (Am M s) r k) n n i) ∧ ptV (remM M p c) s r k n (b1 b) = dfF (wOut (tnF (Am M s) r k) n n) (wOut (Am M s) n n) n := by
  have hp := h.2.2.1.2.1
  have hn := h.n32
  obtain ⟨k1, k2, k3⟩ := clR h hs
  have e6 : mI (remM M p c) (6 + 2 * s) = Am M s := rem_m (by omega) (by omega) hp
  have hw := h.wf hs
  have f1 : mI (ptF (remM M p c) s r k n) (175 + 2 * s + 1) = mI (clOf (remM M p c) s n) (175 + 2 * s + 1) := by
    unfold ptF
    rw [sI_ne (by omega), mxLook_ne (by omega)]
  have f2 : mI (ptF (remM M p c) s r k n) (6 + 2 * s) = tnF (Am M s) r k := by
    unfold ptF
    rw [sI_self, e6]
    rfl
  have hne : ¬ b1 (hb (mI (remM M p c) (6 + 2 * s) r) k) = b1 b := by
    rw [e6, b1_eq]
    exact hb0
  unfold ptM ptV
  rw [if_neg hne, if_neg hne, f1, f2]
  unfold ptN
  generalize ptF (remM M p c) s r k n = F at *
  generalize mI (clOf (remM M p c) s n) (175 + 2 * s + 1) = g at *
  cases b with
  | false =>
    have h1 : hb (Am M s r) k = true := Bool.not_eq_false _ ▸ hb0
    rw [if_pos (show b1 false = 0 from rfl), if_pos (show b1 false = 0 from rfl)]
    exact ⟨_, rfl, fun i hi => put_0 hw k1 hr hk hn h1 hi, by rw [loss_F, loss_ok hw k1 hr hk hn h1 n (Nat.le_refl n)]⟩
  | true =>
    have h0 : hb (Am M s r) k = false := Bool.not_eq_true _ ▸ hb0
    rw [if_neg (show ¬ b1 true = 0 by decide), if_neg (show ¬ b1 true = 0 by decide)]
    exact ⟨_, rfl, fun i hi => put_1 hw k1 hr hk hn h0 hi, gain_ok hw k1 hr hk hn h0⟩
theorem pf_X (h : IV M n p c) {s r k : Nat} {g' : Nat → Int32} (hs : s < 6) (hr : r < n) (hk : k < n) (hg : ∀ i, i < n → g' i = wOut (tnF (Am M s) r k) n n i) : Cu (remM M p c) (sI (ptF (remM M p c) s r k n) (175 + 2 * s + 1) g') ∧ SR (sI (ptF (remM M p c) s r k n) (175 + 2 * s + 1) g') 3 (fun_set (lkU (mL M 199) s (prR (wOut (Am M s) n n) r n)) (28 + 32 * s + r) (uL (Am M s r ^^^ bitI k))) n ∧ IC (sI (ptF (remM M p c) s r k n) (175 + 2 * s + 1) g') n ∧ mI (sI (ptF (remM M p c) s r k n) (175 + 2 * s + 1) g') 188 0 = 0 := by
  have hp := h.2.2.1.2.1
  have hn := h.n32
  obtain ⟨k1, k2, k3⟩ := clR h hs
  have e6 : mI (remM M p c) (6 + 2 * s) = Am M s := rem_m (by omega) (by omega) hp
  have hw := h.wf hs
  have hN : bcJ (ptN (remM M p c) s r n) = prR (wOut (Am M s) n n) r n := by
    unfold ptN
    rw [nd_n hr hn, prR_cg n k1]
  have h188 : mI (clOf (remM M p c) s n) 188 0 = 0 := by
    rw [cl_ne (by omega) (by omega)]
    exact X188 h rfl
  have hSR : SR (clOf (remM M p c) s n) 3 (mL M 199) n := sr_X h (fun i a b => cl_ne (by omega) (by omega)) rfl
  have e7 : mI (clOf (remM M p c) s n) (6 + 2 * s) = Am M s := by rw [cl_ne (by omega) (by omega), e6]
  unfold ptF
  rw [hN, e6]
  generalize clOf (remM M p c) s n = C at *
  have hL := SR_lk (x := prR (wOut (Am M s) n n) r n) hs hSR
  have hIC : ∀ t, t < 6 → t ≠ s → mI (mxLook C (5 + 2 * s) (prR (wOut (Am M s) n n) r n)) (175 + 2 * t) = mI C (175 + 2 * t) ∧ mI (mxLook C (5 + 2 * s) (prR (wOut (Am M s) n n) r n)) (176 + 2 * t) = mI C (176 + 2 * t) ∧ mI (mxLook C (5 + 2 * s) (prR (wOut (Am M s) n n) r n)) (6 + 2 * t) = mI C (6 + 2 * t) := fun t ht _ => ⟨mxLook_ne (by omega), mxLook_ne (by omega), mxLook_ne (by omega)⟩
  have e8 : mI (mxLook C (5 + 2 * s) (prR (wOut (Am M s) n n) r n)) (6 + 2 * s) = Am M s := by rw [mxLook_ne (by omega), e7]
  have e9 : mI (mxLook C (5 + 2 * s) (prR (wOut (Am M s) n n) r n)) 188 0 = 0 := by rw [mxLook_ne (by omega), h188]
  have hcu := cu_mxLook (x := prR (wOut (Am M s) n n) r n) hs k3
  generalize mxLook C (5 + 2 * s) (prR (wOut (Am M s) n n) r n) = D at *
  have hSet := SR_set (y := Am M s r ^^^ bitI k) hs hr hn hL (fun c hc => by
    rw [hb_xor, hw r hr c hc, hb_bitI (by omega), decide_eq_false (by omega)]
    rfl)
  rw [e8] at hSet
  refine ⟨cu_sI (by omega) (cu_sI (by omega) hcu), SR_cg hSet (fun i a b => sI_ne (by omega)) (fun _ _ => rfl), fun t ht h1 r9 hr9 => ?_, ?_⟩
  · by_cases e : t = s
    · subst e
      rw [show 176 + 2 * t = 175 + 2 * t + 1 by omega, sI_self, sI_ne (by omega), sI_self]
      exact hg r9 hr9
    · obtain ⟨i1, i2, i3⟩ := hIC t ht e
      rw [sI_ne (by omega), sI_ne (by omega), i1] at h1
      rw [sI_ne (by omega), sI_ne (by omega), sI_ne (by omega), sI_ne (by omega), i2, i3]
      exact k2 t ht h1 r9 hr9
  · rw [sI_ne (by omega), sI_ne (by omega)]
    exact e9
theorem sm_put (h : IV M n p c) (x1 : Int32) (x2 : Int32) (x3 : Int32) (x4 : Bool) : SmI True l jL_put jX7_put 10 187 3 18 4 [.ref 0, .int x1, .int x2, .int x3, .int (b1 x4), .ref 212] [.ref 198, .int x1, .int x2, .int x3, .int (b1 x4)] M Inv := by
  have hS := h.S
  have hz := h.z
  have hn := h.n32
  have hn1 := h.n1
  have hc8 := h.2.2.1.2.2.2.1
  by_cases hr : inR x1 6 ∧ inR x2 n ∧ inR x3 n
  · obtain ⟨s, hs, rfl⟩ := inR_of hr.1 (by decide)
    obtain ⟨a, ha, rfl⟩ := inR_of hr.2.1 (by omega)
    obtain ⟨b, hb9, rfl⟩ := inR_of hr.2.2 (by omega)
    have hu := u_put (l := l) (f := b1 x4) h.D hs ha hb9 (k01_b x4)
    have e6 : mI (remM M p c) (6 + 2 * s) = Am M s := rem_m (by omega) (by omega) h.2.2.1.2.1
    by_cases q : hb (Am M s a) b = x4
    · have hne : b1 (hb (mI (remM M p c) (6 + 2 * s) a) b) = b1 x4 := by rw [e6, q]
      unfold ptV ptM at hu
      rw [if_pos hne, if_pos hne] at hu
      refine uU h (fun N => lkM (k0M N c) s 0) (cu_mxLook hs (Cu.rf _)) (fun hS9 => w_put hu (shK hS rfl) (shK hS9 rfl)) (fun v a9 b9 => o_put a9 b9 hc8 hs ha hb9 q) (fun _ => rfl) (fun N => ru_lkM (Ru.rf _)) (fun N => t6_lkM t6_k0M) (fun N hN => ?_) (ic_lk hs (ic_X h (fun _ _ _ => rfl))) ?_
      · rw [lkM_U, k0_L (by decide), hN]
        exact SR_lk hs (sr_X h (fun _ _ _ => rfl) rfl)
      · rw [mxLook_ne (by omega)]
        exact X188 h rfl
    · obtain ⟨g', e1, e2, e3⟩ := pt_X h hs ha hb9 q
      rw [e1, e3] at hu
      obtain ⟨c1, c2, c3, c4⟩ := pf_X h hs ha hb9 e2
      refine uU h (fun N => rpM N n s a b (Am M s) c) c1 (fun hS9 => w_put hu (shK hS rfl) (shK hS9 rfl)) (fun v a9 b9 => n_put a9 b9 hc8 hs ha hb9 q) (fun _ => rfl) (fun N => ?_) (fun N => t6_rpM) (fun N hN => ?_) c3 c4
      · unfold rpM rpM1 srM
        exact ru_hdM (Or.inl rfl) (ru_sL (ru_lkM (ru_hdM (Or.inr (Or.inl rfl)) (ru_hdM (Or.inl rfl) (Ru.rf _)))))
      · have e9 : mL (rpM N n s a b (Am M s) c) 199 = fun_set (lkU (mL M 199) s (prR (wOut (Am M s) n n) a n)) (28 + 32 * s + a) (uL (Am M s a ^^^ bitI b)) := by
          unfold rpM rpM1 srM
          rw [hdM_ne (by decide), pL_0, lkM_U, hdM_ne (by decide), hdM_ne (by decide), k0_L (by decide), hN]
        rw [e9]
        exact c2
  · exact xI h (by decide) (wx_put (x_put hS hz hr) (shK hS rfl)) (t_put h.R hr)

end
end
-- 5989.us
section
/-! calls that change, from the invariant to the invariant (5989) -/
section
variable {l : Launch} {M : Mem} {n p c : Nat}
theorem ic_cg {M2 : Mem} (h : IC M n) (e : ∀ i, 6 ≤ i → i < 17 → mI M2 i = mI M i) (e2 : ∀ i, 175 ≤ i → i < 187 → mI M2 i = mI M i) : IC M2 n := fun s hs h1 r hr => by
  rw [e2 _ (by omega) (by omega)] at h1
  rw [e2 _ (by omega) (by omega), e _ (by omega) (by omega)]
  exact h s hs h1 r hr
theorem is_cg {M2 : Mem} (h : IS M) (e : ∀ i, 145 ≤ i → i < 174 → mI M2 i = mI M i) (e203 : mI M2 203 = mI M 203) (e202 : mL M2 202 = mL M 202) : IS M2 := fun q hq => by
  obtain ⟨k1, k2⟩ := h q hq
  refine ⟨fun s hs6 => by rw [e _ (by omega) (by omega)]; exact k1 s hs6, ?_⟩
  rw [e 173 (by decide) (by decide), e203, e202]
  rcases k2 with k2 | ⟨a1, a2, n', a3⟩
  · exact Or.inl k2
  · exact Or.inr ⟨a1, a2, n', SR_cg a3 (fun i a b => e i (by omega) (by omega)) (fun j _ => rfl)⟩
theorem ir_cg {M2 : Mem} (h : IR M) (e1 : mI M2 1 = mI M 1) (e2 : mI M2 2 = mI M 2) (e204 : mI M2 204 = mI M 204) (e8 : mI M2 198 8 = mI M 198 8) (e14 : mI M2 198 14 = mI M 198 14) (e15 : mI M2 198 15 = mI M 198 15) : IR M2 := by
  obtain ⟨⟨len, l1, l2, l3, l4⟩, r2, r3⟩ := h
  refine ⟨⟨len, l1, by rw [e1]; exact l2, by rw [e8]; exact l3, fun i hi => ?_⟩, by rw [e14, e1]; exact r2, by rw [e15, e1]; exact r3⟩
  obtain ⟨j, j1, j2, j3⟩ := l4 i hi
  exact ⟨j, j1, by rw [e2]; exact j2, by rw [e204]; exact j3⟩
theorem ix_cg {M2 : Mem} (h : IX M) (e188 : mI M2 188 = mI M 188) (e209 : mL M2 209 = mL M 209) (e0 : mI M2 0 14 = mI M 0 14) (e24 : mI M2 198 24 = mI M 198 24) : IX M2 := by
  obtain ⟨x1, x2, x3, x4⟩ := h
  exact ⟨by rw [e188]; exact x1, fun i hi => by rw [e209]; exact x2 i hi, by rw [e0]; exact x3, by rw [e24]; exact x4⟩
theorem ip_cg {M2 : Mem} (h : IP M n p c) (e : ∀ i, 32 ≤ i → i < 144 → mI M2 i = mI M i) (e4 : mI M2 0 4 = mI M 0 4) (e5 : mI M2 0 5 = mI M 0 5) (e8 : mI M2 198 5 = mI M 198 5) (e201 : mL M2 201 = mL M 201) : IP M2 n p c := by
  obtain ⟨p1, p2, p3, p4, p5, p6⟩ := h
  refine ⟨by rw [e4]; exact p1, p2, by rw [e5]; exact p3, p4, by rw [e8]; exact p5, fun i hi => ?_⟩
  have hm : (p + 8 - c + i) % 8 < 8 := Nat.mod_lt _ (by decide)
  exact SR_cg (p6 i hi) (fun j a b => e j (by omega) (by omega)) (fun j _ => by rw [e201])
theorem wrt_at {N : Mem} {x : Int32} : mI (wrtM N n x) 198 24 = nI n ∧ (∀ j, j ≠ 6 → j ≠ 24 → mI (wrtM N n x) 198 j = mI N 198 j) ∧ (∀ i, i ≠ 198 → i ≠ 211 → mI (wrtM N n x) i = mI N i) ∧ mL (wrtM N n x) = mL N := by
  unfold wrtM
  refine ⟨?_, fun j a b => ?_, fun i a b => ?_, rfl⟩
  · rw [sI_ne (by decide), pI_at9]
  · rw [sI_ne (by decide), pI_k b]
    unfold thr
    rw [pI_k a]
  · rw [sI_ne b, sI_ne a]
    unfold thr
    rw [sI_ne a]
theorem wo_at {x : Int32} : mI (woM M x n n) 0 14 = nI n ∧ (∀ j, j ≠ 14 → mI (woM M x n n) 0 j = mI M 0 j) ∧ ∀ i, i ≠ 0 → i ≠ 197 → mI (woM M x n n) i = mI M i := by
  unfold woM
  refine ⟨?_, fun j a => ?_, fun i a b => ?_⟩
  · rw [sI_ne (by decide), pI_at9]
  · rw [sI_ne (by decide), pI_k a]
  · rw [sI_ne b, sI_ne a]
theorem sm_writeRow (h : IV M n p c) (x1 : Int32) (x2 : Int32) : SmI True l jL_writeRow jX7_writeRow 9 164 2 12 4 [.ref 0, .int x1, .int x2, .ref 212] [.ref 198, .int x1, .int x2] M Inv := by
  have hS := h.S
  have hz := h.z
  have hn := h.n32
  have hn1 := h.n1
  by_cases hr : inR x1 6 ∧ inR x2 n
  · obtain ⟨s, hs, rfl⟩ := inR_of hr.1 (by decide)
    obtain ⟨r, hr2, rfl⟩ := inR_of hr.2 (by omega)
    have q := q_writeRow (l := l) hS hz hn hs hr2
    have hc : Cf M (woM M (mI M (6 + 2 * s) r) n n) := cf_woM
    obtain ⟨a1, a2, a3⟩ := wo_at (M := M) (n := n) (x := mI M (6 + 2 * s) r)
    have n9 := fun v => n_writeRow (l := l) (iv_A (v := v) h hc) hs hr2
    generalize hX : woM M (mI M (6 + 2 * s) r) n n = X at *
    refine uI (hc.S hS) (w_writeRow q (shK hS rfl) (shK (hc.S hS) rfl)) (n9 _) (fun _ => rfl) (rf_wrtM (Rf.rf _)) t6_wrtM ⟨n, p, c, ?_⟩
    obtain ⟨b1', b2, b3, b4⟩ := wrt_at (N := pL X 212 0 (nI n).toInt64) (n := n) (x := Am M s r)
    have hS2 : Shp (wrtM (pL X 212 0 (nI n).toInt64) n (Am M s r)) := (rf_wrtM (Rf.rf _)).S (hc.S hS)
    generalize wrtM (pL X 212 0 (nI n).toInt64) n (Am M s r) = Y at *
    have e : ∀ i, i ≠ 0 → i ≠ 197 → i ≠ 198 → i ≠ 211 → mI Y i = mI M i := fun i h1 h2 h3 h4 => (b3 i h3 h4).trans (a3 i h1 h2)
    have eL : ∀ i, i ≠ 212 → mL Y i = mL M i := fun i hi => by rw [b4, sL_ne9 hi, hc.L]
    have e0 : ∀ j, j ≠ 14 → mI Y 0 j = mI M 0 j := fun j hj => by rw [b3 0 (by decide) (by decide)]; exact a2 j hj
    have e8 : ∀ j, j ≠ 6 → j ≠ 24 → mI Y 198 j = mI M 198 j := fun j h1 h2 => by rw [b2 j h1 h2]; exact congrFun (a3 198 (by decide) (by decide)) j
    refine ⟨hS2, SR_cg h.2.1 (fun i h1 h2 => e i (by omega) (by omega) (by omega) (by omega)) (fun i _ => by rw [eL 199 (by decide)]), ip_cg h.2.2.1 (fun i h1 h2 => e i (by omega) (by omega) (by omega) (by omega)) (e0 4 (by decide)) (e0 5 (by decide)) (e8 5 (by decide) (by decide)) (eL 201 (by decide)), is_cg h.2.2.2.1 (fun i h1 h2 => e i (by omega) (by omega) (by omega) (by omega)) (e 203 (by decide) (by decide) (by decide) (by decide)) (eL 202 (by decide)), ic_cg h.2.2.2.2.1 (fun i h1 h2 => e i (by omega) (by omega) (by omega) (by omega)) (fun i h1 h2 => e i (by omega) (by omega) (by omega) (by omega)), ir_cg h.2.2.2.2.2.1 (e 1 (by decide) (by decide) (by decide) (by decide)) (e 2 (by decide) (by decide) (by decide) (by decide)) (e 204 (by decide) (by decide) (by decide) (by decide)) (e8 8 (by decide) (by decide)) (e8 14 (by decide) (by decide)) (e8 15 (by decide) (by decide)), ?_⟩
    obtain ⟨x1, x2, -, -⟩ := h.2.2.2.2.2.2
    refine ⟨by rw [e 188 (by decide) (by decide) (by decide) (by decide)]; exact x1, fun i hi => by rw [eL 209 (by decide)]; exact x2 i hi, ⟨n, hn, ?_⟩, n, hn, b1'⟩
    rw [b3 0 (by decide) (by decide)]
    exact a1
  · exact xI h (by decide) (wx_writeRow (x_writeRow hS hz hr) (shK hS rfl)) (t_writeRow h.R hr)

theorem sv_IS (h : IV M n p c) {q : Nat} {Y : Mem} (hq : q < 2) (e : ∀ i, 145 ≤ i → i < 173 → mI Y i = mI (stTake M (145 + 14 * q) 3) i) (e1 : ∀ j, mI Y 173 j = if j = q then 1 else mI M 173 j) (e2 : ∀ j, mI Y 203 j = if j = q then 1 else mI M 203 j) (eL : mL Y 202 = cpF (mL M 202) q (mL M 199) 0 220) : IS Y := fun t ht => by
  have hT : SR (stTake M (145 + 14 * q) 3) (145 + 14 * q) (mL M 199) n := SR_take (Or.inr (by omega)) h.2.1
  by_cases et : t = q
  · subst et
    have hY : SR Y (145 + 14 * t) (fun j => mL Y 202 (220 * t + j)) n := SR_cg hT (fun i a b => e i (by omega) (by omega)) (fun i hi => by
      show mL Y 202 (220 * t + i) = mL M 199 i
      rw [eL]
      unfold cpF
      rw [if_pos ⟨by omega, by omega⟩]
      congr 1
      omega)
    exact ⟨SR_keep hY, Or.inr ⟨by rw [e1, if_pos rfl], by rw [e2, if_pos rfl], n, hY⟩⟩
  · obtain ⟨k1, k2⟩ := h.2.2.2.1 t ht
    have e9 : ∀ i, 145 + 14 * t ≤ i → i < 159 + 14 * t → mI Y i = mI M i := fun i a b => by
      rw [e i (by omega) (by omega)]
      exact stTake_ne (by omega)
    refine ⟨fun s hs => by rw [e9 _ (by omega) (by omega)]; exact k1 s hs, ?_⟩
    rw [e1, if_neg et, e2, if_neg et]
    rcases k2 with k2 | ⟨a1, a2, n', a3⟩
    · exact Or.inl k2
    · refine Or.inr ⟨a1, a2, n', SR_cg a3 (fun i a b => e9 i (by omega) (by omega)) (fun j hj => ?_)⟩
      show mL Y 202 (220 * t + j) = _
      rw [eL]
      unfold cpF
      rw [if_neg (by omega)]
theorem sa_at {N : Mem} {q : Nat} : (∀ j, j ≠ 6 → mI (saM N q) 198 j = mI N 198 j) ∧ (∀ j, mI (saM N q) 203 j = if j = q then 1 else mI N 203 j) ∧ (∀ i, i ≠ 198 → i ≠ 203 → mI (saM N q) i = mI N i) ∧ mL (saM N q) 202 = cpF (mL N 202) q (mL N 199) 0 220 ∧ ∀ i, i ≠ 202 → mL (saM N q) i = mL N i := by
  unfold saM
  refine ⟨fun j a => ?_, fun j => ?_, fun i a b => ?_, ?_, fun i a => ?_⟩
  · rw [sI_ne (by decide)]
    show mI (thr N 0) 198 j = _
    unfold thr
    rw [pI_k a]
  · rw [pI_at]
    by_cases e : j = q
    · rw [if_pos ⟨rfl, e⟩, if_pos e]
    · rw [if_neg (fun h => e h.2), if_neg e]
      show mI (thr N 0) 203 j = _
      unfold thr
      rw [sI_ne (by decide)]
  · rw [sI_ne b]
    show mI (thr N 0) i = _
    unfold thr
    rw [sI_ne a]
  · show mL (sL (thr N 0) 202 _) 202 = _
    exact sL_self _ _ _
  · show mL (sL (thr N 0) 202 _) i = _
    rw [sL_ne9 a]
    rfl
theorem sv_at {q : Nat} (hq : q < 2) : (∀ j, mI (svM M q) 173 j = if j = q then 1 else mI M 173 j) ∧ (∀ i, i ≠ 173 → mI (svM M q) i = mI (stTake M (145 + 14 * q) 3) i) := by
  unfold svM
  refine ⟨fun j => ?_, fun i a => sI_ne a⟩
  rw [pI_at]
  by_cases e : j = q
  · rw [if_pos ⟨rfl, e⟩, if_pos e]
  · rw [if_neg (fun h => e h.2), if_neg e, stTake_ne (by omega)]
theorem sm_saveSnapshot (h : IV M n p c) (x1 : Int32) : SmI True l jL_saveSnapshot jX7_saveSnapshot 8 161 1 6 4 [.ref 0, .int x1, .ref 212] [.ref 198, .int x1] M Inv := by
  have hS := h.S
  have hz := h.z
  have hn := h.n32
  have hn1 := h.n1
  by_cases hr : ¬ x1 < 0 ∧ x1 ≤ 1
  · obtain ⟨q, hq9, rfl⟩ := nI_of2 (M := 1) (n := 1) (by decide) hr.1 hr.2
    have hq : q < 2 := by omega
    have hu := u_save (l := l) hS h.D.2.2.2.2.2.2.2 hq
    rw [hz] at hu
    have hc : Cf M (svM M q) := cf_svM hq
    obtain ⟨a1, a2⟩ := sv_at (M := M) hq
    have n9 := fun v => n_saveSnapshot (l := l) (iv_A (v := v) h hc) hq
    generalize svM M q = X at *
    refine uI (hc.S hS) (w_saveSnapshot hu (shK hS rfl) (shK (hc.S hS) rfl)) (n9 _) (fun _ => rfl) (rf_saM (Rf.rf _)) t6_saM ⟨n, p, c, ?_⟩
    obtain ⟨b1', b2, b3, b4, b5⟩ := sa_at (N := pL X 212 0 (nI n).toInt64) (q := q)
    have hS2 : Shp (saM (pL X 212 0 (nI n).toInt64) q) := (rf_saM (Rf.rf _)).S (hc.S hS)
    generalize saM (pL X 212 0 (nI n).toInt64) q = Y at *
    have e : ∀ i, i < 145 + 14 * q ∨ 159 + 14 * q ≤ i → i ≠ 173 → i ≠ 198 → i ≠ 203 → mI Y i = mI M i := fun i h1 h2 h3 h4 => by
      rw [b3 i h3 h4]
      show mI X i = mI M i
      rw [a2 i h2]
      exact stTake_ne (by omega)
    have eL : ∀ i, i ≠ 212 → i ≠ 202 → mL Y i = mL M i := fun i hi h2 => by rw [b5 i h2, sL_ne9 hi, hc.L]
    have e8 : ∀ j, j ≠ 6 → mI Y 198 j = mI M 198 j := fun j h1 => by
      rw [b1' j h1]
      show mI X 198 j = _
      rw [hc.I (Nat.le_refl 198)]
    refine ⟨hS2, SR_cg h.2.1 (fun i h1 h2 => e i (by omega) (by omega) (by omega) (by omega)) (fun i _ => by rw [eL 199 (by decide) (by decide)]), ip_cg h.2.2.1 (fun i h1 h2 => e i (by omega) (by omega) (by omega) (by omega)) (by rw [e 0 (by omega) (by decide) (by decide) (by decide)]) (by rw [e 0 (by omega) (by decide) (by decide) (by decide)]) (e8 5 (by decide)) (eL 201 (by decide) (by decide)), sv_IS h hq (fun i h1 h2 => by rw [b3 i (by omega) (by omega)]; exact a2 i (by omega)) (fun j => by rw [b3 173 (by decide) (by decide)]; exact a1 j) (fun j => ?_) ?_, ic_cg h.2.2.2.2.1 (fun i h1 h2 => e i (by omega) (by omega) (by omega) (by omega)) (fun i h1 h2 => e i (by omega) (by omega) (by omega) (by omega)), ir_cg h.2.2.2.2.2.1 (e 1 (by omega) (by decide) (by decide) (by decide)) (e 2 (by omega) (by decide) (by decide) (by decide)) (e 204 (by omega) (by decide) (by decide) (by decide)) (e8 8 (by decide)) (e8 14 (by decide)) (e8 15 (by decide)), ix_cg h.2.2.2.2.2.2 (e 188 (by omega) (by decide) (by decide) (by decide)) (eL 209 (by decide) (by decide)) (by rw [e 0 (by omega) (by decide) (by decide) (by decide)]) (e8 24 (by decide))⟩
    · rw [b2 j]
      show (if j = q then 1 else mI X 203 j) = _
      rw [hc.I (by decide)]
    · rw [b4, sL_ne9 (by decide), sL_ne9 (by decide), hc.L]
  · exact xI h (by decide) (wx_saveSnapshot (x_save hS hr) (shK hS rfl)) (t_saveSnapshot hS hr)

end
end
-- 5990.us
section
/-! calls that change, from the invariant to the invariant (59895) -/
section
variable {l : Launch} {M : Mem} {n p c : Nat}
theorem shp_N9 {X : Mem} {v : Int64} (h : Shp X) : Shp (pL X 212 0 v) := h
theorem dr_at {X : Mem} : ∀ k, k ≤ 6 → ∀ s, s < k → mI (dropC X k) (175 + 2 * s) 1 = 0
  | 0, _, s, hs => absurd hs (Nat.not_lt_zero _)
  | k + 1, hk, s, hs => by
    rw [dropC, pI_at]
    by_cases e : s = k
    · rw [if_pos ⟨by omega, rfl⟩]
    · rw [if_neg (by omega)]
      exact dr_at k (by omega) s (by omega)
theorem ic_drop {X : Mem} : IC (dropC X 6) n := fun s hs h1 => absurd (dr_at 6 (Nat.le_refl 6) s hs) h1
theorem SR_drop {X : Mem} {u : Nat → Int64} (h : SR X 3 u n) : SR (dropC X 6) 3 u n := SR_cg h (fun i a b => dropC_ne (Or.inl (by omega)) 6 (Nat.le_refl 6)) (fun _ _ => rfl)
theorem R_of {Y : Mem} (hS : Shp Y) (h : SR Y 3 (mL Y 199) n) : Rr Y n (Am Y) := ⟨hS, h.1.2.2.2, h.1.1, h.1.2.1, fun s r hs hr => by
  have h9 := (h.2.2.2.2 s hs).2.2.2.2.1 r hr
  rw [show 3 + 3 + 2 * s = 6 + 2 * s by omega] at h9
  exact h9⟩
theorem rp_at {o : Nat} (hd : 17 ≤ o) : (∀ i, i ≠ 0 → (i < 3 ∨ (17 ≤ i ∧ i < 175) ∨ 187 ≤ i) → mI (replM M o) i = mI M i) ∧ (∀ j, mI (replM M o) 0 j = if j = 5 then 0 else mI M 0 j) ∧ (∀ u n', SR M o u n' → SR (replM M o) 3 u n') ∧ ∀ n', IC (replM M o) n' := by
  have h1 : ∀ i, (i < 3 ∨ 17 ≤ i) → mI (stTake M 3 o) i = mI M i := fun i hi => stTake_ne hi
  have h2 : ∀ u n', SR M o u n' → SR (stTake M 3 o) 3 u n' := fun u n' h => SR_take (Or.inl hd) h
  unfold replM
  generalize stTake M 3 o = X at *
  refine ⟨fun i h0 hi => ?_, fun j => ?_, fun u n' h => ?_, fun n' => ic_drop⟩
  · rw [dropC_ne (by omega) 6 (Nat.le_refl 6), sI_ne h0, h1 i (by omega)]
  · rw [dropC_ne (by omega) 6 (Nat.le_refl 6), pI_at, h1 0 (by omega)]
    by_cases e : j = 5
    · rw [if_pos ⟨rfl, e⟩, if_pos e]
    · rw [if_neg (fun h => e h.2), if_neg e]
  · exact SR_drop (SR_cg (h2 u n' h) (fun i a b => sI_ne (by omega)) (fun _ _ => rfl))
theorem re_at {N : Mem} {q : Nat} : (∀ j, j ≠ 5 → j ≠ 6 → mI (reM N q) 198 j = mI N 198 j) ∧ mI (reM N q) 198 5 = 0 ∧ (∀ i, i ≠ 198 → mI (reM N q) i = mI N i) ∧ mL (reM N q) 199 = cpF (mL N 199) 0 (mL N 202) q 220 ∧ ∀ i, i ≠ 199 → mL (reM N q) i = mL N i := by
  unfold reM
  refine ⟨fun j a b => ?_, pI_at9 _ _ _ _, fun i a => ?_, ?_, fun i a => ?_⟩
  · rw [pI_k a]
    show mI (thr N 0) 198 j = _
    unfold thr
    rw [pI_k b]
  · rw [sI_ne a]
    show mI (thr N 0) i = _
    unfold thr
    rw [sI_ne a]
  · show mL (sL (thr N 0) 199 _) 199 = _
    exact sL_self _ _ _
  · show mL (sL (thr N 0) 199 _) i = _
    rw [sL_ne9 a]
    rfl
theorem sm_restoreSnapshot (h : IV M n p c) (x1 : Int32) : SmI True l jL_restoreSnapshot jX7_restoreSnapshot 8 191 1 6 4 [.ref 0, .int x1, .ref 212] [.ref 198, .int x1] M Inv := by
  have hS := h.S
  have hz := h.z
  have hn := h.n32
  have hn1 := h.n1
  by_cases hr : ¬ x1 < 0 ∧ x1 ≤ 1
  · obtain ⟨q, hq9, rfl⟩ := nI_of2 (M := 1) (n := 1) (by decide) hr.1 hr.2
    have hq : q < 2 := by omega
    obtain ⟨k1, k2⟩ := h.2.2.2.1 q hq
    have hu := u_restore (l := l) hS k1 hq
    rcases k2 with ⟨a1, a2⟩ | ⟨a1, a2, n', a3⟩
    · rw [if_pos a1, if_pos a1] at hu
      have n9 := fun v => o_restoreSnapshot (l := l) (M := pL M 212 0 v) hS hq a2
      exact uI hS (w_restoreSnapshot hu (shK hS rfl) (shK hS rfl)) (n9 _) (fun _ => rfl) (rf_thr (Rf.rf _)) t6_thr ⟨n, p, c, iv_r (iv_1 h) (rq_thr (Rq.rf _))⟩
    · have ne0 : ¬ mI M 173 q = 0 := by
        rw [a1]
        decide
      rw [if_neg ne0, if_neg ne0, a3.1.2.2.1] at hu
      have hc : Cf M (replM M (145 + 14 * q)) := cf_replM
      obtain ⟨b1', b2, b3, b4⟩ := rp_at (M := M) (o := 145 + 14 * q) (by omega)
      have hSR := b3 _ _ a3
      have hIC := b4 n'
      clear b3 b4
      generalize replM M (145 + 14 * q) = X at *
      obtain ⟨d1, d2, d3, d4, d5⟩ := re_at (N := pL X 212 0 (nI n').toInt64) (q := q)
      have hSN : Shp (pL X 212 0 (nI n').toInt64) := shp_N9 (hc.S hS)
      have hS2 : Shp (reM (pL X 212 0 (nI n').toInt64) q) := Rf.S (M := pL X 212 0 (nI n').toInt64) (rf_reM (Rf.rf _)) hSN
      have hSR2 : SR (reM (pL X 212 0 (nI n').toInt64) q) 3 (mL (reM (pL X 212 0 (nI n').toInt64) q) 199) n' := SR_cg hSR (fun i h1 h2 => by
        rw [d3 i (by omega)]) (fun j hj => by
        rw [d4, sL_ne9 (by decide), sL_ne9 (by decide), hc.L]
        unfold cpF
        rw [if_pos ⟨by omega, by omega⟩]
        show _ = mL M 202 (220 * q + j)
        congr 1
        omega)
      have n9 := n_restoreSnapshot (l := l) (M := pL X 212 0 (nI n').toInt64) hSN (R_of hS2 hSR2) hq (by
        show ¬ mI X 203 q = 0
        rw [hc.I (by decide), a2]
        decide)
      refine uI (hc.S hS) (w_restoreSnapshot hu (shK hS rfl) (shK (hc.S hS) rfl)) n9 (fun _ => rfl) (rf_reM (Rf.rf _)) t6_reM ⟨n', p, 0, ?_⟩
      generalize reM (pL X 212 0 (nI n').toInt64) q = Y at *
      have e : ∀ i, i ≠ 0 → i ≠ 198 → (i < 3 ∨ (17 ≤ i ∧ i < 175) ∨ 187 ≤ i) → mI Y i = mI M i := fun i h1 h2 h3 => by
        rw [d3 i h2]
        exact b1' i h1 h3
      have eL : ∀ i, i ≠ 212 → i ≠ 199 → mL Y i = mL M i := fun i hi h2 => by rw [d5 i h2, sL_ne9 hi, hc.L]
      have e8 : ∀ j, j ≠ 5 → j ≠ 6 → mI Y 198 j = mI M 198 j := fun j h1 h2 => by
        rw [d1 j h1 h2]
        show mI X 198 j = _
        rw [hc.I (Nat.le_refl 198)]
      have e0 : ∀ j, mI Y 0 j = if j = 5 then 0 else mI M 0 j := fun j => by
        rw [d3 0 (by decide)]
        exact b2 j
      refine ⟨hS2, hSR2, ⟨?_, h.2.2.1.2.1, ?_, Nat.zero_le 8, d2, fun i hi => absurd hi (Nat.not_lt_zero i)⟩, is_cg h.2.2.2.1 (fun i h1 h2 => e i (by omega) (by omega) (by omega)) (e 203 (by decide) (by decide) (by decide)) (eL 202 (by decide) (by decide)), ?_, ir_cg h.2.2.2.2.2.1 (e 1 (by decide) (by decide) (by decide)) (e 2 (by decide) (by decide) (by decide)) (e 204 (by decide) (by decide) (by decide)) (e8 8 (by decide) (by decide)) (e8 14 (by decide) (by decide)) (e8 15 (by decide) (by decide)), ix_cg h.2.2.2.2.2.2 (e 188 (by decide) (by decide) (by decide)) (eL 209 (by decide) (by decide)) ?_ (e8 24 (by decide) (by decide))⟩
      · rw [e0, if_neg (by decide)]
        exact h.2.2.1.1
      · rw [e0, if_pos rfl]
        rfl
      · exact ic_cg hIC (fun i h1 h2 => d3 i (by omega)) (fun i h1 h2 => d3 i (by omega))
      · rw [e0, if_neg (by decide)]
  · exact xI h (by decide) (wx_restoreSnapshot (x_restore hS hr) (shK hS rfl)) (t_restoreSnapshot hS hr)

theorem un_at {cc : Nat} : (∀ i, i ≠ 0 → (i < 3 ∨ (17 ≤ i ∧ i < 175) ∨ 187 ≤ i) → mI (unM M p cc) i = mI M i) ∧ (∀ j, mI (unM M p cc) 0 j = if j = 4 then nI (unP p) else if j = 5 then nI (cc - 1) else mI M 0 j) ∧ (∀ u n', SR M (32 + 14 * unP p) u n' → SR (unM M p cc) 3 u n') ∧ ∀ n', IC (unM M p cc) n' := by
  have q0 : ∀ j, mI (pI (pI M 0 5 (nI (cc - 1))) 0 4 (nI (unP p))) 0 j = if j = 4 then nI (unP p) else if j = 5 then nI (cc - 1) else mI M 0 j := fun j => by
    rw [pI_at, pI_at]
    by_cases e : j = 4
    · rw [if_pos ⟨rfl, e⟩, if_pos e]
    · rw [if_neg (fun h => e h.2), if_neg e]
      by_cases e2 : j = 5
      · rw [if_pos ⟨rfl, e2⟩, if_pos e2]
      · rw [if_neg (fun h => e2 h.2), if_neg e2]
  have qn : ∀ i, i ≠ 0 → mI (pI (pI M 0 5 (nI (cc - 1))) 0 4 (nI (unP p))) i = mI M i := fun i hi => by rw [sI_ne hi, sI_ne hi]
  unfold unM
  generalize pI (pI M 0 5 (nI (cc - 1))) 0 4 (nI (unP p)) = Q at *
  have h1 : ∀ i, (i < 3 ∨ 17 ≤ i) → mI (stTake Q 3 (32 + 14 * unP p)) i = mI Q i := fun i hi => stTake_ne hi
  have h2 : ∀ u n', SR M (32 + 14 * unP p) u n' → SR (stTake Q 3 (32 + 14 * unP p)) 3 u n' := fun u n' h => SR_take (Or.inl (by omega)) (SR_cg h (fun i a b => qn i (by omega)) (fun _ _ => rfl))
  generalize stTake Q 3 (32 + 14 * unP p) = X at *
  refine ⟨fun i h0 hi => ?_, fun j => ?_, fun u n' h => SR_drop (h2 u n' h), fun n' => ic_drop⟩
  · rw [dropC_ne (by omega) 6 (Nat.le_refl 6), h1 i (by omega), qn i h0]
  · rw [dropC_ne (by omega) 6 (Nat.le_refl 6), h1 0 (by omega), q0]
theorem ud_at {N : Mem} {cc : Nat} : (∀ j, j ≠ 5 → j ≠ 6 → mI (und N cc) 198 j = mI N 198 j) ∧ mI (und N cc) 198 5 = nI (cc - 1) ∧ (∀ i, i ≠ 198 → mI (und N cc) i = mI N i) ∧ mL (und N cc) 199 = cpF (mL N 199) 0 (mL N 201) (cc - 1) 220 ∧ ∀ i, i ≠ 199 → mL (und N cc) i = mL N i := by
  unfold und
  refine ⟨fun j a b => ?_, ?_, fun i a => ?_, sL_self _ _ _, fun i a => ?_⟩
  · show mI (pI (thr N 0) 198 5 (nI (cc - 1))) 198 j = _
    rw [pI_k a]
    unfold thr
    rw [pI_k b]
  · show mI (pI (thr N 0) 198 5 (nI (cc - 1))) 198 5 = _
    exact pI_at9 _ _ _ _
  · show mI (pI (thr N 0) 198 5 (nI (cc - 1))) i = _
    rw [sI_ne a]
    unfold thr
    rw [sI_ne a]
  · rw [sL_ne9 a]
    rfl
theorem sm_undo (h : IV M n p c)  : SmN True l jX6_undo jX7_undo 3 120 4 160 [.ref 0] [.ref 198] M Inv := by
  have hS := h.S
  have hz := h.z
  have hn := h.n32
  have hn1 := h.n1
  obtain ⟨p1, p2, p3, p4, p5, p6⟩ := h.2.2.1
  by_cases h0 : c = 0
  · subst h0
    exact ⟨_, _, _, _, v_undo hS p3, t_undo hS p5, hS, (rf_thr (Rf.rf M)).S hS, fun _ => rfl, iv_thr h⟩
  · have hc1 : 1 ≤ c := Nat.pos_of_ne_zero h0
    have eu : unP p = (p + 8 - c + (c - 1)) % 8 := by
      unfold unP
      split
      · rename_i q
        rw [q]
        omega
      · omega
    have hlast := p6 (c - 1) (by omega)
    rw [← eu] at hlast
    have hu := u_undo (l := l) h.D (SR_keep hlast) hc1
    have hc : Cf M (unM M p c) := cf_unM
    obtain ⟨b1', b2, b3, b4⟩ := un_at (M := M) (p := p) (cc := c)
    have hSR := b3 _ _ hlast
    have hIC := b4 n
    clear b3 b4
    have n9 := n_undo (l := l) (M := unM M p c) (hc.S hS) (by rw [hc.I (Nat.le_refl 198)]; exact p5) p4 hc1
    generalize unM M p c = X at *
    obtain ⟨d1, d2, d3, d4, d5⟩ := ud_at (N := X) (cc := c)
    have hS2 : Shp (und X c) := (rf_und (Rf.rf _)).S (hc.S hS)
    refine ⟨_, _, _, _, hu, n9, hc.S hS, hS2, fun _ => rfl, n, unP p, c - 1, ?_⟩
    generalize und X c = Y at *
    have e : ∀ i, i ≠ 0 → i ≠ 198 → (i < 3 ∨ (17 ≤ i ∧ i < 175) ∨ 187 ≤ i) → mI Y i = mI M i := fun i h1 h2 h3 => by
      rw [d3 i h2]
      exact b1' i h1 h3
    have eL : ∀ i, i ≠ 199 → mL Y i = mL M i := fun i h2 => by rw [d5 i h2, hc.L]
    have e8 : ∀ j, j ≠ 5 → j ≠ 6 → mI Y 198 j = mI M 198 j := fun j h1 h2 => by
      rw [d1 j h1 h2, hc.I (Nat.le_refl 198)]
    have e0 : ∀ j, mI Y 0 j = if j = 4 then nI (unP p) else if j = 5 then nI (c - 1) else mI M 0 j := fun j => by
      rw [d3 0 (by decide)]
      exact b2 j
    have hp8 : unP p < 8 := by
      unfold unP
      split <;> omega
    refine ⟨hS2, SR_cg hSR (fun i h1 h2 => d3 i (by omega)) (fun j hj => ?_), ⟨?_, hp8, ?_, by omega, d2, fun i hi => ?_⟩, is_cg h.2.2.2.1 (fun i h1 h2 => e i (by omega) (by omega) (by omega)) (e 203 (by decide) (by decide) (by decide)) (eL 202 (by decide)), ic_cg hIC (fun i h1 h2 => d3 i (by omega)) (fun i h1 h2 => d3 i (by omega)), ir_cg h.2.2.2.2.2.1 (e 1 (by decide) (by decide) (by decide)) (e 2 (by decide) (by decide) (by decide)) (e 204 (by decide) (by decide) (by decide)) (e8 8 (by decide) (by decide)) (e8 14 (by decide) (by decide)) (e8 15 (by decide) (by decide)), ix_cg h.2.2.2.2.2.2 (e 188 (by decide) (by decide) (by decide)) (eL 209 (by decide)) ?_ (e8 24 (by decide) (by decide))⟩
    · rw [d4, hc.L]
      unfold cpF
      rw [if_pos ⟨by omega, by omega⟩]
      show _ = mL M 201 (220 * (c - 1) + j)
      congr 1
      omega
    · rw [e0, if_pos rfl]
    · rw [e0, if_neg (by decide), if_pos rfl]
    · have e9 : (unP p + 8 - (c - 1) + i) % 8 = (p + 8 - c + i) % 8 := by omega
      rw [e9]
      have hm : (p + 8 - c + i) % 8 < 8 := Nat.mod_lt _ (by decide)
      exact SR_cg (p6 i (by omega)) (fun j h1 h2 => e j (by omega) (by omega) (by omega)) (fun j _ => by rw [eL 201 (by decide)])
    · rw [e0, if_neg (by decide), if_neg (by decide)]

end
end
-- 5991.us
section
/-! calls that change, from the invariant to the invariant (5991) -/
section
variable {l : Launch} {M : Mem} {n p c : Nat}
theorem ap_tx {len : Nat} {T R : Nat → Int32} {x : Int64} (hT : ∀ i, i < len → ∃ j, j < 256 ∧ T i = nI j ∧ R i = sx (nI j)) : ∀ k, len + mrB x k ≤ 600 → ∀ i, i < len + mrB x k → ∃ j, j < 256 ∧ (apL len T x k).2 i = nI j ∧ (apB len R x k).2 i = sx (nI j)
  | 0, _ => fun i hi => hT i hi
  | k + 1, h => fun i hi => by
    unfold apL apB
    unfold mrB at h hi
    by_cases e : bI x k = 0
    · rw [if_pos e] at h hi
      rw [if_pos e, if_pos e]
      exact ap_tx hT k h i hi
    · rw [if_neg e] at h hi
      rw [if_neg e, if_neg e, if_pos (by rw [ap_n k (by omega)]; omega)]
      show ∃ j, j < 256 ∧ fun_set (apL len T x k).2 (apL len T x k).1 (bI x k) i = nI j ∧ fun_set (apB len R x k).2 (apB len R x k).1 (sx (bI x k)) i = sx (nI j)
      rw [ap_n k (by omega), apB_1]
      by_cases q : i = len + mrB x k
      · rw [q, fs_self, fs_self]
        obtain ⟨j, j1, j2, -⟩ := bI_n x k
        exact ⟨j, j1, j2, by rw [j2]⟩
      · rw [fs_ne _ _ q, fs_ne _ _ q]
        exact ap_tx hT k (by omega) i (by omega)
theorem ap_iv (h : IV M n p c) {Q R : Nat × (Nat → Int32)} {len' : Nat} (hle : len' ≤ 600) (a1 : Q.1 = len') (a2 : R.1 = len') (a3 : ∀ i, i < len' → ∃ j, j < 256 ∧ Q.2 i = nI j ∧ R.2 i = sx (nI j)) : IV (agM (thr (apQ M Q) 0) R) n p c := by
  obtain ⟨-, r2, r3⟩ := h.2.2.2.2.2.1
  have hS2 : Shp (agM (thr (apQ M Q) 0) R) := h.S
  have b1' : ∀ i, i ≠ 1 → i ≠ 2 → i ≠ 198 → i ≠ 204 → mI (agM (thr (apQ M Q) 0) R) i = mI M i := fun i h1 h2 h3 h4 => by
    unfold agM thr apQ
    rw [sI_ne h3, sI_ne h4, sI_ne h3, sI_ne h1, sI_ne h2]
  have b2 : ∀ j, mI (agM (thr (apQ M Q) 0) R) 1 j = if j = 1 then nI Q.1 else mI M 1 j := fun j => by
    unfold agM thr apQ
    rw [sI_ne (by decide), sI_ne (by decide), sI_ne (by decide), pI_at, sI_ne (by decide)]
    by_cases e2 : j = 1
    · rw [if_pos ⟨rfl, e2⟩, if_pos e2]
    · rw [if_neg (fun h => e2 h.2), if_neg e2]
  have b3 : mI (agM (thr (apQ M Q) 0) R) 2 = Q.2 := by
    unfold agM thr apQ
    rw [sI_ne (by decide), sI_ne (by decide), sI_ne (by decide), sI_ne (by decide), sI_self]
  have b4 : ∀ j, j ≠ 6 → j ≠ 8 → mI (agM (thr (apQ M Q) 0) R) 198 j = mI M 198 j := fun j h1 h2 => by
    unfold agM thr apQ
    rw [pI_k h2, sI_ne (by decide), pI_k h1, sI_ne (by decide), sI_ne (by decide)]
  have b5 := agM_8 (M := thr (apQ M Q) 0) R
  have b6 := agM_t (M := thr (apQ M Q) 0) R
  have bL : mL (agM (thr (apQ M Q) 0) R) = mL M := rfl
  generalize agM (thr (apQ M Q) 0) R = Y at *
  have e0 := b1' 0 (by decide) (by decide) (by decide) (by decide)
  refine ⟨hS2, SR_cg h.2.1 (fun i h1 h2 => b1' i (by omega) (by omega) (by omega) (by omega)) (fun i _ => by rw [bL]), ip_cg h.2.2.1 (fun i h1 h2 => b1' i (by omega) (by omega) (by omega) (by omega)) (by rw [e0]) (by rw [e0]) (b4 5 (by decide) (by decide)) (by rw [bL]), is_cg h.2.2.2.1 (fun i h1 h2 => b1' i (by omega) (by omega) (by omega) (by omega)) (b1' 203 (by decide) (by decide) (by decide) (by decide)) (by rw [bL]), ic_cg h.2.2.2.2.1 (fun i h1 h2 => b1' i (by omega) (by omega) (by omega) (by omega)) (fun i h1 h2 => b1' i (by omega) (by omega) (by omega) (by omega)), ⟨⟨len', hle, by rw [b2, if_pos rfl, a1], by rw [b5, a2], fun i hi => ?_⟩, ?_, ?_⟩, ix_cg h.2.2.2.2.2.2 (b1' 188 (by decide) (by decide) (by decide) (by decide)) (by rw [bL]) (by rw [e0]) (b4 24 (by decide) (by decide))⟩
  · obtain ⟨j, j1, j2, j3⟩ := a3 i hi
    exact ⟨j, j1, by rw [b3]; exact j2, by rw [b6]; exact j3⟩
  · rw [b4 14 (by decide) (by decide), b2, if_neg (by decide)]
    exact r2
  · have e5 : mI Y 1 5 = mI M 1 5 := by rw [b2, if_neg (by decide)]
    have e4 : mI Y 1 4 = mI M 1 4 := by rw [b2, if_neg (by decide)]
    rw [b4 15 (by decide) (by decide), e5, e4]
    exact r3
theorem ap_204 {Q : Nat × (Nat → Int32)} : mI (apQ M Q) 204 = mI M 204 := by
  unfold apQ
  rw [sI_ne (by decide), sI_ne (by decide)]
theorem ap_go (h : IV M n p c) {len : Nat} {x : Int64} {k : Nat} (l1 : len ≤ 600) (l4 : ∀ i, i < len → ∃ j, j < 256 ∧ mI M 2 i = nI j ∧ mI M 204 i = sx (nI j)) : IV (if 600 < len + mrB x k then thr (if 600 < len + mrN x k then M else apQ M (apL len (mI M 2) x k)) 0 else agM (thr (if 600 < len + mrN x k then M else apQ M (apL len (mI M 2) x k)) 0) (apB len (mI (if 600 < len + mrN x k then M else apQ M (apL len (mI M 2) x k)) 204) x k)) n p c := by
  rw [mrB_n]
  by_cases e : 600 < len + mrB x k
  · rw [if_pos e, if_pos e]
    exact iv_r h (rq_thr (Rq.rf _))
  · rw [if_neg e, if_neg e, ap_204]
    have hle : len + mrB x k ≤ 600 := Nat.le_of_not_lt e
    exact ap_iv h hle (ap_n k hle) (apB_1 len (mI M 204) x k) (ap_tx l4 k hle)
theorem sm_append (h : IV M n p c) (x1 : Int64) : SmN True l jX6_append jX7_append 1 30 4 160 [.ref 0, .long x1] [.ref 198, .long x1] M Inv := by
  have hS := h.S
  have hz := h.z
  have hn := h.n32
  have hn1 := h.n1
  obtain ⟨⟨len, l1, l2, l3, l4⟩, r2, r3⟩ := h.2.2.2.2.2.1
  have q := q_append (l := l) (x := x1) hS l2 l1
  have hc : Cf M (apM M len x1) := cf_apM
  have n9 := n_append (l := l) (M := apM M len x1) (x := x1) (hc.S hS) (by rw [hc.I (Nat.le_refl 198)]; exact l3) l1
  have hI := ap_go (x := x1) (k := 8) h l1 l4
  exact ⟨_, _, _, _, q, n9, hc.S hS, (rf_agE (Rf.rf _)).S (hc.S hS), fun _ => ap_V M, n, p, c, hI⟩

end
end
-- 5992.ld
section
/-! both readers: after an error the class reads on, the reference stops -/
def EqS (s t : RP) : Prop := s.2.2.1 = t.2.2.1 ∧ s.2.2.2.1 = t.2.2.2.1 ∧ (s.2.2.2.1 ≠ 0 → s.2.2.2.2 = t.2.2.2.2) ∧ (s.2.2.2.1 = 0 → s.1 = t.1 ∧ s.2.1 = t.2.1)
/-- an error stays -/
def KpS (s t : RP) : Prop := s.2.2.2.1 ≠ 0 → t.2.2 = s.2.2
section
variable {s t u : RP} {T : Nat → Int32} {len n : Nat}
theorem KpS.tr (h : KpS s t) (g : KpS t u) : KpS s u := fun e => by
  have h1 := h e
  have h2 := g (by rw [h1]; exact e)
  rw [h2, h1]
theorem KpS.e (h : KpS s t) (e : s.2.2.2.1 ≠ 0) : t.2.2.2.1 ≠ 0 := by
  rw [h e]
  exact e
theorem EqS.kp (h : EqS s t) (g : KpS s u) (e : s.2.2.2.1 ≠ 0) : EqS u t := by
  have h1 := g e
  obtain ⟨a, b, c, d⟩ := h
  unfold EqS
  rw [h1]
  exact ⟨a, b, c, fun q => absurd q e⟩
theorem EqS.e0 (h : EqS s t) : s.2.2.2.1 = 0 ↔ t.2.2.2.1 = 0 := by rw [h.2.1]
theorem kp_fail {k a : Int32} : KpS s (rFail k a s) := fun e => by
  unfold rFail
  rw [if_neg e]
theorem eq_fail {k a : Int32} (h : EqS s t) : EqS (rFail k a s) (rFail k a t) := by
  unfold rFail
  by_cases e : s.2.2.2.1 = 0
  · rw [if_pos e, if_pos (h.e0.mp e)]
    obtain ⟨a1, a2, a3, a4⟩ := h
    refine ⟨a1, rfl, fun _ => rfl, fun _ => a4 e⟩
  · rw [if_neg e, if_neg (fun q => e (h.e0.mpr q))]
    exact h
theorem kp_twd : KpS s (twd T len s) := fun _ => rfl
theorem eq_twd (h : EqS s t) : EqS (twd T len s) (twd T len t) := by
  obtain ⟨a1, a2, a3, a4⟩ := h
  refine ⟨a1, a2, a3, fun e => ?_⟩
  have := (a4 e).1
  unfold twd
  rw [this]
  exact ⟨rfl, rfl⟩
theorem kp_tdg : KpS s (tdg T len s) := by
  unfold tdg
  split
  · exact KpS.tr (t := tdg0 T len s) (fun _ => rfl) kp_fail
  · exact fun _ => rfl
theorem eq_tdg (h : EqS s t) (e : s.2.2.2.1 = 0) : EqS (tdg T len s) (tdg T len t) := by
  have h1 := (h.2.2.2 e).1
  have h0 : EqS (tdg0 T len s) (tdg0 T len t) := by
    obtain ⟨a1, a2, a3, a4⟩ := h
    refine ⟨a1, a2, a3, fun _ => ?_⟩
    unfold tdg0
    rw [h1]
    exact ⟨rfl, rfl⟩
  unfold tdg
  rw [h1]
  split
  · exact eq_fail h0
  · exact h0
theorem kp_tnm {lo hi : Int32} : KpS s (tnm T len lo hi s) := by
  unfold tnm
  split
  · exact kp_tdg.tr kp_fail
  · exact kp_tdg
theorem eq_tnm {lo hi : Int32} (h : EqS s t) : EqS (tnm T len lo hi s) (nmS T len lo hi t) := by
  by_cases e : s.2.2.2.1 = 0
  · have h1 := (h.2.2.2 e).1
    unfold nmS
    rw [if_pos (h.e0.mp e)]
    unfold tnm
    rw [h1]
    split
    · exact eq_fail (eq_tdg h e)
    · exact eq_tdg h e
  · unfold nmS
    rw [if_neg (fun q => e (h.e0.mpr q))]
    exact h.kp kp_tnm e
theorem eq_tnv {lo hi : Int32} (h : EqS s t) : tnv T len lo hi s = nmV T len lo hi t := by
  have h2 := eq_tnm (T := T) (len := len) (lo := lo) (hi := hi) h
  by_cases e : s.2.2.2.1 = 0
  · have h1 := (h.2.2.2 e).1
    have e2 := h.e0.mp e
    unfold nmS at h2
    rw [if_pos e2] at h2
    unfold nmV
    rw [if_pos e2]
    unfold tnv
    by_cases q : (tnm T len lo hi s).2.2.2.1 = 0
    · rw [if_pos q, if_pos (h2.e0.mp q), h1]
    · rw [if_neg q, if_neg (fun q9 => q (h2.e0.mpr q9))]
  · unfold nmV
    rw [if_neg (fun q => e (h.e0.mpr q))]
    unfold tnv
    rw [if_neg (kp_tnm.e e)]
theorem eq_tnN {k : Nat} (h : EqS s t) : tnN T len k s = nmN T len k t := by
  unfold tnN nmN
  rw [eq_tnv h]
/-- a row of zeros and ones -/
theorem kp_tbI {b : Nat} {a : Int32} : ∀ k, KpS s (tbI T b a s k).1
  | 0 => fun _ => rfl
  | k + 1 => by
    unfold tbI
    split
    · exact (kp_tbI k).tr kp_fail
    · split
      · exact kp_tbI k
      · exact kp_tbI k
theorem kp_tbs : KpS s (tbs T len n s).1 := by
  unfold tbs
  split
  · exact kp_tdg.tr (kp_tbI n)
  · exact kp_tdg.tr kp_fail
theorem tb_ok {b : Nat} {a : Int32} (e : s.2.2.2.1 = 0) : ∀ k, k ≤ 32 → (isB T b k = true → tbI T b a s k = (s, rbB T b k)) ∧ (isB T b k = false → (tbI T b a s k).1 = rFail 2 a s)
  | 0, _ => ⟨fun _ => rfl, fun h => by cases h⟩
  | k + 1, hk => by
    obtain ⟨i1, i2⟩ := tb_ok (b := b) (a := a) e k (by omega)
    constructor
    · intro h
      unfold isB at h
      rw [Bool.and_eq_true, decide_eq_true_iff] at h
      have h1 := i1 h.1
      unfold tbI rbB
      rw [if_neg (Int32.not_lt.mpr h.2), h1]
      by_cases q : T (b + k) = 49
      · rw [if_pos q, if_pos ⟨by omega, q⟩]
      · rw [if_neg q, if_neg (fun z => q z.2), Int32.or_zero]
    · intro h
      unfold isB at h
      rw [Bool.and_eq_false_iff, decide_eq_false_iff_not] at h
      unfold tbI
      by_cases q : isB T b k = true
      · have h2 : ¬ T (b + k) ≤ 49 := by
          rcases h with h | h
          · rw [q] at h
            cases h
          · exact h
        rw [if_pos (Int32.not_le.mp h2), i1 q]
      · have h3 := i2 (Bool.eq_false_iff.mpr q)
        have h4 : ¬ (rFail 2 a s).2.2.2.1 = 0 := by
          unfold rFail
          rw [if_pos e]
          show ¬ (2 : Int32) = 0
          decide
        split
        · show rFail 2 a (tbI T b a s k).1 = _
          rw [h3]
          unfold rFail at h4 ⊢
          rw [if_neg h4]
        · split
          · exact h3
          · exact h3
end
end
-- 5993.ld
section
/-! what is described, on both sides -/
section
variable {M X : Mem} {b n : Nat} {u : Nat → Int64}
theorem SR_rowb {t : Nat} {f g : Nat → Int32} (ht : t < 6) (h : SR M b u n) (hg : ∀ r, r < n → g r = f r) (hf : wfr n f) : SR (sI M (b + 3 + 2 * t) g) b (lyF u t f n) n := by
  obtain ⟨⟨a1, a2, a3, a4⟩, ⟨bl, b1', b2, b3, b4⟩, ⟨y, y1, y2⟩, ⟨z, z1, z2⟩, hS⟩ := h
  have e : ∀ i, i ≠ b + 3 + 2 * t → mI (sI M (b + 3 + 2 * t) g) i = mI M i := fun i hi => sI_ne hi
  have gu : ∀ j, j < 28 → lyF u t f n j = u j := fun j hj => by rw [ly_at, if_neg (fun h => by omega)]
  refine ⟨⟨a1, a2, by rw [e b (by omega)]; exact a3, by rw [gu 0 (by decide)]; exact a4⟩, ⟨bl, b1', b2, by rw [e b (by omega)]; exact b3, by rw [gu 1 (by decide)]; exact b4⟩, ⟨y, by rw [e b (by omega)]; exact y1, by rw [gu 2 (by decide)]; exact y2⟩, ⟨z, by rw [e b (by omega)]; exact z1, by rw [gu 3 (by decide)]; exact z2⟩, fun s hs => ?_⟩
  by_cases q : s = t
  · subst q
    obtain ⟨⟨k', f1, f2⟩, f3, f4, f5, f6, f7⟩ := hS s ht
    have e2 := e (b + 2 + 2 * s) (by omega)
    have e3 : mI (sI M (b + 3 + 2 * s) g) (b + 3 + 2 * s) = g := by rw [sI_self]
    refine ⟨⟨k', by rw [e2]; exact f1, by rw [gu _ (by omega)]; exact f2⟩, by rw [e2, gu _ (by omega)]; exact f3, by rw [e2, gu _ (by omega)]; exact f4, by rw [e2, gu _ (by omega)]; exact f5, fun r hr => ?_, fun r hr c hc => ?_⟩
    · rw [e3, ly_at, if_pos ⟨by omega, by omega⟩, hg r hr, show 28 + 32 * s + r - (28 + 32 * s) = r by omega]
    · rw [e3, hg r hr]
      exact hf r hr c hc
  · exact SS_cg (hS s hs) (fun j _ _ => by rw [e _ (by omega)]) (fun r _ => by rw [e _ (by omega)]) ⟨gu _ (by omega), gu _ (by omega), gu _ (by omega), gu _ (by omega)⟩ (fun r hr => by rw [ly_at, if_neg (fun h => by omega)])
theorem SR_setb {s r : Nat} {y : Int32} (hs : s < 6) (hr : r < n) (hn : n ≤ 32) (h : SR X b u n) (hy : ∀ c, n ≤ c → hb y c = false) : SR (sI X (b + 3 + 2 * s) (fun_set (mI X (b + 3 + 2 * s)) r y)) b (fun_set u (28 + 32 * s + r) (uL y)) n := by
  obtain ⟨-, -, -, -, c6, c7⟩ := h.2.2.2.2 s hs
  have hw : wfr n (fun_set (mI X (b + 3 + 2 * s)) r y) := fun x hx c hc => by
    unfold fun_set
    split
    · exact hy c hc
    · exact c7 x hx c hc
  refine SR_cg (SR_rowb hs h (fun _ _ => rfl) hw) (fun _ _ _ => rfl) (fun i hi => ?_)
  rw [fsu_at, ly_at]
  by_cases e : 28 + 32 * s ≤ i ∧ i < 28 + 32 * s + n
  · rw [if_pos e]
    by_cases e2 : i = 28 + 32 * s + r
    · rw [if_pos e2, e2, show 28 + 32 * s + r - (28 + 32 * s) = r by omega, fs_self]
    · rw [if_neg e2, fs_ne _ _ (by omega)]
      have := c6 (i - (28 + 32 * s)) (by omega)
      rw [show 28 + 32 * s + (i - (28 + 32 * s)) = i by omega] at this
      exact this
  · rw [if_neg e, if_neg (by omega)]
theorem SR_kpb {s : Nat} {k : Bool} (hs : s < 6) (h : SR X b u n) : SR (pI X (b + 2 + 2 * s) 1 (b1 k)) b (fun_set u (4 + s) (b1L k)) n := by
  obtain ⟨⟨a1, a2, a3, a4⟩, ⟨bl, b1', b2, b3, b4⟩, ⟨y, y1, y2⟩, ⟨z, z1, z2⟩, hS⟩ := h
  have e : ∀ i, i ≠ b + 2 + 2 * s → mI (pI X (b + 2 + 2 * s) 1 (b1 k)) i = mI X i := fun i hi => sI_ne hi
  have g : ∀ j, j ≠ 4 + s → fun_set u (4 + s) (b1L k) j = u j := fun j hj => fs_ne _ _ hj
  refine ⟨⟨a1, a2, by rw [e b (by omega)]; exact a3, by rw [g 0 (by omega)]; exact a4⟩, ⟨bl, b1', b2, by rw [e b (by omega)]; exact b3, by rw [g 1 (by omega)]; exact b4⟩, ⟨y, by rw [e b (by omega)]; exact y1, by rw [g 2 (by omega)]; exact y2⟩, ⟨z, by rw [e b (by omega)]; exact z1, by rw [g 3 (by omega)]; exact z2⟩, fun t ht => ?_⟩
  by_cases q : t = s
  · subst q
    obtain ⟨-, c3, c4, c5, c6, c7⟩ := hS t ht
    refine ⟨⟨k, by rw [pI_at, if_pos ⟨rfl, rfl⟩], by rw [fs_self]⟩, ?_, ?_, ?_, fun r hr => ?_, fun r hr c hc => ?_⟩
    · rw [pI_at, if_neg (by omega), g _ (by omega)]
      exact c3
    · rw [pI_at, if_neg (by omega), g _ (by omega)]
      exact c4
    · rw [pI_at, if_neg (by omega), g _ (by omega)]
      exact c5
    · rw [g _ (by omega), e _ (by omega)]
      exact c6 r hr
    · rw [e _ (by omega)]
      exact c7 r hr c hc
  · exact SS_cg (hS t ht) (fun j _ _ => by rw [e _ (by omega)]) (fun r _ => by rw [e _ (by omega)]) ⟨g _ (by omega), g _ (by omega), g _ (by omega), g _ (by omega)⟩ (fun r _ => g _ (by omega))
theorem SR_blb {m : Nat} (h1 : 1 ≤ m) (h8 : m ≤ 8) (h : SR X b u n) : SR (pI X b 2 (nI m)) b (fun_set u 1 (lN m)) n := by
  obtain ⟨⟨a1, a2, a3, a4⟩, -, ⟨y, y1, y2⟩, ⟨z, z1, z2⟩, hSS⟩ := h
  have g : ∀ j, j ≠ 1 → fun_set u 1 (lN m) j = u j := fun j hj => fs_ne _ _ hj
  have e : ∀ i, i ≠ b → mI (pI X b 2 (nI m)) i = mI X i := fun i hi => sI_ne hi
  have e3 : ∀ j, j ≠ 2 → mI (pI X b 2 (nI m)) b j = mI X b j := fun j hj => pI_k hj
  refine ⟨⟨a1, a2, by rw [e3 1 (by decide)]; exact a3, by rw [g 0 (by decide)]; exact a4⟩, ⟨m, h1, h8, by rw [pI_at9], by rw [fs_self]⟩, ⟨y, by rw [e3 3 (by decide)]; exact y1, by rw [g 2 (by decide)]; exact y2⟩, ⟨z, by rw [e3 4 (by decide)]; exact z1, by rw [g 3 (by decide)]; exact z2⟩, fun t ht => ?_⟩
  exact SS_cg (hSS t ht) (fun j _ _ => by rw [e _ (by omega)]) (fun r _ => by rw [e _ (by omega)]) ⟨g _ (by omega), g _ (by omega), g _ (by omega), g _ (by omega)⟩ (fun r _ => g _ (by omega))
end
/-! statements of both readers -/
section
variable {M : Mem} {s t : RP} {T : Nat → Int32} {len n : Nat} {u : Nat → Int64}
/-- a statement read on both sides -/
def StR (len n : Nat) (A : Mem × RP) (B : (Nat → Int64) × RP) : Prop := EqS A.2 B.2 ∧ (A.2.2.2.2.1 = 0 → SR A.1 17 B.1 n)
theorem StR_mk {A1 : Mem} {A2 : RP} {B : (Nat → Int64) × RP} (h1 : EqS A2 B.2) (h2 : A2.2.2.2.1 = 0 → SR A1 17 B.1 n) : StR len n (A1, A2) B := ⟨h1, h2⟩
theorem kp_e {a b : RP} (h : KpS a b) (e : b.2.2.2.1 = 0) : a.2.2.2.1 = 0 := Decidable.byContradiction (fun q => h.e q e)
theorem ed_D {a r c : Nat} (ha : a < 6) (hr : r < n) (hc : c < n) (hn : n ≤ 32) (hs0 : SR M 17 u n) : SR (sI M (20 + 2 * a) (fun_set (mI M (20 + 2 * a)) r (mI M (20 + 2 * a) r ||| bitI c))) 17 (fun_set u (28 + 32 * a + r) (u (28 + 32 * a + r) ||| uL (bitI c))) n := by
  obtain ⟨-, -, -, -, c6, c7⟩ := hs0.2.2.2.2 a ha
  rw [c6 r hr, uL_or]
  rw [show 17 + 3 + 2 * a = 20 + 2 * a by omega] at c7 ⊢
  have h9 := SR_setb (r := r) (y := mI M (20 + 2 * a) r ||| bitI c) ha hr hn hs0 (fun i hi => by
    rw [hb_or, c7 r hr i hi, hb_bitI (by omega), decide_eq_false (by omega)]
    rfl)
  rw [show 17 + 3 + 2 * a = 20 + 2 * a by omega] at h9
  exact h9
theorem st_ed (hn1 : 1 ≤ n) (hn : n ≤ 32) (h : EqS s t) (hD : s.2.2.2.1 = 0 → SR M 17 u n) : StR len n (edM M len n s, edS (mI M 2) len n s) (gE (mI M 2) len n u t) := by
  have hn2 : n - 1 < 2147483648 := by omega
  have hn3 : n - 1 < n := by omega
  have h1 := eq_tnm (T := mI M 2) (len := len) (lo := 0) (hi := nI 5) h
  have h2 := eq_tnm (T := mI M 2) (len := len) (lo := 0) (hi := nI (n - 1)) h1
  have h3 := eq_tnm (T := mI M 2) (len := len) (lo := 0) (hi := nI (n - 1)) h2
  have q1 := eq_tnN (T := mI M 2) (len := len) (k := 5) h
  have q2 := eq_tnN (T := mI M 2) (len := len) (k := n - 1) h1
  have q3 := eq_tnN (T := mI M 2) (len := len) (k := n - 1) h2
  have l1 := (tnN_ok (mI M 2) len (h := 5) (by decide) s).2
  have l2 := (tnN_ok (mI M 2) len (h := n - 1) hn2 (tnm (mI M 2) len 0 (nI 5) s)).2
  have l3 := (tnN_ok (mI M 2) len (h := n - 1) hn2 (tnm (mI M 2) len 0 (nI (n - 1)) (tnm (mI M 2) len 0 (nI 5) s))).2
  have hk : KpS s (edS (mI M 2) len n s) := (kp_tnm.tr kp_tnm).tr kp_tnm
  have g2 : (gE (mI M 2) len n u t).2 = nmS (mI M 2) len 0 (nI (n - 1)) (nmS (mI M 2) len 0 (nI (n - 1)) (nmS (mI M 2) len 0 (nI 5) t)) := rfl
  have e3 : EqS (edS (mI M 2) len n s) (gE (mI M 2) len n u t).2 := by
    rw [g2]
    exact h3
  refine StR_mk e3 (fun e8 => ?_)
  have e' := e3.e0.mp e8
  rw [g2] at e'
  have hE : (gE (mI M 2) len n u t).1 = fun_set u (28 + 32 * nmN (mI M 2) len 5 t + nmN (mI M 2) len (n - 1) (nmS (mI M 2) len 0 (nI 5) t)) (u (28 + 32 * nmN (mI M 2) len 5 t + nmN (mI M 2) len (n - 1) (nmS (mI M 2) len 0 (nI 5) t)) ||| uL (bitI (nmN (mI M 2) len (n - 1) (nmS (mI M 2) len 0 (nI (n - 1)) (nmS (mI M 2) len 0 (nI 5) t))))) := if_pos e'
  rw [hE, ← q1, ← q2, ← q3]
  unfold edM
  exact ed_D (Nat.lt_succ_of_le l1) (Nat.lt_of_le_of_lt l2 hn3) (Nat.lt_of_le_of_lt l3 hn3) hn (hD (kp_e hk e8))
theorem st_bl (h : EqS s t) (hD : s.2.2.2.1 = 0 → SR M 17 u n) : StR len n (pI M 17 2 (tnv (mI M 2) len 1 8 s), tnm (mI M 2) len 1 8 s) (gBk (mI M 2) len u t) := by
  have h1 := eq_tnm (T := mI M 2) (len := len) (lo := 1) (hi := 8) h
  have h2 := eq_tnv (T := mI M 2) (len := len) (lo := 1) (hi := 8) h
  unfold StR gBk
  rw [← h2]
  refine ⟨h1, fun e => ?_⟩
  obtain ⟨g1, g2⟩ := tnv_in (mI M 2) len 1 8 s (by decide)
  obtain ⟨m, hm, em⟩ := nI_of2 (x := tnv (mI M 2) len 1 8 s) (M := 8) (n := 8) (by decide) (fun q => g1 (Int32.lt_trans q (by decide))) (Int32.not_lt.mp g2)
  have hm1 : 1 ≤ m := by
    rcases Nat.eq_zero_or_pos m with q | q
    · rw [em, q] at g1
      exact absurd (by decide) g1
    · exact q
  show SR (pI M 17 2 (tnv (mI M 2) len 1 8 s)) 17 (fun_set u 1 (tnv (mI M 2) len 1 8 s).toInt64) n
  rw [em, show (nI m).toInt64 = lN m from nI_l (by omega)]
  exact SR_blb hm1 (by omega) (hD (kp_e kp_tnm e))
theorem st_kp (h : EqS s t) (hD : s.2.2.2.1 = 0 → SR M 17 u n) : StR len n (rkM M len s, rkS M len s) (gK (mI M 2) len u t) := by
  have h1 := eq_tnm (T := mI M 2) (len := len) (lo := 0) (hi := nI 5) h
  have q1 := eq_tnN (T := mI M 2) (len := len) (k := 5) h
  have l1 := (tnN_ok (mI M 2) len (h := 5) (by decide) s).2
  have hk : KpS s (tnm (mI M 2) len 0 (nI 5) s) := kp_tnm
  unfold StR rkM rkS gK
  rw [← q1]
  generalize tnN (mI M 2) len 5 s = a at *
  generalize tnm (mI M 2) len 0 (nI 5) s = s1 at *
  generalize nmS (mI M 2) len 0 (nI 5) t = t1 at *
  have ha : a < 6 := by omega
  by_cases e : s1.2.2.2.1 = 0
  · have hs0 := hD (kp_e hk e)
    obtain ⟨⟨k, k1, k2⟩, -⟩ := hs0.2.2.2.2 a ha
    rw [show 17 + 2 + 2 * a = 19 + 2 * a by omega] at k1
    have hkp := SR_kpb (k := true) ha hs0
    rw [show 17 + 2 + 2 * a = 19 + 2 * a by omega] at hkp
    show EqS (if mI M (19 + 2 * a) 1 = 0 then s1 else rFail 3 s1.2.1 s1) (if t1.2.2.2.1 = 0 ∧ u (4 + a) = 1 then rFail 3 t1.2.1 t1 else t1) ∧ ((if mI M (19 + 2 * a) 1 = 0 then s1 else rFail 3 s1.2.1 s1).2.2.2.1 = 0 → SR (pI M (19 + 2 * a) 1 1) 17 (fun_set u (4 + a) 1) n)
    rw [k1, k2]
    refine ⟨?_, fun _ => hkp⟩
    cases k
    · rw [if_pos ((b1_0k false).mpr rfl), if_neg (fun q => by cases (b1L_1 false).mp q.2)]
      exact h1
    · rw [if_neg (fun q => by cases (b1_0k true).mp q), if_pos ⟨h1.e0.mp e, (b1L_1 true).mpr rfl⟩, (h1.2.2.2 e).2]
      exact eq_fail h1
  · have hf : ∀ k a, rFail k a s1 = s1 := fun k a => by
      unfold rFail
      rw [if_neg e]
    show EqS (if mI M (19 + 2 * a) 1 = 0 then s1 else rFail 3 s1.2.1 s1) (if t1.2.2.2.1 = 0 ∧ u (4 + a) = 1 then rFail 3 t1.2.1 t1 else t1) ∧ ((if mI M (19 + 2 * a) 1 = 0 then s1 else rFail 3 s1.2.1 s1).2.2.2.1 = 0 → SR (pI M (19 + 2 * a) 1 1) 17 (fun_set u (4 + a) 1) n)
    rw [hf, ite_self, if_neg (fun q => e (h1.e0.mpr q.1))]
    exact ⟨h1, fun q => absurd q e⟩
end
end
-- 5994.ld
section
/-! rows and kinds of both readers -/
section
variable {M : Mem} {s t : RP} {T : Nat → Int32} {len n : Nat} {u : Nat → Int64}
theorem rb_z {b : Nat} {c : Nat} : ∀ k, k ≤ 32 → k ≤ c → hb (rbB T b k) c = false
  | 0, _, _ => hb_0 c
  | k + 1, hk, hc => by
    unfold rbB
    rw [hb_or, rb_z k (by omega) (by omega)]
    split
    · rw [hb_bitI (by omega), decide_eq_false (by omega)]
      rfl
    · rw [hb_0]
      rfl
theorem dig_b {b : Nat} : ¬ (b < len ∧ isDi (T b) = true) ↔ b = digP T len b := by
  unfold digP
  constructor
  · intro h
    by_cases q : b < len
    · obtain ⟨d, hd⟩ : ∃ d, len - b = d + 1 := ⟨len - b - 1, by omega⟩
      rw [hd]
      unfold scan
      rw [if_neg (fun z => h ⟨q, z⟩)]
    · rw [show len - b = 0 by omega]
      rfl
  · intro h q
    obtain ⟨d, hd⟩ : ∃ d, len - b = d + 1 := ⟨len - b - 1, by omega⟩
    rw [hd] at h
    unfold scan at h
    rw [if_pos q.2] at h
    have := (scan_le isDi T d (b + 1)).1
    omega
/-- the digits of a row -/
theorem tb_R {a r : Nat} (hn1 : 1 ≤ n) (hn : n ≤ 32) (h : EqS s t) (e : s.2.2.2.1 = 0) : EqS (tbs T len n s).1 (gRb T len n a r u t (skipP T len t.1)).2 ∧ ((tbs T len n s).1.2.2.2.1 = 0 → (gRb T len n a r u t (skipP T len t.1)).1 = fun_set u (28 + 32 * a + r) (uL (tbs T len n s).2) ∧ ∀ c, n ≤ c → hb (tbs T len n s).2 c = false) := by
  obtain ⟨a1, a2, a3, a4⟩ := h
  have e2 : t.2.2.2.1 = 0 := by rw [← a2]; exact e
  have hp := (a4 e).1
  unfold tbs gRb
  rw [hp]
  generalize hb9 : skipP T len t.1 = b
  have h0 : EqS (digP T len b, nI b, s.2.2) (digP T len b, nI b, t.2.2) := ⟨a1, a2, fun q => absurd e q, fun _ => ⟨rfl, rfl⟩⟩
  have eT0 : tdg0 T len s = (digP T len b, nI b, s.2.2) := by
    unfold tdg0
    rw [hp, hb9]
  have eT : tdg T len s = if b = digP T len b then rFail 1 (nI b) (digP T len b, nI b, s.2.2) else (digP T len b, nI b, s.2.2) := by
    unfold tdg
    rw [eT0, hp, hb9]
  rw [eT]
  have g1 : ∀ k p, rFail k (nI b) (p, nI b, t.2.2) = (p, nI b, t.2.2.1, k, nI b) := fun k p => by
    unfold rFail
    rw [if_pos (show (p, nI b, t.2.2).2.2.2.1 = 0 from e2)]
  have g2 : ∀ k p, rFail k (nI b) (p, nI b, s.2.2) = (p, nI b, s.2.2.1, k, nI b) := fun k p => by
    unfold rFail
    rw [if_pos (show (p, nI b, s.2.2).2.2.2.1 = 0 from e)]
  by_cases q : b = digP T len b
  · have q2 : ¬ (b < len ∧ isDi (T b) = true) := dig_b.mpr q
    rw [if_pos q, if_neg q2, g1, g2, if_neg (show ¬ digP T len b - b = n by omega)]
    have g3 : rFail 2 (nI b) (digP T len b, nI b, s.2.2.1, 1, nI b) = (digP T len b, nI b, s.2.2.1, 1, nI b) := by
      unfold rFail
      exact if_neg (show ¬ (1 : Int32) = 0 by decide)
    show EqS (rFail 2 (nI b) (digP T len b, nI b, s.2.2.1, 1, nI b)) (b, nI b, t.2.2.1, 1, nI b) ∧ ((rFail 2 (nI b) (digP T len b, nI b, s.2.2.1, 1, nI b)).2.2.2.1 = 0 → _)
    rw [g3]
    exact ⟨⟨a1, rfl, fun _ => rfl, fun z => absurd z (show ¬ (1 : Int32) = 0 by decide)⟩, fun z => absurd z (show ¬ (1 : Int32) = 0 by decide)⟩
  · have q2 : b < len ∧ isDi (T b) = true := Decidable.byContradiction (fun z => q (dig_b.mp z))
    rw [if_neg q, if_pos q2]
    by_cases q3 : digP T len b - b = n
    · rw [if_pos q3]
      obtain ⟨t1, t2⟩ := tb_ok (T := T) (b := b) (a := nI b) (s := (digP T len b, nI b, s.2.2)) e n hn
      rw [q3]
      by_cases q4 : isB T b n = true
      · rw [t1 q4, if_pos ⟨q4, rfl⟩]
        exact ⟨h0, fun _ => ⟨rfl, fun c hc => rb_z n hn hc⟩⟩
      · rw [if_neg (fun z => q4 z.1), t2 (Bool.eq_false_iff.mpr q4), g1, g2]
        exact ⟨⟨a1, rfl, fun _ => rfl, fun z => absurd z (show ¬ (2 : Int32) = 0 by decide)⟩, fun z => absurd z (show ¬ (2 : Int32) = 0 by decide)⟩
    · rw [if_neg q3, if_neg (fun z => q3 z.2), g1, g2]
      exact ⟨⟨a1, rfl, fun _ => rfl, fun z => absurd z (show ¬ (2 : Int32) = 0 by decide)⟩, fun z => absurd z (show ¬ (2 : Int32) = 0 by decide)⟩
theorem st_rr (hn1 : 1 ≤ n) (hn : n ≤ 32) (h : EqS s t) (hD : s.2.2.2.1 = 0 → SR M 17 u n) : StR len n (rrM M len n s, rrS (mI M 2) len n s) (gR (mI M 2) len n u t) := by
  have hn2 : n - 1 < 2147483648 := by omega
  have hn3 : n - 1 < n := by omega
  have h1 := eq_tnm (T := mI M 2) (len := len) (lo := 0) (hi := nI 5) h
  have h2 := eq_tnm (T := mI M 2) (len := len) (lo := 0) (hi := nI (n - 1)) h1
  have q1 := eq_tnN (T := mI M 2) (len := len) (k := 5) h
  have q2 := eq_tnN (T := mI M 2) (len := len) (k := n - 1) h1
  have l1 := Nat.lt_succ_of_le (tnN_ok (mI M 2) len (h := 5) (by decide) s).2
  have l2 := Nat.lt_of_le_of_lt (tnN_ok (mI M 2) len (h := n - 1) hn2 (tnm (mI M 2) len 0 (nI 5) s)).2 hn3
  have hk : KpS s (tnm (mI M 2) len 0 (nI (n - 1)) (tnm (mI M 2) len 0 (nI 5) s)) := KpS.tr (t := tnm (mI M 2) len 0 (nI 5) s) kp_tnm kp_tnm
  unfold StR rrM rrS gR
  rw [← q1, ← q2]
  clear q1 q2 h1
  generalize tnN (mI M 2) len 5 s = a at *
  generalize tnN (mI M 2) len (n - 1) (tnm (mI M 2) len 0 (nI 5) s) = r at *
  generalize tnm (mI M 2) len 0 (nI (n - 1)) (tnm (mI M 2) len 0 (nI 5) s) = s2 at *
  generalize nmS (mI M 2) len 0 (nI (n - 1)) (nmS (mI M 2) len 0 (nI 5) t) = t2 at *
  by_cases e : s2.2.2.2.1 = 0
  · rw [if_pos (h2.e0.mp e)]
    obtain ⟨b1', b2⟩ := tb_R (T := mI M 2) (len := len) (u := u) (a := a) (r := r) hn1 hn h2 e
    refine ⟨b1', fun e9 => ?_⟩
    obtain ⟨c1, c2⟩ := b2 e9
    show SR (sI M (20 + 2 * a) (fun_set (mI M (20 + 2 * a)) r (tbs (mI M 2) len n s2).2)) 17 (gRb (mI M 2) len n a r u t2 (skipP (mI M 2) len t2.1)).1 n
    rw [c1]
    have h9 := SR_setb (y := (tbs (mI M 2) len n s2).2) l1 l2 hn (hD (kp_e hk e)) c2
    rw [show 17 + 3 + 2 * a = 20 + 2 * a by omega] at h9
    exact h9
  · rw [if_neg (fun q => e (h2.e0.mpr q))]
    exact ⟨h2.kp kp_tbs e, fun q => absurd q (kp_tbs.e e)⟩
/-- kinds of rows -/
theorem kd_w : strW 17 = strW 4 ∧ strW 18 = strW 5 ∧ strW 19 = strW 6 ∧ strW 20 = strW 7 := by decide +kernel
theorem kd_V {b p i : Nat} : kdV T b p n i = if khF T b p = 4 then none else some (flF (khF T b p) n i) := by
  obtain ⟨k1, k2, k3, k4⟩ := kd_w
  unfold kdV khF
  rw [k1, k2, k3, k4]
  by_cases c1 : wdQ T b p (strW 4) = true
  · rw [if_pos c1, if_pos c1]
    rfl
  · rw [if_neg c1, if_neg c1]
    by_cases c2 : wdQ T b p (strW 5) = true
    · rw [if_pos c2, if_pos c2]
      rfl
    · rw [if_neg c2, if_neg c2]
      by_cases c3 : wdQ T b p (strW 6) = true
      · rw [if_pos c3, if_pos c3]
        rfl
      · rw [if_neg c3, if_neg c3]
        by_cases c4 : wdQ T b p (strW 7) = true
        · rw [if_pos c4, if_pos c4]
          rfl
        · rw [if_neg c4, if_neg c4]
          rfl
theorem kp_fi {b p : Nat} : ∀ k, KpS s (fiS T b p n s k)
  | 0 => fun _ => rfl
  | k + 1 => by
    unfold fiS kdS
    split
    · exact (kp_fi k).tr kp_fail
    · exact kp_fi k
theorem fail_2 {k a k' a' : Int32} (hk : k ≠ 0) : rFail k' a' (rFail k a s) = rFail k a s := by
  have h : ¬ (rFail k a s).2.2.2.1 = 0 := by
    unfold rFail
    by_cases e : s.2.2.2.1 = 0
    · rw [if_pos e]
      exact hk
    · rw [if_neg e]
      exact e
  generalize rFail k a s = z at *
  unfold rFail
  rw [if_neg h]
theorem fi_4 {b p : Nat} (h : khF T b p = 4) : ∀ k, fiS T b p n s (k + 1) = rFail 1 (nI b) s
  | 0 => by
    unfold fiS kdS
    rw [kd_V, if_pos h, if_pos rfl]
    rfl
  | k + 1 => by
    rw [fiS, fi_4 h k]
    unfold kdS
    rw [kd_V, if_pos h, if_pos rfl]
    exact fail_2 (by decide)
theorem fi_n {b p : Nat} (h : khF T b p ≠ 4) : ∀ k, fiS T b p n s k = s
  | 0 => rfl
  | k + 1 => by
    rw [fiS, fi_n h k]
    unfold kdS
    rw [kd_V, if_neg h, if_neg (fun q => by cases q)]
theorem fl_wf {k : Nat} (hn1 : 1 ≤ n) (hn : n ≤ 32) : wfr n (flF k n) := fun r hr c hc => by
  unfold flF
  split
  · rw [hb_bitI (by omega), decide_eq_false (by omega)]
  · split
    · rw [hb_lowM hn, decide_eq_false (by omega)]
    · split
      · split
        · rw [hb_bitI (by omega), decide_eq_false (by omega)]
        · rw [show (1 : Int32) = bitI 0 by decide +kernel, hb_bitI (by omega), decide_eq_false (by omega)]
      · rw [hb_lowM (by omega), decide_eq_false (by omega)]
end
end
-- 5995.ld
section
/-! statements and the text of both readers -/
section
variable {M : Mem} {s t : RP} {T : Nat → Int32} {len n : Nat} {u : Nat → Int64}
theorem st_fi (hn1 : 1 ≤ n) (hn : n ≤ 32) (h : EqS s t) (hD : s.2.2.2.1 = 0 → SR M 17 u n) : StR len n (rfM M len n s, rfS (mI M 2) len n s) (gF (mI M 2) len n u t) := by
  obtain ⟨n1, rfl⟩ : ∃ n1, n = n1 + 1 := ⟨n - 1, by omega⟩
  have h1 := eq_tnm (T := mI M 2) (len := len) (lo := 0) (hi := nI 5) h
  have q1 := eq_tnN (T := mI M 2) (len := len) (k := 5) h
  have l1 := Nat.lt_succ_of_le (tnN_ok (mI M 2) len (h := 5) (by decide) s).2
  have hk : KpS s (tnm (mI M 2) len 0 (nI 5) s) := kp_tnm
  unfold StR rfM rfS gF
  rw [← q1]
  clear q1
  generalize tnN (mI M 2) len 5 s = a at *
  generalize tnm (mI M 2) len 0 (nI 5) s = s1 at *
  generalize nmS (mI M 2) len 0 (nI 5) t = t1 at *
  have h2 := eq_twd (T := mI M 2) (len := len) h1
  have hk2 : KpS s1 (twd (mI M 2) len s1) := kp_twd
  by_cases e : s1.2.2.2.1 = 0
  · have hp := (h1.2.2.2 e).1
    have hw : (twd (mI M 2) len s1).1 = (twd (mI M 2) len t1).1 := by
      unfold twd
      rw [hp]
    have e2 : (twd (mI M 2) len t1).2.2.2.1 = 0 := (h1.e0.mp e)
    rw [hp, hw]
    generalize skipP (mI M 2) len t1.1 = b at *
    generalize hp9 : (twd (mI M 2) len t1).1 = p9 at *
    by_cases q : khF (mI M 2) b p9 = 4
    · rw [if_pos q, fi_4 q n1]
      have h3 := eq_fail (k := 1) (a := nI b) h2
      refine ⟨h3, fun z => absurd z ?_⟩
      show ¬ (rFail 1 (nI b) (twd (mI M 2) len s1)).2.2.2.1 = 0
      unfold rFail
      rw [if_pos (show (twd (mI M 2) len s1).2.2.2.1 = 0 from e)]
      show ¬ (1 : Int32) = 0
      decide
    · rw [if_neg q, fi_n q, if_pos e2]
      refine ⟨h2, fun _ => ?_⟩
      have h9 := SR_rowb (f := flF (khF (mI M 2) b p9) (n1 + 1)) (g := wr (mI M (20 + 2 * a)) (kdG (mI M 2) b p9 (n1 + 1)) (n1 + 1)) l1 (hD (kp_e hk e)) (fun r hr => by
        rw [wr_lt hr]
        unfold kdG
        rw [kd_V, if_neg q]
        rfl) (fl_wf hn1 hn)
      rw [show 17 + 3 + 2 * a = 20 + 2 * a by omega] at h9
      exact h9
  · have h4 : KpS s1 (fiS (mI M 2) (skipP (mI M 2) len s1.1) (twd (mI M 2) len s1).1 (n1 + 1) (twd (mI M 2) len s1) (n1 + 1)) := hk2.tr (kp_fi _)
    have e1 : ¬ t1.2.2.2.1 = 0 := fun q => e (h1.e0.mpr q)
    have e2 : ¬ (twd (mI M 2) len t1).2.2.2.1 = 0 := e1
    have h5 := h1.kp h4 e
    have h6 : EqS (fiS (mI M 2) (skipP (mI M 2) len s1.1) (twd (mI M 2) len s1).1 (n1 + 1) (twd (mI M 2) len s1) (n1 + 1)) (twd (mI M 2) len t1) := by
      obtain ⟨a1, a2, a3, a4⟩ := h5
      exact ⟨a1, a2, a3, fun q => absurd q (h4.e e)⟩
    refine ⟨?_, fun q => absurd q (h4.e e)⟩
    have h7 : rFail 1 (nI (skipP (mI M 2) len t1.1)) (twd (mI M 2) len t1) = twd (mI M 2) len t1 := by
      unfold rFail
      rw [if_neg e2]
    rw [h7, if_neg e2, ite_self]
    exact h6
theorem kd_w2 : strW 14 = strW 1 ∧ strW 15 = strW 2 ∧ strW 16 = strW 3 ∧ strW 21 = strW 8 ∧ strW 22 = strW 9 ∧ strW 13 = strW 0 := by decide +kernel
/-- the readers' numbers but for the start of what is read -/
def EqW (s t : RP) : Prop := s.2.2.1 = t.2.2.1 ∧ s.2.2.2.1 = t.2.2.2.1 ∧ (s.2.2.2.1 ≠ 0 → s.2.2.2.2 = t.2.2.2.2) ∧ (s.2.2.2.1 = 0 → s.1 = t.1)
theorem EqS.w (h : EqS s t) : EqW s t := ⟨h.1, h.2.1, h.2.2.1, fun e => (h.2.2.2 e).1⟩
theorem eq_twd' (h : EqW s t) : EqS (twd T len s) (twd T len t) := by
  obtain ⟨a1, a2, a3, a4⟩ := h
  refine ⟨a1, a2, a3, fun e => ?_⟩
  have := a4 e
  unfold twd
  rw [this]
  exact ⟨rfl, rfl⟩
theorem st_all (hn1 : 1 ≤ n) (hn : n ≤ 32) (h : EqW s t) (e : s.2.2.2.1 = 0) (hD : SR M 17 u n) : StR len n (rsR M len n s) (gS (mI M 2) len n u t) := by
  obtain ⟨k1, k2, k3, k4, k5, -⟩ := kd_w2
  have h2 := eq_twd' (T := mI M 2) (len := len) h
  have hp := h.2.2.2 e
  have hw : (twd (mI M 2) len s).1 = (twd (mI M 2) len t).1 := by
    unfold twd
    rw [hp]
  unfold rsR gS
  rw [k1, k2, k3, k4, k5, hp, hw]
  generalize twd (mI M 2) len s = s1 at *
  generalize skipP (mI M 2) len t.1 = b at *
  generalize hp9 : (twd (mI M 2) len t).1 = p9 at *
  generalize twd (mI M 2) len t = t1 at *
  have hD' : s1.2.2.2.1 = 0 → SR M 17 u n := fun _ => hD
  by_cases c1 : wdQ (mI M 2) b p9 (strW 1) = true
  · rw [if_pos c1, if_pos c1]
    exact st_ed hn1 hn h2 hD'
  · rw [if_neg c1, if_neg c1]
    by_cases c2 : wdQ (mI M 2) b p9 (strW 2) = true
    · rw [if_pos c2, if_pos c2]
      exact st_rr hn1 hn h2 hD'
    · rw [if_neg c2, if_neg c2]
      by_cases c3 : wdQ (mI M 2) b p9 (strW 3) = true
      · rw [if_pos c3, if_pos c3]
        exact st_fi hn1 hn h2 hD'
      · rw [if_neg c3, if_neg c3]
        by_cases c4 : wdQ (mI M 2) b p9 (strW 8) = true
        · rw [if_pos c4, if_pos c4]
          exact st_kp h2 hD'
        · rw [if_neg c4, if_neg c4]
          by_cases c5 : wdQ (mI M 2) b p9 (strW 9) = true
          · rw [if_pos c5, if_pos c5]
            exact st_bl h2 hD'
          · rw [if_neg c5, if_neg c5]
            exact ⟨eq_fail h2, fun _ => hD⟩
/-- the ends of both readers -/
def EqE (s t : RP) : Prop := s.2.2.1 = t.2.2.1 ∧ s.2.2.2.1 = t.2.2.2.1 ∧ (s.2.2.2.1 ≠ 0 → s.2.2.2.2 = t.2.2.2.2)
theorem rsL_e : ∀ d, s.2.2.2.1 ≠ 0 → (rsL len n d M s).1 = M ∧ (rsL len n d M s).2.2.2 = s.2.2
  | 0, _ => by
    rw [rsL.eq_1]
    exact ⟨rfl, rfl⟩
  | d + 1, e => by
    rw [rsL.eq_2, decide_eq_false e, Bool.false_and, if_neg Bool.false_ne_true]
    exact ⟨rfl, rfl⟩
theorem mv_e (e : t.2.2.2.1 ≠ 0) : mvS T len t = t ∧ mvB T len t = false := by
  unfold mvS mvB
  rw [if_neg e, decide_eq_false e]
  exact ⟨rfl, rfl⟩
theorem gL_e : ∀ d, t.2.2.2.1 ≠ 0 → gL T len n d u t = (u, t)
  | 0, e => by rw [gL.eq_1, (mv_e e).1]
  | d + 1, e => by rw [gL.eq_2, (mv_e e).2, if_neg Bool.false_ne_true, (mv_e e).1]
theorem rs_loop (hn1 : 1 ≤ n) (hn : n ≤ 32) (hT : mI M 2 = T) : ∀ (d : Nat) (M1 : Mem) (u : Nat → Int64) (s t : RP), Shp M1 → mI M1 2 = T → EqW s t → t.1 ≤ len → (s.2.2.2.1 = 0 → len ≤ t.1 + d) → (s.2.2.2.1 = 0 → SR M1 17 u n) → EqE (rsL len n d M1 s).2 (gL T len n d u t).2 ∧ ((rsL len n d M1 s).2.2.2.2.1 = 0 → SR (rsL len n d M1 s).1 17 (gL T len n d u t).1 n)
  | d, M1, u, s, t, hS, hM, hW, hl, hd, hD => by
    by_cases e : s.2.2.2.1 = 0
    · have e2 : t.2.2.2.1 = 0 := by rw [← hW.2.1]; exact e
      have hp := hW.2.2.2 e
      cases d with
      | zero =>
        have h9 := hd e
        rw [rsL.eq_1, gL.eq_1]
        have hk : ¬ skipP T len t.1 < len := by
          have := (skipP_le (T := T) hl).1
          omega
        have hm : mvS T len t = nxS T len t := by
          unfold mvS
          rw [if_pos e2, if_neg hk]
        rw [hm]
        exact ⟨⟨hW.1, hW.2.1, hW.2.2.1⟩, fun _ => hD e⟩
      | succ d =>
        rw [rsL.eq_2, gL.eq_2, decide_eq_true e, Bool.true_and, hM]
        have hks : (skp T len s).1 = skipP T len t.1 := by
          unfold skp
          rw [hp]
        by_cases c1 : skipP T len t.1 < len
        · rw [hp, decide_eq_true c1, if_pos rfl]
          by_cases c2 : T (skipP T len t.1) = 59
          · have ht : tsc T len (skp T len s) = (skipP T len t.1 + 1, s.2.1, s.2.2.1 + 1, s.2.2.2) := by
              unfold tsc
              rw [if_pos (by rw [hks]; exact ⟨c1, c2⟩), hks]
              rfl
            have hm : mvS T len t = (skipP T len t.1 + 1, nI (skipP T len t.1), t.2.2.1 + 1, t.2.2.2) := by
              unfold mvS
              rw [if_pos e2, if_pos c1, if_pos c2]
            have hb9 : mvB T len t = true := by
              unfold mvB
              rw [decide_eq_true e2, decide_eq_true c1, decide_eq_true c2]
              rfl
            have hW2 : EqW (skipP T len t.1 + 1, s.2.1, s.2.2.1 + 1, s.2.2.2) (skipP T len t.1 + 1, nI (skipP T len t.1), t.2.2.1 + 1, t.2.2.2) := ⟨by rw [hW.1], hW.2.1, hW.2.2.1, fun _ => rfl⟩
            rw [hb9, if_pos rfl, ht, if_pos (show (skipP T len t.1 + 1, s.2.1, s.2.2.1 + 1, s.2.2.2).2.2.2.1 = 0 from e), hm]
            have hSt := st_all (M := M1) (len := len) (u := u) hn1 hn hW2 (show (skipP T len t.1 + 1, s.2.1, s.2.2.1 + 1, s.2.2.2).2.2.2.1 = 0 from e) (hD e)
            have hok := rsR_ok (M := M1) (n := n) (s := (skipP T len t.1 + 1, s.2.1, s.2.2.1 + 1, s.2.2.2)) (len := len) hS (show skipP T len t.1 + 1 ≤ len from c1)
            have hg := gS_ok (T := T) (len := len) (n := n) (u := u) (s := (skipP T len t.1 + 1, nI (skipP T len t.1), t.2.2.1 + 1, t.2.2.2)) (show skipP T len t.1 + 1 ≤ len from c1)
            rw [hM] at hSt
            have hsk := (skipP_le (T := T) hl).1
            have hg1 : skipP T len t.1 + 1 ≤ (gS T len n u (skipP T len t.1 + 1, nI (skipP T len t.1), t.2.2.1 + 1, t.2.2.2)).2.1 := hg.1
            have hd2 := hd e
            exact rs_loop hn1 hn hT d _ _ _ _ hok.1.1 ((hok.1.2.1 2 (Or.inl (by decide))).trans hM) hSt.1.w hg.2.1 (fun _ => by omega) hSt.2
          · have ht : tsc T len (skp T len s) = rFail 1 (nI (skipP T len t.1)) (skp T len s) := by
              unfold tsc
              rw [if_neg (by rw [hks]; exact fun q => c2 q.2), hks]
            have hm : mvS T len t = rFail 1 (nI (skipP T len t.1)) (nxS T len t) := by
              unfold mvS
              rw [if_pos e2, if_pos c1, if_neg c2]
            have hb9 : mvB T len t = false := by
              unfold mvB
              rw [decide_eq_false c2, Bool.and_false]
            have h7 : (tsc T len (skp T len s)).2.2 = (s.2.2.1, 1, nI (skipP T len t.1)) := by
              rw [ht]
              unfold rFail
              rw [if_pos (show (skp T len s).2.2.2.1 = 0 from e)]
              rfl
            have h8 : (mvS T len t).2.2 = (t.2.2.1, 1, nI (skipP T len t.1)) := by
              rw [hm]
              unfold rFail
              rw [if_pos (show (nxS T len t).2.2.2.1 = 0 from e2)]
              rfl
            have h9 : (tsc T len (skp T len s)).2.2.2.1 ≠ 0 := by
              rw [h7]
              show ¬ (1 : Int32) = 0
              decide
            rw [hb9, if_neg Bool.false_ne_true, if_neg h9]
            obtain ⟨g1, g2⟩ := rsL_e (M := M1) (n := n) (len := len) d h9
            have g3 : (rsL len n d M1 (tsc T len (skp T len s))).2.2.2 = (s.2.2.1, 1, nI (skipP T len t.1)) := g2.trans h7
            generalize rsL len n d M1 (tsc T len (skp T len s)) = A at *
            refine ⟨⟨by rw [g3, h8]; exact hW.1, by rw [g3, h8], fun _ => by rw [g3, h8]⟩, fun q => absurd q ?_⟩
            rw [g3]
            show ¬ (1 : Int32) = 0
            decide
        · rw [hp, decide_eq_false c1, if_neg Bool.false_ne_true]
          have hm : mvS T len t = nxS T len t := by
            unfold mvS
            rw [if_pos e2, if_neg c1]
          have hb9 : mvB T len t = false := by
            unfold mvB
            rw [decide_eq_false c1, Bool.and_false, Bool.false_and]
          rw [hb9, if_neg Bool.false_ne_true, hm]
          exact ⟨⟨hW.1, hW.2.1, hW.2.2.1⟩, fun _ => hD e⟩
    · have e2 : t.2.2.2.1 ≠ 0 := fun q => e (by rw [hW.2.1]; exact q)
      obtain ⟨g1, g2⟩ := rsL_e (M := M1) (n := n) (len := len) d e
      rw [gL_e d e2]
      generalize rsL len n d M1 s = A at *
      refine ⟨⟨by rw [g2]; exact hW.1, by rw [g2]; exact hW.2.1, fun _ => by rw [g2]; exact hW.2.2.1 e⟩, fun q => absurd q ?_⟩
      rw [g2]
      exact e
end
end
-- 5996.ld
section
/-! a text read on both sides -/
section
variable {M N X R : Mem} {b n p c len : Nat} {u : Nat → Int64} {T : Nat → Int32} {s t : RP}
theorem SS_lkb {s : Nat} {x : Int32} (h : SS M b u n s) : SS (mxLook M (b + 2 + 2 * s) x) b (lkU u s x) n s := by
  obtain ⟨⟨k, a1, a2⟩, a3, a4, a5, a6, a7⟩ := h
  unfold SS mxLook lkU
  rw [a1, a2]
  cases k
  · rw [if_pos ((b1_0k false).mpr rfl), if_neg (fun h => by cases (b1L_1 false).mp h)]
    exact ⟨⟨false, a1, a2⟩, a3, a4, a5, a6, a7⟩
  · rw [if_neg (fun h => by cases (b1_0k true).mp h), if_pos ((b1L_1 true).mpr rfl)]
    have e3 : b + 3 + 2 * s ≠ b + 2 + 2 * s := by omega
    refine ⟨⟨true, ?_, ?_⟩, ?_, ?_, ?_, fun r hr => ?_, fun r hr c hc => ?_⟩
    · rw [pI_at, if_neg (fun h => absurd h.2 (by decide)), pI_at, if_neg (fun h => absurd h.2 (by decide))]
      exact a1
    · rw [fsu_at, if_neg (by omega), fsu_at, if_neg (by omega)]
      exact a2
    · rw [pI_at, if_neg (fun h => absurd h.2 (by decide)), pI_at, if_pos ⟨rfl, rfl⟩, fsu_at, if_neg (by omega), fsu_at, if_pos rfl, i64_32]
    · rw [pI_at, if_pos ⟨rfl, rfl⟩, pI_at, if_neg (fun h => absurd h.2 (by decide)), fsu_at, if_pos rfl, a4, Int64.toInt32_add, i64_32]
    · rw [pI_at, if_neg (fun h => absurd h.2 (by decide)), pI_at, if_neg (fun h => absurd h.2 (by decide)), fsu_at, if_neg (by omega), fsu_at, if_neg (by omega)]
      exact a5
    · rw [pI_at, if_neg (fun h => e3 h.1), pI_at, if_neg (fun h => e3 h.1), fsu_at, if_neg (by omega), fsu_at, if_neg (by omega)]
      exact a6 r hr
    · rw [pI_at, if_neg (fun h => e3 h.1), pI_at, if_neg (fun h => e3 h.1)]
      exact a7 r hr c hc
theorem SR_lkb {s : Nat} {x : Int32} (hs : s < 6) (h : SR M b u n) : SR (mxLook M (b + 2 + 2 * s) x) b (lkU u s x) n := by
  obtain ⟨⟨a1, a2, a3, a4⟩, ⟨bl, b1', b2, b3, b4⟩, ⟨y, y1, y2⟩, ⟨z, z1, z2⟩, hS⟩ := h
  have e : mI (mxLook M (b + 2 + 2 * s) x) b = mI M b := mxLook_ne (by omega)
  have g : ∀ j, j < 4 → lkU u s x j = u j := fun j hj => lkU_ne (by omega) (by omega)
  refine ⟨⟨a1, a2, by rw [e]; exact a3, by rw [g 0 (by decide)]; exact a4⟩, ⟨bl, b1', b2, by rw [e]; exact b3, by rw [g 1 (by decide)]; exact b4⟩, ⟨y, by rw [e]; exact y1, by rw [g 2 (by decide)]; exact y2⟩, ⟨z, by rw [e]; exact z1, by rw [g 3 (by decide)]; exact z2⟩, fun t ht => ?_⟩
  by_cases q : t = s
  · subst q
    exact SS_lkb (hS t ht)
  · exact SS_cg (hS t ht) (fun j _ _ => by rw [mxLook_ne (by omega)]) (fun r _ => by rw [mxLook_ne (by omega)]) ⟨lkU_ne (by omega) (by omega), lkU_ne (by omega) (by omega), lkU_ne (by omega) (by omega), lkU_ne (by omega) (by omega)⟩ (fun r _ => lkU_ne (by omega) (by omega))
theorem SR_anb {s : Nat} {x : Int32} (hs : s < 6) (h : SR M b u n) : SR (mxAnew M (b + 2 + 2 * s) x) b (anU u s x) n := by
  have h1 := SR_lkb (x := x) hs h
  obtain ⟨⟨k, k1, k2⟩, c3, c4, c5, c6, c7⟩ := h.2.2.2.2 s hs
  have hm : ∀ i j, mI (mxAnew M (b + 2 + 2 * s) x) i j = if i = b + 2 + 2 * s ∧ j = 4 ∧ k = true then mI (mxLook M (b + 2 + 2 * s) x) (b + 2 + 2 * s) 4 + 1 else mI (mxLook M (b + 2 + 2 * s) x) i j := fun i j => by
    unfold mxAnew
    rw [k1]
    cases k
    · rw [if_pos ((b1_0k false).mpr rfl), if_neg (fun h => by cases h.2.2)]
      unfold mxLook
      rw [k1, if_pos ((b1_0k false).mpr rfl)]
    · rw [if_neg (fun h => by cases (b1_0k true).mp h), pI_at]
      by_cases q : i = b + 2 + 2 * s ∧ j = 4
      · rw [if_pos q, if_pos ⟨q.1, q.2, rfl⟩]
      · rw [if_neg q, if_neg (fun h => q ⟨h.1, h.2.1⟩)]
  have hu : ∀ j, anU u s x j = if j = 22 + s then lkU u s x (22 + s) + b1L k else lkU u s x j := fun j => by
    unfold anU
    rw [fsu_at, k2]
  obtain ⟨⟨a1, a2, a3, a4⟩, ⟨bl, b1', b2, b3, b4⟩, ⟨y, y1, y2⟩, ⟨z, z1, z2⟩, hS⟩ := h1
  have e : ∀ j, mI (mxAnew M (b + 2 + 2 * s) x) b j = mI (mxLook M (b + 2 + 2 * s) x) b j := fun j => by rw [hm, if_neg (fun h => by omega)]
  have g : ∀ j, j ≠ 22 + s → anU u s x j = lkU u s x j := fun j hj => by rw [hu, if_neg hj]
  refine ⟨⟨a1, a2, by rw [e]; exact a3, by rw [g 0 (by omega)]; exact a4⟩, ⟨bl, b1', b2, by rw [e]; exact b3, by rw [g 1 (by omega)]; exact b4⟩, ⟨y, by rw [e]; exact y1, by rw [g 2 (by omega)]; exact y2⟩, ⟨z, by rw [e]; exact z1, by rw [g 3 (by omega)]; exact z2⟩, fun t ht => ?_⟩
  by_cases q : t = s
  · subst q
    obtain ⟨⟨k', f1, f2⟩, f3, f4, f5, f6, f7⟩ := hS t ht
    refine ⟨⟨k', by rw [hm, if_neg (fun h => by omega)]; exact f1, by rw [g _ (by omega)]; exact f2⟩, by rw [hm, if_neg (fun h => by omega), g _ (by omega)]; exact f3, by rw [hm, if_neg (fun h => by omega), g _ (by omega)]; exact f4, ?_, fun r hr => by rw [g _ (by omega), hm, if_neg (fun h => by omega)]; exact f6 r hr, fun r hr c hc => by rw [hm, if_neg (fun h => by omega)]; exact f7 r hr c hc⟩
    rw [hm, hu, if_pos rfl, f5]
    cases k
    · rw [if_neg (fun h => by cases h.2.2)]
      show (lkU u t x (22 + t)).toInt32 = (lkU u t x (22 + t) + 0).toInt32
      rw [Int64.add_zero]
    · rw [if_pos ⟨rfl, rfl, rfl⟩]
      show (lkU u t x (22 + t)).toInt32 + 1 = (lkU u t x (22 + t) + 1).toInt32
      rw [Int64.toInt32_add]
      rfl
  · exact SS_cg (hS t ht) (fun j _ _ => by rw [hm, if_neg (fun h => by omega)]) (fun r _ => by rw [hm, if_neg (fun h => by omega)]) ⟨g _ (by omega), g _ (by omega), g _ (by omega), g _ (by omega)⟩ (fun r _ => g _ (by omega))
theorem SR_anL {x : Int32} (h : SR X 17 (mL R 199) n) : ∀ k, k ≤ 6 → SR (anL X x k) 17 (mL (anK R x k) 199) n
  | 0, _ => by
    rw [anL.eq_1, anK.eq_1]
    exact h
  | k + 1, hk => by
    rw [anL.eq_2, anK.eq_2, anM_U, show 19 + 2 * k = 17 + 2 + 2 * k by omega]
    exact SR_anb (by omega) (SR_anL h k (by omega))
/-- an empty description -/
theorem mxE_at {m i j : Nat} : mI (mxEmpty M m) i j = if i = m ∧ 1 ≤ j ∧ j ≤ 4 then 0 else if i = m + 1 ∧ j < 32 then 0 else mI M i j := by
  unfold mxEmpty
  rw [pI_at, pI_at, pI_at, pI_at]
  by_cases e : i = m
  · subst e
    by_cases q : 1 ≤ j ∧ j ≤ 4
    · rw [if_pos (show i = i ∧ 1 ≤ j ∧ j ≤ 4 from ⟨rfl, q⟩)]
      have : j = 1 ∨ j = 2 ∨ j = 3 ∨ j = 4 := by omega
      rcases this with rfl | rfl | rfl | rfl
      · rw [if_neg (fun h => by omega), if_neg (fun h => by omega), if_neg (fun h => by omega), if_pos ⟨rfl, rfl⟩]
      · rw [if_neg (fun h => by omega), if_neg (fun h => by omega), if_pos ⟨rfl, rfl⟩]
      · rw [if_neg (fun h => by omega), if_pos ⟨rfl, rfl⟩]
      · rw [if_pos ⟨rfl, rfl⟩]
    · rw [if_neg (fun h => by omega), if_neg (fun h => by omega), if_neg (fun h => by omega), if_neg (fun h => by omega), if_neg (fun h => q h.2), if_neg (fun h => by omega)]
      exact congrFun (sI_ne (by omega)) j
  · rw [if_neg (fun h => e h.1), if_neg (fun h => e h.1), if_neg (fun h => e h.1), if_neg (fun h => e h.1), if_neg (fun h => e h.1)]
    by_cases e2 : i = m + 1
    · subst e2
      rw [sI_self]
      unfold wr
      by_cases q : j < 32
      · rw [if_pos q, if_pos ⟨rfl, q⟩]
      · rw [if_neg q, if_neg (fun h => q h.2)]
    · rw [if_neg (fun h => e2 h.1)]
      exact congrFun (sI_ne (by omega)) j
theorem stE_at : ∀ k, k ≤ 6 → ∀ s, s < k → (∀ j, 1 ≤ j → j ≤ 4 → mI (stEmptyL M b k) (b + 2 + 2 * s) j = 0) ∧ (∀ r, r < 32 → mI (stEmptyL M b k) (b + 3 + 2 * s) r = 0)
  | 0, _, s, hs => absurd hs (Nat.not_lt_zero _)
  | k + 1, hk, s, hs => by
    rw [stEmptyL.eq_2]
    by_cases e : s = k
    · subst e
      constructor
      · intro j h1 h2
        rw [mxE_at, if_pos ⟨rfl, h1, h2⟩]
      · intro r hr
        rw [mxE_at, if_neg (fun h => by omega), if_pos ⟨by omega, hr⟩]
    · obtain ⟨g1, g2⟩ := stE_at k (by omega) s (by omega)
      constructor
      · intro j h1 h2
        rw [mxE_at, if_neg (fun h => by omega), if_neg (fun h => by omega)]
        exact g1 j h1 h2
      · intro r hr
        rw [mxE_at, if_neg (fun h => by omega), if_neg (fun h => by omega)]
        exact g2 r hr
theorem bg_at {i : Nat} (hi : i < 220) : bgF u n i = if i = 1 then 4 else if i = 0 then lN n else 0 := by
  unfold bgF
  rw [fsu_at, fsu_at]
  unfold clF
  rw [if_pos hi]
theorem SR_emp (hn1 : 1 ≤ n) (hn : n ≤ 32) : SR (stEmpty M b (nI n)) b (bgF u n) n := by
  have h := stE_at (M := M) (b := b) 6 (Nat.le_refl 6)
  unfold stEmpty
  generalize stEmptyL M b 6 = M6 at h ⊢
  refine ⟨⟨hn1, hn, ?_, by rw [bg_at (by decide), if_neg (by decide), if_pos rfl]⟩, ⟨4, by decide, by decide, ?_, by rw [bg_at (by decide), if_pos rfl]; rfl⟩, ⟨0, ?_, by rw [bg_at (by decide), if_neg (by decide), if_neg (by decide)]; rfl⟩, ⟨0, ?_, by rw [bg_at (by decide), if_neg (by decide), if_neg (by decide)]; rfl⟩, fun s hs => ?_⟩
  · rw [pI_k (by decide), pI_k (by decide), pI_k (by decide), pI_at9]
  · rw [pI_k (by decide), pI_k (by decide), pI_at9]
    rfl
  · rw [pI_k (by decide), pI_at9]
    rfl
  · rw [pI_at9]
    rfl
  · obtain ⟨g1, g2⟩ := h s hs
    have e : ∀ i, i ≠ b → mI (pI (pI (pI (pI M6 b 1 (nI n)) b 2 4) b 3 0) b 4 0) i = mI M6 i := fun i hi => by rw [sI_ne hi, sI_ne hi, sI_ne hi, sI_ne hi]
    have z : ∀ i, 2 ≤ i → i < 220 → bgF u n i = 0 := fun i h1 h2 => by rw [bg_at h2, if_neg (by omega), if_neg (by omega)]
    refine ⟨⟨false, by rw [e _ (by omega), g1 1 (by decide) (by decide)]; rfl, by rw [z _ (by omega) (by omega)]; rfl⟩, by rw [e _ (by omega), g1 2 (by decide) (by decide), z _ (by omega) (by omega)]; rfl, by rw [e _ (by omega), g1 3 (by decide) (by decide), z _ (by omega) (by omega)]; rfl, by rw [e _ (by omega), g1 4 (by decide) (by decide), z _ (by omega) (by omega)]; rfl, fun r hr => by rw [e _ (by omega), g2 r (by omega), z _ (by omega) (by omega), uL_0], fun r hr c hc => by rw [e _ (by omega), g2 r (by omega), hb_0]⟩
theorem eq_sz {b0 b9 e9 : Int32} : EqS (rzS0 T len (0, b0, 0, 0, 0)) (szS0 T len (0, b9, 0, 0, e9)) := by
  have h := eq_twd' (T := T) (len := len) (s := (0, b0, 0, 0, 0)) (t := (0, b9, 0, 0, e9)) ⟨rfl, rfl, fun q => absurd rfl q, fun _ => rfl⟩
  have hw : (twd T len (0, b0, 0, 0, 0)).1 = (twd T len (0, b9, 0, 0, e9)).1 := rfl
  unfold rzS0 szS0
  rw [kd_w2.2.2.2.2.2, hw]
  by_cases q : wdQ T (skipP T len 0) (twd T len (0, b9, 0, 0, e9)).1 (strW 0) = true
  · rw [if_pos q, if_pos q]
    exact h
  · rw [if_neg q, if_neg q]
    exact eq_fail h
theorem sz_N {b0 b9 e9 : Int32} : rzN T len (0, b0, 0, 0, 0) = szN T len (0, b9, 0, 0, e9) := by
  unfold rzN szN rzV
  rw [eq_tnv eq_sz]
theorem ri_lr {b9 e9 : Int32} (hS : Shp M) : riN M len = lrN (mI M 2) len b9 e9 ∧ EqE (riR M len).2 (lrR (mI M 2) len b9 e9 u).2 ∧ ((riR M len).2.2.2.2.1 = 0 → SR (riR M len).1 17 (lrR (mI M 2) len b9 e9 u).1 (lrN (mI M 2) len b9 e9)) := by
  have e1 : riN M len = lrN (mI M 2) len b9 e9 := sz_N
  obtain ⟨-, n1, n2⟩ := szN_ok (mI M 2) len (0, b9, 0, 0, e9)
  refine ⟨e1, ?_⟩
  have hz : EqS (rzS (mI M 2) len (0, mI M 1 3, 0, 0, 0)) (szS (mI M 2) len (0, b9, 0, 0, e9)) := eq_tnm eq_sz
  have hle : (szS (mI M 2) len (0, b9, 0, 0, e9)).1 ≤ len := nmS_le (szS0_le (Nat.zero_le len))
  have h := rs_loop (M := stEmpty M 17 (nI (lrN (mI M 2) len b9 e9))) (T := mI M 2) (len := len) (n := lrN (mI M 2) len b9 e9) n1 n2 (by
    unfold stEmpty
    rw [sI_ne (by decide), sI_ne (by decide), sI_ne (by decide), sI_ne (by decide), stEmptyL_ne 6 (Nat.le_refl 6) (by decide)]) len (stEmpty M 17 (nI (lrN (mI M 2) len b9 e9))) (bgF u (lrN (mI M 2) len b9 e9)) _ _ (stEmpty_S hS 17 _) (by
    unfold stEmpty
    rw [sI_ne (by decide), sI_ne (by decide), sI_ne (by decide), sI_ne (by decide), stEmptyL_ne 6 (Nat.le_refl 6) (by decide)]) hz.w hle (fun _ => Nat.le_add_left _ _) (fun _ => SR_emp n1 n2)
  unfold riR lrR
  rw [e1]
  exact h
end
end
-- 5997.ld
section
/-! load, from the invariant to the invariant -/
section
variable {l : Launch} {M N R Y : Mem} {n p c len : Nat} {T : Nat → Int32} {r : RP}
theorem anK_I {x : Int32} : ∀ k, mI (anK R x k) = mI R ∧ (∀ i, i ≠ 199 → mL (anK R x k) i = mL R i)
  | 0 => by
    rw [anK.eq_1]
    exact ⟨rfl, fun _ _ => rfl⟩
  | k + 1 => by
    obtain ⟨h1, h2⟩ := anK_I (x := x) k
    rw [anK.eq_2]
    generalize anK R x k = Z at *
    have hl : mI (lkM Z k x) = mI Z ∧ ∀ i, i ≠ 199 → mL (lkM Z k x) i = mL Z i := by
      unfold lkM
      split
      · exact ⟨rfl, fun i hi => by rw [sL_ne9 hi, sL_ne9 hi]⟩
      · exact ⟨rfl, fun _ _ => rfl⟩
    unfold anM
    exact ⟨hl.1.trans h1, fun i hi => by rw [sL_ne9 hi, hl.2 i hi, h2 i hi]⟩
theorem lrM_I {j : Nat} (h : j = 5 ∨ j = 24) : mI (lrM N T len) 198 j = mI N 198 j := by
  unfold lrM
  generalize (lrR T len (mI N 198 10) (mI N 198 12) (mL N 200)).2 = q
  generalize (lrR T len (mI N 198 10) (mI N 198 12) (mL N 200)).1 = w
  have h1 : mI (psM (sL (thr N 0) 200 w) q) 198 = prF (mI (thr N 0) 198) q := sI_self _ _ _
  rw [h1]
  have h2 : mI (thr N 0) 198 j = mI N 198 j := by
    unfold thr
    rw [pI_k (by omega)]
  rcases h with rfl | rfl
  · exact h2
  · exact h2
theorem lrM_o : (∀ i, i ≠ 198 → mI (lrM N T len) i = mI N i) ∧ ∀ i, i ≠ 200 → mL (lrM N T len) i = mL N i := by
  unfold lrM
  generalize (lrR T len (mI N 198 10) (mI N 198 12) (mL N 200)).2 = q
  generalize (lrR T len (mI N 198 10) (mI N 198 12) (mL N 200)).1 = w
  refine ⟨fun i hi => ?_, fun i hi => ?_⟩
  · rw [ps_ne hi]
    show mI (thr N 0) i = _
    unfold thr
    rw [sI_ne hi]
  · show mL (sL (thr N 0) 200 w) i = _
    rw [sL_ne9 hi]
    rfl
theorem lrD_at : (∀ j, j = 5 ∨ j = 24 → mI (lrD N T len r) 198 j = mI N 198 j) ∧ mI (lrD N T len r) 198 8 = 0 ∧ mI (lrD N T len r) 198 14 = r.2.2.2.1 ∧ mI (lrD N T len r) 198 15 = (if r.2.2.2.1 = 0 then -1 else r.2.2.1) ∧ (∀ i, i ≠ 198 → mI (lrD N T len r) i = mI N i) ∧ ∀ i, i ≠ 200 → mL (lrD N T len r) i = mL N i := by
  have h1 := fun j h => lrM_I (N := N) (T := T) (len := len) (j := j) h
  obtain ⟨h2, h3⟩ := lrM_o (N := N) (T := T) (len := len)
  unfold lrD
  generalize lrM N T len = Z at *
  refine ⟨fun j hj => ?_, ?_, ?_, pI_at9 _ _ _ _, fun i hi => ?_, fun i hi => h3 i hi⟩
  · rw [pI_k (by omega), pI_k (by omega), pI_k (by omega), h1 j hj]
  · rw [pI_k (by decide), pI_k (by decide), pI_at9]
  · rw [pI_k (by decide), pI_at9]
  · rw [sI_ne hi, sI_ne hi, sI_ne hi, h2 i hi]
theorem riM_o (hS : Shp M) {i : Nat} (h1 : i ≠ 1) (h : i < 17 ∨ 31 ≤ i) : mI (riM M len) i = mI M i := by
  have h2 := (riR_ok (len := len) hS).1.2 i h
  unfold riM
  rw [sI_ne h1, rd_ne h1, anL_ne (by omega) 6 (Nat.le_refl 6), h2]
theorem riM_1 : mI (riM M len) 1 1 = 0 := by
  unfold riM
  exact pI_at9 _ _ _ _
theorem riM_4 : mI (riM M len) 1 4 = (riR M len).2.2.2.1 := by
  unfold riM
  rw [pI_k (by decide)]
  exact rd_4
theorem riM_R {u : Nat → Int64} {n' : Nat} (h : SR (anL (riR M len).1 (nI (riN M len)) 6) 17 u n') : SR (riM M len) 17 u n' := by
  unfold riM
  generalize anL (riR M len).1 (nI (riN M len)) 6 = Z at *
  exact SR_cg h (fun i a b => by rw [sI_ne (by omega), rd_ne (by omega)]) (fun _ _ => rfl)
theorem ld_IV (h : IV M n p c) {n' : Nat} (hS : Shp Y) (hSR : SR Y 3 (mL Y 199) n') (hIC : IC Y n') (e : ∀ i, (32 ≤ i ∧ i < 175) ∨ (187 ≤ i ∧ i < 198) ∨ 199 ≤ i → mI Y i = mI M i) (e04 : mI Y 0 4 = mI M 0 4) (e05 : mI Y 0 5 = 0) (e85 : mI Y 198 5 = 0) (eL : ∀ i, i ≠ 199 → i ≠ 200 → mL Y i = mL M i) (hIR : IR Y) (e014 : mI Y 0 14 = 0) (e24 : mI Y 198 24 = mI M 198 24) : IV Y n' p 0 := by
  obtain ⟨x1, x2, x3, w, w1, w2⟩ := h.2.2.2.2.2.2
  exact ⟨hS, hSR, ⟨by rw [e04]; exact h.2.2.1.1, h.2.2.1.2.1, e05, Nat.zero_le 8, e85, fun i hi => absurd hi (Nat.not_lt_zero i)⟩, is_cg h.2.2.2.1 (fun i a b => e i (by omega)) (e 203 (by omega)) (eL 202 (by decide) (by decide)), hIC, hIR, by rw [e 188 (by omega)]; exact x1, fun i hi => by rw [eL 209 (by decide) (by decide)]; exact x2 i hi, ⟨0, by decide, e014⟩, w, w1, by rw [e24]; exact w2⟩
theorem ld_IE (h : IV M n p c) (hS : Shp Y) (e : ∀ i, i ≠ 1 → i ≠ 198 → i < 17 ∨ 31 ≤ i → mI Y i = mI M i) (e85 : mI Y 198 5 = mI M 198 5) (eL : ∀ i, i ≠ 200 → mL Y i = mL M i) (hIR : IR Y) (e24 : mI Y 198 24 = mI M 198 24) : IV Y n p c := by
  have e0 := e 0 (by decide) (by decide) (by decide)
  exact ⟨hS, SR_cg h.2.1 (fun i a b => e i (by omega) (by omega) (by omega)) (fun i _ => by rw [eL 199 (by decide)]), ip_cg h.2.2.1 (fun i a b => e i (by omega) (by omega) (by omega)) (by rw [e0]) (by rw [e0]) e85 (eL 201 (by decide)), is_cg h.2.2.2.1 (fun i a b => e i (by omega) (by omega) (by omega)) (e 203 (by decide) (by decide) (by decide)) (eL 202 (by decide)), ic_cg h.2.2.2.2.1 (fun i a b => e i (by omega) (by omega) (by omega)) (fun i a b => e i (by omega) (by omega) (by omega)), hIR, ix_cg h.2.2.2.2.2.2 (e 188 (by decide) (by decide) (by decide)) (eL 209 (by decide)) (by rw [e0]) e24⟩
theorem ld_IR {s : RP} (hE : EqE s r) (e1 : mI Y 1 1 = 0) (e5 : mI Y 1 5 = s.2.2.2.1) (e4 : mI Y 1 4 = s.2.2.1) (e8 : mI Y 198 8 = 0) (e14 : mI Y 198 14 = r.2.2.2.1) (e15 : mI Y 198 15 = (if r.2.2.2.1 = 0 then -1 else r.2.2.1)) : IR Y :=
  ⟨⟨0, Nat.zero_le _, e1, e8, fun i hi => absurd hi (Nat.not_lt_zero i)⟩, by rw [e14, e5, hE.2.1], by rw [e15, e5, e4, hE.2.1, hE.1]⟩
theorem ld_tx (hc : Cf M N) (l4 : txt M (mI M 2) len) : txt N (mI M 2) len := fun i hi => by
  obtain ⟨j, j1, j2, j3⟩ := l4 i hi
  exact ⟨j, j1, j2, by rw [hc.I (by decide)]; exact j3⟩
theorem sm_load (h : IV M n p c) : SmN True l jX6_load jX7_load 9 260 8 220 [.ref 0] [.ref 198] M Inv := by
  have hS := h.S
  obtain ⟨⟨len, l1, l2, l3, l4⟩, r2, r3⟩ := h.2.2.2.2.2.1
  have q := u_load (l := l) hS l2 l1
  by_cases e : (riR M len).2.2.2.2.1 = 0
  · rw [if_pos e, if_pos e] at q
    have hcR : Cf M (riM M len) := cf_riM
    have hc : Cf M (pI (replM (riM M len) 17) 0 14 0) := cf_pI (by decide) (hcR.tr cf_replM)
    obtain ⟨b1', b2, b3, b4⟩ := rp_at (M := riM M len) (o := 17) (Nat.le_refl 17)
    have hN0 : ∀ i, i ≠ 0 → mI (pI (replM (riM M len) 17) 0 14 0) i = mI (replM (riM M len) 17) i := fun i hi => sI_ne hi
    have hN1 : ∀ j, mI (pI (replM (riM M len) 17) 0 14 0) 0 j = if j = 14 then 0 else mI (replM (riM M len) 17) 0 j := fun j => by
      rw [pI_at]
      by_cases z : j = 14
      · rw [if_pos ⟨rfl, z⟩, if_pos z]
      · rw [if_neg (fun y => z y.2), if_neg z]
    generalize pI (replM (riM M len) 17) 0 14 0 = N at *
    obtain ⟨e1, e2, e3⟩ := ri_lr (len := len) (b9 := mI N 198 10) (e9 := mI N 198 12) (u := mL N 200) hS
    have n9 := n_load (l := l) (M := N) (T := mI M 2) (len := len) (hc.S hS) (ld_tx hc l4) (by rw [hc.I (Nat.le_refl 198)]; exact l3) l1
    have er : (lrR (mI M 2) len (mI N 198 10) (mI N 198 12) (mL N 200)).2.2.2.2.1 = 0 := by rw [← e2.2.1]; exact e
    have hS2 : Shp (ldE N (mI M 2) len (lrR (mI M 2) len (mI N 198 10) (mI N 198 12) (mL N 200)).2) := (rf_ldE (Rf.rf _)).S (hc.S hS)
    have hSR0 := e3 e
    refine ⟨_, _, _, _, q, n9, hc.S hS, hS2, fun _ => ?_, lrN (mI M 2) len (mI N 198 10) (mI N 198 12), p, 0, ?_⟩
    · unfold ldV
      rw [if_pos er, e1]
    · unfold ldE at hS2 ⊢
      rw [if_pos er] at hS2 ⊢
      have hCL : mL (lrC N (mI M 2) len (lrR (mI M 2) len (mI N 198 10) (mI N 198 12) (mL N 200)).2) 199 = cpF (mL N 199) 0 (lrR (mI M 2) len (mI N 198 10) (mI N 198 12) (mL N 200)).1 0 220 := by
        unfold lrC
        exact sL_self _ _ _
      have hSR1 : SR (riR M len).1 17 (mL (lrC N (mI M 2) len (lrR (mI M 2) len (mI N 198 10) (mI N 198 12) (mL N 200)).2) 199) (lrN (mI M 2) len (mI N 198 10) (mI N 198 12)) := SR_cg hSR0 (fun _ _ _ => rfl) (fun j hj => by
        rw [hCL]
        unfold cpF
        rw [if_pos ⟨by omega, by omega⟩]
        congr 1)
      obtain ⟨d1, d2, d3, d4, d5, d6⟩ := lrD_at (N := N) (T := mI M 2) (len := len) (r := (lrR (mI M 2) len (mI N 198 10) (mI N 198 12) (mL N 200)).2)
      have c1 : ∀ j, j ≠ 5 → mI (lrC N (mI M 2) len (lrR (mI M 2) len (mI N 198 10) (mI N 198 12) (mL N 200)).2) 198 j = mI (lrD N (mI M 2) len (lrR (mI M 2) len (mI N 198 10) (mI N 198 12) (mL N 200)).2) 198 j := fun j hj => by
        unfold lrC
        rw [pI_k hj]
      have c2 : mI (lrC N (mI M 2) len (lrR (mI M 2) len (mI N 198 10) (mI N 198 12) (mL N 200)).2) 198 5 = 0 := by
        unfold lrC
        exact pI_at9 _ _ _ _
      have c3 : ∀ i, i ≠ 198 → mI (lrC N (mI M 2) len (lrR (mI M 2) len (mI N 198 10) (mI N 198 12) (mL N 200)).2) i = mI (lrD N (mI M 2) len (lrR (mI M 2) len (mI N 198 10) (mI N 198 12) (mL N 200)).2) i := fun i hi => by
        unfold lrC
        rw [sI_ne hi]
      have c4 : ∀ i, i ≠ 199 → mL (lrC N (mI M 2) len (lrR (mI M 2) len (mI N 198 10) (mI N 198 12) (mL N 200)).2) i = mL (lrD N (mI M 2) len (lrR (mI M 2) len (mI N 198 10) (mI N 198 12) (mL N 200)).2) i := fun i hi => by
        unfold lrC
        show mL (sL _ 199 _) i = _
        rw [sL_ne9 hi]
      generalize (lrR (mI M 2) len (mI N 198 10) (mI N 198 12) (mL N 200)).2 = r at *
      generalize lrD N (mI M 2) len r = D at *
      generalize lrC N (mI M 2) len r = C at *
      generalize lrN (mI M 2) len (mI N 198 10) (mI N 198 12) = n' at *
      have hSR2 := SR_anL (x := nI n') hSR1 6 (Nat.le_refl 6)
      rw [← e1] at hSR2
      have hSR3 := b3 _ _ (riM_R hSR2)
      obtain ⟨a1, a2⟩ := anK_I (R := C) (x := nI n') 6
      rw [e1] at hSR3
      generalize anK C (nI n') 6 = Y at *
      have hI : ∀ i, i ≠ 0 → i ≠ 198 → mI Y i = mI (replM (riM M len) 17) i := fun i h0 h8 => by rw [a1, c3 i h8, d5 i h8, hN0 i h0]
      have hI0 : ∀ j, mI Y 0 j = if j = 14 then 0 else mI (replM (riM M len) 17) 0 j := fun j => by
        rw [a1, c3 0 (by decide), d5 0 (by decide)]
        exact hN1 j
      have h1I : ∀ j, mI Y 1 j = mI (riM M len) 1 j := fun j => by rw [hI 1 (by decide) (by decide), b1' 1 (by decide) (by decide)]
      refine ld_IV h hS2 (SR_cg hSR3 (fun i a b => hI i (by omega) (by omega)) (fun _ _ => rfl)) (ic_cg (b4 n') (fun i a b => hI i (by omega) (by omega)) (fun i a b => hI i (by omega) (by omega))) (fun i hi => ?_) ?_ ?_ ?_ (fun i h1 h2 => ?_) (ld_IR e2 ?_ ?_ ?_ ?_ ?_ ?_) ?_ ?_
      · rw [hI i (by omega) (by omega), b1' i (by omega) (by omega), riM_o hS (by omega) (by omega)]
      · rw [hI0, if_neg (by decide), b2, if_neg (by decide), riM_o hS (by decide) (by decide)]
      · rw [hI0, if_neg (by decide), b2, if_pos rfl]
      · rw [a1, c2]
      · rw [a2 i h1, c4 i h1, d6 i h2, hc.L]
      · rw [h1I, riM_1]
      · rw [h1I, riM_5]
      · rw [h1I, riM_4]
      · rw [a1, c1 8 (by decide), d2]
      · rw [a1, c1 14 (by decide), d3]
      · rw [a1, c1 15 (by decide), d4]
      · rw [hI0, if_pos rfl]
      · rw [a1, c1 24 (by decide), d1 24 (Or.inr rfl), hc.I (Nat.le_refl 198)]
  · rw [if_neg e, if_neg e] at q
    have hc : Cf M (riM M len) := cf_riM
    have hXo : ∀ i, i ≠ 1 → i < 17 ∨ 31 ≤ i → mI (riM M len) i = mI M i := fun i h1 h2 => riM_o hS h1 h2
    have x1 := riM_1 (M := M) (len := len)
    have x5 := riM_5 (M := M) (len := len)
    have x4 := riM_4 (M := M) (len := len)
    generalize riM M len = N at *
    obtain ⟨e1, e2, -⟩ := ri_lr (len := len) (b9 := mI N 198 10) (e9 := mI N 198 12) (u := mL N 200) hS
    have n9 := n_load (l := l) (M := N) (T := mI M 2) (len := len) (hc.S hS) (ld_tx hc l4) (by rw [hc.I (Nat.le_refl 198)]; exact l3) l1
    have er : ¬ (lrR (mI M 2) len (mI N 198 10) (mI N 198 12) (mL N 200)).2.2.2.2.1 = 0 := by rw [← e2.2.1]; exact e
    have hS2 : Shp (ldE N (mI M 2) len (lrR (mI M 2) len (mI N 198 10) (mI N 198 12) (mL N 200)).2) := (rf_ldE (Rf.rf _)).S (hc.S hS)
    refine ⟨_, _, _, _, q, n9, hc.S hS, hS2, fun _ => ?_, n, p, c, ?_⟩
    · unfold ldV
      rw [if_neg er, e2.2.2 e]
    · unfold ldE at hS2 ⊢
      rw [if_neg er] at hS2 ⊢
      obtain ⟨d1, d2, d3, d4, d5, d6⟩ := lrD_at (N := N) (T := mI M 2) (len := len) (r := (lrR (mI M 2) len (mI N 198 10) (mI N 198 12) (mL N 200)).2)
      generalize (lrR (mI M 2) len (mI N 198 10) (mI N 198 12) (mL N 200)).2 = r at *
      generalize lrD N (mI M 2) len r = Y at *
      refine ld_IE h hS2 (fun i h1 h2 h3 => by rw [d5 i h2, hXo i h1 h3]) ?_ (fun i hi => by rw [d6 i hi, hc.L]) (ld_IR e2 ?_ ?_ ?_ d2 d3 d4) ?_
      · rw [d1 5 (Or.inl rfl), hc.I (Nat.le_refl 198)]
      · rw [d5 1 (by decide), x1]
      · rw [d5 1 (by decide), x5]
      · rw [d5 1 (by decide), x4]
      · rw [d1 24 (Or.inr rfl), hc.I (Nat.le_refl 198)]
end
end
-- 5998.fresh
section
/-! a new desk beside a new reference -/
theorem lkI_no {i j : Nat} : ∀ {L : List (Nat × Nat × Int32)}, L.all (fun q => !Nat.beq q.1 i) = true → lkI L i j = 0
  | [], _ => rfl
  | q :: L, h => by
    rw [List.all_cons, Bool.and_eq_true] at h
    unfold lkI
    have h1 : Nat.beq q.1 i = false := by
      have := h.1
      cases h9 : Nat.beq q.1 i
      · rfl
      · rw [h9] at this
        cases this
    rw [h1]
    exact lkI_no h.2
abbrev Z1 : Nat → Int32 := fun _ => 0
abbrev Z2 : Nat → Nat → Int32 := fun _ _ => 0
section
variable {l : Launch} {M M' : Mem}
theorem f_0 (h : Frs M) {i : Nat} (hi : FI.all (fun q => !Nat.beq q.1 i) = true) : mI M i = Z1 := funext fun j => by
  rw [h.2.1]
  exact lkI_no hi
theorem f_z (h : Frs M) : mI M 3 1 = nI 8 := by
  rw [h.2.1]
  decide +kernel
theorem f_bl (h : Frs M) : mI M 3 2 = nI 4 := by
  rw [h.2.1]
  decide +kernel
theorem fI_ok : ∀ s, s < 6 → FI.all (fun q => !Nat.beq q.1 (6 + 2 * s)) = true ∧ FI.all (fun q => !Nat.beq q.1 (5 + 2 * s)) = true ∧ FI.all (fun q => !Nat.beq q.1 (175 + 2 * s)) = true ∧ FI.all (fun q => !Nat.beq q.1 (176 + 2 * s)) = true := by decide +kernel
theorem f_rows (h : Frs M) {s : Nat} (hs : s < 6) : mI M (6 + 2 * s) = Z1 := f_0 h (fI_ok s hs).1
theorem f_mx (h : Frs M) {s : Nat} (hs : s < 6) : mI M (5 + 2 * s) = Z1 := f_0 h (fI_ok s hs).2.1
theorem f_cl0 (h : Frs M) {s : Nat} (hs : s < 6) : mI M (175 + 2 * s) = Z1 := f_0 h (fI_ok s hs).2.2.1
theorem f_cl1 (h : Frs M) {s : Nat} (hs : s < 6) : mI M (176 + 2 * s) = Z1 := f_0 h (fI_ok s hs).2.2.2
theorem f_D (h : Frs M) : Dk M 8 0 0 := ⟨h.1, f_z h, by decide, by rw [h.2.1]; decide +kernel, by decide, by rw [h.2.1]; decide +kernel, by decide, fun s hs => Or.inl (by
  rw [show 3 + 2 + 2 * s = 5 + 2 * s by omega, f_mx h hs])⟩
/-- the reference is new -/
def Fq (M : Mem) : Prop := Shp M ∧ (∀ i, i < 212 → mL M i = fun_set (fun _ _ => 0) 199 (bgF (fun _ => 0) 8) i) ∧ ∀ i, 198 ≤ i → ∀ j, mI M i j = lkI FI i j
theorem fq_0 (h : Frs M) (hc : Cf M M') : Fq M' := ⟨hc.S h.1, fun i _ => by rw [hc.L, h.2.2.1], fun i hi j => by rw [hc.I hi, h.2.1]⟩
theorem fq_1 {v : Int64} (h : Fq M) : Fq (pL M 212 0 v) := ⟨h.1, fun i hi => by
  rw [show mL (pL M 212 0 v) i = mL M i from sL_ne9 (by omega)]
  exact h.2.1 i hi, h.2.2⟩
theorem fq_2 {f : Nat → UInt64} (h : Fq M) : Fq (sD M 213 f) := h
theorem fq_L (h : Fq M) : mL M 199 = bgF (fun _ => 0) 8 := by
  rw [h.2.1 199 (by decide)]
  unfold fun_set
  rw [if_pos rfl]
theorem bg_ge {i : Nat} (hi : 2 ≤ i) : bgF (fun _ => 0) 8 i = 0 := by
  unfold bgF fun_set clF
  rw [if_neg (by omega), if_neg (by omega)]
  split <;> rfl
theorem fq_R (h : Fq M) : Rr M 8 Z2 := ⟨h.1, by rw [fq_L h]; decide +kernel, by decide, by decide, fun s r hs hr => by
  rw [fq_L h, bg_ge (by omega)]
  exact uL_0.symm⟩
theorem fq_c (h : Fq M) : mI M 198 5 = nI 0 := by
  rw [h.2.2 198 (by decide)]
  decide +kernel
theorem fq_bl (h : Fq M) : mL M 199 1 = lN 4 := by
  rw [fq_L h]
  decide +kernel
theorem fq_bs (h : Fq M) : bsOk M := fun i hi => by
  rw [h.2.1 209 (by decide)]
  unfold fun_set
  rw [if_neg (by decide)]
  show (0 : Int64) = uL (0 : Int64).toInt32
  decide +kernel
theorem fz_wf : wfA 8 Z2 := fun s r _ _ c _ => hb_0 c
theorem wr_z (n : Nat) : wr Z1 Z1 n = Z1 := by
  funext k
  unfold wr
  split <;> rfl
theorem wIn_z (m : Nat) : ∀ i, wIn Z1 m i = Z1
  | 0 => rfl
  | i + 1 => by
    unfold wIn
    rw [wIn_z m i, hb_0, if_neg (by decide)]
theorem wO_z (n : Nat) : ∀ k, wOut Z1 n k = Z1
  | 0 => rfl
  | k + 1 => by
    unfold wOut
    rw [wO_z n k, wIn_z]
theorem cl_new {s n : Nat} (h1 : mI M (175 + 2 * s) 1 = 0) (h2 : mI M (176 + 2 * s) = Z1) (h3 : mI M (6 + 2 * s) = Z1) : mI (clOf M s n) (175 + 2 * s + 1) = Z1 := by
  unfold clOf
  rw [if_pos h1]
  unfold clMake
  show mI (sI (sI M (175 + 2 * s + 1) _) (175 + 2 * s) _) (175 + 2 * s + 1) = _
  rw [sI_ne (by omega), sI_self, show 175 + 2 * s + 1 = 176 + 2 * s by omega, h2, h3, wr_z, wO_z]
theorem f_cl (h : Frs M) {s n : Nat} (hs : s < 6) : mI (clOf M s n) (175 + 2 * s + 1) = Z1 := cl_new (by rw [f_cl0 h hs]) (f_cl1 h hs) (f_rows h hs)
/-- the class's rows -/
theorem fq_A (h : Frs M) (hq : Fq M') : Rr M' 8 (Am M) := ⟨hq.1, (fq_R hq).2.1, by decide, by decide, fun s r hs hr => by
  rw [(fq_R hq).2.2.2.2 s r hs hr]
  show _ = uL (mI M (6 + 2 * s) r)
  rw [f_rows h hs]⟩
theorem am_wf (h : Frs M) : wfA 8 (Am M) := fun s r hs _ c _ => by
  show hb (mI M (6 + 2 * s) r) c = false
  rw [f_rows h hs]
  exact hb_0 c
theorem am_0 (h : Frs M) {s : Nat} (hs : s < 6) : Am M s = Z1 := f_rows h hs
end
end
-- 60.step
section
/-! the law: a step, the loop, the start -/
theorem and63 (x : Int32) : ∃ j, j < 64 ∧ x &&& 63 = nI j := by
  refine ⟨(x &&& 63).toBitVec.toNat, ?_, ?_⟩
  · rw [Int32.toBitVec_and, BitVec.toNat_and]
    exact Nat.lt_of_le_of_lt Nat.and_le_right (by decide)
  · apply Int32.toBitVec_inj.mp
    show _ = BitVec.ofNat 32 _
    refine BitVec.eq_of_toNat_eq ?_
    rw [BitVec.toNat_ofNat, Nat.mod_eq_of_lt (BitVec.isLt _)]
theorem bz (x : Int32) : b1 (!decide (x = 0)) = if x = 0 then 0 else 1 := by
  by_cases h : x = 0
  · rw [decide_eq_true h, if_pos h]
    rfl
  · rw [decide_eq_false h, if_neg h]
    rfl
section
variable {l : Launch} {Q : Res → Mem → Prop} {k n : Nat} {M : Mem} {S : Nat × (Nat → Int32)} {o : Nat}
theorem g_sX {J : Jm} {F L MC MS pc : Nat} {lv : List (Nat × Value)} {st : List Value} (kk : Go l J F L MC MS Q pc lv st k n (sX M)) : Go l J F L MC MS Q pc lv st k n M := by
  intro p e s m args below meth c G H locs cells slots ls hX hC hR hS hl hc hs
  have e1 : wl G (sX M) = wl G M := by
    unfold wl
    have e2 : ∀ i y, ent G (sX M) i y = ent G M i y := fun i y => ent_of (M := M) (M' := sX M) rfl rfl rfl rfl y
    show (mK M).mapIdx (fun i k => (gB G + i, ent G (sX M) i k)) = _
    simp only [e2]
  exact kk p e s m args below meth c G H locs cells slots ls hX hC ⟨by rw [e1]; exact hR.1, fun h => absurd (show false = true from h) (by decide), hR.2.2.1, hR.2.2.2⟩ hS hl hc hs
set_option maxRecDepth 20000 in
theorem law_step (hI : Inv M) (hSh : Shp M) (hs : mS M = S) (ho : o + 5 ≤ S.1) (hS9 : S.1 < 2147483648) (kont : ∀ M2, Shp M2 → Inv M2 → mS M2 = S → Go l jL_law 14 538 601024 7293034 Q 2752 (AL o) [] k n M2) (kend : Go l jL_law 14 538 601024 7293034 Q 2752 (AL o) [] k n M) : Go l jL_law 14 538 601024 7293034 Q 44 (AL o) [.int (S.2 o &&& 63)] (k + 4) (n + 24) M := by
  obtain ⟨n9, p9, c9, hI⟩ := hI
  obtain ⟨j, hj, e⟩ := and63 (S.2 o)
  rw [e]
  match j, hj with
  | 0, _ =>
    refine g_tableIn (pc := 44) (tgt := 292) (off := 248) dL_law_44 (by decide) (by decide) (by decide) (by decide) ?_
    obtain ⟨a9, b, M1, M2, h1, h2, s1, s2, hq, hP⟩ := sm_append (l := l) hI (l2 (S.2 (o + 1)) (S.2 (o + 2)))
    exact g_less (by omega) (by omega) (lc_0 hs ho hS9 hSh s1 s2 h1 h2 (fun e9 => kont M2 s2 hP e9))
  | 1, _ =>
    refine g_tableIn (pc := 44) (tgt := 349) (off := 305) dL_law_44 (by decide) (by decide) (by decide) (by decide) ?_
    obtain ⟨a9, b, M1, M2, h1, h2, s1, s2, hq, hP⟩ := sm_load (l := l) hI 
    exact g_less (by omega) (by omega) (lc_1 hs ho hS9 hSh s1 s2 h1 h2 (fun e9 => kont M2 s2 hP e9))
  | 2, _ =>
    refine g_tableIn (pc := 44) (tgt := 362) (off := 318) dL_law_44 (by decide) (by decide) (by decide) (by decide) ?_
    obtain ⟨a9, b, M1, M2, h1, h2, s1, s2, hq, hP⟩ := sm_loadError (l := l) hI 
    exact g_less (by omega) (by omega) (lc_2 hs ho hS9 hSh s1 s2 h1 h2 (fun e9 => kont M2 s2 hP e9))
  | 3, _ =>
    refine g_tableIn (pc := 44) (tgt := 375) (off := 331) dL_law_44 (by decide) (by decide) (by decide) (by decide) ?_
    obtain ⟨a9, b, M1, M2, h1, h2, s1, s2, hq, hP⟩ := sm_loadStatement (l := l) hI 
    exact g_less (by omega) (by omega) (lc_3 hs ho hS9 hSh s1 s2 h1 h2 (fun e9 => kont M2 s2 hP e9))
  | 4, _ =>
    refine g_tableIn (pc := 44) (tgt := 388) (off := 344) dL_law_44 (by decide) (by decide) (by decide) (by decide) ?_
    obtain ⟨kk, b, M1, M2, h1, h2, s1, s2, ht, hq, hP⟩ := sm_count (l := l) hI (S.2 (o + 1))
    exact g_less (by omega) (by omega) (lc_4 hs ho hS9 hSh s1 s2 h1 h2 (fun e9 => kont M2 s2 hP e9))
  | 5, _ =>
    refine g_tableIn (pc := 44) (tgt := 416) (off := 372) dL_law_44 (by decide) (by decide) (by decide) (by decide) ?_
    obtain ⟨kk, b, M1, M2, h1, h2, s1, s2, ht, hq, hP⟩ := sm_bit (l := l) hI (S.2 (o + 1)) (S.2 (o + 2)) (S.2 (o + 3))
    exact g_less (by omega) (by omega) (lc_5 hs ho hS9 hSh s1 s2 h1 h2 (fun e9 => kont M2 s2 hP e9))
  | 6, _ =>
    refine g_tableIn (pc := 44) (tgt := 468) (off := 424) dL_law_44 (by decide) (by decide) (by decide) (by decide) ?_
    obtain ⟨kk, b, M1, M2, h1, h2, s1, s2, ht, hq, hP⟩ := sm_row (l := l) hI (S.2 (o + 1)) (S.2 (o + 2))
    exact g_less (by omega) (by omega) (lc_6 hs ho hS9 hSh s1 s2 h1 h2 (fun e9 => kont M2 s2 hP e9))
  | 7, _ =>
    refine g_tableIn (pc := 44) (tgt := 508) (off := 464) dL_law_44 (by decide) (by decide) (by decide) (by decide) ?_
    obtain ⟨kk, b, M1, M2, h1, h2, s1, s2, ht, hq, hP⟩ := sm_rank (l := l) hI (S.2 (o + 1)) (S.2 (o + 2)) (S.2 (o + 3))
    exact g_less (by omega) (by omega) (lc_7 hs ho hS9 hSh s1 s2 h1 h2 (fun e9 => kont M2 s2 hP e9))
  | 8, _ =>
    refine g_tableIn (pc := 44) (tgt := 560) (off := 516) dL_law_44 (by decide) (by decide) (by decide) (by decide) ?_
    obtain ⟨kk, b, M1, M2, h1, h2, s1, s2, ht, hq, hP⟩ := sm_select (l := l) hI (S.2 (o + 1)) (S.2 (o + 2)) (S.2 (o + 3))
    exact g_less (by omega) (by omega) (lc_8 hs ho hS9 hSh s1 s2 h1 h2 (fun e9 => kont M2 s2 hP e9))
  | 9, _ =>
    refine g_tableIn (pc := 44) (tgt := 612) (off := 568) dL_law_44 (by decide) (by decide) (by decide) (by decide) ?_
    obtain ⟨kk, b, M1, M2, h1, h2, s1, s2, ht, hq, hP⟩ := sm_ones (l := l) hI (S.2 (o + 1))
    exact g_less (by omega) (by omega) (lc_9 hs ho hS9 hSh s1 s2 h1 h2 (fun e9 => kont M2 s2 hP e9))
  | 10, _ =>
    refine g_tableIn (pc := 44) (tgt := 640) (off := 596) dL_law_44 (by decide) (by decide) (by decide) (by decide) ?_
    obtain ⟨kk, b, M1, M2, h1, h2, s1, s2, ht, hq, hP⟩ := sm_columnOnes (l := l) hI (S.2 (o + 1)) (S.2 (o + 2))
    exact g_less (by omega) (by omega) (lc_10 hs ho hS9 hSh s1 s2 h1 h2 (fun e9 => kont M2 s2 hP e9))
  | 11, _ =>
    refine g_tableIn (pc := 44) (tgt := 680) (off := 636) dL_law_44 (by decide) (by decide) (by decide) (by decide) ?_
    obtain ⟨kk, b, M1, M2, h1, h2, s1, s2, ht, hq, hP⟩ := sm_sameAs (l := l) hI (S.2 (o + 1)) (S.2 (o + 2))
    exact g_less (by omega) (by omega) (lc_11 hs ho hS9 hSh s1 s2 h1 h2 (fun e9 => kont M2 s2 hP e9))
  | 12, _ =>
    refine g_tableIn (pc := 44) (tgt := 720) (off := 676) dL_law_44 (by decide) (by decide) (by decide) (by decide) ?_
    obtain ⟨kk, b, M1, M2, h1, h2, s1, s2, ht, hq, hP⟩ := sm_classes (l := l) hI (S.2 (o + 1))
    exact g_less (by omega) (by omega) (lc_12 hs ho hS9 hSh s1 s2 h1 h2 (fun e9 => kont M2 s2 hP e9))
  | 13, _ =>
    refine g_tableIn (pc := 44) (tgt := 748) (off := 704) dL_law_44 (by decide) (by decide) (by decide) (by decide) ?_
    obtain ⟨kk, b, M1, M2, h1, h2, s1, s2, ht, hq, hP⟩ := sm_classOf (l := l) hI (S.2 (o + 1)) (S.2 (o + 2))
    exact g_less (by omega) (by omega) (lc_13 hs ho hS9 hSh s1 s2 h1 h2 (fun e9 => kont M2 s2 hP e9))
  | 14, _ =>
    refine g_tableIn (pc := 44) (tgt := 788) (off := 744) dL_law_44 (by decide) (by decide) (by decide) (by decide) ?_
    obtain ⟨kk, b, M1, M2, h1, h2, s1, s2, ht, hq, hP⟩ := sm_find (l := l) hI (S.2 (o + 1)) (l2 (S.2 (o + 2)) (S.2 (o + 3)))
    exact g_less (by omega) (by omega) (lc_14 hs ho hS9 hSh s1 s2 h1 h2 (fun e9 => kont M2 s2 hP e9))
  | 15, _ =>
    refine g_tableIn (pc := 44) (tgt := 860) (off := 816) dL_law_44 (by decide) (by decide) (by decide) (by decide) ?_
    obtain ⟨kk, b, M1, M2, h1, h2, s1, s2, ht, hq, hP⟩ := sm_nearest (l := l) hI (S.2 (o + 1)) (S.2 (o + 2))
    exact g_less (by omega) (by omega) (lc_15 hs ho hS9 hSh s1 s2 h1 h2 (fun e9 => kont M2 s2 hP e9))
  | 16, _ =>
    refine g_tableIn (pc := 44) (tgt := 900) (off := 856) dL_law_44 (by decide) (by decide) (by decide) (by decide) ?_
    obtain ⟨kk, b, M1, M2, h1, h2, s1, s2, ht, hq, hP⟩ := sm_density (l := l) hI (S.2 (o + 1))
    exact g_less (by omega) (by omega) (lc_16 hs ho hS9 hSh s1 s2 h1 h2 (fun e9 => kont M2 s2 hP e9))
  | 17, _ =>
    refine g_tableIn (pc := 44) (tgt := 929) (off := 885) dL_law_44 (by decide) (by decide) (by decide) (by decide) ?_
    obtain ⟨kk, b, M1, M2, h1, h2, s1, s2, ht, hq, hP⟩ := sm_isSymmetric (l := l) hI (S.2 (o + 1))
    exact g_less (by omega) (by omega) (lc_17 hs ho hS9 hSh s1 s2 h1 h2 (fun e9 => kont M2 s2 hP e9))
  | 18, _ =>
    refine g_tableIn (pc := 44) (tgt := 957) (off := 913) dL_law_44 (by decide) (by decide) (by decide) (by decide) ?_
    obtain ⟨kk, b, M1, M2, h1, h2, s1, s2, ht, hq, hP⟩ := sm_reaches (l := l) hI (S.2 (o + 1)) (S.2 (o + 2)) (S.2 (o + 3))
    exact g_less (by omega) (by omega) (lc_18 hs ho hS9 hSh s1 s2 h1 h2 (fun e9 => kont M2 s2 hP e9))
  | 19, _ =>
    refine g_tableIn (pc := 44) (tgt := 1009) (off := 965) dL_law_44 (by decide) (by decide) (by decide) (by decide) ?_
    obtain ⟨kk, b, M1, M2, h1, h2, s1, s2, ht, hq, hP⟩ := sm_reached (l := l) hI (S.2 (o + 1)) (S.2 (o + 2))
    exact g_less (by omega) (by omega) (lc_19 hs ho hS9 hSh s1 s2 h1 h2 (fun e9 => kont M2 s2 hP e9))
  | 20, _ =>
    refine g_tableIn (pc := 44) (tgt := 1049) (off := 1005) dL_law_44 (by decide) (by decide) (by decide) (by decide) ?_
    obtain ⟨kk, b, M1, M2, h1, h2, s1, s2, ht, hq, hP⟩ := sm_pairs (l := l) hI (S.2 (o + 1))
    exact g_less (by omega) (by omega) (lc_20 hs ho hS9 hSh s1 s2 h1 h2 (fun e9 => kont M2 s2 hP e9))
  | 21, _ =>
    refine g_tableIn (pc := 44) (tgt := 1077) (off := 1033) dL_law_44 (by decide) (by decide) (by decide) (by decide) ?_
    obtain ⟨kk, b, M1, M2, h1, h2, s1, s2, ht, hq, hP⟩ := sm_meanReach (l := l) hI (S.2 (o + 1))
    exact g_less (by omega) (by omega) (lc_21 hs ho hS9 hSh s1 s2 h1 h2 (fun e9 => kont M2 s2 hP e9))
  | 22, _ =>
    refine g_tableIn (pc := 44) (tgt := 1106) (off := 1062) dL_law_44 (by decide) (by decide) (by decide) (by decide) ?_
    obtain ⟨kk, b, M1, M2, h1, h2, s1, s2, ht, hq, hP⟩ := sm_component (l := l) hI (S.2 (o + 1)) (S.2 (o + 2))
    exact g_less (by omega) (by omega) (lc_22 hs ho hS9 hSh s1 s2 h1 h2 (fun e9 => kont M2 s2 hP e9))
  | 23, _ =>
    refine g_tableIn (pc := 44) (tgt := 1146) (off := 1102) dL_law_44 (by decide) (by decide) (by decide) (by decide) ?_
    obtain ⟨kk, b, M1, M2, h1, h2, s1, s2, ht, hq, hP⟩ := sm_components (l := l) hI (S.2 (o + 1))
    exact g_less (by omega) (by omega) (lc_23 hs ho hS9 hSh s1 s2 h1 h2 (fun e9 => kont M2 s2 hP e9))
  | 24, _ =>
    refine g_tableIn (pc := 44) (tgt := 1174) (off := 1130) dL_law_44 (by decide) (by decide) (by decide) (by decide) ?_
    obtain ⟨kk, b, M1, M2, h1, h2, s1, s2, ht, hq, hP⟩ := sm_distance (l := l) hI (S.2 (o + 1)) (S.2 (o + 2)) (S.2 (o + 3))
    exact g_less (by omega) (by omega) (lc_24 hs ho hS9 hSh s1 s2 h1 h2 (fun e9 => kont M2 s2 hP e9))
  | 25, _ =>
    refine g_tableIn (pc := 44) (tgt := 1226) (off := 1182) dL_law_44 (by decide) (by decide) (by decide) (by decide) ?_
    obtain ⟨kk, b, M1, M2, h1, h2, s1, s2, ht, hq, hP⟩ := sm_stepAt (l := l) hI (S.2 (o + 1)) (S.2 (o + 2)) (S.2 (o + 3)) (S.2 (o + 4))
    exact g_less (by omega) (by omega) (lc_25 hs ho hS9 hSh s1 s2 h1 h2 (fun e9 => kont M2 s2 hP e9))
  | 26, _ =>
    refine g_tableIn (pc := 44) (tgt := 1290) (off := 1246) dL_law_44 (by decide) (by decide) (by decide) (by decide) ?_
    obtain ⟨kk, b, M1, M2, h1, h2, s1, s2, ht, hq, hP⟩ := sm_around (l := l) hI (S.2 (o + 1)) (S.2 (o + 2))
    exact g_less (by omega) (by omega) (lc_26 hs ho hS9 hSh s1 s2 h1 h2 (fun e9 => kont M2 s2 hP e9))
  | 27, _ =>
    refine g_tableIn (pc := 44) (tgt := 1330) (off := 1286) dL_law_44 (by decide) (by decide) (by decide) (by decide) ?_
    obtain ⟨kk, b, M1, M2, h1, h2, s1, s2, ht, hq, hP⟩ := sm_girth (l := l) hI (S.2 (o + 1))
    exact g_less (by omega) (by omega) (lc_27 hs ho hS9 hSh s1 s2 h1 h2 (fun e9 => kont M2 s2 hP e9))
  | 28, _ =>
    refine g_tableIn (pc := 44) (tgt := 1358) (off := 1314) dL_law_44 (by decide) (by decide) (by decide) (by decide) ?_
    obtain ⟨kk, b, M1, M2, h1, h2, s1, s2, ht, hq, hP⟩ := sm_order (l := l) hI (S.2 (o + 1)) (S.2 (o + 2))
    exact g_less (by omega) (by omega) (lc_28 hs ho hS9 hSh s1 s2 h1 h2 (fun e9 => kont M2 s2 hP e9))
  | 29, _ =>
    refine g_tableIn (pc := 44) (tgt := 1398) (off := 1354) dL_law_44 (by decide) (by decide) (by decide) (by decide) ?_
    obtain ⟨kk, b, M1, M2, h1, h2, s1, s2, ht, hq, hP⟩ := sm_gained (l := l) hI (S.2 (o + 1)) (S.2 (o + 2)) (S.2 (o + 3))
    exact g_less (by omega) (by omega) (lc_29 hs ho hS9 hSh s1 s2 h1 h2 (fun e9 => kont M2 s2 hP e9))
  | 30, _ =>
    refine g_tableIn (pc := 44) (tgt := 1450) (off := 1406) dL_law_44 (by decide) (by decide) (by decide) (by decide) ?_
    obtain ⟨kk, b, M1, M2, h1, h2, s1, s2, ht, hq, hP⟩ := sm_lost (l := l) hI (S.2 (o + 1)) (S.2 (o + 2)) (S.2 (o + 3))
    exact g_less (by omega) (by omega) (lc_30 hs ho hS9 hSh s1 s2 h1 h2 (fun e9 => kont M2 s2 hP e9))
  | 31, _ =>
    refine g_tableIn (pc := 44) (tgt := 1502) (off := 1458) dL_law_44 (by decide) (by decide) (by decide) (by decide) ?_
    obtain ⟨kk, b, M1, M2, h1, h2, s1, s2, ht, hq, hP⟩ := sm_bestEdge (l := l) hI (S.2 (o + 1))
    exact g_less (by omega) (by omega) (lc_31 hs ho hS9 hSh s1 s2 h1 h2 (fun e9 => kont M2 s2 hP e9))
  | 32, _ =>
    refine g_tableIn (pc := 44) (tgt := 1530) (off := 1486) dL_law_44 (by decide) (by decide) (by decide) (by decide) ?_
    obtain ⟨kk, b, M1, M2, h1, h2, s1, s2, ht, hq, hP⟩ := sm_weakest (l := l) hI (S.2 (o + 1))
    exact g_less (by omega) (by omega) (lc_32 hs ho hS9 hSh s1 s2 h1 h2 ht (hq trivial) (fun e9 => kont M2 s2 hP e9))
  | 33, _ =>
    refine g_tableIn (pc := 44) (tgt := 1586) (off := 1542) dL_law_44 (by decide) (by decide) (by decide) (by decide) ?_
    obtain ⟨kk, b, M1, M2, h1, h2, s1, s2, ht, hq, hP⟩ := sm_triangles (l := l) hI (S.2 (o + 1))
    exact g_less (by omega) (by omega) (lc_33 hs ho hS9 hSh s1 s2 h1 h2 (fun e9 => kont M2 s2 hP e9))
  | 34, _ =>
    refine g_tableIn (pc := 44) (tgt := 1614) (off := 1570) dL_law_44 (by decide) (by decide) (by decide) (by decide) ?_
    obtain ⟨kk, b, M1, M2, h1, h2, s1, s2, ht, hq, hP⟩ := sm_fieldRank (l := l) hI (S.2 (o + 1))
    exact g_less (by omega) (by omega) (lc_34 hs ho hS9 hSh s1 s2 h1 h2 (fun e9 => kont M2 s2 hP e9))
  | 35, _ =>
    refine g_tableIn (pc := 44) (tgt := 1642) (off := 1598) dL_law_44 (by decide) (by decide) (by decide) (by decide) ?_
    obtain ⟨kk, b, M1, M2, h1, h2, s1, s2, ht, hq, hP⟩ := sm_solve (l := l) hI (S.2 (o + 1)) (l2 (S.2 (o + 2)) (S.2 (o + 3)))
    exact g_less (by omega) (by omega) (lc_35 hs ho hS9 hSh s1 s2 h1 h2 (fun e9 => kont M2 s2 hP e9))
  | 36, _ =>
    refine g_tableIn (pc := 44) (tgt := 1714) (off := 1670) dL_law_44 (by decide) (by decide) (by decide) (by decide) ?_
    obtain ⟨kk, b, M1, M2, h1, h2, s1, s2, ht, hq, hP⟩ := sm_freedom (l := l) hI (S.2 (o + 1)) (l2 (S.2 (o + 2)) (S.2 (o + 3)))
    exact g_less (by omega) (by omega) (lc_36 hs ho hS9 hSh s1 s2 h1 h2 (fun e9 => kont M2 s2 hP e9))
  | 37, _ =>
    refine g_tableIn (pc := 44) (tgt := 1786) (off := 1742) dL_law_44 (by decide) (by decide) (by decide) (by decide) ?_
    obtain ⟨kk, b, M1, M2, h1, h2, s1, s2, ht, hq, hP⟩ := sm_pivot (l := l) hI (S.2 (o + 1)) (S.2 (o + 2))
    exact g_less (by omega) (by omega) (lc_37 hs ho hS9 hSh s1 s2 h1 h2 (fun e9 => kont M2 s2 hP e9))
  | 38, _ =>
    refine g_tableIn (pc := 44) (tgt := 1826) (off := 1782) dL_law_44 (by decide) (by decide) (by decide) (by decide) ?_
    obtain ⟨kk, b, M1, M2, h1, h2, s1, s2, ht, hq, hP⟩ := sm_put (l := l) hI (S.2 (o + 1)) (S.2 (o + 2)) (S.2 (o + 3)) (!decide (S.2 (o + 4) = 0))
    exact g_less (by omega) (by omega) (lc_38 (bz _) hs ho hS9 hSh s1 s2 h1 h2 (fun e9 => kont M2 s2 hP e9))
  | 39, _ =>
    refine g_tableIn (pc := 44) (tgt := 1906) (off := 1862) dL_law_44 (by decide) (by decide) (by decide) (by decide) ?_
    obtain ⟨kk, b, M1, M2, h1, h2, s1, s2, ht, hq, hP⟩ := sm_setRow (l := l) hI (S.2 (o + 1)) (S.2 (o + 2)) (l2 (S.2 (o + 3)) (S.2 (o + 4)))
    exact g_less (by omega) (by omega) (lc_39 hs ho hS9 hSh s1 s2 h1 h2 (fun e9 => kont M2 s2 hP e9))
  | 40, _ =>
    refine g_tableIn (pc := 44) (tgt := 1990) (off := 1946) dL_law_44 (by decide) (by decide) (by decide) (by decide) ?_
    obtain ⟨kk, b, M1, M2, h1, h2, s1, s2, ht, hq, hP⟩ := sm_copy (l := l) hI (S.2 (o + 1)) (S.2 (o + 2))
    exact g_less (by omega) (by omega) (lc_40 hs ho hS9 hSh s1 s2 h1 h2 (fun e9 => kont M2 s2 hP e9))
  | 41, _ =>
    refine g_tableIn (pc := 44) (tgt := 2030) (off := 1986) dL_law_44 (by decide) (by decide) (by decide) (by decide) ?_
    obtain ⟨kk, b, M1, M2, h1, h2, s1, s2, ht, hq, hP⟩ := sm_transpose (l := l) hI (S.2 (o + 1)) (S.2 (o + 2))
    exact g_less (by omega) (by omega) (lc_41 hs ho hS9 hSh s1 s2 h1 h2 (fun e9 => kont M2 s2 hP e9))
  | 42, _ =>
    refine g_tableIn (pc := 44) (tgt := 2070) (off := 2026) dL_law_44 (by decide) (by decide) (by decide) (by decide) ?_
    obtain ⟨kk, b, M1, M2, h1, h2, s1, s2, ht, hq, hP⟩ := sm_combine (l := l) hI (S.2 (o + 1)) (S.2 (o + 2)) (S.2 (o + 3)) (S.2 (o + 4))
    exact g_less (by omega) (by omega) (lc_42 hs ho hS9 hSh s1 s2 h1 h2 (fun e9 => kont M2 s2 hP e9))
  | 43, _ =>
    refine g_tableIn (pc := 44) (tgt := 2134) (off := 2090) dL_law_44 (by decide) (by decide) (by decide) (by decide) ?_
    obtain ⟨kk, b, M1, M2, h1, h2, s1, s2, ht, hq, hP⟩ := sm_product (l := l) hI (S.2 (o + 1)) (S.2 (o + 2)) (S.2 (o + 3)) (!decide (S.2 (o + 4) = 0))
    exact g_less (by omega) (by omega) (lc_43 (bz _) hs ho hS9 hSh s1 s2 h1 h2 (fun e9 => kont M2 s2 hP e9))
  | 44, _ =>
    refine g_tableIn (pc := 44) (tgt := 2214) (off := 2170) dL_law_44 (by decide) (by decide) (by decide) (by decide) ?_
    obtain ⟨kk, b, M1, M2, h1, h2, s1, s2, ht, hq, hP⟩ := sm_power (l := l) hI (S.2 (o + 1)) (S.2 (o + 2)) (S.2 (o + 3)) (!decide (S.2 (o + 4) = 0))
    exact g_less (by omega) (by omega) (lc_44 (bz _) hs ho hS9 hSh s1 s2 h1 h2 (fun e9 => kont M2 s2 hP e9))
  | 45, _ =>
    refine g_tableIn (pc := 44) (tgt := 2294) (off := 2250) dL_law_44 (by decide) (by decide) (by decide) (by decide) ?_
    obtain ⟨kk, b, M1, M2, h1, h2, s1, s2, ht, hq, hP⟩ := sm_invert (l := l) hI (S.2 (o + 1)) (S.2 (o + 2))
    exact g_less (by omega) (by omega) (lc_45 hs ho hS9 hSh s1 s2 h1 h2 (fun e9 => kont M2 s2 hP e9))
  | 46, _ =>
    refine g_tableIn (pc := 44) (tgt := 2334) (off := 2290) dL_law_44 (by decide) (by decide) (by decide) (by decide) ?_
    obtain ⟨kk, b, M1, M2, h1, h2, s1, s2, ht, hq, hP⟩ := sm_close (l := l) hI (S.2 (o + 1)) (S.2 (o + 2))
    exact g_less (by omega) (by omega) (lc_46 hs ho hS9 hSh s1 s2 h1 h2 (fun e9 => kont M2 s2 hP e9))
  | 47, _ =>
    refine g_tableIn (pc := 44) (tgt := 2374) (off := 2330) dL_law_44 (by decide) (by decide) (by decide) (by decide) ?_
    obtain ⟨kk, b, M1, M2, h1, h2, s1, s2, ht, hq, hP⟩ := sm_reduce (l := l) hI (S.2 (o + 1)) (S.2 (o + 2))
    exact g_less (by omega) (by omega) (lc_47 hs ho hS9 hSh s1 s2 h1 h2 (fun e9 => kont M2 s2 hP e9))
  | 48, _ =>
    refine g_tableIn (pc := 44) (tgt := 2414) (off := 2370) dL_law_44 (by decide) (by decide) (by decide) (by decide) ?_
    obtain ⟨kk, b, M1, M2, h1, h2, s1, s2, ht, hq, hP⟩ := sm_exchange (l := l) hI (S.2 (o + 1)) (S.2 (o + 2)) (S.2 (o + 3))
    exact g_less (by omega) (by omega) (lc_48 hs ho hS9 hSh s1 s2 h1 h2 (fun e9 => kont M2 s2 hP e9))
  | 49, _ =>
    refine g_tableIn (pc := 44) (tgt := 2466) (off := 2422) dL_law_44 (by decide) (by decide) (by decide) (by decide) ?_
    obtain ⟨kk, b, M1, M2, h1, h2, s1, s2, ht, hq, hP⟩ := sm_keep (l := l) hI (S.2 (o + 1)) (!decide (S.2 (o + 2) = 0))
    exact g_less (by omega) (by omega) (lc_49 (bz _) hs ho hS9 hSh s1 s2 h1 h2 (fun e9 => kont M2 s2 hP e9))
  | 50, _ =>
    refine g_tableIn (pc := 44) (tgt := 2522) (off := 2478) dL_law_44 (by decide) (by decide) (by decide) (by decide) ?_
    obtain ⟨kk, b, M1, M2, h1, h2, s1, s2, ht, hq, hP⟩ := sm_setBlock (l := l) hI (S.2 (o + 1))
    exact g_less (by omega) (by omega) (lc_50 hs ho hS9 hSh s1 s2 h1 h2 (fun e9 => kont M2 s2 hP e9))
  | 51, _ =>
    refine g_tableIn (pc := 44) (tgt := 2550) (off := 2506) dL_law_44 (by decide) (by decide) (by decide) (by decide) ?_
    obtain ⟨kk, b, M1, M2, h1, h2, s1, s2, ht, hq, hP⟩ := sm_kept (l := l) hI (S.2 (o + 1)) (S.2 (o + 2))
    exact g_less (by omega) (by omega) (lc_51 hs ho hS9 hSh s1 s2 h1 h2 (fun e9 => kont M2 s2 hP e9))
  | 52, _ =>
    refine g_tableIn (pc := 44) (tgt := 2590) (off := 2546) dL_law_44 (by decide) (by decide) (by decide) (by decide) ?_
    obtain ⟨kk, b, M1, M2, h1, h2, s1, s2, ht, hq, hP⟩ := sm_work (l := l) hI (S.2 (o + 1))
    exact g_less (by omega) (by omega) (lc_52 hs ho hS9 hSh s1 s2 h1 h2 (fun e9 => kont M2 s2 hP e9))
  | 53, _ =>
    refine g_tableIn (pc := 44) (tgt := 2618) (off := 2574) dL_law_44 (by decide) (by decide) (by decide) (by decide) ?_
    obtain ⟨kk, b, M1, M2, h1, h2, s1, s2, ht, hq, hP⟩ := sm_writeRow (l := l) hI (S.2 (o + 1)) (S.2 (o + 2))
    exact g_less (by omega) (by omega) (lc_53 hs ho hS9 hSh s1 s2 h1 h2 (fun e9 => kont M2 s2 hP e9))
  | 54, _ =>
    refine g_tableIn (pc := 44) (tgt := 2658) (off := 2614) dL_law_44 (by decide) (by decide) (by decide) (by decide) ?_
    obtain ⟨a9, b, M1, M2, h1, h2, s1, s2, hq, hP⟩ := sm_outputByte (l := l) hI (S.2 (o + 1))
    exact g_less (by omega) (by omega) (lc_54 hs ho hS9 hSh s1 s2 h1 h2 (fun e9 => kont M2 s2 hP e9))
  | 55, _ =>
    refine g_tableIn (pc := 44) (tgt := 2683) (off := 2639) dL_law_44 (by decide) (by decide) (by decide) (by decide) ?_
    obtain ⟨a9, b, M1, M2, h1, h2, s1, s2, hq, hP⟩ := sm_undo (l := l) hI 
    exact g_less (by omega) (by omega) (lc_55 hs ho hS9 hSh s1 s2 h1 h2 (fun e9 => kont M2 s2 hP e9))
  | 56, _ =>
    refine g_tableIn (pc := 44) (tgt := 2696) (off := 2652) dL_law_44 (by decide) (by decide) (by decide) (by decide) ?_
    obtain ⟨kk, b, M1, M2, h1, h2, s1, s2, ht, hq, hP⟩ := sm_saveSnapshot (l := l) hI (S.2 (o + 1))
    exact g_less (by omega) (by omega) (lc_56 hs ho hS9 hSh s1 s2 h1 h2 (fun e9 => kont M2 s2 hP e9))
  | 57, _ =>
    refine g_tableIn (pc := 44) (tgt := 2724) (off := 2680) dL_law_44 (by decide) (by decide) (by decide) (by decide) ?_
    obtain ⟨kk, b, M1, M2, h1, h2, s1, s2, ht, hq, hP⟩ := sm_restoreSnapshot (l := l) hI (S.2 (o + 1))
    exact g_less (by omega) (by omega) (lc_57 hs ho hS9 hSh s1 s2 h1 h2 (fun e9 => kont M2 s2 hP e9))
  | 58, _ =>
    refine g_tableOut (pc := 44) (tgt := 2752) dL_law_44 (by decide) (by decide) ?_
    exact g_less (by omega) (by omega) kend
  | 59, _ =>
    refine g_tableOut (pc := 44) (tgt := 2752) dL_law_44 (by decide) (by decide) ?_
    exact g_less (by omega) (by omega) kend
  | 60, _ =>
    refine g_tableOut (pc := 44) (tgt := 2752) dL_law_44 (by decide) (by decide) ?_
    exact g_less (by omega) (by omega) kend
  | 61, _ =>
    refine g_tableOut (pc := 44) (tgt := 2752) dL_law_44 (by decide) (by decide) ?_
    exact g_less (by omega) (by omega) kend
  | 62, _ =>
    refine g_tableOut (pc := 44) (tgt := 2752) dL_law_44 (by decide) (by decide) ?_
    exact g_less (by omega) (by omega) kend
  | 63, _ =>
    refine g_tableOut (pc := 44) (tgt := 2752) dL_law_44 (by decide) (by decide) ?_
    exact g_less (by omega) (by omega) kend
  | j + 64, hj => exact absurd hj (by omega)
theorem len5 {L o : Nat} (hL : L < 1073741824) (ho : o < 1073741824) : nI L - 5 < nI o ↔ L < o + 5 := by
  by_cases h : 5 ≤ L
  · rw [show nI L - 5 = nI (L - 5) from nI_sub' h, nI_ltI (by omega) (by omega)]
    omega
  · have h2 : ∀ L, L < 5 → nI L - 5 < 0 := by decide +kernel
    constructor
    · intro _
      omega
    · intro _
      exact Int32.lt_of_lt_of_le (h2 L (by omega)) (Int32.not_lt.mp (nI_pos (by omega)))
/-- no more calls: true -/
theorem law_out (hs : mS M = S) (hL : S.1 < 1073741824) (ho : o < 1073741824) (h : S.1 < o + 5) (hQ : Q (.inl (some (.int 1))) M) : Go l jL_law 14 538 601024 7293034 Q 28 (AL o) [] k n M := by
  refine g_iload (pc := 28) dL_law_28 rfl ?_
  refine g_aload_n (pc := 30) dL_law_30 rfl isA_0 ?_
  refine g_scriptLenS (pc := 31) dL_law_31 hs ?_
  refine g_iconst (pc := 32) (v := 5) dL_law_32 rfl ?_
  refine g_isub (pc := 33) dL_law_33 ?_
  refine g_icmp_gt (pc := 34) (tgt := 2758) dL_law_34 rfl (fun _ => ?_) (fun h34 => absurd (((len5 hL ho).mpr h)) h34)
  refine g_iconst (pc := 2758) (v := 1) dL_law_2758 rfl ?_
  refine g_ireturn (pc := 2759) dL_law_2759 rfl rfl ?_
  exact hQ
/-- one more call -/
theorem law_in (hs : mS M = S) (hL : S.1 < 1073741824) (ho : o < 1073741824) (h : o + 5 ≤ S.1) (kk : Go l jL_law 14 538 601024 7293034 Q 44 (AL o) [.int (S.2 o &&& 63)] k n M) : Go l jL_law 14 538 601024 7293034 Q 28 (AL o) [] k n M := by
  refine g_iload (pc := 28) dL_law_28 rfl ?_
  refine g_aload_n (pc := 30) dL_law_30 rfl isA_0 ?_
  refine g_scriptLenS (pc := 31) dL_law_31 hs ?_
  refine g_iconst (pc := 32) (v := 5) dL_law_32 rfl ?_
  refine g_isub (pc := 33) dL_law_33 ?_
  refine g_icmp_gt (pc := 34) (tgt := 2758) dL_law_34 rfl (fun h34 => absurd h34 ((fun q => by have := (len5 hL ho).mp q; omega))) (fun _ => ?_)
  refine g_aload_n (pc := 37) dL_law_37 rfl isA_0 ?_
  refine g_iload (pc := 38) dL_law_38 rfl ?_
  refine g_scriptLoadS (pc := 40) dL_law_40 rfl hs (by omega) (by omega) ?_
  refine g_bipush (pc := 41) (v := 63) dL_law_41 rfl ?_
  refine g_iand (pc := 43) dL_law_43 ?_
  exact kk
/-- on to the next call -/
theorem law_nx (kk : Go l jL_law 14 538 601024 7293034 Q 28 (AL (o + 5)) [] k n M) : Go l jL_law 14 538 601024 7293034 Q 2752 (AL o) [] k n M := by
  refine g_iinc (pc := 2752) (lv' := [(0, _), (1, _), (2, _), (3, _), (4, _), (5, _)]) dL_law_2752 rfl (nI_o5 _) (nl rfl) rfl ?_
  refine g_goto (pc := 2755) (tgt := 28) dL_law_2755 rfl ?_
  exact g_sub (lv' := AL (o + 5)) ⟨rfl, rfl, rfl, rfl, rfl, rfl, trivial⟩ kk
end
end
-- 61.start
section
/-! the law's start; p1: at most one call -/
section
variable {l : Launch} {Q : Res → Mem → Prop} {k n : Nat} {M : Mem} {S : Nat × (Nat → Int32)} {o L : Nat} {xs : Nat → Int32}
theorem law_made' {Y Z : Mem} (hx1 : mX Y = true) (e1 : (mK Y).length = 198) (hk0 : (mK (nK (M00 L xs) (.inr 6)))[0]? = some (.inr 6)) (c6 : EvR l jX6_init 3 90 197 4149 [.ref 0] (nK (M00 L xs) (.inr 6)) (.inl none) Y) (c7 : EvR l jX7_init 1 30 13 3466 [.ref 198] (nK Y (.inr 7)) (.inl none) Z) (e3 : (mK Z).length = 212) (hx3 : mX Z = true)
    (kk : Go l jL_law 14 538 601024 7293034 Q 28 (AL 0) [] 600810 7285377 (sX (nK (nK Z (kL 1)) (.inl (.double, 1))))) : Go l jL_law 14 538 601024 7293034 Q 0 [(0, .retAddr 0)] [] 601024 7293034 (M00 L xs) := by
  have hk1 : (mK (nK Y (.inr 7)))[198]? = some (.inr 7) := by
    have h9 := nK_new (M := Y) (k := .inr 7)
    rw [e1] at h9
    exact h9
  have e4 : (mK (nK Z (kL 1))).length = 213 := nK_n e3
  refine g_new (pc := 0) (nf := 15) (n := 7293019) (k := 601023) (ci := 6) (ty0 := tyX6) dL_law_0 rfl wd_115 wd_116 wd_95 inW6 tyX6_ok (new_df6 _) rfl rfl ?_
  rw [show (mK (M00 L xs)).length = 0 from rfl]
  refine g_dup (pc := 3) dL_law_3 rfl ?_
  refine g_invI_r (pc := 4) (As := []) dL_law_4 rfl (c6) rfl rfl hk0 rfl rfl lk_L_182 rfl (nb rfl) ⟨nb rfl, nb rfl⟩ rfl ?_
  refine g_astore_n (pc := 7) (lv' := [(0, _), (1, _)]) dL_law_7 trivial (nl rfl) rfl ?_
  refine g_new (pc := 8) (nf := 25) (n := 7288845) (k := 600825) (ci := 7) (ty0 := tyX7) dL_law_8 rfl wd_1206 wd_1207 wd_102 inW7 tyX7_ok (new_df7 _) rfl hx1 ?_
  rw [e1]
  refine g_dup (pc := 11) dL_law_11 rfl ?_
  refine g_invI_r (pc := 12) (As := []) dL_law_12 rfl (c7) rfl rfl hk1 rfl rfl lk_L_185 rfl (nb rfl) ⟨nb rfl, nb rfl⟩ rfl ?_
  refine g_astore_n (pc := 15) (lv' := [(0, _), (1, _), (2, _)]) dL_law_15 trivial (nl rfl) rfl ?_
  refine g_iconst (pc := 16) (v := 1) dL_law_16 rfl ?_
  refine g_newarray_long (pc := 17) (len := 1) (n := 7285378) (k := 600811) dL_law_17 wd_1292 rfl (by decide) hx3 ?_
  rw [e3]
  refine g_astore_n (pc := 19) (lv' := [(0, _), (1, _), (2, _), (3, _)]) dL_law_19 trivial (nl rfl) rfl ?_
  refine g_iconst (pc := 20) (v := 1) dL_law_20 rfl ?_
  refine g_newarray_double (pc := 21) (len := 1) (n := 7285377) (k := 600810) dL_law_21 wd_1784 rfl (by decide) hx3 ?_
  rw [e4]
  refine g_astore (pc := 23) (lv' := [(0, _), (1, _), (2, _), (3, _), (4, _)]) dL_law_23 trivial (nl rfl) rfl ?_
  refine g_iconst (pc := 25) (v := 0) dL_law_25 rfl ?_
  refine g_istore (pc := 26) (lv' := [(0, _), (1, _), (2, _), (3, _), (4, _), (5, _)]) dL_law_26 (nl rfl) rfl ?_
  refine g_sub (pc := 28) (lv' := AL 0) ⟨rfl, rfl, rfl, rfl, rfl, rfl, trivial⟩ ?_
  exact g_sX kk
theorem X7M_K (M : Mem) (m : Nat) : mK (X7M M m) = mK (R0M M m) := rfl
theorem X7M_X (M : Mem) (m : Nat) : mX (X7M M m) = mX (R0M M m) := rfl
theorem law_made (kk : ∀ M, Frs M → mS M = (L, xs) → Go l jL_law 14 538 601024 7293034 Q 28 (AL 0) [] 600810 7285377 M) : Go l jL_law 14 538 601024 7293034 Q 0 [(0, .retAddr 0)] [] 601024 7293034 (M00 L xs) := by
  have hk0 : (mK (nK (M00 L xs) (.inr 6)))[0]? = some (.inr 6) := nK_new (M := M00 L xs)
  have e1 : (mK (X6M (nK (M00 L xs) (.inr 6)) 0)).length = 198 := (bOk_len (madeX L xs)).trans lenX6
  have hx1 := (madeX L xs).1
  have hk1 : (mK (nK (X6M (nK (M00 L xs) (.inr 6)) 0) (.inr 7)))[198]? = some (.inr 7) := by
    have h9 := nK_new (M := X6M (nK (M00 L xs) (.inr 6)) 0) (k := .inr 7)
    rw [e1] at h9
    exact h9
  have hF := (M0_f L xs).1
  have hS := (M0_f L xs).2
  have e3 : (mK (X7M (nK (X6M (nK (M00 L xs) (.inr 6)) 0) (.inr 7)) 198)).length = 212 := (congrArg List.length (X7M_K _ _)).trans ((bOk_len (made L xs)).trans BMd_N)
  have hx3 : mX (X7M (nK (X6M (nK (M00 L xs) (.inr 6)) 0) (.inr 7)) 198) = true := (X7M_X _ _).trans (made L xs).1
  rw [M0.eq_1] at hF hS
  have c6 := j_X6 (l := l) (M := nK (M00 L xs) (.inr 6)) (m := 0) rfl hk0
  have c7 := j_X7 (l := l) (M := nK (X6M (nK (M00 L xs) (.inr 6)) 0) (.inr 7)) (m := 198) (nK_x hx1) hk1
  generalize X7M (nK (X6M (nK (M00 L xs) (.inr 6)) 0) (.inr 7)) 198 = Z at *
  generalize X6M (nK (M00 L xs) (.inr 6)) 0 = Y at *
  exact law_made' hx1 e1 hk0 c6 c7 e3 hx3 (kk _ hF hS)
end
end
-- 62.go
section
/-! from a new desk, call by call -/
section
variable {l : Launch} {Q : Res → Mem → Prop} {M : Mem} {S : Nat × (Nat → Int32)} {L : Nat} {xs : Nat → Int32}
theorem fr_v (h : Frs M) {i j : Nat} {v : Int32} (hd : lkI FI i j = v) : mI M i j = v := by
  rw [h.2.1]
  exact hd
theorem fK_ok : ∀ q, q < 2 → ∀ s, s < 6 → FI.all (fun z => !Nat.beq z.1 (145 + 14 * q + 2 + 2 * s)) = true := by decide +kernel
theorem frs_IV (h : Frs M) : IV M 8 0 0 := by
  have hL : mL M 199 = bgF (fun _ => 0) 8 := fq_L (fq_0 h (Cf.rf M))
  have z : ∀ i, 2 ≤ i → mL M 199 i = 0 := fun i hi => by
    rw [hL]
    exact bg_ge hi
  refine ⟨h.1, ⟨⟨by decide, by decide, f_z h, by rw [hL]; decide +kernel⟩, ⟨4, by decide, by decide, f_bl h, by rw [hL]; decide +kernel⟩, ⟨0, fr_v h (by decide +kernel), z 2 (by decide)⟩, ⟨0, fr_v h (by decide +kernel), z 3 (by decide)⟩, fun s hs => ?_⟩, ⟨fr_v h (by decide +kernel), by decide, fr_v h (by decide +kernel), by decide, fr_v h (by decide +kernel), fun i hi => absurd hi (Nat.not_lt_zero i)⟩, fun q hq => ?_, fun s hs h1 => ?_, ⟨⟨0, by decide, fr_v h (by decide +kernel), fr_v h (by decide +kernel), fun i hi => absurd hi (Nat.not_lt_zero i)⟩, ?_, ?_⟩, fr_v h (by decide +kernel), fq_bs (fq_0 h (Cf.rf M)), ⟨0, by decide, fr_v h (by decide +kernel)⟩, 0, by decide, fr_v h (by decide +kernel)⟩
  · unfold SS
    rw [show 3 + 2 + 2 * s = 5 + 2 * s by omega, show 3 + 3 + 2 * s = 6 + 2 * s by omega, f_mx h hs, f_rows h hs, z _ (by omega), z _ (by omega), z _ (by omega), z _ (by omega)]
    refine ⟨⟨false, rfl, rfl⟩, rfl, rfl, rfl, fun r _ => ?_, fun r _ c _ => hb_0 c⟩
    rw [z _ (by omega)]
    exact uL_0.symm
  · refine ⟨fun s hs => ?_, Or.inl ⟨?_, ?_⟩⟩
    · rw [f_0 h (fK_ok q hq s hs)]
      exact Or.inl rfl
    · rw [f_0 h (i := 173) (by decide +kernel)]
    · rw [f_0 h (i := 203) (by decide +kernel)]
  · rw [f_cl0 h hs] at h1
    exact absurd rfl h1
  · rw [fr_v h (i := 198) (j := 14) (v := 0) (by decide +kernel), fr_v h (i := 1) (j := 5) (v := 0) (by decide +kernel)]
  · rw [fr_v h (i := 198) (j := 15) (v := -1) (by decide +kernel), fr_v h (i := 1) (j := 5) (v := 0) (by decide +kernel), if_pos rfl]
theorem law_loop (hL : S.1 < 1073741824) (hQ : ∀ M, Q (.inl (some (.int 1))) M) : ∀ (d o : Nat) (M : Mem), Inv M → Shp M → mS M = S → o + 5 * (d + 1) < 1073741824 → S.1 < o + 5 * (d + 1) → Go l jL_law 14 538 601024 7293034 Q 28 (AL o) [] (4 * d) (24 * d) M
  | 0, o, M, _, _, hs, ho, h => law_out hs hL (by omega) (by omega) (hQ _)
  | d + 1, o, M, hI, hSh, hs, ho, h => by
    by_cases h5 : o + 5 ≤ S.1
    · refine law_in hs hL (by omega) h5 ?_
      exact law_step (k := 4 * d) (n := 24 * d) hI hSh hs h5 (by omega) (fun M2 h1 hI2 h2 => law_nx (law_loop hL hQ d (o + 5) M2 hI2 h1 h2 (by omega) (by omega))) (law_nx (law_loop hL hQ d (o + 5) M hI hSh hs (by omega) (by omega)))
    · exact law_out hs hL (by omega) (by omega) (hQ _)
theorem law_go (hL : L ≤ 2560) (hQ : ∀ M, Q (.inl (some (.int 1))) M) : Go l jL_law 14 538 601024 7293034 Q 0 [(0, .retAddr 0)] [] 601024 7293034 (M00 L xs) := by
  refine law_made fun M hF hS => ?_
  have hL2 : ((L, xs) : Nat × (Nat → Int32)).1 ≤ 2560 := hL
  generalize ((L, xs) : Nat × (Nat → Int32)) = S at *
  refine g_less (k' := 4 * 512) (n' := 24 * 512) (Nat.le_of_ble_eq_true rfl) (Nat.le_of_ble_eq_true rfl) ?_
  exact law_loop (S := S) (by omega) hQ 512 0 M ⟨8, 0, 0, frs_IV hF⟩ hF.1 hS (by omega) (by omega)
end
end
