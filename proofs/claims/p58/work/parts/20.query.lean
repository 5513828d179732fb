/-! queries on rows: with arguments as asked, and without -/
section
variable {l : Launch} {M : Mem}
theorem in6 {s : Nat} (h : s < 6) : inR (nI s) 6 := inR_nI h (by decide)
theorem q_bit {s r c n : Nat} (hS : Shp M) (hz : mI M 3 1 = nI n) (hn : n ≤ 32) (hs : s < 6) (hr : r < n) (hc : c < n) : EvR l jX6_bit 9 160 3 18 [.ref 0, .int (nI s), .int (nI r), .int (nI c)] M (.inl (some (.int (b1 (hb (mI M (6 + 2 * s) r) c))))) M := by
  refine ev_intro rfl (nb rfl) rfl ?_
  refine g_aload_n (pc := 0) dX6_bit_0 rfl trivial ?_
  refine g_iload_n (pc := 1) dX6_bit_1 rfl ?_
  refine g_iload_n (pc := 2) dX6_bit_2 rfl ?_
  refine g_iload_n (pc := 3) dX6_bit_3 rfl ?_
  refine g_invV_r (pc := 4) (As := [_, _, _]) dX6_bit_4 rfl (s_needCell hS hz (in6 hs) (inR_nI hr (by omega)) (inR_nI hc (by omega))) rfl rfl (shK hS rfl) rfl rfl lk_X6_109 rfl (nb rfl) ⟨nb rfl, nb rfl⟩ rfl ?_
  refine g_aload_n (pc := 7) dX6_bit_7 rfl trivial ?_
  refine g_iload_n (pc := 8) dX6_bit_8 rfl ?_
  refine g_invV_r (pc := 9) (As := [_]) dX6_bit_9 rfl (s_rowsOf hS hs) rfl rfl (shK hS rfl) rfl rfl lk_X6_112 rfl (nb rfl) ⟨nb rfl, nb rfl⟩ rfl ?_
  refine g_iload_n (pc := 12) dX6_bit_12 rfl ?_
  refine g_iaload (pc := 13) dX6_bit_13 (shK hS (rows_lay hs)) rfl (by omega) (nl rfl) ?_
  refine g_iload_n (pc := 14) dX6_bit_14 rfl ?_
  refine g_invS_r (pc := 15) (As := [_, _]) dX6_bit_15 rfl (s_hasOne (by omega)) rfl rfl lk_X6_116 rfl (nb rfl) ⟨nb rfl, nb rfl⟩ rfl ?_
  refine g_if_eq (pc := 18) (tgt := 25) dX6_bit_18 rfl (fun h18 => ?_) (fun h18 => ?_)
  · rw [b1_0] at h18
    refine g_iconst (pc := 25) (v := 0) dX6_bit_25 rfl ?_
    refine g_ireturn (pc := 26) dX6_bit_26 rfl rfl ?_
    exact ⟨by rw [h18]; rfl, rfl⟩
  · rw [b1_0, Bool.not_eq_false] at h18
    refine g_iconst (pc := 21) (v := 1) dX6_bit_21 rfl ?_
    refine g_goto (pc := 22) (tgt := 26) dX6_bit_22 rfl ?_
    refine g_ireturn (pc := 26) dX6_bit_26 rfl rfl ?_
    exact ⟨by rw [h18]; rfl, rfl⟩
theorem x_bit {v w u : Int32} {n : Nat} (hS : Shp M) (hz : mI M 3 1 = nI n) (h : ¬ (inR v 6 ∧ inR w n ∧ inR u n)) : EvR l jX6_bit 9 160 3 18 [.ref 0, .int v, .int w, .int u] M (.inr xIO) M := by
  refine ev_intro rfl (nb rfl) rfl ?_
  refine g_aload_n (pc := 0) dX6_bit_0 rfl trivial ?_
  refine g_iload_n (pc := 1) dX6_bit_1 rfl ?_
  refine g_iload_n (pc := 2) dX6_bit_2 rfl ?_
  refine g_iload_n (pc := 3) dX6_bit_3 rfl ?_
  refine g_invV_x (pc := 4) (As := [_, _, _]) dX6_bit_4 rfl (x_needCell hS hz h) rfl rfl (shK hS rfl) rfl rfl lk_X6_109 rfl (nb rfl) ⟨nb rfl, nb rfl⟩ rfl ?_
  exact ⟨rfl, rfl⟩
theorem q_row {s r n : Nat} (hS : Shp M) (hz : mI M 3 1 = nI n) (hn : n ≤ 32) (hs : s < 6) (hr : r < n) : EvR l jX6_row 8 140 2 12 [.ref 0, .int (nI s), .int (nI r)] M (.inl (some (.long ((mI M (6 + 2 * s) r).toInt64 &&& 4294967295)))) M := by
  refine ev_intro rfl (nb rfl) rfl ?_
  refine g_aload_n (pc := 0) dX6_row_0 rfl trivial ?_
  refine g_iload_n (pc := 1) dX6_row_1 rfl ?_
  refine g_iload_n (pc := 2) dX6_row_2 rfl ?_
  refine g_invV_r (pc := 3) (As := [_, _]) dX6_row_3 rfl (s_needRow hS hz (in6 hs) (inR_nI hr (by omega))) rfl rfl (shK hS rfl) rfl rfl lk_X6_120 rfl (nb rfl) ⟨nb rfl, nb rfl⟩ rfl ?_
  refine g_aload_n (pc := 6) dX6_row_6 rfl trivial ?_
  refine g_iload_n (pc := 7) dX6_row_7 rfl ?_
  refine g_invV_r (pc := 8) (As := [_]) dX6_row_8 rfl (s_rowsOf hS hs) rfl rfl (shK hS rfl) rfl rfl lk_X6_112 rfl (nb rfl) ⟨nb rfl, nb rfl⟩ rfl ?_
  refine g_iload_n (pc := 11) dX6_row_11 rfl ?_
  refine g_iaload (pc := 12) dX6_row_12 (shK hS (rows_lay hs)) rfl (by omega) (nl rfl) ?_
  refine g_invS_r (pc := 13) (As := [_]) dX6_row_13 rfl (s_unsigned) rfl rfl lk_X6_124 rfl (nb rfl) ⟨nb rfl, nb rfl⟩ rfl ?_
  refine g_lreturn (pc := 16) dX6_row_16 rfl ?_
  exact ⟨rfl, rfl⟩
theorem x_row {v w : Int32} {n : Nat} (hS : Shp M) (hz : mI M 3 1 = nI n) (h : ¬ (inR v 6 ∧ inR w n)) : EvR l jX6_row 8 140 2 12 [.ref 0, .int v, .int w] M (.inr xIO) M := by
  refine ev_intro rfl (nb rfl) rfl ?_
  refine g_aload_n (pc := 0) dX6_row_0 rfl trivial ?_
  refine g_iload_n (pc := 1) dX6_row_1 rfl ?_
  refine g_iload_n (pc := 2) dX6_row_2 rfl ?_
  refine g_invV_x (pc := 3) (As := [_, _]) dX6_row_3 rfl (x_needRow hS hz h) rfl rfl (shK hS rfl) rfl rfl lk_X6_120 rfl (nb rfl) ⟨nb rfl, nb rfl⟩ rfl ?_
  exact ⟨rfl, rfl⟩
theorem q_rank {s r c n : Nat} (hS : Shp M) (hz : mI M 3 1 = nI n) (hn : n ≤ 32) (hs : s < 6) (hr : r < n) (hc : c ≤ n) : EvR l jX6_rank 8 140 3 18 [.ref 0, .int (nI s), .int (nI r), .int (nI c)] M (.inl (some (.int (bcJ (mI M (6 + 2 * s) r &&& lowM c))))) M := by
  refine ev_intro rfl (nb rfl) rfl ?_
  refine g_aload_n (pc := 0) dX6_rank_0 rfl trivial ?_
  refine g_iload_n (pc := 1) dX6_rank_1 rfl ?_
  refine g_iload_n (pc := 2) dX6_rank_2 rfl ?_
  refine g_invV_r (pc := 3) (As := [_, _]) dX6_rank_3 rfl (s_needRow hS hz (in6 hs) (inR_nI hr (by omega))) rfl rfl (shK hS rfl) rfl rfl lk_X6_120 rfl (nb rfl) ⟨nb rfl, nb rfl⟩ rfl ?_
  refine g_aload_n (pc := 6) dX6_rank_6 rfl trivial ?_
  refine g_iload_n (pc := 7) dX6_rank_7 rfl ?_
  refine g_iconst (pc := 8) (v := 0) dX6_rank_8 rfl ?_
  refine g_aload_n (pc := 9) dX6_rank_9 rfl trivial ?_
  refine g_getf (pc := 10) dX6_rank_10 fk_X6_19 (shK hS rfl) (fv_obj (shR hS rfl)) ?_
  refine g_getf (pc := 13) (v := .int _) dX6_rank_13 fk_X6_89 (shK hS rfl) (fun _ => congrArg Value.int (hz)) ?_
  refine g_invV_r (pc := 16) (As := [_, _, _]) dX6_rank_16 rfl (s_needRange (nI_pos (by omega)) (nI_le hc (by omega))) rfl rfl (shK hS rfl) rfl rfl lk_X6_95 rfl (nb rfl) ⟨nb rfl, nb rfl⟩ rfl ?_
  refine g_aload_n (pc := 19) dX6_rank_19 rfl trivial ?_
  refine g_iload_n (pc := 20) dX6_rank_20 rfl ?_
  refine g_invV_r (pc := 21) (As := [_]) dX6_rank_21 rfl (s_rowsOf hS hs) rfl rfl (shK hS rfl) rfl rfl lk_X6_112 rfl (nb rfl) ⟨nb rfl, nb rfl⟩ rfl ?_
  refine g_iload_n (pc := 24) dX6_rank_24 rfl ?_
  refine g_iaload (pc := 25) dX6_rank_25 (shK hS (rows_lay hs)) rfl (by omega) (nl rfl) ?_
  refine g_iload_n (pc := 26) dX6_rank_26 rfl ?_
  refine g_invS_r (pc := 27) (As := [_]) dX6_rank_27 rfl (s_lowest (show c ≤ 32 by omega)) rfl rfl lk_X6_128 rfl (nb rfl) ⟨nb rfl, nb rfl⟩ rfl ?_
  refine g_iand (pc := 30) dX6_rank_30 ?_
  refine g_invS_r (pc := 31) (As := [_]) dX6_rank_31 rfl (s_bitCount) rfl rfl lk_X6_132 rfl (nb rfl) ⟨nb rfl, nb rfl⟩ rfl ?_
  refine g_ireturn (pc := 34) dX6_rank_34 rfl rfl ?_
  exact ⟨rfl, rfl⟩
theorem x_rank {v w u : Int32} {n : Nat} (hS : Shp M) (hz : mI M 3 1 = nI n) (h : ¬ (inR v 6 ∧ inR w n)) : EvR l jX6_rank 8 140 3 18 [.ref 0, .int v, .int w, .int u] M (.inr xIO) M := by
  refine ev_intro rfl (nb rfl) rfl ?_
  refine g_aload_n (pc := 0) dX6_rank_0 rfl trivial ?_
  refine g_iload_n (pc := 1) dX6_rank_1 rfl ?_
  refine g_iload_n (pc := 2) dX6_rank_2 rfl ?_
  refine g_invV_x (pc := 3) (As := [_, _]) dX6_rank_3 rfl (x_needRow hS hz h) rfl rfl (shK hS rfl) rfl rfl lk_X6_120 rfl (nb rfl) ⟨nb rfl, nb rfl⟩ rfl ?_
  exact ⟨rfl, rfl⟩
theorem y_rank {v w u : Int32} {n : Nat} (hS : Shp M) (hz : mI M 3 1 = nI n) (h : inR v 6) (h' : inR w n) (h2 : ¬ (¬ u < 0 ∧ u ≤ nI n)) : EvR l jX6_rank 8 140 3 18 [.ref 0, .int v, .int w, .int u] M (.inr xIA) M := by
  refine ev_intro rfl (nb rfl) rfl ?_
  refine g_aload_n (pc := 0) dX6_rank_0 rfl trivial ?_
  refine g_iload_n (pc := 1) dX6_rank_1 rfl ?_
  refine g_iload_n (pc := 2) dX6_rank_2 rfl ?_
  refine g_invV_r (pc := 3) (As := [_, _]) dX6_rank_3 rfl (s_needRow hS hz h h') rfl rfl (shK hS rfl) rfl rfl lk_X6_120 rfl (nb rfl) ⟨nb rfl, nb rfl⟩ rfl ?_
  refine g_aload_n (pc := 6) dX6_rank_6 rfl trivial ?_
  refine g_iload_n (pc := 7) dX6_rank_7 rfl ?_
  refine g_iconst (pc := 8) (v := 0) dX6_rank_8 rfl ?_
  refine g_aload_n (pc := 9) dX6_rank_9 rfl trivial ?_
  refine g_getf (pc := 10) dX6_rank_10 fk_X6_19 (shK hS rfl) (fv_obj (shR hS rfl)) ?_
  refine g_getf (pc := 13) (v := .int _) dX6_rank_13 fk_X6_89 (shK hS rfl) (fun _ => congrArg Value.int (hz)) ?_
  refine g_invV_x (pc := 16) (As := [_, _, _]) dX6_rank_16 rfl (x_needRange hS h2) rfl rfl (shK hS rfl) rfl rfl lk_X6_95 rfl (nb rfl) ⟨nb rfl, nb rfl⟩ rfl ?_
  exact ⟨rfl, rfl⟩
theorem q_select {s r n : Nat} {x : Int32} (hS : Shp M) (hz : mI M 3 1 = nI n) (hn : n ≤ 32) (hs : s < 6) (hr : r < n) : EvR l jX6_select 8 140 2 12 [.ref 0, .int (nI s), .int (nI r), .int x] M (.inl (some (.int (selG (mI M (6 + 2 * s) r) x 32 0 0)))) M := by
  refine ev_intro rfl (nb rfl) rfl ?_
  refine g_aload_n (pc := 0) dX6_select_0 rfl trivial ?_
  refine g_iload_n (pc := 1) dX6_select_1 rfl ?_
  refine g_iload_n (pc := 2) dX6_select_2 rfl ?_
  refine g_invV_r (pc := 3) (As := [_, _]) dX6_select_3 rfl (s_needRow hS hz (in6 hs) (inR_nI hr (by omega))) rfl rfl (shK hS rfl) rfl rfl lk_X6_120 rfl (nb rfl) ⟨nb rfl, nb rfl⟩ rfl ?_
  refine g_aload_n (pc := 6) dX6_select_6 rfl trivial ?_
  refine g_iload_n (pc := 7) dX6_select_7 rfl ?_
  refine g_invV_r (pc := 8) (As := [_]) dX6_select_8 rfl (s_rowsOf hS hs) rfl rfl (shK hS rfl) rfl rfl lk_X6_112 rfl (nb rfl) ⟨nb rfl, nb rfl⟩ rfl ?_
  refine g_iload_n (pc := 11) dX6_select_11 rfl ?_
  refine g_iaload (pc := 12) dX6_select_12 (shK hS (rows_lay hs)) rfl (by omega) (nl rfl) ?_
  refine g_iload_n (pc := 13) dX6_select_13 rfl ?_
  refine g_invS_r (pc := 14) (As := [_, _]) dX6_select_14 rfl (s_oneAt) rfl rfl lk_X6_137 rfl (nb rfl) ⟨nb rfl, nb rfl⟩ rfl ?_
  refine g_ireturn (pc := 17) dX6_select_17 rfl rfl ?_
  exact ⟨rfl, rfl⟩
theorem x_select {v w x : Int32} {n : Nat} (hS : Shp M) (hz : mI M 3 1 = nI n) (h : ¬ (inR v 6 ∧ inR w n)) : EvR l jX6_select 8 140 2 12 [.ref 0, .int v, .int w, .int x] M (.inr xIO) M := by
  refine ev_intro rfl (nb rfl) rfl ?_
  refine g_aload_n (pc := 0) dX6_select_0 rfl trivial ?_
  refine g_iload_n (pc := 1) dX6_select_1 rfl ?_
  refine g_iload_n (pc := 2) dX6_select_2 rfl ?_
  refine g_invV_x (pc := 3) (As := [_, _]) dX6_select_3 rfl (x_needRow hS hz h) rfl rfl (shK hS rfl) rfl rfl lk_X6_120 rfl (nb rfl) ⟨nb rfl, nb rfl⟩ rfl ?_
  exact ⟨rfl, rfl⟩
theorem q_ones {s n : Nat} (hS : Shp M) (hz : mI M 3 1 = nI n) (hn : n ≤ 32) (hs : s < 6) : EvR l jX6_ones 7 120 1 6 [.ref 0, .int (nI s)] M (.inl (some (.int (onesF (mI M (6 + 2 * s)) n)))) M := by
  refine ev_intro rfl (nb rfl) rfl ?_
  refine g_aload_n (pc := 0) dX6_ones_0 rfl trivial ?_
  refine g_iload_n (pc := 1) dX6_ones_1 rfl ?_
  refine g_invV_r (pc := 2) (As := [_]) dX6_ones_2 rfl (s_needSlot (in6 hs)) rfl rfl (shK hS rfl) rfl rfl lk_X6_141 rfl (nb rfl) ⟨nb rfl, nb rfl⟩ rfl ?_
  refine g_aload_n (pc := 5) dX6_ones_5 rfl trivial ?_
  refine g_iload_n (pc := 6) dX6_ones_6 rfl ?_
  refine g_invV_r (pc := 7) (As := [_]) dX6_ones_7 rfl (s_rowsOf hS hs) rfl rfl (shK hS rfl) rfl rfl lk_X6_112 rfl (nb rfl) ⟨nb rfl, nb rfl⟩ rfl ?_
  refine g_aload_n (pc := 10) dX6_ones_10 rfl trivial ?_
  refine g_getf (pc := 11) dX6_ones_11 fk_X6_19 (shK hS rfl) (fv_obj (shR hS rfl)) ?_
  refine g_getf (pc := 14) (v := .int _) dX6_ones_14 fk_X6_89 (shK hS rfl) (fun _ => congrArg Value.int (hz)) ?_
  refine g_invS_r (pc := 17) (As := [_, _]) dX6_ones_17 rfl (s_onesOf (shK hS (rows_lay hs)) hn) rfl rfl lk_X6_145 rfl (nb rfl) ⟨nb rfl, nb rfl⟩ rfl ?_
  refine g_ireturn (pc := 20) dX6_ones_20 rfl rfl ?_
  exact ⟨rfl, rfl⟩
theorem x_ones {v : Int32} (hS : Shp M) (h : ¬ inR v 6) : EvR l jX6_ones 7 120 1 6 [.ref 0, .int v] M (.inr xIO) M := by
  refine ev_intro rfl (nb rfl) rfl ?_
  refine g_aload_n (pc := 0) dX6_ones_0 rfl trivial ?_
  refine g_iload_n (pc := 1) dX6_ones_1 rfl ?_
  refine g_invV_x (pc := 2) (As := [_]) dX6_ones_2 rfl (x_needSlot hS h) rfl rfl (shK hS rfl) rfl rfl lk_X6_141 rfl (nb rfl) ⟨nb rfl, nb rfl⟩ rfl ?_
  exact ⟨rfl, rfl⟩
theorem q_columnOnes {s c n : Nat} (hS : Shp M) (hz : mI M 3 1 = nI n) (hn : n ≤ 32) (hs : s < 6) (hc : c < n) : EvR l jX6_columnOnes 8 140 2 12 [.ref 0, .int (nI s), .int (nI c)] M (.inl (some (.int (bcJ (colOf (mI M (6 + 2 * s)) c n))))) M := by
  refine ev_intro rfl (nb rfl) rfl ?_
  refine g_aload_n (pc := 0) dX6_columnOnes_0 rfl trivial ?_
  refine g_iload_n (pc := 1) dX6_columnOnes_1 rfl ?_
  refine g_iload_n (pc := 2) dX6_columnOnes_2 rfl ?_
  refine g_invV_r (pc := 3) (As := [_, _]) dX6_columnOnes_3 rfl (s_needRow hS hz (in6 hs) (inR_nI hc (by omega))) rfl rfl (shK hS rfl) rfl rfl lk_X6_120 rfl (nb rfl) ⟨nb rfl, nb rfl⟩ rfl ?_
  refine g_aload_n (pc := 6) dX6_columnOnes_6 rfl trivial ?_
  refine g_iload_n (pc := 7) dX6_columnOnes_7 rfl ?_
  refine g_invV_r (pc := 8) (As := [_]) dX6_columnOnes_8 rfl (s_rowsOf hS hs) rfl rfl (shK hS rfl) rfl rfl lk_X6_112 rfl (nb rfl) ⟨nb rfl, nb rfl⟩ rfl ?_
  refine g_iload_n (pc := 11) dX6_columnOnes_11 rfl ?_
  refine g_aload_n (pc := 12) dX6_columnOnes_12 rfl trivial ?_
  refine g_getf (pc := 13) dX6_columnOnes_13 fk_X6_19 (shK hS rfl) (fv_obj (shR hS rfl)) ?_
  refine g_getf (pc := 16) (v := .int _) dX6_columnOnes_16 fk_X6_89 (shK hS rfl) (fun _ => congrArg Value.int (hz)) ?_
  refine g_invS_r (pc := 19) (As := [_, _, _]) dX6_columnOnes_19 rfl (s_columnOf (shK hS (rows_lay hs)) (show c < 32 by omega) hn) rfl rfl lk_X6_149 rfl (nb rfl) ⟨nb rfl, nb rfl⟩ rfl ?_
  refine g_invS_r (pc := 22) (As := [_]) dX6_columnOnes_22 rfl (s_bitCount) rfl rfl lk_X6_132 rfl (nb rfl) ⟨nb rfl, nb rfl⟩ rfl ?_
  refine g_ireturn (pc := 25) dX6_columnOnes_25 rfl rfl ?_
  exact ⟨rfl, rfl⟩
theorem x_columnOnes {v w : Int32} {n : Nat} (hS : Shp M) (hz : mI M 3 1 = nI n) (h : ¬ (inR v 6 ∧ inR w n)) : EvR l jX6_columnOnes 8 140 2 12 [.ref 0, .int v, .int w] M (.inr xIO) M := by
  refine ev_intro rfl (nb rfl) rfl ?_
  refine g_aload_n (pc := 0) dX6_columnOnes_0 rfl trivial ?_
  refine g_iload_n (pc := 1) dX6_columnOnes_1 rfl ?_
  refine g_iload_n (pc := 2) dX6_columnOnes_2 rfl ?_
  refine g_invV_x (pc := 3) (As := [_, _]) dX6_columnOnes_3 rfl (x_needRow hS hz h) rfl rfl (shK hS rfl) rfl rfl lk_X6_120 rfl (nb rfl) ⟨nb rfl, nb rfl⟩ rfl ?_
  exact ⟨rfl, rfl⟩
theorem q_sameAs {s r n : Nat} (hS : Shp M) (hz : mI M 3 1 = nI n) (hn : n ≤ 32) (hs : s < 6) (hr : r < n) : EvR l jX6_sameAs 8 140 2 12 [.ref 0, .int (nI s), .int (nI r)] M (.inl (some (.int (firstEq (mI M (6 + 2 * s)) (mI M (6 + 2 * s) r) n 0)))) M := by
  refine ev_intro rfl (nb rfl) rfl ?_
  refine g_aload_n (pc := 0) dX6_sameAs_0 rfl trivial ?_
  refine g_iload_n (pc := 1) dX6_sameAs_1 rfl ?_
  refine g_iload_n (pc := 2) dX6_sameAs_2 rfl ?_
  refine g_invV_r (pc := 3) (As := [_, _]) dX6_sameAs_3 rfl (s_needRow hS hz (in6 hs) (inR_nI hr (by omega))) rfl rfl (shK hS rfl) rfl rfl lk_X6_120 rfl (nb rfl) ⟨nb rfl, nb rfl⟩ rfl ?_
  refine g_aload_n (pc := 6) dX6_sameAs_6 rfl trivial ?_
  refine g_aload_n (pc := 7) dX6_sameAs_7 rfl trivial ?_
  refine g_iload_n (pc := 8) dX6_sameAs_8 rfl ?_
  refine g_invV_r (pc := 9) (As := [_]) dX6_sameAs_9 rfl (s_rowsOf hS hs) rfl rfl (shK hS rfl) rfl rfl lk_X6_112 rfl (nb rfl) ⟨nb rfl, nb rfl⟩ rfl ?_
  refine g_aload_n (pc := 12) dX6_sameAs_12 rfl trivial ?_
  refine g_iload_n (pc := 13) dX6_sameAs_13 rfl ?_
  refine g_invV_r (pc := 14) (As := [_]) dX6_sameAs_14 rfl (s_rowsOf hS hs) rfl rfl (shK hS rfl) rfl rfl lk_X6_112 rfl (nb rfl) ⟨nb rfl, nb rfl⟩ rfl ?_
  refine g_iload_n (pc := 17) dX6_sameAs_17 rfl ?_
  refine g_iaload (pc := 18) dX6_sameAs_18 (shK hS (rows_lay hs)) rfl (by omega) (nl rfl) ?_
  refine g_invV_r (pc := 19) (As := [_, _]) dX6_sameAs_19 rfl (s_firstEqual hS (shK hS (rows_lay hs)) hz hn) rfl rfl (shK hS rfl) rfl rfl lk_X6_153 rfl (nb rfl) ⟨nb rfl, nb rfl⟩ rfl ?_
  refine g_ireturn (pc := 22) dX6_sameAs_22 rfl rfl ?_
  exact ⟨rfl, rfl⟩
theorem x_sameAs {v w : Int32} {n : Nat} (hS : Shp M) (hz : mI M 3 1 = nI n) (h : ¬ (inR v 6 ∧ inR w n)) : EvR l jX6_sameAs 8 140 2 12 [.ref 0, .int v, .int w] M (.inr xIO) M := by
  refine ev_intro rfl (nb rfl) rfl ?_
  refine g_aload_n (pc := 0) dX6_sameAs_0 rfl trivial ?_
  refine g_iload_n (pc := 1) dX6_sameAs_1 rfl ?_
  refine g_iload_n (pc := 2) dX6_sameAs_2 rfl ?_
  refine g_invV_x (pc := 3) (As := [_, _]) dX6_sameAs_3 rfl (x_needRow hS hz h) rfl rfl (shK hS rfl) rfl rfl lk_X6_120 rfl (nb rfl) ⟨nb rfl, nb rfl⟩ rfl ?_
  exact ⟨rfl, rfl⟩
theorem q_classes {s n : Nat} (hS : Shp M) (hz : mI M 3 1 = nI n) (hn : n ≤ 32) (hs : s < 6) : EvR l jX6_classes 7 120 1 6 [.ref 0, .int (nI s)] M (.inl (some (.int (frN (mI M (6 + 2 * s)) n n)))) M := by
  refine ev_intro rfl (nb rfl) rfl ?_
  refine g_aload_n (pc := 0) dX6_classes_0 rfl trivial ?_
  refine g_iload_n (pc := 1) dX6_classes_1 rfl ?_
  refine g_invV_r (pc := 2) (As := [_]) dX6_classes_2 rfl (s_needSlot (in6 hs)) rfl rfl (shK hS rfl) rfl rfl lk_X6_141 rfl (nb rfl) ⟨nb rfl, nb rfl⟩ rfl ?_
  refine g_aload_n (pc := 5) dX6_classes_5 rfl trivial ?_
  refine g_aload_n (pc := 6) dX6_classes_6 rfl trivial ?_
  refine g_iload_n (pc := 7) dX6_classes_7 rfl ?_
  refine g_invV_r (pc := 8) (As := [_]) dX6_classes_8 rfl (s_rowsOf hS hs) rfl rfl (shK hS rfl) rfl rfl lk_X6_112 rfl (nb rfl) ⟨nb rfl, nb rfl⟩ rfl ?_
  refine g_aload_n (pc := 11) dX6_classes_11 rfl trivial ?_
  refine g_getf (pc := 12) dX6_classes_12 fk_X6_19 (shK hS rfl) (fv_obj (shR hS rfl)) ?_
  refine g_getf (pc := 15) (v := .int _) dX6_classes_15 fk_X6_89 (shK hS rfl) (fun _ => congrArg Value.int (hz)) ?_
  refine g_invV_r (pc := 18) (As := [_, _]) dX6_classes_18 rfl (s_firstRows hS (shK hS (rows_lay hs)) hz hn hn) rfl rfl (shK hS rfl) rfl rfl lk_X6_156 rfl (nb rfl) ⟨nb rfl, nb rfl⟩ rfl ?_
  refine g_ireturn (pc := 21) dX6_classes_21 rfl rfl ?_
  exact ⟨rfl, rfl⟩
theorem x_classes {v : Int32} (hS : Shp M) (h : ¬ inR v 6) : EvR l jX6_classes 7 120 1 6 [.ref 0, .int v] M (.inr xIO) M := by
  refine ev_intro rfl (nb rfl) rfl ?_
  refine g_aload_n (pc := 0) dX6_classes_0 rfl trivial ?_
  refine g_iload_n (pc := 1) dX6_classes_1 rfl ?_
  refine g_invV_x (pc := 2) (As := [_]) dX6_classes_2 rfl (x_needSlot hS h) rfl rfl (shK hS rfl) rfl rfl lk_X6_141 rfl (nb rfl) ⟨nb rfl, nb rfl⟩ rfl ?_
  exact ⟨rfl, rfl⟩
/-- the first row equal to a row is a row up to it -/
theorem firstEq_le (f : Nat → Int32) (r : Nat) : ∀ d i, i ≤ r → r < i + d → ∃ j, j ≤ r ∧ firstEq f (f r) d i = nI j
  | 0, i, h, h' => by omega
  | d + 1, i, h, h' => by
    rw [firstEq]
    by_cases h9 : f i = f r
    · rw [if_pos h9]; exact ⟨i, h, rfl⟩
    · rw [if_neg h9]
      have hne : i ≠ r := fun q => h9 (by rw [q])
      exact firstEq_le f r d (i + 1) (by omega) (by omega)
def firstN (f : Nat → Int32) (r n : Nat) : Nat := (firstEq f (f r) n 0).toNatClampNeg
theorem firstN_ok {f : Nat → Int32} {r n : Nat} (hr : r < n) (hn : n ≤ 32) : firstEq f (f r) n 0 = nI (firstN f r n) ∧ firstN f r n ≤ r := by
  obtain ⟨j, h1, h2⟩ := firstEq_le f r n 0 (Nat.zero_le _) (by omega)
  unfold firstN
  rw [h2, nI_clamp (by omega)]
  exact ⟨rfl, h1⟩
theorem q_classOf {s r n : Nat} (hS : Shp M) (hz : mI M 3 1 = nI n) (hn : n ≤ 32) (hs : s < 6) (hr : r < n) : EvR l jX6_classOf 8 140 2 12 [.ref 0, .int (nI s), .int (nI r)] M (.inl (some (.int (frN (mI M (6 + 2 * s)) n (firstN (mI M (6 + 2 * s)) r n))))) M := by
  obtain ⟨f1, f2⟩ := firstN_ok (f := mI M (6 + 2 * s)) hr hn
  refine ev_intro rfl (nb rfl) rfl ?_
  refine g_aload_n (pc := 0) dX6_classOf_0 rfl trivial ?_
  refine g_iload_n (pc := 1) dX6_classOf_1 rfl ?_
  refine g_iload_n (pc := 2) dX6_classOf_2 rfl ?_
  refine g_invV_r (pc := 3) (As := [_, _]) dX6_classOf_3 rfl (s_needRow hS hz (in6 hs) (inR_nI hr (by omega))) rfl rfl (shK hS rfl) rfl rfl lk_X6_120 rfl (nb rfl) ⟨nb rfl, nb rfl⟩ rfl ?_
  refine g_aload_n (pc := 6) dX6_classOf_6 rfl trivial ?_
  refine g_iload_n (pc := 7) dX6_classOf_7 rfl ?_
  refine g_invV_r (pc := 8) (As := [_]) dX6_classOf_8 rfl (s_rowsOf hS hs) rfl rfl (shK hS rfl) rfl rfl lk_X6_112 rfl (nb rfl) ⟨nb rfl, nb rfl⟩ rfl ?_
  refine g_astore_n (pc := 11) (lv' := [(0, _), (1, _), (2, _), (3, _)]) dX6_classOf_11 trivial (nl rfl) rfl ?_
  refine g_aload_n (pc := 12) dX6_classOf_12 rfl trivial ?_
  refine g_aload_n (pc := 13) dX6_classOf_13 rfl trivial ?_
  refine g_aload_n (pc := 14) dX6_classOf_14 rfl trivial ?_
  refine g_aload_n (pc := 15) dX6_classOf_15 rfl trivial ?_
  refine g_aload_n (pc := 16) dX6_classOf_16 rfl trivial ?_
  refine g_iload_n (pc := 17) dX6_classOf_17 rfl ?_
  refine g_iaload (pc := 18) dX6_classOf_18 (shK hS (rows_lay hs)) rfl (by omega) (nl rfl) ?_
  refine g_invV_r (pc := 19) (As := [_, _]) dX6_classOf_19 rfl (s_firstEqual hS (shK hS (rows_lay hs)) hz hn) rfl rfl (shK hS rfl) rfl rfl lk_X6_153 rfl (nb rfl) ⟨nb rfl, nb rfl⟩ rfl ?_
  rw [f1]
  refine g_invV_r (pc := 22) (As := [_, _]) dX6_classOf_22 rfl (s_firstRows hS (shK hS (rows_lay hs)) hz hn (by omega)) rfl rfl (shK hS rfl) rfl rfl lk_X6_156 rfl (nb rfl) ⟨nb rfl, nb rfl⟩ rfl ?_
  refine g_ireturn (pc := 25) dX6_classOf_25 rfl rfl ?_
  exact ⟨rfl, rfl⟩
theorem x_classOf {v w : Int32} {n : Nat} (hS : Shp M) (hz : mI M 3 1 = nI n) (h : ¬ (inR v 6 ∧ inR w n)) : EvR l jX6_classOf 8 140 2 12 [.ref 0, .int v, .int w] M (.inr xIO) M := by
  refine ev_intro rfl (nb rfl) rfl ?_
  refine g_aload_n (pc := 0) dX6_classOf_0 rfl trivial ?_
  refine g_iload_n (pc := 1) dX6_classOf_1 rfl ?_
  refine g_iload_n (pc := 2) dX6_classOf_2 rfl ?_
  refine g_invV_x (pc := 3) (As := [_, _]) dX6_classOf_3 rfl (x_needRow hS hz h) rfl rfl (shK hS rfl) rfl rfl lk_X6_120 rfl (nb rfl) ⟨nb rfl, nb rfl⟩ rfl ?_
  exact ⟨rfl, rfl⟩
theorem q_find {s n : Nat} {x : Int64} (hS : Shp M) (hz : mI M 3 1 = nI n) (hn : n ≤ 32) (hs : s < 6) : EvR l jX6_find 7 120 1 6 [.ref 0, .int (nI s), .long x] M (.inl (some (.int (firstEq (mI M (6 + 2 * s)) (x.toInt32 &&& lowM n) n 0)))) M := by
  refine ev_intro rfl (nb rfl) rfl ?_
  refine g_aload_n (pc := 0) dX6_find_0 rfl trivial ?_
  refine g_iload_n (pc := 1) dX6_find_1 rfl ?_
  refine g_invV_r (pc := 2) (As := [_]) dX6_find_2 rfl (s_needSlot (in6 hs)) rfl rfl (shK hS rfl) rfl rfl lk_X6_141 rfl (nb rfl) ⟨nb rfl, nb rfl⟩ rfl ?_
  refine g_aload_n (pc := 5) dX6_find_5 rfl trivial ?_
  refine g_aload_n (pc := 6) dX6_find_6 rfl trivial ?_
  refine g_iload_n (pc := 7) dX6_find_7 rfl ?_
  refine g_invV_r (pc := 8) (As := [_]) dX6_find_8 rfl (s_rowsOf hS hs) rfl rfl (shK hS rfl) rfl rfl lk_X6_112 rfl (nb rfl) ⟨nb rfl, nb rfl⟩ rfl ?_
  refine g_lload_n (pc := 11) dX6_find_11 rfl ?_
  refine g_l2i (pc := 12) dX6_find_12 rfl ?_
  refine g_aload_n (pc := 13) dX6_find_13 rfl trivial ?_
  refine g_getf (pc := 14) dX6_find_14 fk_X6_19 (shK hS rfl) (fv_obj (shR hS rfl)) ?_
  refine g_getf (pc := 17) (v := .int _) dX6_find_17 fk_X6_89 (shK hS rfl) (fun _ => congrArg Value.int (hz)) ?_
  refine g_invS_r (pc := 20) (As := [_]) dX6_find_20 rfl (s_lowest hn) rfl rfl lk_X6_128 rfl (nb rfl) ⟨nb rfl, nb rfl⟩ rfl ?_
  refine g_iand (pc := 23) dX6_find_23 ?_
  refine g_invV_r (pc := 24) (As := [_, _]) dX6_find_24 rfl (s_firstEqual hS (shK hS (rows_lay hs)) hz hn) rfl rfl (shK hS rfl) rfl rfl lk_X6_153 rfl (nb rfl) ⟨nb rfl, nb rfl⟩ rfl ?_
  refine g_ireturn (pc := 27) dX6_find_27 rfl rfl ?_
  exact ⟨rfl, rfl⟩
theorem x_find {v : Int32} {x : Int64} (hS : Shp M) (h : ¬ inR v 6) : EvR l jX6_find 7 120 1 6 [.ref 0, .int v, .long x] M (.inr xIO) M := by
  refine ev_intro rfl (nb rfl) rfl ?_
  refine g_aload_n (pc := 0) dX6_find_0 rfl trivial ?_
  refine g_iload_n (pc := 1) dX6_find_1 rfl ?_
  refine g_invV_x (pc := 2) (As := [_]) dX6_find_2 rfl (x_needSlot hS h) rfl rfl (shK hS rfl) rfl rfl lk_X6_141 rfl (nb rfl) ⟨nb rfl, nb rfl⟩ rfl ?_
  exact ⟨rfl, rfl⟩
/-- the nearest row so far, and how unlike it is -/
def nrF (f : Nat → Int32) (r : Nat) : Nat → Int32 × Int32
  | 0 => (-1, 33)
  | k + 1 => if k = r then nrF f r k else if bcJ (f k ^^^ f r) < (nrF f r k).2 then (nI k, bcJ (f k ^^^ f r)) else nrF f r k
theorem q_nearest {s r n : Nat} (hS : Shp M) (hz : mI M 3 1 = nI n) (hn : n ≤ 32) (hs : s < 6) (hr : r < n) : EvR l jX6_nearest 8 140 2 12 [.ref 0, .int (nI s), .int (nI r)] M (.inl (some (.int (nrF (mI M (6 + 2 * s)) r n).1))) M := by
  refine ev_intro rfl (nb rfl) rfl ?_
  refine g_aload_n (pc := 0) dX6_nearest_0 rfl trivial ?_
  refine g_iload_n (pc := 1) dX6_nearest_1 rfl ?_
  refine g_iload_n (pc := 2) dX6_nearest_2 rfl ?_
  refine g_invV_r (pc := 3) (As := [_, _]) dX6_nearest_3 rfl (s_needRow hS hz (in6 hs) (inR_nI hr (by omega))) rfl rfl (shK hS rfl) rfl rfl lk_X6_120 rfl (nb rfl) ⟨nb rfl, nb rfl⟩ rfl ?_
  refine g_aload_n (pc := 6) dX6_nearest_6 rfl trivial ?_
  refine g_iload_n (pc := 7) dX6_nearest_7 rfl ?_
  refine g_invV_r (pc := 8) (As := [_]) dX6_nearest_8 rfl (s_rowsOf hS hs) rfl rfl (shK hS rfl) rfl rfl lk_X6_112 rfl (nb rfl) ⟨nb rfl, nb rfl⟩ rfl ?_
  refine g_astore_n (pc := 11) (lv' := [(0, _), (1, _), (2, _), (3, _)]) dX6_nearest_11 trivial (nl rfl) rfl ?_
  refine g_iconst (pc := 12) (v := (-1)) dX6_nearest_12 rfl ?_
  refine g_istore (pc := 13) (lv' := [(0, _), (1, _), (2, _), (3, _), (4, _)]) dX6_nearest_13 (nl rfl) rfl ?_
  refine g_bipush (pc := 15) (v := 33) dX6_nearest_15 rfl ?_
  refine g_istore (pc := 17) (lv' := [(0, _), (1, _), (2, _), (3, _), (4, _), (5, _)]) dX6_nearest_17 (nl rfl) rfl ?_
  refine g_iconst (pc := 19) (v := 0) dX6_nearest_19 rfl ?_
  refine g_istore (pc := 20) (lv' := [(0, _), (1, _), (2, _), (3, _), (4, _), (5, _), (6, _)]) dX6_nearest_20 (nl rfl) rfl ?_
  refine go_loop (pc := 22) n (fun i => [(0, .ref 0), (1, .int (nI s)), (2, .int (nI r)), (3, .ref (6 + 2 * s)), (4, .int (nrF (mI M (6 + 2 * s)) r i).1), (5, .int (nrF (mI M (6 + 2 * s)) r i).2), (6, .int (nI i))]) (fun i => M) ⟨rfl, rfl, rfl, rfl, rfl, rfl, rfl, trivial⟩ rfl ?_ ?_
  · intro i hi ih
    generalize nrF (mI M (6 + 2 * s)) r n = X at ih ⊢
    rw [nrF] at ih
    refine g_iload (pc := 22) dX6_nearest_22 rfl ?_
    refine g_aload_n (pc := 24) dX6_nearest_24 rfl trivial ?_
    refine g_getf (pc := 25) dX6_nearest_25 fk_X6_19 (shK hS rfl) (fv_obj (shR hS rfl)) ?_
    refine g_getf (pc := 28) (v := .int _) dX6_nearest_28 fk_X6_89 (shK hS rfl) (fun _ => congrArg Value.int (hz)) ?_
    refine g_icmp_ge (pc := 31) (tgt := 74) dX6_nearest_31 rfl (fun h31 => absurd h31 (nI_ge hi (by omega))) (fun _ => ?_)
    refine g_aload_n (pc := 34) dX6_nearest_34 rfl trivial ?_
    refine g_iload (pc := 35) dX6_nearest_35 rfl ?_
    refine g_iaload (pc := 37) dX6_nearest_37 (shK hS (rows_lay hs)) rfl (by omega) (nl rfl) ?_
    refine g_aload_n (pc := 38) dX6_nearest_38 rfl trivial ?_
    refine g_iload_n (pc := 39) dX6_nearest_39 rfl ?_
    refine g_iaload (pc := 40) dX6_nearest_40 (shK hS (rows_lay hs)) rfl (by omega) (nl rfl) ?_
    refine g_ixor (pc := 41) dX6_nearest_41 ?_
    refine g_invS_r (pc := 42) (As := [_]) dX6_nearest_42 rfl (s_bitCount) rfl rfl lk_X6_132 rfl (nb rfl) ⟨nb rfl, nb rfl⟩ rfl ?_
    refine g_istore (pc := 45) (lv' := [(0, _), (1, _), (2, _), (3, _), (4, _), (5, _), (6, _), (7, _)]) dX6_nearest_45 (nl rfl) rfl ?_
    refine g_iload (pc := 47) dX6_nearest_47 rfl ?_
    refine g_iload_n (pc := 49) dX6_nearest_49 rfl ?_
    refine g_icmp_eq (pc := 50) (tgt := 68) dX6_nearest_50 rfl (fun h50 => ?_) (fun h50 => ?_)
    · rw [if_pos ((nI_eq (by omega) (by omega)).mp h50)] at ih
      refine g_iinc (pc := 68) (lv' := [(0, _), (1, _), (2, _), (3, _), (4, _), (5, _), (6, _), (7, _)]) dX6_nearest_68 rfl (nI_1 _) (nl rfl) rfl ?_
      refine g_goto (pc := 71) (tgt := 22) dX6_nearest_71 rfl ?_
      exact g_sub (lv' := [(0, _), (1, _), (2, _), (3, _), (4, _), (5, _), (6, _)]) ⟨rfl, rfl, rfl, rfl, rfl, rfl, rfl, trivial⟩ ih
    · rw [if_neg (fun h => h50 (by rw [h]))] at ih
      refine g_iload (pc := 53) dX6_nearest_53 rfl ?_
      refine g_iload (pc := 55) dX6_nearest_55 rfl ?_
      refine g_icmp_ge (pc := 57) (tgt := 68) dX6_nearest_57 rfl (fun h57 => ?_) (fun h57 => ?_)
      · rw [if_neg (Int32.not_lt.mpr h57)] at ih
        refine g_iinc (pc := 68) (lv' := [(0, _), (1, _), (2, _), (3, _), (4, _), (5, _), (6, _), (7, _)]) dX6_nearest_68 rfl (nI_1 _) (nl rfl) rfl ?_
        refine g_goto (pc := 71) (tgt := 22) dX6_nearest_71 rfl ?_
        exact g_sub (lv' := [(0, _), (1, _), (2, _), (3, _), (4, _), (5, _), (6, _)]) ⟨rfl, rfl, rfl, rfl, rfl, rfl, rfl, trivial⟩ ih
      · rw [if_pos (Int32.not_le.mp h57)] at ih
        refine g_iload (pc := 60) dX6_nearest_60 rfl ?_
        refine g_istore (pc := 62) (lv' := [(0, _), (1, _), (2, _), (3, _), (4, _), (5, _), (6, _), (7, _)]) dX6_nearest_62 (nl rfl) rfl ?_
        refine g_iload (pc := 64) dX6_nearest_64 rfl ?_
        refine g_istore (pc := 66) (lv' := [(0, _), (1, _), (2, _), (3, _), (4, _), (5, _), (6, _), (7, _)]) dX6_nearest_66 (nl rfl) rfl ?_
        refine g_iinc (pc := 68) (lv' := [(0, _), (1, _), (2, _), (3, _), (4, _), (5, _), (6, _), (7, _)]) dX6_nearest_68 rfl (nI_1 _) (nl rfl) rfl ?_
        refine g_goto (pc := 71) (tgt := 22) dX6_nearest_71 rfl ?_
        exact g_sub (lv' := [(0, _), (1, _), (2, _), (3, _), (4, _), (5, _), (6, _)]) ⟨rfl, rfl, rfl, rfl, rfl, rfl, rfl, trivial⟩ ih
  · refine g_iload (pc := 22) dX6_nearest_22 rfl ?_
    refine g_aload_n (pc := 24) dX6_nearest_24 rfl trivial ?_
    refine g_getf (pc := 25) dX6_nearest_25 fk_X6_19 (shK hS rfl) (fv_obj (shR hS rfl)) ?_
    refine g_getf (pc := 28) (v := .int _) dX6_nearest_28 fk_X6_89 (shK hS rfl) (fun _ => congrArg Value.int (hz)) ?_
    refine g_icmp_ge (pc := 31) (tgt := 74) dX6_nearest_31 rfl (fun _ => ?_) (fun h31 => absurd (nI_le (Nat.le_refl _) (by omega)) h31)
    refine g_iload (pc := 74) dX6_nearest_74 rfl ?_
    refine g_ireturn (pc := 76) dX6_nearest_76 rfl rfl ?_
    exact ⟨rfl, rfl⟩
theorem x_nearest {v w : Int32} {n : Nat} (hS : Shp M) (hz : mI M 3 1 = nI n) (h : ¬ (inR v 6 ∧ inR w n)) : EvR l jX6_nearest 8 140 2 12 [.ref 0, .int v, .int w] M (.inr xIO) M := by
  refine ev_intro rfl (nb rfl) rfl ?_
  refine g_aload_n (pc := 0) dX6_nearest_0 rfl trivial ?_
  refine g_iload_n (pc := 1) dX6_nearest_1 rfl ?_
  refine g_iload_n (pc := 2) dX6_nearest_2 rfl ?_
  refine g_invV_x (pc := 3) (As := [_, _]) dX6_nearest_3 rfl (x_needRow hS hz h) rfl rfl (shK hS rfl) rfl rfl lk_X6_120 rfl (nb rfl) ⟨nb rfl, nb rfl⟩ rfl ?_
  exact ⟨rfl, rfl⟩
end

