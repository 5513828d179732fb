/-! queries on rows: with arguments as asked, and without -/
section
variable {l : Launch} {M : Mem}
theorem in6 {s : Nat} (h : s < 6) : inR (nI s) 6 := inR_nI h (by decide)
theorem q_bit {s r c n : Nat} (hS : Shp M) (hz : mI M 3 1 = nI n) (hn : n ≤ 32) (hs : s < 6) (hr : r < n) (hc : c < n) : EvR l jX6_bit 9 160 3 18 [.ref 0, .int (nI s), .int (nI r), .int (nI c)] M (.inl (some (.int (b1 (hb (mI M (6 + 2 * s) r) c))))) M := by
  refine ev_intro rfl (nb rfl) rfl ?_
  refine g_aload_n (pc := 0) dX6_bit_0 rfl trivial ?_
  refine g_iload_n (pc := 1) dX6_bit_1 rfl ?_
  refine g_iload_n (pc := 2) dX6_bit_2 rfl ?_
  refine g_iload_n (pc := 3) dX6_bit_3 rfl ?_
  refine g_invV_r (pc := 4) (As := [_, _, _]) dX6_bit_4 rfl (s_needCell hS hz (in6 hs) (inR_nI hr (by omega)) (inR_nI hc (by omega))) rfl rfl (shK hS rfl) rfl rfl lk_X6_109 rfl (nb rfl) ⟨nb rfl, nb rfl⟩ rfl ?_
  refine g_aload_n (pc := 7) dX6_bit_7 rfl trivial ?_
  refine g_iload_n (pc := 8) dX6_bit_8 rfl ?_
  refine g_invV_r (pc := 9) (As := [_]) dX6_bit_9 rfl (s_rowsOf hS hs) rfl rfl (shK hS rfl) rfl rfl lk_X6_112 rfl (nb rfl) ⟨nb rfl, nb rfl⟩ rfl ?_
  refine g_iload_n (pc := 12) dX6_bit_12 rfl ?_
  refine g_iaload (pc := 13) dX6_bit_13 (shK hS (rows_lay hs)) rfl (by omega) (nl rfl) ?_
  refine g_iload_n (pc := 14) dX6_bit_14 rfl ?_
  refine g_invS_r (pc := 15) (As := [_, _]) dX6_bit_15 rfl (s_hasOne (by omega)) rfl rfl lk_X6_116 rfl (nb rfl) ⟨nb rfl, nb rfl⟩ rfl ?_
  refine g_if_eq (pc := 18) (tgt := 25) dX6_bit_18 rfl (fun h18 => ?_) (fun h18 => ?_)
  · rw [b1_0] at h18
    refine g_iconst (pc := 25) (v := 0) dX6_bit_25 rfl ?_
    refine g_ireturn (pc := 26) dX6_bit_26 rfl rfl ?_
    exact ⟨by rw [h18]; rfl, rfl⟩
  · rw [b1_0, Bool.not_eq_false] at h18
    refine g_iconst (pc := 21) (v := 1) dX6_bit_21 rfl ?_
    refine g_goto (pc := 22) (tgt := 26) dX6_bit_22 rfl ?_
    refine g_ireturn (pc := 26) dX6_bit_26 rfl rfl ?_
    exact ⟨by rw [h18]; rfl, rfl⟩
theorem x_bit {v w u : Int32} {n : Nat} (hS : Shp M) (hx0 : mX M = false) (hz : mI M 3 1 = nI n) (h : ¬ (inR v 6 ∧ inR w n ∧ inR u n)) : EvR l jX6_bit 9 160 3 18 [.ref 0, .int v, .int w, .int u] M (.inr xIO) M := by
  refine ev_intro rfl (nb rfl) rfl ?_
  refine g_aload_n (pc := 0) dX6_bit_0 rfl trivial ?_
  refine g_iload_n (pc := 1) dX6_bit_1 rfl ?_
  refine g_iload_n (pc := 2) dX6_bit_2 rfl ?_
  refine g_iload_n (pc := 3) dX6_bit_3 rfl ?_
  refine g_invV_x (pc := 4) (As := [_, _, _]) dX6_bit_4 rfl (x_needCell hS hx0 hz h) rfl rfl (shK hS rfl) rfl rfl lk_X6_109 rfl (nb rfl) ⟨nb rfl, nb rfl⟩ rfl ?_
  exact ⟨rfl, rfl⟩
theorem q_row {s r n : Nat} (hS : Shp M) (hz : mI M 3 1 = nI n) (hn : n ≤ 32) (hs : s < 6) (hr : r < n) : EvR l jX6_row 8 140 2 12 [.ref 0, .int (nI s), .int (nI r)] M (.inl (some (.long ((mI M (6 + 2 * s) r).toInt64 &&& 4294967295)))) M := by
  refine ev_intro rfl (nb rfl) rfl ?_
  refine g_aload_n (pc := 0) dX6_row_0 rfl trivial ?_
  refine g_iload_n (pc := 1) dX6_row_1 rfl ?_
  refine g_iload_n (pc := 2) dX6_row_2 rfl ?_
  refine g_invV_r (pc := 3) (As := [_, _]) dX6_row_3 rfl (s_needRow hS hz (in6 hs) (inR_nI hr (by omega))) rfl rfl (shK hS rfl) rfl rfl lk_X6_120 rfl (nb rfl) ⟨nb rfl, nb rfl⟩ rfl ?_
  refine g_aload_n (pc := 6) dX6_row_6 rfl trivial ?_
  refine g_iload_n (pc := 7) dX6_row_7 rfl ?_
  refine g_invV_r (pc := 8) (As := [_]) dX6_row_8 rfl (s_rowsOf hS hs) rfl rfl (shK hS rfl) rfl rfl lk_X6_112 rfl (nb rfl) ⟨nb rfl, nb rfl⟩ rfl ?_
  refine g_iload_n (pc := 11) dX6_row_11 rfl ?_
  refine g_iaload (pc := 12) dX6_row_12 (shK hS (rows_lay hs)) rfl (by omega) (nl rfl) ?_
  refine g_invS_r (pc := 13) (As := [_]) dX6_row_13 rfl (s_unsigned) rfl rfl lk_X6_124 rfl (nb rfl) ⟨nb rfl, nb rfl⟩ rfl ?_
  refine g_lreturn (pc := 16) dX6_row_16 rfl ?_
  exact ⟨rfl, rfl⟩
theorem q_rank {s r c n : Nat} (hS : Shp M) (hz : mI M 3 1 = nI n) (hn : n ≤ 32) (hs : s < 6) (hr : r < n) (hc : c ≤ n) : EvR l jX6_rank 8 140 3 18 [.ref 0, .int (nI s), .int (nI r), .int (nI c)] M (.inl (some (.int (bcJ (mI M (6 + 2 * s) r &&& lowM c))))) M := by
  refine ev_intro rfl (nb rfl) rfl ?_
  refine g_aload_n (pc := 0) dX6_rank_0 rfl trivial ?_
  refine g_iload_n (pc := 1) dX6_rank_1 rfl ?_
  refine g_iload_n (pc := 2) dX6_rank_2 rfl ?_
  refine g_invV_r (pc := 3) (As := [_, _]) dX6_rank_3 rfl (s_needRow hS hz (in6 hs) (inR_nI hr (by omega))) rfl rfl (shK hS rfl) rfl rfl lk_X6_120 rfl (nb rfl) ⟨nb rfl, nb rfl⟩ rfl ?_
  refine g_aload_n (pc := 6) dX6_rank_6 rfl trivial ?_
  refine g_iload_n (pc := 7) dX6_rank_7 rfl ?_
  refine g_iconst (pc := 8) (v := 0) dX6_rank_8 rfl ?_
  refine g_aload_n (pc := 9) dX6_rank_9 rfl trivial ?_
  refine g_getf (pc := 10) dX6_rank_10 fk_X6_19 (shK hS rfl) (fv_obj (shR hS rfl)) ?_
  refine g_getf (pc := 13) (v := .int _) dX6_rank_13 fk_X6_89 (shK hS rfl) (fun _ => congrArg Value.int (hz)) ?_
  refine g_invV_r (pc := 16) (As := [_, _, _]) dX6_rank_16 rfl (s_needRange (nI_pos (by omega)) (nI_le hc (by omega))) rfl rfl (shK hS rfl) rfl rfl lk_X6_95 rfl (nb rfl) ⟨nb rfl, nb rfl⟩ rfl ?_
  refine g_aload_n (pc := 19) dX6_rank_19 rfl trivial ?_
  refine g_iload_n (pc := 20) dX6_rank_20 rfl ?_
  refine g_invV_r (pc := 21) (As := [_]) dX6_rank_21 rfl (s_rowsOf hS hs) rfl rfl (shK hS rfl) rfl rfl lk_X6_112 rfl (nb rfl) ⟨nb rfl, nb rfl⟩ rfl ?_
  refine g_iload_n (pc := 24) dX6_rank_24 rfl ?_
  refine g_iaload (pc := 25) dX6_rank_25 (shK hS (rows_lay hs)) rfl (by omega) (nl rfl) ?_
  refine g_iload_n (pc := 26) dX6_rank_26 rfl ?_
  refine g_invS_r (pc := 27) (As := [_]) dX6_rank_27 rfl (s_lowest (show c ≤ 32 by omega)) rfl rfl lk_X6_128 rfl (nb rfl) ⟨nb rfl, nb rfl⟩ rfl ?_
  refine g_iand (pc := 30) dX6_rank_30 ?_
  refine g_invS_r (pc := 31) (As := [_]) dX6_rank_31 rfl (s_bitCount) rfl rfl lk_X6_132 rfl (nb rfl) ⟨nb rfl, nb rfl⟩ rfl ?_
  refine g_ireturn (pc := 34) dX6_rank_34 rfl rfl ?_
  exact ⟨rfl, rfl⟩
theorem x_rank {v w u : Int32} {n : Nat} (hS : Shp M) (hx0 : mX M = false) (hz : mI M 3 1 = nI n) (h : ¬ (inR v 6 ∧ inR w n)) : EvR l jX6_rank 8 140 3 18 [.ref 0, .int v, .int w, .int u] M (.inr xIO) M := by
  refine ev_intro rfl (nb rfl) rfl ?_
  refine g_aload_n (pc := 0) dX6_rank_0 rfl trivial ?_
  refine g_iload_n (pc := 1) dX6_rank_1 rfl ?_
  refine g_iload_n (pc := 2) dX6_rank_2 rfl ?_
  refine g_invV_x (pc := 3) (As := [_, _]) dX6_rank_3 rfl (x_needRow hS hx0 hz h) rfl rfl (shK hS rfl) rfl rfl lk_X6_120 rfl (nb rfl) ⟨nb rfl, nb rfl⟩ rfl ?_
  exact ⟨rfl, rfl⟩
theorem y_rank {v w u : Int32} {n : Nat} (hS : Shp M) (hx0 : mX M = false) (hz : mI M 3 1 = nI n) (h : inR v 6) (h' : inR w n) (h2 : ¬ (¬ u < 0 ∧ u ≤ nI n)) : EvR l jX6_rank 8 140 3 18 [.ref 0, .int v, .int w, .int u] M (.inr xIA) M := by
  refine ev_intro rfl (nb rfl) rfl ?_
  refine g_aload_n (pc := 0) dX6_rank_0 rfl trivial ?_
  refine g_iload_n (pc := 1) dX6_rank_1 rfl ?_
  refine g_iload_n (pc := 2) dX6_rank_2 rfl ?_
  refine g_invV_r (pc := 3) (As := [_, _]) dX6_rank_3 rfl (s_needRow hS hz h h') rfl rfl (shK hS rfl) rfl rfl lk_X6_120 rfl (nb rfl) ⟨nb rfl, nb rfl⟩ rfl ?_
  refine g_aload_n (pc := 6) dX6_rank_6 rfl trivial ?_
  refine g_iload_n (pc := 7) dX6_rank_7 rfl ?_
  refine g_iconst (pc := 8) (v := 0) dX6_rank_8 rfl ?_
  refine g_aload_n (pc := 9) dX6_rank_9 rfl trivial ?_
  refine g_getf (pc := 10) dX6_rank_10 fk_X6_19 (shK hS rfl) (fv_obj (shR hS rfl)) ?_
  refine g_getf (pc := 13) (v := .int _) dX6_rank_13 fk_X6_89 (shK hS rfl) (fun _ => congrArg Value.int (hz)) ?_
  refine g_invV_x (pc := 16) (As := [_, _, _]) dX6_rank_16 rfl (x_needRange hS hx0 h2) rfl rfl (shK hS rfl) rfl rfl lk_X6_95 rfl (nb rfl) ⟨nb rfl, nb rfl⟩ rfl ?_
  exact ⟨rfl, rfl⟩
/-- the first row equal to a row is a row up to it -/
theorem firstEq_le (f : Nat → Int32) (r : Nat) : ∀ d i, i ≤ r → r < i + d → ∃ j, j ≤ r ∧ firstEq f (f r) d i = nI j
  | 0, i, h, h' => by omega
  | d + 1, i, h, h' => by
    rw [firstEq]
    by_cases h9 : f i = f r
    · rw [if_pos h9]; exact ⟨i, h, rfl⟩
    · rw [if_neg h9]
      have hne : i ≠ r := fun q => h9 (by rw [q])
      exact firstEq_le f r d (i + 1) (by omega) (by omega)
def firstN (f : Nat → Int32) (r n : Nat) : Nat := (firstEq f (f r) n 0).toNatClampNeg
theorem firstN_ok {f : Nat → Int32} {r n : Nat} (hr : r < n) (hn : n ≤ 32) : firstEq f (f r) n 0 = nI (firstN f r n) ∧ firstN f r n ≤ r := by
  obtain ⟨j, h1, h2⟩ := firstEq_le f r n 0 (Nat.zero_le _) (by omega)
  unfold firstN
  rw [h2, nI_clamp (by omega)]
  exact ⟨rfl, h1⟩
/-- the nearest row so far, and how unlike it is -/
def nrF (f : Nat → Int32) (r : Nat) : Nat → Int32 × Int32
  | 0 => (-1, 33)
  | k + 1 => if k = r then nrF f r k else if bcJ (f k ^^^ f r) < (nrF f r k).2 then (nI k, bcJ (f k ^^^ f r)) else nrF f r k
end
