/-! the reference: queries on rows -/
section
variable {l : Launch} {M : Mem} {n : Nat} {A : Nat → Nat → Int32}
/-- rows hold no one beyond the size -/
def wfA (n : Nat) (A : Nat → Nat → Int32) : Prop := ∀ s r, s < 6 → r < n → ∀ c, n ≤ c → hb (A s r) c = false
theorem n_bit {s r c : Nat} (h : Rr M n A) (hs : s < 6) (hr : r < n) (hc : c < n) : EvR l jX7_bit 4 160 0 0 [.ref 198, .int (nI s), .int (nI r), .int (nI c)] M (.inl (some (.int (b1 (hb (A s r) c))))) (thr M 0) := by
  have hn := h.2.2.2.1
  have hS := h.1
  refine ev_intro rfl (nb rfl) rfl ?_
  refine g_aload_n (pc := 0) dX7_bit_0 rfl trivial ?_
  refine g_aload_n (pc := 1) dX7_bit_1 rfl trivial ?_
  refine g_iload_n (pc := 2) dX7_bit_2 rfl ?_
  refine g_iload_n (pc := 3) dX7_bit_3 rfl ?_
  refine g_invV_r (pc := 4) (As := [_, _]) dX7_bit_4 rfl (r_areIn_t h (in6 hs) (inR_nI hr (by omega))) rfl rfl (shK hS rfl) rfl rfl lk_X7_223 rfl (nb rfl) ⟨nb rfl, nb rfl⟩ rfl ?_
  refine g_if_eq (pc := 7) (tgt := 22) dX7_bit_7 rfl (fun h7 => absurd h7 ((by decide))) (fun _ => ?_)
  refine g_aload_n (pc := 10) dX7_bit_10 rfl trivial ?_
  refine g_iload_n (pc := 11) dX7_bit_11 rfl ?_
  refine g_invV_r (pc := 12) (As := [_]) dX7_bit_12 rfl (r_isNode_t h (inR_nI hc (by omega))) rfl rfl (shK hS rfl) rfl rfl lk_X7_220 rfl (nb rfl) ⟨nb rfl, nb rfl⟩ rfl ?_
  refine g_if_eq (pc := 15) (tgt := 22) dX7_bit_15 rfl (fun h15 => absurd h15 ((by decide))) (fun _ => ?_)
  refine g_iconst (pc := 18) (v := 1) dX7_bit_18 rfl ?_
  refine g_goto (pc := 19) (tgt := 23) dX7_bit_19 rfl ?_
  refine g_iconst (pc := 23) (v := 1) dX7_bit_23 rfl ?_
  refine g_invV_r (pc := 24) (As := [_, _]) dX7_bit_24 rfl (r_isThrown_0 hS) rfl rfl (shK hS rfl) rfl rfl lk_X7_209 rfl (nb rfl) ⟨nb rfl, nb rfl⟩ rfl ?_
  refine g_if_eq (pc := 27) (tgt := 34) dX7_bit_27 rfl (fun _ => ?_) (fun h27 => absurd (rfl) h27)
  refine g_aload_n (pc := 34) dX7_bit_34 rfl trivial ?_
  refine g_iload_n (pc := 35) dX7_bit_35 rfl ?_
  refine g_iload_n (pc := 36) dX7_bit_36 rfl ?_
  refine g_invV_r (pc := 37) (As := [_, _]) dX7_bit_37 rfl (r_rowOf h.thr hs hr) rfl rfl (shK hS rfl) rfl rfl lk_X7_227 rfl (nb rfl) ⟨nb rfl, nb rfl⟩ rfl ?_
  refine g_iload_n (pc := 40) dX7_bit_40 rfl ?_
  refine g_invS_r (pc := 41) (As := [_, _]) dX7_bit_41 rfl (r_one (by omega)) rfl rfl lk_X7_231 rfl (nb rfl) ⟨nb rfl, nb rfl⟩ rfl ?_
  refine g_ireturn (pc := 44) dX7_bit_44 rfl rfl ?_
  exact ⟨rfl, rfl⟩
theorem t_bit {v w u : Int32} (h : Rr M n A) (hx : ¬ (inR v 6 ∧ inR w n ∧ inR u n)) : EvR l jX7_bit 4 160 0 0 [.ref 198, .int v, .int w, .int u] M (.inl (some (.int 0))) (thr M 1) := by
  have hS := h.1
  refine ev_intro rfl (nb rfl) rfl ?_
  by_cases h1 : inR v 6 ∧ inR w n
  · refine g_aload_n (pc := 0) dX7_bit_0 rfl trivial ?_
    refine g_aload_n (pc := 1) dX7_bit_1 rfl trivial ?_
    refine g_iload_n (pc := 2) dX7_bit_2 rfl ?_
    refine g_iload_n (pc := 3) dX7_bit_3 rfl ?_
    refine g_invV_r (pc := 4) (As := [_, _]) dX7_bit_4 rfl (r_areIn_t h h1.1 h1.2) rfl rfl (shK hS rfl) rfl rfl lk_X7_223 rfl (nb rfl) ⟨nb rfl, nb rfl⟩ rfl ?_
    refine g_if_eq (pc := 7) (tgt := 22) dX7_bit_7 rfl (fun h7 => absurd h7 ((by decide))) (fun _ => ?_)
    refine g_aload_n (pc := 10) dX7_bit_10 rfl trivial ?_
    refine g_iload_n (pc := 11) dX7_bit_11 rfl ?_
    refine g_invV_r (pc := 12) (As := [_]) dX7_bit_12 rfl (r_isNode_f h (fun q => hx ⟨h1.1, h1.2, q⟩)) rfl rfl (shK hS rfl) rfl rfl lk_X7_220 rfl (nb rfl) ⟨nb rfl, nb rfl⟩ rfl ?_
    refine g_if_eq (pc := 15) (tgt := 22) dX7_bit_15 rfl (fun _ => ?_) (fun h15 => absurd (rfl) h15)
    refine g_iconst (pc := 22) (v := 0) dX7_bit_22 rfl ?_
    refine g_iconst (pc := 23) (v := 1) dX7_bit_23 rfl ?_
    refine g_invV_r (pc := 24) (As := [_, _]) dX7_bit_24 rfl (r_isThrown_1 hS) rfl rfl (shK hS rfl) rfl rfl lk_X7_209 rfl (nb rfl) ⟨nb rfl, nb rfl⟩ rfl ?_
    refine g_if_eq (pc := 27) (tgt := 34) dX7_bit_27 rfl (fun h27 => absurd h27 ((by decide))) (fun _ => ?_)
    refine g_iconst (pc := 30) (v := 0) dX7_bit_30 rfl ?_
    refine g_goto (pc := 31) (tgt := 44) dX7_bit_31 rfl ?_
    refine g_ireturn (pc := 44) dX7_bit_44 rfl rfl ?_
    exact ⟨rfl, rfl⟩
  · refine g_aload_n (pc := 0) dX7_bit_0 rfl trivial ?_
    refine g_aload_n (pc := 1) dX7_bit_1 rfl trivial ?_
    refine g_iload_n (pc := 2) dX7_bit_2 rfl ?_
    refine g_iload_n (pc := 3) dX7_bit_3 rfl ?_
    refine g_invV_r (pc := 4) (As := [_, _]) dX7_bit_4 rfl (r_areIn_f h h1) rfl rfl (shK hS rfl) rfl rfl lk_X7_223 rfl (nb rfl) ⟨nb rfl, nb rfl⟩ rfl ?_
    refine g_if_eq (pc := 7) (tgt := 22) dX7_bit_7 rfl (fun _ => ?_) (fun h7 => absurd (rfl) h7)
    refine g_iconst (pc := 22) (v := 0) dX7_bit_22 rfl ?_
    refine g_iconst (pc := 23) (v := 1) dX7_bit_23 rfl ?_
    refine g_invV_r (pc := 24) (As := [_, _]) dX7_bit_24 rfl (r_isThrown_1 hS) rfl rfl (shK hS rfl) rfl rfl lk_X7_209 rfl (nb rfl) ⟨nb rfl, nb rfl⟩ rfl ?_
    refine g_if_eq (pc := 27) (tgt := 34) dX7_bit_27 rfl (fun h27 => absurd h27 ((by decide))) (fun _ => ?_)
    refine g_iconst (pc := 30) (v := 0) dX7_bit_30 rfl ?_
    refine g_goto (pc := 31) (tgt := 44) dX7_bit_31 rfl ?_
    refine g_ireturn (pc := 44) dX7_bit_44 rfl rfl ?_
    exact ⟨rfl, rfl⟩
theorem n_row {s r : Nat} (h : Rr M n A) (hs : s < 6) (hr : r < n) : EvR l jX7_row 4 160 0 0 [.ref 198, .int (nI s), .int (nI r)] M (.inl (some (.long (uL (A s r))))) (thr M 0) := by
  have hn := h.2.2.2.1
  have hS := h.1
  refine ev_intro rfl (nb rfl) rfl ?_
  refine g_aload_n (pc := 0) dX7_row_0 rfl trivial ?_
  refine g_aload_n (pc := 1) dX7_row_1 rfl trivial ?_
  refine g_iload_n (pc := 2) dX7_row_2 rfl ?_
  refine g_iload_n (pc := 3) dX7_row_3 rfl ?_
  refine g_invV_r (pc := 4) (As := [_, _]) dX7_row_4 rfl (r_areIn_t h (in6 hs) (inR_nI hr (by omega))) rfl rfl (shK hS rfl) rfl rfl lk_X7_223 rfl (nb rfl) ⟨nb rfl, nb rfl⟩ rfl ?_
  refine g_iconst (pc := 7) (v := 1) dX7_row_7 rfl ?_
  refine g_invV_r (pc := 8) (As := [_, _]) dX7_row_8 rfl (r_isThrown_0 hS) rfl rfl (shK hS rfl) rfl rfl lk_X7_209 rfl (nb rfl) ⟨nb rfl, nb rfl⟩ rfl ?_
  refine g_if_eq (pc := 11) (tgt := 18) dX7_row_11 rfl (fun _ => ?_) (fun h11 => absurd (rfl) h11)
  refine g_aload_n (pc := 18) dX7_row_18 rfl trivial ?_
  refine g_iload_n (pc := 19) dX7_row_19 rfl ?_
  refine g_iload_n (pc := 20) dX7_row_20 rfl ?_
  refine g_invV_r (pc := 21) (As := [_, _]) dX7_row_21 rfl (r_rowOf h.thr hs hr) rfl rfl (shK hS rfl) rfl rfl lk_X7_227 rfl (nb rfl) ⟨nb rfl, nb rfl⟩ rfl ?_
  refine g_lreturn (pc := 24) dX7_row_24 rfl ?_
  exact ⟨rfl, rfl⟩
theorem t_row {v w : Int32} (h : Rr M n A) (hx : ¬ (inR v 6 ∧ inR w n)) : EvR l jX7_row 4 160 0 0 [.ref 198, .int v, .int w] M (.inl (some (.long 0))) (thr M 1) := by
  have hS := h.1
  refine ev_intro rfl (nb rfl) rfl ?_
  refine g_aload_n (pc := 0) dX7_row_0 rfl trivial ?_
  refine g_aload_n (pc := 1) dX7_row_1 rfl trivial ?_
  refine g_iload_n (pc := 2) dX7_row_2 rfl ?_
  refine g_iload_n (pc := 3) dX7_row_3 rfl ?_
  refine g_invV_r (pc := 4) (As := [_, _]) dX7_row_4 rfl (r_areIn_f h hx) rfl rfl (shK hS rfl) rfl rfl lk_X7_223 rfl (nb rfl) ⟨nb rfl, nb rfl⟩ rfl ?_
  refine g_iconst (pc := 7) (v := 1) dX7_row_7 rfl ?_
  refine g_invV_r (pc := 8) (As := [_, _]) dX7_row_8 rfl (r_isThrown_1 hS) rfl rfl (shK hS rfl) rfl rfl lk_X7_209 rfl (nb rfl) ⟨nb rfl, nb rfl⟩ rfl ?_
  refine g_if_eq (pc := 11) (tgt := 18) dX7_row_11 rfl (fun h11 => absurd h11 ((by decide))) (fun _ => ?_)
  refine g_lconst (pc := 14) (v := 0) dX7_row_14 rfl ?_
  refine g_goto (pc := 15) (tgt := 24) dX7_row_15 rfl ?_
  refine g_lreturn (pc := 24) dX7_row_24 rfl ?_
  exact ⟨rfl, rfl⟩
theorem inR_le {u : Int32} {k : Nat} (hk : k < 2147483647) : (¬ u < 0 ∧ u ≤ nI k) ↔ inR u (k + 1) := by
  rw [inR_int (by omega), Int32.not_lt, Int32.le_iff_toInt_le, Int32.le_iff_toInt_le, nI_toInt (by omega), show (0 : Int32).toInt = 0 from rfl]
  omega
theorem n_rank {s r c : Nat} (h : Rr M n A) (hs : s < 6) (hr : r < n) (hc : c ≤ n) : EvR l jX7_rank 4 160 0 0 [.ref 198, .int (nI s), .int (nI r), .int (nI c)] M (.inl (some (.int (bcJ (A s r &&& lowM c))))) (thr M 0) := by
  have hn := h.2.2.2.1
  have hS := h.1
  obtain ⟨h1, h2⟩ := (inR_long (v := nI c) (k := n) (by omega)).mpr (inR_nI (by omega) (by omega))
  rw [← lN_nI (by omega)] at h2
  refine ev_intro rfl (nb rfl) rfl ?_
  refine g_aload_n (pc := 0) dX7_rank_0 rfl trivial ?_
  refine g_aload_n (pc := 1) dX7_rank_1 rfl trivial ?_
  refine g_iload_n (pc := 2) dX7_rank_2 rfl ?_
  refine g_iload_n (pc := 3) dX7_rank_3 rfl ?_
  refine g_invV_r (pc := 4) (As := [_, _]) dX7_rank_4 rfl (r_areIn_t h (in6 hs) (inR_nI hr (by omega))) rfl rfl (shK hS rfl) rfl rfl lk_X7_223 rfl (nb rfl) ⟨nb rfl, nb rfl⟩ rfl ?_
  refine g_iconst (pc := 7) (v := 1) dX7_rank_7 rfl ?_
  refine g_invV_r (pc := 8) (As := [_, _]) dX7_rank_8 rfl (r_isThrown_0 hS) rfl rfl (shK hS rfl) rfl rfl lk_X7_209 rfl (nb rfl) ⟨nb rfl, nb rfl⟩ rfl ?_
  refine g_if_ne (pc := 11) (tgt := 33) dX7_rank_11 rfl (fun h11 => absurd h11 ((fun q => q rfl))) (fun _ => ?_)
  refine g_aload_n (pc := 14) dX7_rank_14 rfl trivial ?_
  refine g_iload_n (pc := 15) dX7_rank_15 rfl ?_
  refine g_i2l (pc := 16) dX7_rank_16 rfl ?_
  refine g_lconst (pc := 17) (v := 0) dX7_rank_17 rfl ?_
  refine g_aload_n (pc := 18) dX7_rank_18 rfl trivial ?_
  refine g_invV_r (pc := 19) (As := []) dX7_rank_19 rfl (r_size h.thr) rfl rfl (shK hS rfl) rfl rfl lk_X7_71 rfl (nb rfl) ⟨nb rfl, nb rfl⟩ rfl ?_
  refine g_i2l (pc := 22) dX7_rank_22 rfl ?_
  refine g_invS_r (pc := 23) (As := [_, _, _]) dX7_rank_23 rfl (r_in_t h1 h2) rfl rfl lk_X7_67 rfl (nb rfl) ⟨nb rfl, nb rfl⟩ rfl ?_
  refine g_iconst (pc := 26) (v := 2) dX7_rank_26 rfl ?_
  refine g_invV_r (pc := 27) (As := [_, _]) dX7_rank_27 rfl (r_isThrown_0 (M := thr M 0) hS) rfl rfl (shK hS rfl) rfl rfl lk_X7_209 rfl (nb rfl) ⟨nb rfl, nb rfl⟩ rfl ?_
  refine g_if_eq (pc := 30) (tgt := 35) dX7_rank_30 rfl (fun _ => ?_) (fun h30 => absurd (rfl) h30)
  refine g_aload_n (pc := 35) dX7_rank_35 rfl trivial ?_
  refine g_iload_n (pc := 36) dX7_rank_36 rfl ?_
  refine g_iload_n (pc := 37) dX7_rank_37 rfl ?_
  refine g_invV_r (pc := 38) (As := [_, _]) dX7_rank_38 rfl (r_rowOf h.thr.thr hs hr) rfl rfl (shK hS rfl) rfl rfl lk_X7_227 rfl (nb rfl) ⟨nb rfl, nb rfl⟩ rfl ?_
  refine g_lconst (pc := 41) (v := 1) dX7_rank_41 rfl ?_
  refine g_iload_n (pc := 42) dX7_rank_42 rfl ?_
  refine g_lshl (pc := 43) dX7_rank_43 rfl ?_
  refine g_lconst (pc := 44) (v := 1) dX7_rank_44 rfl ?_
  refine g_lsub (pc := 45) dX7_rank_45 ?_
  rw [sh_low c (by omega)]
  refine g_land (pc := 46) dX7_rank_46 ?_
  rw [uL_and]
  refine g_invS_r (pc := 47) (As := [_]) dX7_rank_47 rfl (r_bitsOf) rfl rfl lk_X7_234 rfl (nb rfl) ⟨nb rfl, nb rfl⟩ rfl ?_
  refine g_ireturn (pc := 50) dX7_rank_50 rfl rfl ?_
  exact ⟨rfl, thr_2⟩
theorem t_rank {v w u : Int32} (h : Rr M n A) (hx : ¬ (inR v 6 ∧ inR w n)) : EvR l jX7_rank 4 160 0 0 [.ref 198, .int v, .int w, .int u] M (.inl (some (.int 0))) (thr M 1) := by
  have hS := h.1
  refine ev_intro rfl (nb rfl) rfl ?_
  refine g_aload_n (pc := 0) dX7_rank_0 rfl trivial ?_
  refine g_aload_n (pc := 1) dX7_rank_1 rfl trivial ?_
  refine g_iload_n (pc := 2) dX7_rank_2 rfl ?_
  refine g_iload_n (pc := 3) dX7_rank_3 rfl ?_
  refine g_invV_r (pc := 4) (As := [_, _]) dX7_rank_4 rfl (r_areIn_f h hx) rfl rfl (shK hS rfl) rfl rfl lk_X7_223 rfl (nb rfl) ⟨nb rfl, nb rfl⟩ rfl ?_
  refine g_iconst (pc := 7) (v := 1) dX7_rank_7 rfl ?_
  refine g_invV_r (pc := 8) (As := [_, _]) dX7_rank_8 rfl (r_isThrown_1 hS) rfl rfl (shK hS rfl) rfl rfl lk_X7_209 rfl (nb rfl) ⟨nb rfl, nb rfl⟩ rfl ?_
  refine g_if_ne (pc := 11) (tgt := 33) dX7_rank_11 rfl (fun _ => ?_) (fun h11 => absurd ((by decide)) h11)
  refine g_iconst (pc := 33) (v := 0) dX7_rank_33 rfl ?_
  refine g_ireturn (pc := 34) dX7_rank_34 rfl rfl ?_
  exact ⟨rfl, rfl⟩
theorem u_rank {v w u : Int32} (h : Rr M n A) (h1 : inR v 6) (h2 : inR w n) (hx : ¬ (¬ u < 0 ∧ u ≤ nI n)) : EvR l jX7_rank 4 160 0 0 [.ref 198, .int v, .int w, .int u] M (.inl (some (.int 0))) (thr M 2) := by
  have hn := h.2.2.2.1
  have hS := h.1
  have h3 : ¬ (0 ≤ u.toInt64 ∧ u.toInt64 ≤ lN n) := fun q => hx ((inR_le (by omega)).mpr ((inR_long (by omega)).mp q))
  rw [← lN_nI (by omega)] at h3
  refine ev_intro rfl (nb rfl) rfl ?_
  refine g_aload_n (pc := 0) dX7_rank_0 rfl trivial ?_
  refine g_aload_n (pc := 1) dX7_rank_1 rfl trivial ?_
  refine g_iload_n (pc := 2) dX7_rank_2 rfl ?_
  refine g_iload_n (pc := 3) dX7_rank_3 rfl ?_
  refine g_invV_r (pc := 4) (As := [_, _]) dX7_rank_4 rfl (r_areIn_t h h1 h2) rfl rfl (shK hS rfl) rfl rfl lk_X7_223 rfl (nb rfl) ⟨nb rfl, nb rfl⟩ rfl ?_
  refine g_iconst (pc := 7) (v := 1) dX7_rank_7 rfl ?_
  refine g_invV_r (pc := 8) (As := [_, _]) dX7_rank_8 rfl (r_isThrown_0 hS) rfl rfl (shK hS rfl) rfl rfl lk_X7_209 rfl (nb rfl) ⟨nb rfl, nb rfl⟩ rfl ?_
  refine g_if_ne (pc := 11) (tgt := 33) dX7_rank_11 rfl (fun h11 => absurd h11 ((fun q => q rfl))) (fun _ => ?_)
  refine g_aload_n (pc := 14) dX7_rank_14 rfl trivial ?_
  refine g_iload_n (pc := 15) dX7_rank_15 rfl ?_
  refine g_i2l (pc := 16) dX7_rank_16 rfl ?_
  refine g_lconst (pc := 17) (v := 0) dX7_rank_17 rfl ?_
  refine g_aload_n (pc := 18) dX7_rank_18 rfl trivial ?_
  refine g_invV_r (pc := 19) (As := []) dX7_rank_19 rfl (r_size h.thr) rfl rfl (shK hS rfl) rfl rfl lk_X7_71 rfl (nb rfl) ⟨nb rfl, nb rfl⟩ rfl ?_
  refine g_i2l (pc := 22) dX7_rank_22 rfl ?_
  refine g_invS_r (pc := 23) (As := [_, _, _]) dX7_rank_23 rfl (r_in_f h3) rfl rfl lk_X7_67 rfl (nb rfl) ⟨nb rfl, nb rfl⟩ rfl ?_
  refine g_iconst (pc := 26) (v := 2) dX7_rank_26 rfl ?_
  refine g_invV_r (pc := 27) (As := [_, _]) dX7_rank_27 rfl (r_isThrown_1 (M := thr M 0) hS) rfl rfl (shK hS rfl) rfl rfl lk_X7_209 rfl (nb rfl) ⟨nb rfl, nb rfl⟩ rfl ?_
  refine g_if_eq (pc := 30) (tgt := 35) dX7_rank_30 rfl (fun h30 => absurd h30 ((by decide))) (fun _ => ?_)
  refine g_iconst (pc := 33) (v := 0) dX7_rank_33 rfl ?_
  refine g_ireturn (pc := 34) dX7_rank_34 rfl rfl ?_
  exact ⟨rfl, thr_2⟩
end

