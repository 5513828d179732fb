section
variable {l : Launch} {M : Mem} {n : Nat}
theorem s_fillLevels0 {r b : Nat} (hS : Shp M) : EvR l jX6_fillLevels 0 0 0 0 [.ref 0, .ref r, .int (nI b), .int (nI 0)] M (.inl none) (sI M 196 (wr (mI M 196) (rwlF (mI M r) b n) 1)) := by
  have e0 : sI M 196 (fun_set (mI M 196) 0 (bitI b)) = sI M 196 (wr (mI M 196) (rwlF (mI M r) b n) 1) := by rw [← wr_s, wr_0]; rfl
  generalize sI M 196 (wr (mI M 196) (rwlF (mI M r) b n) 1) = M9 at *
  refine ev_intro rfl (nb rfl) rfl ?_
  refine g_aload_n (pc := 0) dX6_fillLevels_0 rfl trivial ?_
  refine g_getf (pc := 1) dX6_fillLevels_1 fk_X6_62 (shK hS rfl) (fv_arr (shR hS rfl)) ?_
  refine g_iconst (pc := 4) (v := 0) dX6_fillLevels_4 rfl ?_
  refine g_iconst (pc := 5) (v := 1) dX6_fillLevels_5 rfl ?_
  refine g_iload_n (pc := 6) dX6_fillLevels_6 rfl ?_
  refine g_ishl (pc := 7) dX6_fillLevels_7 ?_
  refine g_iastore (pc := 8) dX6_fillLevels_8 (shK hS rfl) rfl (by decide) (nl rfl) ?_
  refine go_cast e0 ?_
  refine g_iconst (pc := 9) (v := 1) dX6_fillLevels_9 rfl ?_
  refine g_istore (pc := 10) (lv' := [(0, _), (1, _), (2, _), (3, _), (4, _)]) dX6_fillLevels_10 (nl rfl) rfl ?_
  refine g_iload (pc := 12) dX6_fillLevels_12 rfl ?_
  refine g_iload_n (pc := 14) dX6_fillLevels_14 rfl ?_
  refine g_icmp_ge (pc := 15) (tgt := 83) dX6_fillLevels_15 rfl (fun _ => ?_) (fun h15 => absurd ((by decide)) h15)
  refine g_return (pc := 83) dX6_fillLevels_83 rfl ?_
  exact ⟨rfl, rfl⟩
theorem feF_ok (f : Nat → Int32) (b n : Nat) : ∀ d e x, feF f b n d e x = -1 ∨ ∃ k, k < e + d ∧ feF f b n d e x = nI k
  | 0, _, _ => Or.inl rfl
  | d + 1, e, x => by
    rw [feF]
    split
    · exact Or.inr ⟨e, by omega, rfl⟩
    · rcases feF_ok f b n d (e + 1) (jrF f x n) with h | ⟨k, h1, h2⟩
      · exact Or.inl h
      · exact Or.inr ⟨k, by omega, h2⟩
theorem dsV_ok (f : Nat → Int32) (a b : Nat) : dsV f a b n = -1 ∨ ∃ k, k ≤ n ∧ dsV f a b n = nI k := by
  unfold dsV
  split
  · exact Or.inr ⟨0, Nat.zero_le _, rfl⟩
  · rcases feF_ok f b n n 1 (f a) with h | ⟨k, h1, h2⟩
    · exact Or.inl h
    · exact Or.inr ⟨k, by omega, h2⟩
theorem sp_lt : ∀ {d : Nat}, d ≤ 32 → nI d - 1 < nI d := by
  intro d h
  have h9 : ∀ d, d < 33 → nI d - 1 < nI d := by decide +kernel
  exact h9 d (by omega)
/-- the node after m steps of k -/
def ndF (f lv : Nat → Int32) (k a : Nat) : Nat → Nat
  | 0 => a
  | m + 1 => lowN (f (ndF f lv k a m) &&& lv (k - m - 1))
theorem ndF_lt {f lv : Nat → Int32} {k a : Nat} (h : a < 32) : ∀ m, ndF f lv k a m < 32
  | 0 => h
  | _ + 1 => lowN_lt _
def spM (M : Mem) (s b n k : Nat) : Mem := sI M 196 (wr (mI M 196) (rwlF (mI M (6 + 2 * s)) b n) (if k = 0 then 1 else k))
theorem q_stepAt {s a b k j : Nat} (hS : Shp M) (hz : mI M 3 1 = nI n) (hn : n ≤ 32) (hs : s < 6) (ha : a < n) (hb9 : b < n) (hd : dsV (mI M (6 + 2 * s)) a b n = nI k) (hk : k ≤ n) (hj : j ≤ k) : EvR l jX6_stepAt 10 190 3 18 [.ref 0, .int (nI s), .int (nI a), .int (nI b), .int (nI j)] M (.inl (some (.int (nI (ndF (mI M (6 + 2 * s)) (rwlF (mI M (6 + 2 * s)) b n) k a j))))) (spM M s b n k) := by
  have q1 := q_distance (l := l) hS hz hn hs ha hb9
  rw [hd] at q1
  have q2 : EvR l jX6_fillLevels 0 0 0 0 [.ref 0, .ref (6 + 2 * s), .int (nI b), .int (nI k)] M (.inl none) (spM M s b n k) := by
    unfold spM
    by_cases h0 : k = 0
    · rw [if_pos h0, h0]; exact s_fillLevels0 hS
    · rw [if_neg h0]; exact s_fillLevels hS (shK hS (rows_lay hs)) (by omega) hz hn (by omega) (by omega)
  have hS2 : Shp (spM M s b n k) := by unfold spM; exact shp_sI hS
  have er : mI (spM M s b n k) (6 + 2 * s) = mI M (6 + 2 * s) := by unfold spM; exact sI_ne (by omega)
  have el : ∀ i, i < k → mI (spM M s b n k) 196 i = rwlF (mI M (6 + 2 * s)) b n i := fun i hi => by unfold spM; rw [sI_self, wr_lt (by split <;> omega)]
  generalize spM M s b n k = M2 at *
  generalize rwlF (mI M (6 + 2 * s)) b n = lv9 at *
  generalize mI M (6 + 2 * s) = f at *
  refine ev_intro rfl (nb rfl) rfl ?_
  refine g_aload_n (pc := 0) dX6_stepAt_0 rfl trivial ?_
  refine g_iload_n (pc := 1) dX6_stepAt_1 rfl ?_
  refine g_iload_n (pc := 2) dX6_stepAt_2 rfl ?_
  refine g_iload_n (pc := 3) dX6_stepAt_3 rfl ?_
  refine g_invV_r (pc := 4) (As := [_, _, _]) dX6_stepAt_4 rfl (q1) rfl rfl (shK hS rfl) rfl rfl lk_X6_178 rfl (nb rfl) ⟨nb rfl, nb rfl⟩ rfl ?_
  refine g_istore (pc := 7) (lv' := [(0, _), (1, _), (2, _), (3, _), (4, _), (5, _)]) dX6_stepAt_7 (nl rfl) rfl ?_
  refine g_iload (pc := 9) dX6_stepAt_9 rfl ?_
  refine g_if_lt (pc := 11) (tgt := 21) dX6_stepAt_11 rfl (fun h11 => absurd h11 (nI_pos (by omega))) (fun _ => ?_)
  refine g_iload (pc := 14) dX6_stepAt_14 rfl ?_
  refine g_iload (pc := 16) dX6_stepAt_16 rfl ?_
  refine g_icmp_le (pc := 18) (tgt := 23) dX6_stepAt_18 rfl (fun _ => ?_) (fun h18 => absurd (nI_le hj (by omega)) h18)
  refine g_aload_n (pc := 23) dX6_stepAt_23 rfl trivial ?_
  refine g_iload_n (pc := 24) dX6_stepAt_24 rfl ?_
  refine g_invV_r (pc := 25) (As := [_]) dX6_stepAt_25 rfl (s_rowsOf hS hs) rfl rfl (shK hS rfl) rfl rfl lk_X6_112 rfl (nb rfl) ⟨nb rfl, nb rfl⟩ rfl ?_
  refine g_astore (pc := 28) (lv' := [(0, _), (1, _), (2, _), (3, _), (4, _), (5, _), (6, _)]) dX6_stepAt_28 trivial (nl rfl) rfl ?_
  refine g_aload_n (pc := 30) dX6_stepAt_30 rfl trivial ?_
  refine g_aload (pc := 31) dX6_stepAt_31 rfl trivial ?_
  refine g_iload_n (pc := 33) dX6_stepAt_33 rfl ?_
  refine g_iload (pc := 34) dX6_stepAt_34 rfl ?_
  refine g_invV_r (pc := 36) (As := [_, _, _]) dX6_stepAt_36 rfl (q2) rfl rfl (shK hS rfl) rfl rfl lk_X6_182 rfl (nb rfl) ⟨nb rfl, nb rfl⟩ rfl ?_
  refine g_iload_n (pc := 39) dX6_stepAt_39 rfl ?_
  refine g_istore (pc := 40) (lv' := [(0, _), (1, _), (2, _), (3, _), (4, _), (5, _), (6, _), (7, _)]) dX6_stepAt_40 (nl rfl) rfl ?_
  refine g_iload (pc := 42) dX6_stepAt_42 rfl ?_
  refine g_iconst (pc := 44) (v := 1) dX6_stepAt_44 rfl ?_
  refine g_isub (pc := 45) dX6_stepAt_45 ?_
  refine g_istore (pc := 46) (lv' := [(0, _), (1, _), (2, _), (3, _), (4, _), (5, _), (6, _), (7, _), (8, _)]) dX6_stepAt_46 (nl rfl) rfl ?_
  refine go_loop (pc := 48) j (fun m => [(0, .ref 0), (1, .int (nI s)), (2, .int (nI a)), (3, .int (nI b)), (4, .int (nI j)), (5, .int (nI k)), (6, .ref (6 + 2 * s)), (7, .int (nI (ndF f lv9 k a m))), (8, .int (nI (k - m) - 1))]) (fun m => M2) ⟨rfl, rfl, rfl, rfl, rfl, rfl, rfl, rfl, rfl, trivial⟩ rfl ?_ ?_
  · intro m hm ih
    have hlt := ndF_lt (f := f) (lv := lv9) (k := k) (show a < 32 by omega) m
    generalize ndF f lv9 k a j = X at ih ⊢
    rw [ndF] at ih
    generalize ndF f lv9 k a m = nd at *
    have e1 : nI (k - m) - 1 = nI (k - m - 1) := nI_m1 (by omega)
    have e2 := el (k - m - 1) (by omega)
    have e3 : nI (k - m - 1) + Int32.ofInt (-1) = nI (k - (m + 1)) - 1 := by
      rw [show k - (m + 1) = k - m - 1 by omega, Int32.sub_eq_add_neg]; rfl
    rw [e1]
    rw [← e2, ← er] at ih
    refine g_iload (pc := 48) dX6_stepAt_48 rfl ?_
    refine g_iload (pc := 50) dX6_stepAt_50 rfl ?_
    refine g_iload (pc := 52) dX6_stepAt_52 rfl ?_
    refine g_isub (pc := 54) dX6_stepAt_54 ?_
    rw [nI_sub' hj]
    refine g_icmp_lt (pc := 55) (tgt := 82) dX6_stepAt_55 rfl (fun h55 => absurd h55 (nI_nlt (show k - j ≤ k - m - 1 by omega) (by omega))) (fun _ => ?_)
    refine g_aload (pc := 58) dX6_stepAt_58 rfl trivial ?_
    refine g_iload (pc := 60) dX6_stepAt_60 rfl ?_
    refine g_iaload (pc := 62) dX6_stepAt_62 (shK hS2 (rows_lay hs)) rfl hlt (nl rfl) ?_
    refine g_aload_n (pc := 63) dX6_stepAt_63 rfl trivial ?_
    refine g_getf (pc := 64) dX6_stepAt_64 fk_X6_62 (shK hS2 rfl) (fv_arr (shR hS2 rfl)) ?_
    refine g_iload (pc := 67) dX6_stepAt_67 rfl ?_
    refine g_iaload (pc := 69) dX6_stepAt_69 (shK hS2 rfl) rfl (show k - m - 1 < 32 by omega) (nl rfl) ?_
    refine g_iand (pc := 70) dX6_stepAt_70 ?_
    refine g_invS_r (pc := 71) (As := [_]) dX6_stepAt_71 rfl (s_lowestOne) rfl rfl lk_X6_186 rfl (nb rfl) ⟨nb rfl, nb rfl⟩ rfl ?_
    refine g_istore (pc := 74) (lv' := [(0, _), (1, _), (2, _), (3, _), (4, _), (5, _), (6, _), (7, _), (8, _)]) dX6_stepAt_74 (nl rfl) rfl ?_
    refine g_iinc (pc := 76) (lv' := [(0, _), (1, _), (2, _), (3, _), (4, _), (5, _), (6, _), (7, _), (8, _)]) dX6_stepAt_76 rfl e3 (nl rfl) rfl ?_
    refine g_goto (pc := 79) (tgt := 48) dX6_stepAt_79 rfl ?_
    exact ih
  · refine g_iload (pc := 48) dX6_stepAt_48 rfl ?_
    refine g_iload (pc := 50) dX6_stepAt_50 rfl ?_
    refine g_iload (pc := 52) dX6_stepAt_52 rfl ?_
    refine g_isub (pc := 54) dX6_stepAt_54 ?_
    rw [nI_sub' hj]
    refine g_icmp_lt (pc := 55) (tgt := 82) dX6_stepAt_55 rfl (fun _ => ?_) (fun h55 => absurd (sp_lt (show k - j ≤ 32 by omega)) h55)
    refine g_iload (pc := 82) dX6_stepAt_82 rfl ?_
    refine g_ireturn (pc := 84) dX6_stepAt_84 rfl rfl ?_
    exact ⟨rfl, rfl⟩
theorem v_stepAt {s a b : Nat} {x : Int32} (hS : Shp M) (hz : mI M 3 1 = nI n) (hn : n ≤ 32) (hs : s < 6) (ha : a < n) (hb9 : b < n) (h : ¬ (¬ x < 0 ∧ x ≤ dsV (mI M (6 + 2 * s)) a b n)) : EvR l jX6_stepAt 10 190 3 18 [.ref 0, .int (nI s), .int (nI a), .int (nI b), .int x] M (.inl (some (.int (-1)))) M := by
  have q1 := q_distance (l := l) hS hz hn hs ha hb9
  generalize dsV (mI M (6 + 2 * s)) a b n = d at *
  refine ev_intro rfl (nb rfl) rfl ?_
  refine g_aload_n (pc := 0) dX6_stepAt_0 rfl trivial ?_
  refine g_iload_n (pc := 1) dX6_stepAt_1 rfl ?_
  refine g_iload_n (pc := 2) dX6_stepAt_2 rfl ?_
  refine g_iload_n (pc := 3) dX6_stepAt_3 rfl ?_
  refine g_invV_r (pc := 4) (As := [_, _, _]) dX6_stepAt_4 rfl (q1) rfl rfl (shK hS rfl) rfl rfl lk_X6_178 rfl (nb rfl) ⟨nb rfl, nb rfl⟩ rfl ?_
  refine g_istore (pc := 7) (lv' := [(0, _), (1, _), (2, _), (3, _), (4, _), (5, _)]) dX6_stepAt_7 (nl rfl) rfl ?_
  refine g_iload (pc := 9) dX6_stepAt_9 rfl ?_
  refine g_if_lt (pc := 11) (tgt := 21) dX6_stepAt_11 rfl (fun h11 => ?_) (fun h11 => ?_)
  · refine g_iconst (pc := 21) (v := (-1)) dX6_stepAt_21 rfl ?_
    refine g_ireturn (pc := 22) dX6_stepAt_22 rfl rfl ?_
    exact ⟨rfl, rfl⟩
  · refine g_iload (pc := 14) dX6_stepAt_14 rfl ?_
    refine g_iload (pc := 16) dX6_stepAt_16 rfl ?_
    refine g_icmp_le (pc := 18) (tgt := 23) dX6_stepAt_18 rfl (fun h18 => absurd h18 ((fun q => h ⟨h11, q⟩))) (fun _ => ?_)
    refine g_iconst (pc := 21) (v := (-1)) dX6_stepAt_21 rfl ?_
    refine g_ireturn (pc := 22) dX6_stepAt_22 rfl rfl ?_
    exact ⟨rfl, rfl⟩
theorem x_stepAt {v w u x : Int32} (hS : Shp M) (hz : mI M 3 1 = nI n) (h : ¬ (inR v 6 ∧ inR w n ∧ inR u n)) : EvR l jX6_stepAt 10 190 3 18 [.ref 0, .int v, .int w, .int u, .int x] M (.inr xIO) M := by
  refine ev_intro rfl (nb rfl) rfl ?_
  refine g_aload_n (pc := 0) dX6_stepAt_0 rfl trivial ?_
  refine g_iload_n (pc := 1) dX6_stepAt_1 rfl ?_
  refine g_iload_n (pc := 2) dX6_stepAt_2 rfl ?_
  refine g_iload_n (pc := 3) dX6_stepAt_3 rfl ?_
  refine g_invV_x (pc := 4) (As := [_, _, _]) dX6_stepAt_4 rfl (x_distance hS hz h) rfl rfl (shK hS rfl) rfl rfl lk_X6_178 rfl (nb rfl) ⟨nb rfl, nb rfl⟩ rfl ?_
  exact ⟨rfl, rfl⟩
end

