section
variable {l : Launch} {M : Mem}
/-- the elimination of a slot beside a right side -/
def elQ (M : Mem) (s n : Nat) (x : Int32) : ES := elAll M n (mI M (6 + 2 * s)) (wr (mI M 193) (fun i => us x (nI i) &&& 1) n)
theorem elQ_c (M : Mem) (s n : Nat) (x : Int32) : (elQ M s n x).2.2.2 ≤ n := by
  have h := elIt_c n (wr (mI M 192) (mI M (6 + 2 * s)) n, wr (mI M 193) (fun i => us x (nI i) &&& 1) n, mI M 194, 0) n
  simp only [Nat.zero_add] at h
  exact h
theorem elMem_S (hS : Shp M) (s : ES) : Shp (elMem M s) := hS
theorem elMem_ne {i : Nat} (s : ES) (h : i < 191 ∨ 194 < i) : mI (elMem M s) i = mI M i := by
  unfold elMem
  rw [sI_ne (by omega), sI_ne (by omega), sI_ne (by omega), sI_ne (by omega)]
theorem s_elQ {s n : Nat} {x : Int32} (hS : Shp M) (hn : n ≤ 32) (hs : s < 6) : EvR l jX1_eliminate 3 90 0 0 [.ref 191, .ref (6 + 2 * s), .int (nI n), .int x] M (.inl none) (elMem M (elQ M s n x)) := s_eliminate hS (shK hS (rows_lay hs)) (by omega) hn
theorem q_fieldRank {s n : Nat} (hS : Shp M) (hz : mI M 3 1 = nI n) (hn : n ≤ 32) (hs : s < 6) : EvR l jX6_fieldRank 7 150 1 6 [.ref 0, .int (nI s)] M (.inl (some (.int (nI (elQ M s n 0).2.2.2)))) (elMem M (elQ M s n 0)) := by
  have q1 := s_elQ (l := l) (x := 0) hS hn hs
  generalize elQ M s n 0 = e at *
  have hS1 := elMem_S hS e
  have hc := el_c (M := M) e
  refine ev_intro rfl (nb rfl) rfl ?_
  refine g_aload_n (pc := 0) dX6_fieldRank_0 rfl trivial ?_
  refine g_iload_n (pc := 1) dX6_fieldRank_1 rfl ?_
  refine g_invV_r (pc := 2) (As := [_]) dX6_fieldRank_2 rfl (s_needSlot (in6 hs)) rfl rfl (shK hS rfl) rfl rfl lk_X6_141 rfl (nb rfl) ⟨nb rfl, nb rfl⟩ rfl ?_
  refine g_aload_n (pc := 5) dX6_fieldRank_5 rfl trivial ?_
  refine g_getf (pc := 6) dX6_fieldRank_6 fk_X6_54 (shK hS rfl) (fv_obj (shR hS rfl)) ?_
  refine g_aload_n (pc := 9) dX6_fieldRank_9 rfl trivial ?_
  refine g_iload_n (pc := 10) dX6_fieldRank_10 rfl ?_
  refine g_invV_r (pc := 11) (As := [_]) dX6_fieldRank_11 rfl (s_rowsOf hS hs) rfl rfl (shK hS rfl) rfl rfl lk_X6_112 rfl (nb rfl) ⟨nb rfl, nb rfl⟩ rfl ?_
  refine g_aload_n (pc := 14) dX6_fieldRank_14 rfl trivial ?_
  refine g_getf (pc := 15) dX6_fieldRank_15 fk_X6_19 (shK hS rfl) (fv_obj (shR hS rfl)) ?_
  refine g_getf (pc := 18) (v := .int _) dX6_fieldRank_18 fk_X6_89 (shK hS rfl) (fun _ => congrArg Value.int (hz)) ?_
  refine g_iconst (pc := 21) (v := 0) dX6_fieldRank_21 rfl ?_
  refine g_invV_r (pc := 22) (As := [_, _, _]) dX6_fieldRank_22 rfl (q1) rfl rfl (shK hS rfl) rfl rfl lk_X6_204 rfl (nb rfl) ⟨nb rfl, nb rfl⟩ rfl ?_
  refine g_aload_n (pc := 25) dX6_fieldRank_25 rfl trivial ?_
  refine g_getf (pc := 26) dX6_fieldRank_26 fk_X6_54 (shK hS1 rfl) (fv_obj (shR hS1 rfl)) ?_
  refine g_getf (pc := 29) (v := .int _) dX6_fieldRank_29 fk_X6_207 (shK hS1 rfl) (fun _ => congrArg Value.int (hc)) ?_
  refine g_ireturn (pc := 32) dX6_fieldRank_32 rfl rfl ?_
  exact ⟨rfl, rfl⟩
theorem x_fieldRank {v : Int32} (hS : Shp M) (h : ¬ inR v 6) : EvR l jX6_fieldRank 7 150 1 6 [.ref 0, .int v] M (.inr xIO) M := by
  refine ev_intro rfl (nb rfl) rfl ?_
  refine g_aload_n (pc := 0) dX6_fieldRank_0 rfl trivial ?_
  refine g_iload_n (pc := 1) dX6_fieldRank_1 rfl ?_
  refine g_invV_x (pc := 2) (As := [_]) dX6_fieldRank_2 rfl (x_needSlot hS h) rfl rfl (shK hS rfl) rfl rfl lk_X6_141 rfl (nb rfl) ⟨nb rfl, nb rfl⟩ rfl ?_
  exact ⟨rfl, rfl⟩
theorem q_pivot {s n : Nat} {x : Int32} (hS : Shp M) (hz : mI M 3 1 = nI n) (hn : n ≤ 32) (hs : s < 6) : EvR l jX6_pivot 7 150 1 6 [.ref 0, .int (nI s), .int x] M (.inl (some (.int (if ¬ x < 0 ∧ x < nI (elQ M s n 0).2.2.2 then (elQ M s n 0).2.2.1 x.toNatClampNeg else -1)))) (elMem M (elQ M s n 0)) := by
  have q1 := s_elQ (l := l) (x := 0) hS hn hs
  have hp := elQ_c M s n 0
  generalize elQ M s n 0 = e at *
  have hS1 := elMem_S hS e
  have q2 := s_pivotAt (l := l) (s := e) (x := x) hS (by omega)
  generalize elMem M e = M1 at *
  refine ev_intro rfl (nb rfl) rfl ?_
  refine g_aload_n (pc := 0) dX6_pivot_0 rfl trivial ?_
  refine g_iload_n (pc := 1) dX6_pivot_1 rfl ?_
  refine g_invV_r (pc := 2) (As := [_]) dX6_pivot_2 rfl (s_needSlot (in6 hs)) rfl rfl (shK hS rfl) rfl rfl lk_X6_141 rfl (nb rfl) ⟨nb rfl, nb rfl⟩ rfl ?_
  refine g_aload_n (pc := 5) dX6_pivot_5 rfl trivial ?_
  refine g_getf (pc := 6) dX6_pivot_6 fk_X6_54 (shK hS rfl) (fv_obj (shR hS rfl)) ?_
  refine g_aload_n (pc := 9) dX6_pivot_9 rfl trivial ?_
  refine g_iload_n (pc := 10) dX6_pivot_10 rfl ?_
  refine g_invV_r (pc := 11) (As := [_]) dX6_pivot_11 rfl (s_rowsOf hS hs) rfl rfl (shK hS rfl) rfl rfl lk_X6_112 rfl (nb rfl) ⟨nb rfl, nb rfl⟩ rfl ?_
  refine g_aload_n (pc := 14) dX6_pivot_14 rfl trivial ?_
  refine g_getf (pc := 15) dX6_pivot_15 fk_X6_19 (shK hS rfl) (fv_obj (shR hS rfl)) ?_
  refine g_getf (pc := 18) (v := .int _) dX6_pivot_18 fk_X6_89 (shK hS rfl) (fun _ => congrArg Value.int (hz)) ?_
  refine g_iconst (pc := 21) (v := 0) dX6_pivot_21 rfl ?_
  refine g_invV_r (pc := 22) (As := [_, _, _]) dX6_pivot_22 rfl (q1) rfl rfl (shK hS rfl) rfl rfl lk_X6_204 rfl (nb rfl) ⟨nb rfl, nb rfl⟩ rfl ?_
  refine g_aload_n (pc := 25) dX6_pivot_25 rfl trivial ?_
  refine g_getf (pc := 26) dX6_pivot_26 fk_X6_54 (shK hS1 rfl) (fv_obj (shR hS1 rfl)) ?_
  refine g_iload_n (pc := 29) dX6_pivot_29 rfl ?_
  refine g_invV_r (pc := 30) (As := [_]) dX6_pivot_30 rfl (q2) rfl rfl (shK hS1 rfl) rfl rfl lk_X6_219 rfl (nb rfl) ⟨nb rfl, nb rfl⟩ rfl ?_
  refine g_ireturn (pc := 33) dX6_pivot_33 rfl rfl ?_
  exact ⟨rfl, rfl⟩
theorem x_pivot {v x : Int32} (hS : Shp M) (h : ¬ inR v 6) : EvR l jX6_pivot 7 150 1 6 [.ref 0, .int v, .int x] M (.inr xIO) M := by
  refine ev_intro rfl (nb rfl) rfl ?_
  refine g_aload_n (pc := 0) dX6_pivot_0 rfl trivial ?_
  refine g_iload_n (pc := 1) dX6_pivot_1 rfl ?_
  refine g_invV_x (pc := 2) (As := [_]) dX6_pivot_2 rfl (x_needSlot hS h) rfl rfl (shK hS rfl) rfl rfl lk_X6_141 rfl (nb rfl) ⟨nb rfl, nb rfl⟩ rfl ?_
  exact ⟨rfl, rfl⟩
theorem q_freedom {s n : Nat} {x : Int64} (hS : Shp M) (hz : mI M 3 1 = nI n) (hn : n ≤ 32) (hs : s < 6) : EvR l jX6_freedom 7 150 1 6 [.ref 0, .int (nI s), .long x] M (.inl (some (.int (if solvB (elQ M s n x.toInt32) (n - (elQ M s n x.toInt32).2.2.2) (elQ M s n x.toInt32).2.2.2 = true then nI n - nI (elQ M s n x.toInt32).2.2.2 else -1)))) (elMem M (elQ M s n x.toInt32)) := by
  have q1 := s_elQ (l := l) (x := x.toInt32) hS hn hs
  have hp := elQ_c M s n x.toInt32
  generalize elQ M s n x.toInt32 = e at *
  have hS1 := elMem_S hS e
  have hc := el_c (M := M) e
  have hz1 : mI (elMem M e) 3 1 = nI n := by rw [elMem_ne e (by decide)]; exact hz
  have q2 := s_isSolvable (l := l) (s := e) hS hn hp
  generalize elMem M e = M1 at *
  generalize solvB e (n - e.2.2.2) e.2.2.2 = b at *
  refine ev_intro rfl (nb rfl) rfl ?_
  refine g_aload_n (pc := 0) dX6_freedom_0 rfl trivial ?_
  refine g_iload_n (pc := 1) dX6_freedom_1 rfl ?_
  refine g_invV_r (pc := 2) (As := [_]) dX6_freedom_2 rfl (s_needSlot (in6 hs)) rfl rfl (shK hS rfl) rfl rfl lk_X6_141 rfl (nb rfl) ⟨nb rfl, nb rfl⟩ rfl ?_
  refine g_aload_n (pc := 5) dX6_freedom_5 rfl trivial ?_
  refine g_getf (pc := 6) dX6_freedom_6 fk_X6_54 (shK hS rfl) (fv_obj (shR hS rfl)) ?_
  refine g_aload_n (pc := 9) dX6_freedom_9 rfl trivial ?_
  refine g_iload_n (pc := 10) dX6_freedom_10 rfl ?_
  refine g_invV_r (pc := 11) (As := [_]) dX6_freedom_11 rfl (s_rowsOf hS hs) rfl rfl (shK hS rfl) rfl rfl lk_X6_112 rfl (nb rfl) ⟨nb rfl, nb rfl⟩ rfl ?_
  refine g_aload_n (pc := 14) dX6_freedom_14 rfl trivial ?_
  refine g_getf (pc := 15) dX6_freedom_15 fk_X6_19 (shK hS rfl) (fv_obj (shR hS rfl)) ?_
  refine g_getf (pc := 18) (v := .int _) dX6_freedom_18 fk_X6_89 (shK hS rfl) (fun _ => congrArg Value.int (hz)) ?_
  refine g_lload_n (pc := 21) dX6_freedom_21 rfl ?_
  refine g_l2i (pc := 22) dX6_freedom_22 rfl ?_
  refine g_invV_r (pc := 23) (As := [_, _, _]) dX6_freedom_23 rfl (q1) rfl rfl (shK hS rfl) rfl rfl lk_X6_204 rfl (nb rfl) ⟨nb rfl, nb rfl⟩ rfl ?_
  refine g_aload_n (pc := 26) dX6_freedom_26 rfl trivial ?_
  refine g_getf (pc := 27) dX6_freedom_27 fk_X6_54 (shK hS1 rfl) (fv_obj (shR hS1 rfl)) ?_
  refine g_aload_n (pc := 30) dX6_freedom_30 rfl trivial ?_
  refine g_getf (pc := 31) dX6_freedom_31 fk_X6_19 (shK hS1 rfl) (fv_obj (shR hS1 rfl)) ?_
  refine g_getf (pc := 34) (v := .int _) dX6_freedom_34 fk_X6_89 (shK hS1 rfl) (fun _ => congrArg Value.int (hz1)) ?_
  refine g_invV_r (pc := 37) (As := [_]) dX6_freedom_37 rfl (q2) rfl rfl (shK hS1 rfl) rfl rfl lk_X6_210 rfl (nb rfl) ⟨nb rfl, nb rfl⟩ rfl ?_
  refine g_if_eq (pc := 40) (tgt := 61) dX6_freedom_40 rfl (fun h40 => ?_) (fun h40 => ?_)
  · rw [b1_0] at h40
    rw [if_neg (by rw [h40]; decide)]
    refine g_iconst (pc := 61) (v := (-1)) dX6_freedom_61 rfl ?_
    refine g_ireturn (pc := 62) dX6_freedom_62 rfl rfl ?_
    exact ⟨rfl, rfl⟩
  · rw [b1_0, Bool.not_eq_false] at h40
    rw [if_pos h40]
    refine g_aload_n (pc := 43) dX6_freedom_43 rfl trivial ?_
    refine g_getf (pc := 44) dX6_freedom_44 fk_X6_19 (shK hS1 rfl) (fv_obj (shR hS1 rfl)) ?_
    refine g_getf (pc := 47) (v := .int _) dX6_freedom_47 fk_X6_89 (shK hS1 rfl) (fun _ => congrArg Value.int (hz1)) ?_
    refine g_aload_n (pc := 50) dX6_freedom_50 rfl trivial ?_
    refine g_getf (pc := 51) dX6_freedom_51 fk_X6_54 (shK hS1 rfl) (fv_obj (shR hS1 rfl)) ?_
    refine g_getf (pc := 54) (v := .int _) dX6_freedom_54 fk_X6_207 (shK hS1 rfl) (fun _ => congrArg Value.int (hc)) ?_
    refine g_isub (pc := 57) dX6_freedom_57 ?_
    refine g_goto (pc := 58) (tgt := 62) dX6_freedom_58 rfl ?_
    refine g_ireturn (pc := 62) dX6_freedom_62 rfl rfl ?_
    exact ⟨rfl, rfl⟩
theorem x_freedom {v : Int32} {x : Int64} (hS : Shp M) (h : ¬ inR v 6) : EvR l jX6_freedom 7 150 1 6 [.ref 0, .int v, .long x] M (.inr xIO) M := by
  refine ev_intro rfl (nb rfl) rfl ?_
  refine g_aload_n (pc := 0) dX6_freedom_0 rfl trivial ?_
  refine g_iload_n (pc := 1) dX6_freedom_1 rfl ?_
  refine g_invV_x (pc := 2) (As := [_]) dX6_freedom_2 rfl (x_needSlot hS h) rfl rfl (shK hS rfl) rfl rfl lk_X6_141 rfl (nb rfl) ⟨nb rfl, nb rfl⟩ rfl ?_
  exact ⟨rfl, rfl⟩
theorem q_solve {s n : Nat} {x : Int64} (hS : Shp M) (hz : mI M 3 1 = nI n) (hn : n ≤ 32) (hs : s < 6) : EvR l jX6_solve 7 150 1 6 [.ref 0, .int (nI s), .long x] M (.inl (some (.long (if solvB (elQ M s n x.toInt32) (n - (elQ M s n x.toInt32).2.2.2) (elQ M s n x.toInt32).2.2.2 = true then (solF (elQ M s n x.toInt32) (elQ M s n x.toInt32).2.2.2).toInt64 &&& 4294967295 else -1)))) (elMem M (elQ M s n x.toInt32)) := by
  have q1 := s_elQ (l := l) (x := x.toInt32) hS hn hs
  have hp := elQ_c M s n x.toInt32
  generalize elQ M s n x.toInt32 = e at *
  have hS1 := elMem_S hS e
  have hz1 : mI (elMem M e) 3 1 = nI n := by rw [elMem_ne e (by decide)]; exact hz
  have q2 := s_isSolvable (l := l) (s := e) hS hn hp
  have q3 := s_solution (l := l) (s := e) hS (by omega)
  generalize elMem M e = M1 at *
  generalize solvB e (n - e.2.2.2) e.2.2.2 = b at *
  refine ev_intro rfl (nb rfl) rfl ?_
  refine g_aload_n (pc := 0) dX6_solve_0 rfl trivial ?_
  refine g_iload_n (pc := 1) dX6_solve_1 rfl ?_
  refine g_invV_r (pc := 2) (As := [_]) dX6_solve_2 rfl (s_needSlot (in6 hs)) rfl rfl (shK hS rfl) rfl rfl lk_X6_141 rfl (nb rfl) ⟨nb rfl, nb rfl⟩ rfl ?_
  refine g_aload_n (pc := 5) dX6_solve_5 rfl trivial ?_
  refine g_getf (pc := 6) dX6_solve_6 fk_X6_54 (shK hS rfl) (fv_obj (shR hS rfl)) ?_
  refine g_aload_n (pc := 9) dX6_solve_9 rfl trivial ?_
  refine g_iload_n (pc := 10) dX6_solve_10 rfl ?_
  refine g_invV_r (pc := 11) (As := [_]) dX6_solve_11 rfl (s_rowsOf hS hs) rfl rfl (shK hS rfl) rfl rfl lk_X6_112 rfl (nb rfl) ⟨nb rfl, nb rfl⟩ rfl ?_
  refine g_aload_n (pc := 14) dX6_solve_14 rfl trivial ?_
  refine g_getf (pc := 15) dX6_solve_15 fk_X6_19 (shK hS rfl) (fv_obj (shR hS rfl)) ?_
  refine g_getf (pc := 18) (v := .int _) dX6_solve_18 fk_X6_89 (shK hS rfl) (fun _ => congrArg Value.int (hz)) ?_
  refine g_lload_n (pc := 21) dX6_solve_21 rfl ?_
  refine g_l2i (pc := 22) dX6_solve_22 rfl ?_
  refine g_invV_r (pc := 23) (As := [_, _, _]) dX6_solve_23 rfl (q1) rfl rfl (shK hS rfl) rfl rfl lk_X6_204 rfl (nb rfl) ⟨nb rfl, nb rfl⟩ rfl ?_
  refine g_aload_n (pc := 26) dX6_solve_26 rfl trivial ?_
  refine g_getf (pc := 27) dX6_solve_27 fk_X6_54 (shK hS1 rfl) (fv_obj (shR hS1 rfl)) ?_
  refine g_aload_n (pc := 30) dX6_solve_30 rfl trivial ?_
  refine g_getf (pc := 31) dX6_solve_31 fk_X6_19 (shK hS1 rfl) (fv_obj (shR hS1 rfl)) ?_
  refine g_getf (pc := 34) (v := .int _) dX6_solve_34 fk_X6_89 (shK hS1 rfl) (fun _ => congrArg Value.int (hz1)) ?_
  refine g_invV_r (pc := 37) (As := [_]) dX6_solve_37 rfl (q2) rfl rfl (shK hS1 rfl) rfl rfl lk_X6_210 rfl (nb rfl) ⟨nb rfl, nb rfl⟩ rfl ?_
  refine g_if_eq (pc := 40) (tgt := 56) dX6_solve_40 rfl (fun h40 => ?_) (fun h40 => ?_)
  · rw [b1_0] at h40
    rw [if_neg (by rw [h40]; decide)]
    refine g_ldc2 (pc := 56) dX6_solve_56 wd_989 ?_
    refine g_lreturn (pc := 59) dX6_solve_59 rfl ?_
    exact ⟨rfl, rfl⟩
  · rw [b1_0, Bool.not_eq_false] at h40
    rw [if_pos h40]
    refine g_aload_n (pc := 43) dX6_solve_43 rfl trivial ?_
    refine g_getf (pc := 44) dX6_solve_44 fk_X6_54 (shK hS1 rfl) (fv_obj (shR hS1 rfl)) ?_
    refine g_invV_r (pc := 47) (As := []) dX6_solve_47 rfl (q3) rfl rfl (shK hS1 rfl) rfl rfl lk_X6_214 rfl (nb rfl) ⟨nb rfl, nb rfl⟩ rfl ?_
    refine g_invS_r (pc := 50) (As := [_]) dX6_solve_50 rfl (s_unsigned) rfl rfl lk_X6_124 rfl (nb rfl) ⟨nb rfl, nb rfl⟩ rfl ?_
    refine g_goto (pc := 53) (tgt := 59) dX6_solve_53 rfl ?_
    refine g_lreturn (pc := 59) dX6_solve_59 rfl ?_
    exact ⟨rfl, rfl⟩
theorem x_solve {v : Int32} {x : Int64} (hS : Shp M) (h : ¬ inR v 6) : EvR l jX6_solve 7 150 1 6 [.ref 0, .int v, .long x] M (.inr xIO) M := by
  refine ev_intro rfl (nb rfl) rfl ?_
  refine g_aload_n (pc := 0) dX6_solve_0 rfl trivial ?_
  refine g_iload_n (pc := 1) dX6_solve_1 rfl ?_
  refine g_invV_x (pc := 2) (As := [_]) dX6_solve_2 rfl (x_needSlot hS h) rfl rfl (shK hS rfl) rfl rfl lk_X6_141 rfl (nb rfl) ⟨nb rfl, nb rfl⟩ rfl ?_
  exact ⟨rfl, rfl⟩
end

