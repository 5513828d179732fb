/-! calls that change the state -/
/-- the desk: n nodes, p the place of the next past state, c past states -/
def Dk (M : Mem) (n p c : Nat) : Prop := Shp M ∧ mI M 3 1 = nI n ∧ n ≤ 32 ∧ mI M 0 4 = nI p ∧ p < 8 ∧ mI M 0 5 = nI c ∧ c ≤ 8 ∧ keptOk M 3
section
variable {l : Launch} {M : Mem} {n p c : Nat}
theorem remM_ne {i : Nat} (hp : p < 8) (h0 : i ≠ 0) (h : i < 32 ∨ 144 ≤ i) : mI (remM M p c) i = mI M i := by
  unfold remM
  rw [pI_i h0, pI_i h0, stTake_ne (by omega)]
theorem d_remember (hD : Dk M n p c) : EvR l jX6_remember 3 120 0 0 [.ref 0] M (.inl none) (remM M p c) :=
  s_remember hD.1 hD.2.2.2.2.1 hD.2.2.2.2.2.2.1 hD.2.2.2.1 hD.2.2.2.2.2.1 hD.2.2.2.2.2.2.2
theorem d_z (hD : Dk M n p c) : mI (remM M p c) 3 1 = nI n := by rw [remM_ne hD.2.2.2.2.1 (by decide) (by decide)]; exact hD.2.1
def swV (M : Mem) (s r n : Nat) (x : Int64) : Int32 := bcJ ((x.toInt32 &&& lowM n) ^^^ mI M (6 + 2 * s) r)
def swM (M : Mem) (s r n p c : Nat) (x : Int64) : Mem := noteM (sI (remM M p c) (6 + 2 * s) (fun_set (mI M (6 + 2 * s)) r (x.toInt32 &&& lowM n))) s (nI n)
theorem u_setRow {s r : Nat} {x : Int64} (hD : Dk M n p c) (hs : s < 6) (hr : r < n) : EvR l jX6_setRow 8 150 2 12 [.ref 0, .int (nI s), .int (nI r), .long x] M (.inl (some (.int (swV M s r n x)))) (swM M s r n p c x) := by
  have hn := hD.2.2.1
  have hS1 := remM_S hD.1 p c
  have hz1 := d_z hD
  have er : mI (remM M p c) (6 + 2 * s) = mI M (6 + 2 * s) := remM_ne hD.2.2.2.2.1 (by omega) (by omega)
  have q1 := d_remember (l := l) hD
  unfold swV swM
  rw [← er]
  generalize remM M p c = R at *
  have hS2 : Shp (sI R (6 + 2 * s) (fun_set (mI R (6 + 2 * s)) r (x.toInt32 &&& lowM n))) := shp_sI hS1
  have hz2 : mI (sI R (6 + 2 * s) (fun_set (mI R (6 + 2 * s)) r (x.toInt32 &&& lowM n))) 3 1 = nI n := by rw [sI_ne (by omega)]; exact hz1
  have ev : mI (noteM (sI R (6 + 2 * s) (fun_set (mI R (6 + 2 * s)) r (x.toInt32 &&& lowM n))) s (nI n)) (6 + 2 * s) r = x.toInt32 &&& lowM n := by rw [noteM_ne (by omega) (by omega), sI_self, fs_self]
  have q2 := s_noteChange (l := l) hS2 hs hz2
  have hS3 := noteM_S hS2 s (nI n)
  refine ev_intro rfl (nb rfl) rfl ?_
  refine g_aload_n (pc := 0) dX6_setRow_0 rfl trivial ?_
  refine g_iload_n (pc := 1) dX6_setRow_1 rfl ?_
  refine g_iload_n (pc := 2) dX6_setRow_2 rfl ?_
  refine g_invV_r (pc := 3) (As := [_, _]) dX6_setRow_3 rfl (s_needRow hD.1 hD.2.1 (in6 hs) (inR_nI hr (by omega))) rfl rfl (shK hD.1 rfl) rfl rfl lk_X6_120 rfl (nb rfl) ⟨nb rfl, nb rfl⟩ rfl ?_
  refine g_aload_n (pc := 6) dX6_setRow_6 rfl trivial ?_
  refine g_invV_r (pc := 7) (As := []) dX6_setRow_7 rfl (q1) rfl rfl (shK hD.1 rfl) rfl rfl lk_X6_222 rfl (nb rfl) ⟨nb rfl, nb rfl⟩ rfl ?_
  refine g_aload_n (pc := 10) dX6_setRow_10 rfl trivial ?_
  refine g_iload_n (pc := 11) dX6_setRow_11 rfl ?_
  refine g_invV_r (pc := 12) (As := [_]) dX6_setRow_12 rfl (s_rowsOf hS1 hs) rfl rfl (shK hS1 rfl) rfl rfl lk_X6_112 rfl (nb rfl) ⟨nb rfl, nb rfl⟩ rfl ?_
  refine g_astore (pc := 15) (lv' := [(0, _), (1, _), (2, _), (3, _), (5, _)]) dX6_setRow_15 trivial (nl rfl) rfl ?_
  refine g_aload (pc := 17) dX6_setRow_17 rfl trivial ?_
  refine g_iload_n (pc := 19) dX6_setRow_19 rfl ?_
  refine g_iaload (pc := 20) dX6_setRow_20 (shK hS1 (rows_lay hs)) rfl (by omega) (nl rfl) ?_
  refine g_istore (pc := 21) (lv' := [(0, _), (1, _), (2, _), (3, _), (5, _), (6, _)]) dX6_setRow_21 (nl rfl) rfl ?_
  refine g_aload (pc := 23) dX6_setRow_23 rfl trivial ?_
  refine g_iload_n (pc := 25) dX6_setRow_25 rfl ?_
  refine g_lload_n (pc := 26) dX6_setRow_26 rfl ?_
  refine g_l2i (pc := 27) dX6_setRow_27 rfl ?_
  refine g_aload_n (pc := 28) dX6_setRow_28 rfl trivial ?_
  refine g_getf (pc := 29) dX6_setRow_29 fk_X6_19 (shK hS1 rfl) (fv_obj (shR hS1 rfl)) ?_
  refine g_getf (pc := 32) (v := .int _) dX6_setRow_32 fk_X6_89 (shK hS1 rfl) (fun _ => congrArg Value.int (hz1)) ?_
  refine g_invS_r (pc := 35) (As := [_]) dX6_setRow_35 rfl (s_lowest hn) rfl rfl lk_X6_128 rfl (nb rfl) ⟨nb rfl, nb rfl⟩ rfl ?_
  refine g_iand (pc := 38) dX6_setRow_38 ?_
  refine g_iastore (pc := 39) dX6_setRow_39 (shK hS1 (rows_lay hs)) rfl (by omega) (nl rfl) ?_
  refine g_aload_n (pc := 40) dX6_setRow_40 rfl trivial ?_
  refine g_iload_n (pc := 41) dX6_setRow_41 rfl ?_
  refine g_invV_r (pc := 42) (As := [_]) dX6_setRow_42 rfl (q2) rfl rfl (shK hS2 rfl) rfl rfl lk_X6_244 rfl (nb rfl) ⟨nb rfl, nb rfl⟩ rfl ?_
  refine g_aload (pc := 45) dX6_setRow_45 rfl trivial ?_
  refine g_iload_n (pc := 47) dX6_setRow_47 rfl ?_
  refine g_iaload (pc := 48) dX6_setRow_48 (shK hS3 (rows_lay hs)) rfl (by omega) (nl rfl) ?_
  rw [ev]
  refine g_iload (pc := 49) dX6_setRow_49 rfl ?_
  refine g_ixor (pc := 51) dX6_setRow_51 ?_
  refine g_invS_r (pc := 52) (As := [_]) dX6_setRow_52 rfl (s_bitCount) rfl rfl lk_X6_132 rfl (nb rfl) ⟨nb rfl, nb rfl⟩ rfl ?_
  refine g_ireturn (pc := 55) dX6_setRow_55 rfl rfl ?_
  exact ⟨rfl, rfl⟩
/-- rows of r stored in slot t, and the ones there -/
def stV (R : Mem) (r t n : Nat) : Int32 := onesF (mI (storeM R r t n) (6 + 2 * t)) n
theorem u_copy {s t : Nat} (hD : Dk M n p c) (hs : s < 6) (ht : t < 6) : EvR l jX6_copy 7 140 2 12 [.ref 0, .int (nI s), .int (nI t)] M (.inl (some (.int (stV (remM M p c) (6 + 2 * s) t n)))) (storeM (remM M p c) (6 + 2 * s) t n) := by
  have hS1 := remM_S hD.1 p c
  have hz1 := d_z hD
  have q1 := d_remember (l := l) hD
  unfold stV
  generalize remM M p c = R at *
  have q2 := s_store (l := l) (r := 6 + 2 * s) (n := n) hS1 ht hz1 hD.2.2.1 (shK hS1 (rows_lay hs))
  refine ev_intro rfl (nb rfl) rfl ?_
  refine g_aload_n (pc := 0) dX6_copy_0 rfl trivial ?_
  refine g_iload_n (pc := 1) dX6_copy_1 rfl ?_
  refine g_invV_r (pc := 2) (As := [_]) dX6_copy_2 rfl (s_needSlot (in6 hs)) rfl rfl (shK hD.1 rfl) rfl rfl lk_X6_141 rfl (nb rfl) ⟨nb rfl, nb rfl⟩ rfl ?_
  refine g_aload_n (pc := 5) dX6_copy_5 rfl trivial ?_
  refine g_iload_n (pc := 6) dX6_copy_6 rfl ?_
  refine g_invV_r (pc := 7) (As := [_]) dX6_copy_7 rfl (s_needSlot (in6 ht)) rfl rfl (shK hD.1 rfl) rfl rfl lk_X6_141 rfl (nb rfl) ⟨nb rfl, nb rfl⟩ rfl ?_
  refine g_aload_n (pc := 10) dX6_copy_10 rfl trivial ?_
  refine g_invV_r (pc := 11) (As := []) dX6_copy_11 rfl (q1) rfl rfl (shK hD.1 rfl) rfl rfl lk_X6_222 rfl (nb rfl) ⟨nb rfl, nb rfl⟩ rfl ?_
  refine g_aload_n (pc := 14) dX6_copy_14 rfl trivial ?_
  refine g_aload_n (pc := 15) dX6_copy_15 rfl trivial ?_
  refine g_iload_n (pc := 16) dX6_copy_16 rfl ?_
  refine g_invV_r (pc := 17) (As := [_]) dX6_copy_17 rfl (s_rowsOf hS1 hs) rfl rfl (shK hS1 rfl) rfl rfl lk_X6_112 rfl (nb rfl) ⟨nb rfl, nb rfl⟩ rfl ?_
  refine g_iload_n (pc := 20) dX6_copy_20 rfl ?_
  refine g_invV_r (pc := 21) (As := [_, _]) dX6_copy_21 rfl (q2) rfl rfl (shK hS1 rfl) rfl rfl lk_X6_247 rfl (nb rfl) ⟨nb rfl, nb rfl⟩ rfl ?_
  refine g_ireturn (pc := 24) dX6_copy_24 rfl rfl ?_
  exact ⟨rfl, rfl⟩
/-- rows made beside, then stored -/
def mkM (R : Mem) (f : Nat → Int32) (n : Nat) : Mem := sI R 195 (wr (mI R 195) f n)
theorem mk_st {R : Mem} {f : Nat → Int32} (k : Nat) : pI (mkM R f k) 195 k (f k) = mkM R f (k + 1) := sI_st (wr_s _ f k)
theorem mk_ne {R : Mem} {f : Nat → Int32} {k i : Nat} (h : i ≠ 195) : mI (mkM R f k) i = mI R i := sI_ne h
theorem mk_S {R : Mem} (hS : Shp R) (f : Nat → Int32) (k : Nat) : Shp (mkM R f k) := shp_sI hS
theorem mk_0 {R : Mem} {f : Nat → Int32} : R = mkM R f 0 := by unfold mkM; rw [wr_0, sI_id]
theorem u_transpose {s t : Nat} (hD : Dk M n p c) (hs : s < 6) (ht : t < 6) : EvR l jX6_transpose 7 140 2 12 [.ref 0, .int (nI s), .int (nI t)] M (.inl (some (.int (stV (mkM (remM M p c) (fun k => colOf (mI M (6 + 2 * s)) k n) n) 195 t n)))) (storeM (mkM (remM M p c) (fun k => colOf (mI M (6 + 2 * s)) k n) n) 195 t n) := by
  have hn := hD.2.2.1
  have hS1 := remM_S hD.1 p c
  have hz1 := d_z hD
  have er : mI (remM M p c) (6 + 2 * s) = mI M (6 + 2 * s) := remM_ne hD.2.2.2.2.1 (by omega) (by omega)
  have q1 := d_remember (l := l) hD
  unfold stV
  rw [← er]
  generalize remM M p c = R at *
  have hS2 : ∀ k, Shp (mkM R (fun k => colOf (mI R (6 + 2 * s)) k n) k) := fun k => mk_S hS1 _ k
  have hz2 : ∀ k, mI (mkM R (fun k => colOf (mI R (6 + 2 * s)) k n) k) 3 1 = nI n := fun k => (congrFun (mk_ne (by decide)) 1).trans hz1
  have er2 : ∀ k, mI (mkM R (fun k => colOf (mI R (6 + 2 * s)) k n) k) (6 + 2 * s) = mI R (6 + 2 * s) := fun k => mk_ne (by omega)
  have q2 := s_store (l := l) (r := 195) (n := n) (hS2 n) ht (hz2 n) hn (shK (hS2 n) rfl)
  have est : ∀ k, pI (mkM R (fun k => colOf (mI R (6 + 2 * s)) k n) k) 195 k (colOf (mI R (6 + 2 * s)) k n) = mkM R (fun k => colOf (mI R (6 + 2 * s)) k n) (k + 1) := fun k => mk_st k
  have e00 : R = mkM R (fun k => colOf (mI R (6 + 2 * s)) k n) 0 := mk_0
  refine ev_intro rfl (nb rfl) rfl ?_
  refine g_aload_n (pc := 0) dX6_transpose_0 rfl trivial ?_
  refine g_iload_n (pc := 1) dX6_transpose_1 rfl ?_
  refine g_invV_r (pc := 2) (As := [_]) dX6_transpose_2 rfl (s_needSlot (in6 hs)) rfl rfl (shK hD.1 rfl) rfl rfl lk_X6_141 rfl (nb rfl) ⟨nb rfl, nb rfl⟩ rfl ?_
  refine g_aload_n (pc := 5) dX6_transpose_5 rfl trivial ?_
  refine g_iload_n (pc := 6) dX6_transpose_6 rfl ?_
  refine g_invV_r (pc := 7) (As := [_]) dX6_transpose_7 rfl (s_needSlot (in6 ht)) rfl rfl (shK hD.1 rfl) rfl rfl lk_X6_141 rfl (nb rfl) ⟨nb rfl, nb rfl⟩ rfl ?_
  refine g_aload_n (pc := 10) dX6_transpose_10 rfl trivial ?_
  refine g_invV_r (pc := 11) (As := []) dX6_transpose_11 rfl (q1) rfl rfl (shK hD.1 rfl) rfl rfl lk_X6_222 rfl (nb rfl) ⟨nb rfl, nb rfl⟩ rfl ?_
  refine g_iconst (pc := 14) (v := 0) dX6_transpose_14 rfl ?_
  refine g_istore_n (pc := 15) (lv' := [(0, _), (1, _), (2, _), (3, _)]) dX6_transpose_15 (nl rfl) rfl ?_
  refine go_loop (pc := 16) n (fun i => [(0, .ref 0), (1, .int (nI s)), (2, .int (nI t)), (3, .int (nI i))]) (fun i => mkM R (fun k => colOf (mI R (6 + 2 * s)) k n) i) ⟨rfl, rfl, rfl, rfl, trivial⟩ e00 ?_ ?_
  · intro i hi ih
    have hS3 := hS2 i
    have hz3 := hz2 i
    have er3 := er2 i
    have est3 := est i
    generalize mkM R (fun k => colOf (mI R (6 + 2 * s)) k n) n = M9 at ih ⊢
    generalize mkM R (fun k => colOf (mI R (6 + 2 * s)) k n) (i + 1) = M4 at *
    generalize mkM R (fun k => colOf (mI R (6 + 2 * s)) k n) i = M3 at *
    refine g_iload_n (pc := 16) dX6_transpose_16 rfl ?_
    refine g_aload_n (pc := 17) dX6_transpose_17 rfl trivial ?_
    refine g_getf (pc := 18) dX6_transpose_18 fk_X6_19 (shK hS3 rfl) (fv_obj (shR hS3 rfl)) ?_
    refine g_getf (pc := 21) (v := .int _) dX6_transpose_21 fk_X6_89 (shK hS3 rfl) (fun _ => congrArg Value.int (hz3)) ?_
    refine g_icmp_ge (pc := 24) (tgt := 55) dX6_transpose_24 rfl (fun h24 => absurd h24 (nI_ge hi (by omega))) (fun _ => ?_)
    refine g_aload_n (pc := 27) dX6_transpose_27 rfl trivial ?_
    refine g_getf (pc := 28) dX6_transpose_28 fk_X6_58 (shK hS3 rfl) (fv_arr (shR hS3 rfl)) ?_
    refine g_iload_n (pc := 31) dX6_transpose_31 rfl ?_
    refine g_aload_n (pc := 32) dX6_transpose_32 rfl trivial ?_
    refine g_iload_n (pc := 33) dX6_transpose_33 rfl ?_
    refine g_invV_r (pc := 34) (As := [_]) dX6_transpose_34 rfl (s_rowsOf hS3 hs) rfl rfl (shK hS3 rfl) rfl rfl lk_X6_112 rfl (nb rfl) ⟨nb rfl, nb rfl⟩ rfl ?_
    refine g_iload_n (pc := 37) dX6_transpose_37 rfl ?_
    refine g_aload_n (pc := 38) dX6_transpose_38 rfl trivial ?_
    refine g_getf (pc := 39) dX6_transpose_39 fk_X6_19 (shK hS3 rfl) (fv_obj (shR hS3 rfl)) ?_
    refine g_getf (pc := 42) (v := .int _) dX6_transpose_42 fk_X6_89 (shK hS3 rfl) (fun _ => congrArg Value.int (hz3)) ?_
    refine g_invS_r (pc := 45) (As := [_, _, _]) dX6_transpose_45 rfl (s_columnOf (shK hS3 (rows_lay hs)) (show i < 32 by omega) hn) rfl rfl lk_X6_149 rfl (nb rfl) ⟨nb rfl, nb rfl⟩ rfl ?_
    rw [er3]
    refine g_iastore (pc := 48) dX6_transpose_48 (shK hS3 rfl) rfl (by omega) (nl rfl) ?_
    refine go_cast est3 ?_
    refine g_iinc (pc := 49) (lv' := [(0, _), (1, _), (2, _), (3, _)]) dX6_transpose_49 rfl (nI_1 _) (nl rfl) rfl ?_
    refine g_goto (pc := 52) (tgt := 16) dX6_transpose_52 rfl ?_
    exact ih
  · have hS3 := hS2 n
    have hz3 := hz2 n
    generalize mkM R (fun k => colOf (mI R (6 + 2 * s)) k n) n = M9 at *
    refine g_iload_n (pc := 16) dX6_transpose_16 rfl ?_
    refine g_aload_n (pc := 17) dX6_transpose_17 rfl trivial ?_
    refine g_getf (pc := 18) dX6_transpose_18 fk_X6_19 (shK hS3 rfl) (fv_obj (shR hS3 rfl)) ?_
    refine g_getf (pc := 21) (v := .int _) dX6_transpose_21 fk_X6_89 (shK hS3 rfl) (fun _ => congrArg Value.int (hz3)) ?_
    refine g_icmp_ge (pc := 24) (tgt := 55) dX6_transpose_24 rfl (fun _ => ?_) (fun h24 => absurd (nI_le (Nat.le_refl _) (by omega)) h24)
    refine g_aload_n (pc := 55) dX6_transpose_55 rfl trivial ?_
    refine g_aload_n (pc := 56) dX6_transpose_56 rfl trivial ?_
    refine g_getf (pc := 57) dX6_transpose_57 fk_X6_58 (shK hS3 rfl) (fv_arr (shR hS3 rfl)) ?_
    refine g_iload_n (pc := 60) dX6_transpose_60 rfl ?_
    refine g_invV_r (pc := 61) (As := [_, _]) dX6_transpose_61 rfl (q2) rfl rfl (shK hS3 rfl) rfl rfl lk_X6_247 rfl (nb rfl) ⟨nb rfl, nb rfl⟩ rfl ?_
    refine g_ireturn (pc := 64) dX6_transpose_64 rfl rfl ?_
    exact ⟨rfl, rfl⟩
theorem u_close {s t : Nat} (hD : Dk M n p c) (hs : s < 6) (ht : t < 6) : EvR l jX6_close 7 140 2 12 [.ref 0, .int (nI s), .int (nI t)] M (.inl (some (.int (stV (clOf (remM M p c) s n) (175 + 2 * s + 1) t n)))) (storeM (clOf (remM M p c) s n) (175 + 2 * s + 1) t n) := by
  have hn := hD.2.2.1
  have hS1 := remM_S hD.1 p c
  have hz1 := d_z hD
  have q1 := d_remember (l := l) hD
  have hc := cl_ok' s hs
  unfold stV
  generalize remM M p c = R at *
  have hS2 := clOf_S hS1 s n
  have hz2 := clOf_z hz1 hs
  have q2 := s_closureOf (l := l) hS1 hs hz1 hn
  generalize clOf R s n = R2 at *
  have q3 := s_store (l := l) (r := 175 + 2 * s + 1) (n := n) hS2 ht hz2 hn (shK hS2 hc.2.1)
  refine ev_intro rfl (nb rfl) rfl ?_
  refine g_aload_n (pc := 0) dX6_close_0 rfl trivial ?_
  refine g_iload_n (pc := 1) dX6_close_1 rfl ?_
  refine g_invV_r (pc := 2) (As := [_]) dX6_close_2 rfl (s_needSlot (in6 hs)) rfl rfl (shK hD.1 rfl) rfl rfl lk_X6_141 rfl (nb rfl) ⟨nb rfl, nb rfl⟩ rfl ?_
  refine g_aload_n (pc := 5) dX6_close_5 rfl trivial ?_
  refine g_iload_n (pc := 6) dX6_close_6 rfl ?_
  refine g_invV_r (pc := 7) (As := [_]) dX6_close_7 rfl (s_needSlot (in6 ht)) rfl rfl (shK hD.1 rfl) rfl rfl lk_X6_141 rfl (nb rfl) ⟨nb rfl, nb rfl⟩ rfl ?_
  refine g_aload_n (pc := 10) dX6_close_10 rfl trivial ?_
  refine g_invV_r (pc := 11) (As := []) dX6_close_11 rfl (q1) rfl rfl (shK hD.1 rfl) rfl rfl lk_X6_222 rfl (nb rfl) ⟨nb rfl, nb rfl⟩ rfl ?_
  refine g_aload_n (pc := 14) dX6_close_14 rfl trivial ?_
  refine g_aload_n (pc := 15) dX6_close_15 rfl trivial ?_
  refine g_iload_n (pc := 16) dX6_close_16 rfl ?_
  refine g_invV_r (pc := 17) (As := [_]) dX6_close_17 rfl (q2) rfl rfl (shK hS1 rfl) rfl rfl lk_X6_162 rfl (nb rfl) ⟨nb rfl, nb rfl⟩ rfl ?_
  refine g_getf (pc := 20) dX6_close_20 fk_X6_166 (shK hS2 hc.1) (fv_arr (shR hS2 hc.2.2)) ?_
  refine g_iload_n (pc := 23) dX6_close_23 rfl ?_
  refine g_invV_r (pc := 24) (As := [_, _]) dX6_close_24 rfl (q3) rfl rfl (shK hS2 rfl) rfl rfl lk_X6_247 rfl (nb rfl) ⟨nb rfl, nb rfl⟩ rfl ?_
  refine g_ireturn (pc := 27) dX6_close_27 rfl rfl ?_
  exact ⟨rfl, rfl⟩
end
