section
variable {l : Launch} {M : Mem} {n p c : Nat}
theorem snap_ok : ∀ q, q < 2 → 145 + 14 * q ∈ bases ∧ REFT 144 q = some (145 + 14 * q) := by decide +kernel
theorem nar1 : vp_nar .boolean 1 = 1 := by decide +kernel
def svM (M : Mem) (q : Nat) : Mem := pI (stTake M (145 + 14 * q) 3) 173 q 1
theorem u_save {q : Nat} (hS : Shp M) (hk : keptOk M 3) (hq : q < 2) : EvR l jX6_saveSnapshot 7 140 1 6 [.ref 0, .int (nI q)] M (.inl (some (.int (mI M 3 1)))) (svM M q) := by
  obtain ⟨b1, b2⟩ := snap_ok q hq
  have hb9 := st_of b1
  have q1 := s_stTake (l := l) hS hb9 st3 (by omega) hk
  have hS1 := stTake_S hS (145 + 14 * q) 3
  have e3 : mI (stTake M (145 + 14 * q) 3) 3 1 = mI M 3 1 := congrFun (stTake_ne (by omega)) 1
  unfold svM
  generalize stTake M (145 + 14 * q) 3 = M1 at *
  have hS2 : Shp (pI M1 173 q 1) := shp_pI hS1
  have e4 : mI (pI M1 173 q 1) 3 1 = mI M 3 1 := (congrFun (pI_i (by decide)) 1).trans e3
  generalize hM2 : pI M1 173 q 1 = M2 at *
  refine ev_intro rfl (nb rfl) rfl ?_
  refine g_aload_n (pc := 0) dX6_saveSnapshot_0 rfl trivial ?_
  refine g_iload_n (pc := 1) dX6_saveSnapshot_1 rfl ?_
  refine g_iconst (pc := 2) (v := 0) dX6_saveSnapshot_2 rfl ?_
  refine g_iconst (pc := 3) (v := 1) dX6_saveSnapshot_3 rfl ?_
  refine g_invV_r (pc := 4) (As := [_, _, _]) dX6_saveSnapshot_4 rfl (s_needRange (nI_pos (by omega)) (nI_le (b := 1) (by omega) (by decide))) rfl rfl (shK hS rfl) rfl rfl lk_X6_95 rfl (nb rfl) ⟨nb rfl, nb rfl⟩ rfl ?_
  refine g_aload_n (pc := 7) dX6_saveSnapshot_7 rfl trivial ?_
  refine g_getf (pc := 8) dX6_saveSnapshot_8 fk_X6_30 (shK hS rfl) (fv_arr (shR hS rfl)) ?_
  refine g_iload_n (pc := 11) dX6_saveSnapshot_11 rfl ?_
  refine g_aaload_State (pc := 12) dX6_saveSnapshot_12 (shK hS rfl) rfl hq (by decide) (shR hS b2) ?_
  refine g_aload_n (pc := 13) dX6_saveSnapshot_13 rfl trivial ?_
  refine g_getf (pc := 14) dX6_saveSnapshot_14 fk_X6_19 (shK hS rfl) (fv_obj (shR hS rfl)) ?_
  refine g_invV_r (pc := 17) (As := [_]) dX6_saveSnapshot_17 rfl (q1) rfl rfl (shK hS hb9.1.1) rfl rfl lk_X6_313 rfl (nb rfl) ⟨nb rfl, nb rfl⟩ rfl ?_
  refine g_aload_n (pc := 20) dX6_saveSnapshot_20 rfl trivial ?_
  refine g_getf (pc := 21) dX6_saveSnapshot_21 fk_X6_33 (shK hS1 rfl) (fv_arr (shR hS1 rfl)) ?_
  refine g_iload_n (pc := 24) dX6_saveSnapshot_24 rfl ?_
  refine g_iconst (pc := 25) (v := 1) dX6_saveSnapshot_25 rfl ?_
  refine g_zastore (pc := 26) dX6_saveSnapshot_26 (shK hS1 rfl) rfl hq (nl rfl) ?_
  rw [nar1]
  refine go_cast hM2 ?_
  refine g_aload_n (pc := 27) dX6_saveSnapshot_27 rfl trivial ?_
  refine g_getf (pc := 28) dX6_saveSnapshot_28 fk_X6_19 (shK hS2 rfl) (fv_obj (shR hS2 rfl)) ?_
  refine g_getf (pc := 31) (v := .int _) dX6_saveSnapshot_31 fk_X6_89 (shK hS2 rfl) (fun _ => congrArg Value.int (e4)) ?_
  refine g_ireturn (pc := 34) dX6_saveSnapshot_34 rfl rfl ?_
  exact ⟨rfl, rfl⟩
theorem x_save {v : Int32} (hS : Shp M) (h : ¬ (¬ v < 0 ∧ v ≤ 1)) : EvR l jX6_saveSnapshot 7 140 1 6 [.ref 0, .int v] M (.inr xIA) M := by
  refine ev_intro rfl (nb rfl) rfl ?_
  refine g_aload_n (pc := 0) dX6_saveSnapshot_0 rfl trivial ?_
  refine g_iload_n (pc := 1) dX6_saveSnapshot_1 rfl ?_
  refine g_iconst (pc := 2) (v := 0) dX6_saveSnapshot_2 rfl ?_
  refine g_iconst (pc := 3) (v := 1) dX6_saveSnapshot_3 rfl ?_
  refine g_invV_x (pc := 4) (As := [_, _, _]) dX6_saveSnapshot_4 rfl (x_needRange hS h) rfl rfl (shK hS rfl) rfl rfl lk_X6_95 rfl (nb rfl) ⟨nb rfl, nb rfl⟩ rfl ?_
  exact ⟨rfl, rfl⟩
theorem dropC_ne {i : Nat} (h : i < 175 ∨ 187 ≤ i) : ∀ k, k ≤ 6 → mI (dropC M k) i = mI M i
  | 0, _ => by rw [dropC]
  | k + 1, hk => by rw [dropC, pI_i (by omega), dropC_ne h k (by omega)]
theorem stTake_n {b o : Nat} : mI (stTake M b o) b 1 = mI M o 1 := by
  unfold stTake
  rw [pI_k (by decide), pI_k (by decide), pI_k (by decide), pI_self]
theorem replM_n {o : Nat} : mI (replM M o) 3 1 = mI M o 1 := by
  unfold replM
  rw [dropC_ne (by decide) 6 (Nat.le_refl _), pI_i (by decide)]
  exact stTake_n
theorem replM_S (hS : Shp M) (o : Nat) : Shp (replM M o) := by
  unfold replM
  exact dropC_S (shp_pI (stTake_S hS 3 o)) 6
theorem u_restore {q : Nat} (hS : Shp M) (hk : keptOk M (145 + 14 * q)) (hq : q < 2) : EvR l jX6_restoreSnapshot 7 170 1 6 [.ref 0, .int (nI q)] M (.inl (some (.int (if mI M 173 q = 0 then -1 else mI M (145 + 14 * q) 1)))) (if mI M 173 q = 0 then M else replM M (145 + 14 * q)) := by
  obtain ⟨b1, b2⟩ := snap_ok q hq
  have hb9 := st_of b1
  have q1 := s_replaceState (l := l) hS hb9 (by omega) hk
  have hS1 := replM_S hS (145 + 14 * q)
  have e1 : mI (replM M (145 + 14 * q)) 3 1 = mI M (145 + 14 * q) 1 := replM_n
  generalize replM M (145 + 14 * q) = M1 at *
  refine ev_intro rfl (nb rfl) rfl ?_
  refine g_aload_n (pc := 0) dX6_restoreSnapshot_0 rfl trivial ?_
  refine g_iload_n (pc := 1) dX6_restoreSnapshot_1 rfl ?_
  refine g_iconst (pc := 2) (v := 0) dX6_restoreSnapshot_2 rfl ?_
  refine g_iconst (pc := 3) (v := 1) dX6_restoreSnapshot_3 rfl ?_
  refine g_invV_r (pc := 4) (As := [_, _, _]) dX6_restoreSnapshot_4 rfl (s_needRange (nI_pos (by omega)) (nI_le (b := 1) (by omega) (by decide))) rfl rfl (shK hS rfl) rfl rfl lk_X6_95 rfl (nb rfl) ⟨nb rfl, nb rfl⟩ rfl ?_
  refine g_aload_n (pc := 7) dX6_restoreSnapshot_7 rfl trivial ?_
  refine g_getf (pc := 8) dX6_restoreSnapshot_8 fk_X6_33 (shK hS rfl) (fv_arr (shR hS rfl)) ?_
  refine g_iload_n (pc := 11) dX6_restoreSnapshot_11 rfl ?_
  refine g_zaload (pc := 12) dX6_restoreSnapshot_12 (shK hS rfl) rfl hq (nl rfl) ?_
  refine g_if_ne (pc := 13) (tgt := 18) dX6_restoreSnapshot_13 rfl (fun h13 => ?_) (fun h13 => ?_)
  · rw [if_neg h13, if_neg h13]
    refine g_aload_n (pc := 18) dX6_restoreSnapshot_18 rfl trivial ?_
    refine g_aload_n (pc := 19) dX6_restoreSnapshot_19 rfl trivial ?_
    refine g_getf (pc := 20) dX6_restoreSnapshot_20 fk_X6_30 (shK hS rfl) (fv_arr (shR hS rfl)) ?_
    refine g_iload_n (pc := 23) dX6_restoreSnapshot_23 rfl ?_
    refine g_aaload_State (pc := 24) dX6_restoreSnapshot_24 (shK hS rfl) rfl hq (by decide) (shR hS b2) ?_
    refine g_invV_r (pc := 25) (As := [_]) dX6_restoreSnapshot_25 rfl (q1) rfl rfl (shK hS rfl) rfl rfl lk_X6_83 rfl (nb rfl) ⟨nb rfl, nb rfl⟩ rfl ?_
    refine g_aload_n (pc := 28) dX6_restoreSnapshot_28 rfl trivial ?_
    refine g_getf (pc := 29) dX6_restoreSnapshot_29 fk_X6_19 (shK hS1 rfl) (fv_obj (shR hS1 rfl)) ?_
    refine g_getf (pc := 32) (v := .int _) dX6_restoreSnapshot_32 fk_X6_89 (shK hS1 rfl) (fun _ => congrArg Value.int (e1)) ?_
    refine g_ireturn (pc := 35) dX6_restoreSnapshot_35 rfl rfl ?_
    exact ⟨rfl, rfl⟩
  · rw [if_pos (Decidable.not_not.mp h13), if_pos (Decidable.not_not.mp h13)]
    refine g_iconst (pc := 16) (v := (-1)) dX6_restoreSnapshot_16 rfl ?_
    refine g_ireturn (pc := 17) dX6_restoreSnapshot_17 rfl rfl ?_
    exact ⟨rfl, rfl⟩
theorem x_restore {v : Int32} (hS : Shp M) (h : ¬ (¬ v < 0 ∧ v ≤ 1)) : EvR l jX6_restoreSnapshot 7 170 1 6 [.ref 0, .int v] M (.inr xIA) M := by
  refine ev_intro rfl (nb rfl) rfl ?_
  refine g_aload_n (pc := 0) dX6_restoreSnapshot_0 rfl trivial ?_
  refine g_iload_n (pc := 1) dX6_restoreSnapshot_1 rfl ?_
  refine g_iconst (pc := 2) (v := 0) dX6_restoreSnapshot_2 rfl ?_
  refine g_iconst (pc := 3) (v := 1) dX6_restoreSnapshot_3 rfl ?_
  refine g_invV_x (pc := 4) (As := [_, _, _]) dX6_restoreSnapshot_4 rfl (x_needRange hS h) rfl rfl (shK hS rfl) rfl rfl lk_X6_95 rfl (nb rfl) ⟨nb rfl, nb rfl⟩ rfl ?_
  exact ⟨rfl, rfl⟩
/-- a row written out as letters -/
def woF (x : Int32) (k : Nat) : Int32 := if hb x k = true then 49 else 48
def woM (M : Mem) (x : Int32) (n k : Nat) : Mem := sI (pI M 0 14 (nI n)) 197 (wr (mI M 197) (woF x) k)
theorem q_writeRow {s r : Nat} (hS : Shp M) (hz : mI M 3 1 = nI n) (hn : n ≤ 32) (hs : s < 6) (hr : r < n) : EvR l jX6_writeRow 8 140 2 12 [.ref 0, .int (nI s), .int (nI r)] M (.inl (some (.int (nI n)))) (woM M (mI M (6 + 2 * s) r) n n) := by
  obtain ⟨x, hx⟩ : ∃ x, x = mI M (6 + 2 * s) r := ⟨_, rfl⟩
  rw [← hx]
  have e00 : pI M 0 14 (nI n) = woM M x n 0 := by
    unfold woM
    rw [wr_0]
    exact (sI_eq (pI_i (by decide)).symm)
  have hS2 : ∀ k, Shp (woM M x n k) := fun k => shp_sI (shp_pI hS)
  have ho : ∀ k, mI (woM M x n k) 0 14 = nI n := fun k => by unfold woM; rw [sI_ne (by decide), pI_self]
  have est : ∀ k, pI (woM M x n k) 197 k (woF x k) = woM M x n (k + 1) := fun k => sI_st (wr_s _ (woF x) k)
  refine ev_intro rfl (nb rfl) rfl ?_
  refine g_aload_n (pc := 0) dX6_writeRow_0 rfl trivial ?_
  refine g_iload_n (pc := 1) dX6_writeRow_1 rfl ?_
  refine g_iload_n (pc := 2) dX6_writeRow_2 rfl ?_
  refine g_invV_r (pc := 3) (As := [_, _]) dX6_writeRow_3 rfl (s_needRow hS hz (in6 hs) (inR_nI hr (by omega))) rfl rfl (shK hS rfl) rfl rfl lk_X6_120 rfl (nb rfl) ⟨nb rfl, nb rfl⟩ rfl ?_
  refine g_aload_n (pc := 6) dX6_writeRow_6 rfl trivial ?_
  refine g_iload_n (pc := 7) dX6_writeRow_7 rfl ?_
  refine g_invV_r (pc := 8) (As := [_]) dX6_writeRow_8 rfl (s_rowsOf hS hs) rfl rfl (shK hS rfl) rfl rfl lk_X6_112 rfl (nb rfl) ⟨nb rfl, nb rfl⟩ rfl ?_
  refine g_iload_n (pc := 11) dX6_writeRow_11 rfl ?_
  refine g_iaload (pc := 12) dX6_writeRow_12 (shK hS (rows_lay hs)) rfl (by omega) (nl rfl) ?_
  rw [← hx]
  refine g_istore_n (pc := 13) (lv' := [(0, _), (1, _), (2, _), (3, _)]) dX6_writeRow_13 (nl rfl) rfl ?_
  refine g_aload_n (pc := 14) dX6_writeRow_14 rfl trivial ?_
  refine g_aload_n (pc := 15) dX6_writeRow_15 rfl trivial ?_
  refine g_getf (pc := 16) dX6_writeRow_16 fk_X6_19 (shK hS rfl) (fv_obj (shR hS rfl)) ?_
  refine g_getf (pc := 19) (v := .int _) dX6_writeRow_19 fk_X6_89 (shK hS rfl) (fun _ => congrArg Value.int (hz)) ?_
  refine g_putI (pc := 22) dX6_writeRow_22 fp_X6_86 (shK hS rfl) ⟨rfl, rfl⟩ (fun _ _ _ _ => rfl) ?_
  refine g_iconst (pc := 25) (v := 0) dX6_writeRow_25 rfl ?_
  refine g_istore (pc := 26) (lv' := [(0, _), (1, _), (2, _), (3, _), (4, _)]) dX6_writeRow_26 (nl rfl) rfl ?_
  refine go_loop (pc := 28) n (fun i => [(0, .ref 0), (1, .int (nI s)), (2, .int (nI r)), (3, .int x), (4, .int (nI i))]) (fun i => woM M x n i) ⟨rfl, rfl, rfl, rfl, rfl, trivial⟩ e00 ?_ ?_
  · intro i hi ih
    have hS3 := hS2 i
    have ho3 := ho i
    have est3 := est i
    generalize woM M x n n = M9 at ih ⊢
    generalize woM M x n (i + 1) = M4 at *
    generalize woM M x n i = M3 at *
    unfold woF at est3
    refine g_iload (pc := 28) dX6_writeRow_28 rfl ?_
    refine g_aload_n (pc := 30) dX6_writeRow_30 rfl trivial ?_
    refine g_getf (pc := 31) (v := .int _) dX6_writeRow_31 fk_X6_86 (shK hS3 rfl) (fun _ => congrArg Value.int (ho3)) ?_
    refine g_icmp_ge (pc := 34) (tgt := 66) dX6_writeRow_34 rfl (fun h34 => absurd h34 (nI_ge hi (by omega))) (fun _ => ?_)
    refine g_aload_n (pc := 37) dX6_writeRow_37 rfl trivial ?_
    refine g_getf (pc := 38) dX6_writeRow_38 fk_X6_65 (shK hS3 rfl) (fv_arr (shR hS3 rfl)) ?_
    refine g_iload (pc := 41) dX6_writeRow_41 rfl ?_
    refine g_iload_n (pc := 43) dX6_writeRow_43 rfl ?_
    refine g_iload (pc := 44) dX6_writeRow_44 rfl ?_
    refine g_invS_r (pc := 46) (As := [_, _]) dX6_writeRow_46 rfl (s_hasOne (by omega)) rfl rfl lk_X6_116 rfl (nb rfl) ⟨nb rfl, nb rfl⟩ rfl ?_
    refine g_if_eq (pc := 49) (tgt := 57) dX6_writeRow_49 rfl (fun h49 => ?_) (fun h49 => ?_)
    · rw [b1_0] at h49
      rw [if_neg (by rw [h49]; decide)] at est3
      refine g_bipush (pc := 57) (v := 48) dX6_writeRow_57 rfl ?_
      refine g_iastore (pc := 59) dX6_writeRow_59 (shK hS3 rfl) rfl (by omega) (nl rfl) ?_
      refine go_cast est3 ?_
      refine g_iinc (pc := 60) (lv' := [(0, _), (1, _), (2, _), (3, _), (4, _)]) dX6_writeRow_60 rfl (nI_1 _) (nl rfl) rfl ?_
      refine g_goto (pc := 63) (tgt := 28) dX6_writeRow_63 rfl ?_
      exact ih
    · rw [b1_0, Bool.not_eq_false] at h49
      rw [if_pos h49] at est3
      refine g_bipush (pc := 52) (v := 49) dX6_writeRow_52 rfl ?_
      refine g_goto (pc := 54) (tgt := 59) dX6_writeRow_54 rfl ?_
      refine g_iastore (pc := 59) dX6_writeRow_59 (shK hS3 rfl) rfl (by omega) (nl rfl) ?_
      refine go_cast est3 ?_
      refine g_iinc (pc := 60) (lv' := [(0, _), (1, _), (2, _), (3, _), (4, _)]) dX6_writeRow_60 rfl (nI_1 _) (nl rfl) rfl ?_
      refine g_goto (pc := 63) (tgt := 28) dX6_writeRow_63 rfl ?_
      exact ih
  · have hS3 := hS2 n
    have ho3 := ho n
    generalize woM M x n n = M9 at *
    refine g_iload (pc := 28) dX6_writeRow_28 rfl ?_
    refine g_aload_n (pc := 30) dX6_writeRow_30 rfl trivial ?_
    refine g_getf (pc := 31) (v := .int _) dX6_writeRow_31 fk_X6_86 (shK hS3 rfl) (fun _ => congrArg Value.int (ho3)) ?_
    refine g_icmp_ge (pc := 34) (tgt := 66) dX6_writeRow_34 rfl (fun _ => ?_) (fun h34 => absurd (nI_le (Nat.le_refl _) (by omega)) h34)
    refine g_aload_n (pc := 66) dX6_writeRow_66 rfl trivial ?_
    refine g_getf (pc := 67) (v := .int _) dX6_writeRow_67 fk_X6_86 (shK hS3 rfl) (fun _ => congrArg Value.int (ho3)) ?_
    refine g_ireturn (pc := 70) dX6_writeRow_70 rfl rfl ?_
    exact ⟨rfl, rfl⟩
theorem x_writeRow {v w : Int32} (hS : Shp M) (hz : mI M 3 1 = nI n) (h : ¬ (inR v 6 ∧ inR w n)) : EvR l jX6_writeRow 8 140 2 12 [.ref 0, .int v, .int w] M (.inr xIO) M := by
  refine ev_intro rfl (nb rfl) rfl ?_
  refine g_aload_n (pc := 0) dX6_writeRow_0 rfl trivial ?_
  refine g_iload_n (pc := 1) dX6_writeRow_1 rfl ?_
  refine g_iload_n (pc := 2) dX6_writeRow_2 rfl ?_
  refine g_invV_x (pc := 3) (As := [_, _]) dX6_writeRow_3 rfl (x_needRow hS hz h) rfl rfl (shK hS rfl) rfl rfl lk_X6_120 rfl (nb rfl) ⟨nb rfl, nb rfl⟩ rfl ?_
  exact ⟨rfl, rfl⟩
end

