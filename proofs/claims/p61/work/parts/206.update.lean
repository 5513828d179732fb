section
variable {l : Launch} {M : Mem} {n p c : Nat}
theorem u_combine {a b t how : Nat} (hD : Dk M n p c) (ha : a < 6) (hb9 : b < 6) (ht : t < 6) (hh : how < 4) : EvR l jX6_combine 7 140 4 24 [.ref 0, .int (nI a), .int (nI b), .int (nI t), .int (nI how)] M (.inl (some (.int (stV (mkM (remM M p c) (fun k => comb (mI M (6 + 2 * a) k) (mI M (6 + 2 * b) k) how) n) 195 t n)))) (storeM (mkM (remM M p c) (fun k => comb (mI M (6 + 2 * a) k) (mI M (6 + 2 * b) k) how) n) 195 t n) := by
  have hn := hD.2.2.1
  have hS1 := remM_S hD.1 p c
  have hz1 := d_z hD
  have er : ∀ s, s < 6 → mI (remM M p c) (6 + 2 * s) = mI M (6 + 2 * s) := fun s hs => remM_ne hD.2.2.2.2.1 (by omega) (by omega)
  have q1 := d_remember (l := l) hD
  unfold stV
  rw [← er a ha, ← er b hb9]
  generalize remM M p c = R at *
  obtain ⟨f, hf⟩ : ∃ f, f = fun k => comb (mI R (6 + 2 * a) k) (mI R (6 + 2 * b) k) how := ⟨_, rfl⟩
  have hf1 : ∀ k, f k = comb (mI R (6 + 2 * a) k) (mI R (6 + 2 * b) k) how := fun k => by rw [hf]
  rw [← hf]
  have hS2 : ∀ k, Shp (mkM R f k) := fun k => mk_S hS1 f k
  have hz2 : ∀ k, mI (mkM R f k) 3 1 = nI n := fun k => (congrFun (mk_ne (by decide)) 1).trans hz1
  have er2 : ∀ k s, s < 6 → mI (mkM R f k) (6 + 2 * s) = mI R (6 + 2 * s) := fun k s hs => mk_ne (by omega)
  have q2 := s_store (l := l) (r := 195) (n := n) (hS2 n) ht (hz2 n) hn (shK (hS2 n) rfl)
  have est : ∀ k, pI (mkM R f k) 195 k (f k) = mkM R f (k + 1) := fun k => mk_st k
  have e00 : R = mkM R f 0 := mk_0
  refine ev_intro rfl (nb rfl) rfl ?_
  refine g_aload_n (pc := 0) dX6_combine_0 rfl trivial ?_
  refine g_iload_n (pc := 1) dX6_combine_1 rfl ?_
  refine g_invV_r (pc := 2) (As := [_]) dX6_combine_2 rfl (s_needSlot (in6 ha)) rfl rfl (shK hD.1 rfl) rfl rfl lk_X6_141 rfl (nb rfl) ⟨nb rfl, nb rfl⟩ rfl ?_
  refine g_aload_n (pc := 5) dX6_combine_5 rfl trivial ?_
  refine g_iload_n (pc := 6) dX6_combine_6 rfl ?_
  refine g_invV_r (pc := 7) (As := [_]) dX6_combine_7 rfl (s_needSlot (in6 hb9)) rfl rfl (shK hD.1 rfl) rfl rfl lk_X6_141 rfl (nb rfl) ⟨nb rfl, nb rfl⟩ rfl ?_
  refine g_aload_n (pc := 10) dX6_combine_10 rfl trivial ?_
  refine g_iload_n (pc := 11) dX6_combine_11 rfl ?_
  refine g_invV_r (pc := 12) (As := [_]) dX6_combine_12 rfl (s_needSlot (in6 ht)) rfl rfl (shK hD.1 rfl) rfl rfl lk_X6_141 rfl (nb rfl) ⟨nb rfl, nb rfl⟩ rfl ?_
  refine g_aload_n (pc := 15) dX6_combine_15 rfl trivial ?_
  refine g_iload (pc := 16) dX6_combine_16 rfl ?_
  refine g_iconst (pc := 18) (v := 0) dX6_combine_18 rfl ?_
  refine g_iconst (pc := 19) (v := 3) dX6_combine_19 rfl ?_
  refine g_invV_r (pc := 20) (As := [_, _, _]) dX6_combine_20 rfl (s_needRange (nI_pos (by omega)) (nI_le (b := 3) (by omega) (by decide))) rfl rfl (shK hD.1 rfl) rfl rfl lk_X6_95 rfl (nb rfl) ⟨nb rfl, nb rfl⟩ rfl ?_
  refine g_aload_n (pc := 23) dX6_combine_23 rfl trivial ?_
  refine g_invV_r (pc := 24) (As := []) dX6_combine_24 rfl (q1) rfl rfl (shK hD.1 rfl) rfl rfl lk_X6_222 rfl (nb rfl) ⟨nb rfl, nb rfl⟩ rfl ?_
  refine g_iconst (pc := 27) (v := 0) dX6_combine_27 rfl ?_
  refine g_istore (pc := 28) (lv' := [(0, _), (1, _), (2, _), (3, _), (4, _), (5, _)]) dX6_combine_28 (nl rfl) rfl ?_
  refine go_loop (pc := 30) n (fun i => [(0, .ref 0), (1, .int (nI a)), (2, .int (nI b)), (3, .int (nI t)), (4, .int (nI how)), (5, .int (nI i))]) (fun i => mkM R f i) ⟨rfl, rfl, rfl, rfl, rfl, rfl, trivial⟩ e00 ?_ ?_
  · intro i hi ih
    have hS3 := hS2 i
    have hz3 := hz2 i
    have era := er2 i a ha
    have erb := er2 i b hb9
    have est3 := est i
    rw [hf1] at est3
    generalize mkM R f n = M9 at ih ⊢
    generalize mkM R f (i + 1) = M4 at *
    generalize mkM R f i = M3 at *
    refine g_iload (pc := 30) dX6_combine_30 rfl ?_
    refine g_aload_n (pc := 32) dX6_combine_32 rfl trivial ?_
    refine g_getf (pc := 33) dX6_combine_33 fk_X6_19 (shK hS3 rfl) (fv_obj (shR hS3 rfl)) ?_
    refine g_getf (pc := 36) (v := .int _) dX6_combine_36 fk_X6_89 (shK hS3 rfl) (fun _ => congrArg Value.int (hz3)) ?_
    refine g_icmp_ge (pc := 39) (tgt := 76) dX6_combine_39 rfl (fun h39 => absurd h39 (nI_ge hi (by omega))) (fun _ => ?_)
    refine g_aload_n (pc := 42) dX6_combine_42 rfl trivial ?_
    refine g_getf (pc := 43) dX6_combine_43 fk_X6_58 (shK hS3 rfl) (fv_arr (shR hS3 rfl)) ?_
    refine g_iload (pc := 46) dX6_combine_46 rfl ?_
    refine g_aload_n (pc := 48) dX6_combine_48 rfl trivial ?_
    refine g_iload_n (pc := 49) dX6_combine_49 rfl ?_
    refine g_invV_r (pc := 50) (As := [_]) dX6_combine_50 rfl (s_rowsOf hS3 ha) rfl rfl (shK hS3 rfl) rfl rfl lk_X6_112 rfl (nb rfl) ⟨nb rfl, nb rfl⟩ rfl ?_
    refine g_iload (pc := 53) dX6_combine_53 rfl ?_
    refine g_iaload (pc := 55) dX6_combine_55 (shK hS3 (rows_lay ha)) rfl (by omega) (nl rfl) ?_
    rw [era]
    refine g_aload_n (pc := 56) dX6_combine_56 rfl trivial ?_
    refine g_iload_n (pc := 57) dX6_combine_57 rfl ?_
    refine g_invV_r (pc := 58) (As := [_]) dX6_combine_58 rfl (s_rowsOf hS3 hb9) rfl rfl (shK hS3 rfl) rfl rfl lk_X6_112 rfl (nb rfl) ⟨nb rfl, nb rfl⟩ rfl ?_
    refine g_iload (pc := 61) dX6_combine_61 rfl ?_
    refine g_iaload (pc := 63) dX6_combine_63 (shK hS3 (rows_lay hb9)) rfl (by omega) (nl rfl) ?_
    rw [erb]
    refine g_iload (pc := 64) dX6_combine_64 rfl ?_
    refine g_invS_r (pc := 66) (As := [_, _, _]) dX6_combine_66 rfl (s_combined hh) rfl rfl lk_X6_250 rfl (nb rfl) ⟨nb rfl, nb rfl⟩ rfl ?_
    refine g_iastore (pc := 69) dX6_combine_69 (shK hS3 rfl) rfl (by omega) (nl rfl) ?_
    refine go_cast est3 ?_
    refine g_iinc (pc := 70) (lv' := [(0, _), (1, _), (2, _), (3, _), (4, _), (5, _)]) dX6_combine_70 rfl (nI_1 _) (nl rfl) rfl ?_
    refine g_goto (pc := 73) (tgt := 30) dX6_combine_73 rfl ?_
    exact ih
  · have hS3 := hS2 n
    have hz3 := hz2 n
    generalize mkM R f n = M9 at *
    refine g_iload (pc := 30) dX6_combine_30 rfl ?_
    refine g_aload_n (pc := 32) dX6_combine_32 rfl trivial ?_
    refine g_getf (pc := 33) dX6_combine_33 fk_X6_19 (shK hS3 rfl) (fv_obj (shR hS3 rfl)) ?_
    refine g_getf (pc := 36) (v := .int _) dX6_combine_36 fk_X6_89 (shK hS3 rfl) (fun _ => congrArg Value.int (hz3)) ?_
    refine g_icmp_ge (pc := 39) (tgt := 76) dX6_combine_39 rfl (fun _ => ?_) (fun h39 => absurd (nI_le (Nat.le_refl _) (by omega)) h39)
    refine g_aload_n (pc := 76) dX6_combine_76 rfl trivial ?_
    refine g_aload_n (pc := 77) dX6_combine_77 rfl trivial ?_
    refine g_getf (pc := 78) dX6_combine_78 fk_X6_58 (shK hS3 rfl) (fv_arr (shR hS3 rfl)) ?_
    refine g_iload_n (pc := 81) dX6_combine_81 rfl ?_
    refine g_invV_r (pc := 82) (As := [_, _]) dX6_combine_82 rfl (q2) rfl rfl (shK hS3 rfl) rfl rfl lk_X6_247 rfl (nb rfl) ⟨nb rfl, nb rfl⟩ rfl ?_
    refine g_ireturn (pc := 85) dX6_combine_85 rfl rfl ?_
    exact ⟨rfl, rfl⟩
def kpM (M : Mem) (s n p c : Nat) (f : Int32) : Mem := mxAnew (pI (remM M p c) (5 + 2 * s) 1 f) (5 + 2 * s) (nI n)
theorem kpM_S (hS : Shp M) (s : Nat) (f : Int32) : Shp (kpM M s n p c f) := (shp_pI (remM_S hS p c)).anew
theorem u_keep {s : Nat} {f : Int32} (hD : Dk M n p c) (hs : s < 6) (hf : k01 f) : EvR l jX6_keep 7 140 1 6 [.ref 0, .int (nI s), .int f] M (.inl (some (.int (nI (keptC (kpM M s n p c f) 6))))) (kpM M s n p c f) := by
  have hS1 := remM_S hD.1 p c
  have hz1 := d_z hD
  have q1 := d_remember (l := l) hD
  have hS4 := kpM_S (n := n) (p := p) (c := c) hD.1 s f
  have q4 := s_keptSlots (l := l) hS4
  generalize keptC (kpM M s n p c f) 6 = K at *
  unfold kpM at *
  generalize remM M p c = R at *
  obtain ⟨m1, m2⟩ := mx5 hs
  have hS2 : Shp (pI R (5 + 2 * s) 1 f) := shp_pI hS1
  have hz2 : mI (pI R (5 + 2 * s) 1 f) 3 1 = nI n := (congrFun (pI_i (by omega)) 1).trans hz1
  have q2 := s_noteMadeAnew (l := l) (x := nI n) hS2 m1
  generalize hM2 : pI R (5 + 2 * s) 1 f = M2 at *
  generalize mxAnew M2 (5 + 2 * s) (nI n) = M3 at *
  refine ev_intro rfl (nb rfl) rfl ?_
  refine g_aload_n (pc := 0) dX6_keep_0 rfl trivial ?_
  refine g_iload_n (pc := 1) dX6_keep_1 rfl ?_
  refine g_invV_r (pc := 2) (As := [_]) dX6_keep_2 rfl (s_needSlot (in6 hs)) rfl rfl (shK hD.1 rfl) rfl rfl lk_X6_141 rfl (nb rfl) ⟨nb rfl, nb rfl⟩ rfl ?_
  refine g_aload_n (pc := 5) dX6_keep_5 rfl trivial ?_
  refine g_invV_r (pc := 6) (As := []) dX6_keep_6 rfl (q1) rfl rfl (shK hD.1 rfl) rfl rfl lk_X6_222 rfl (nb rfl) ⟨nb rfl, nb rfl⟩ rfl ?_
  refine g_aload_n (pc := 9) dX6_keep_9 rfl trivial ?_
  refine g_getf (pc := 10) dX6_keep_10 fk_X6_19 (shK hS1 rfl) (fv_obj (shR hS1 rfl)) ?_
  refine g_getf (pc := 13) dX6_keep_13 fk_X6_225 (shK hS1 rfl) (fv_arr (shR hS1 rfl)) ?_
  refine g_iload_n (pc := 16) dX6_keep_16 rfl ?_
  refine g_aaload_Matrix (pc := 17) dX6_keep_17 (shK hS1 rfl) rfl hs (by decide) (shR hS1 m2) ?_
  refine g_astore_n (pc := 18) (lv' := [(0, _), (1, _), (2, _), (3, _)]) dX6_keep_18 trivial (nl rfl) rfl ?_
  refine g_aload_n (pc := 19) dX6_keep_19 rfl trivial ?_
  refine g_iload_n (pc := 20) dX6_keep_20 rfl ?_
  refine g_putI (pc := 21) dX6_keep_21 fp_X6_288 (shK hS1 m1.1) (k01_n hf) (fun _ _ _ _ => rfl) ?_
  refine go_cast hM2 ?_
  refine g_aload_n (pc := 24) dX6_keep_24 rfl trivial ?_
  refine g_aload_n (pc := 25) dX6_keep_25 rfl trivial ?_
  refine g_getf (pc := 26) dX6_keep_26 fk_X6_19 (shK hS2 rfl) (fv_obj (shR hS2 rfl)) ?_
  refine g_getf (pc := 29) (v := .int _) dX6_keep_29 fk_X6_89 (shK hS2 rfl) (fun _ => congrArg Value.int (hz2)) ?_
  refine g_invV_r (pc := 32) (As := [_]) dX6_keep_32 rfl (q2) rfl rfl (shK hS2 m1.1) rfl rfl lk_X6_292 rfl (nb rfl) ⟨nb rfl, nb rfl⟩ rfl ?_
  refine g_aload_n (pc := 35) dX6_keep_35 rfl trivial ?_
  refine g_invV_r (pc := 36) (As := []) dX6_keep_36 rfl (q4) rfl rfl (shK hS4 rfl) rfl rfl lk_X6_102 rfl (nb rfl) ⟨nb rfl, nb rfl⟩ rfl ?_
  refine g_ireturn (pc := 39) dX6_keep_39 rfl rfl ?_
  exact ⟨rfl, rfl⟩
theorem u_setBlock {v : Int32} (hD : Dk M n p c) (h1 : ¬ v < 1) (h2 : v ≤ 8) : EvR l jX6_setBlock 7 140 1 6 [.ref 0, .int v] M (.inl (some (.int (mI M 3 2)))) (pI (remM M p c) 3 2 v) := by
  have hS1 := remM_S hD.1 p c
  have q1 := d_remember (l := l) hD
  have eb : mI (remM M p c) 3 2 = mI M 3 2 := by rw [remM_ne hD.2.2.2.2.1 (by decide) (by decide)]
  generalize remM M p c = R at *
  refine ev_intro rfl (nb rfl) rfl ?_
  refine g_aload_n (pc := 0) dX6_setBlock_0 rfl trivial ?_
  refine g_iload_n (pc := 1) dX6_setBlock_1 rfl ?_
  refine g_iconst (pc := 2) (v := 1) dX6_setBlock_2 rfl ?_
  refine g_bipush (pc := 3) (v := 8) dX6_setBlock_3 rfl ?_
  refine g_invV_r (pc := 5) (As := [_, _, _]) dX6_setBlock_5 rfl (s_needRange h1 h2) rfl rfl (shK hD.1 rfl) rfl rfl lk_X6_95 rfl (nb rfl) ⟨nb rfl, nb rfl⟩ rfl ?_
  refine g_aload_n (pc := 8) dX6_setBlock_8 rfl trivial ?_
  refine g_invV_r (pc := 9) (As := []) dX6_setBlock_9 rfl (q1) rfl rfl (shK hD.1 rfl) rfl rfl lk_X6_222 rfl (nb rfl) ⟨nb rfl, nb rfl⟩ rfl ?_
  refine g_aload_n (pc := 12) dX6_setBlock_12 rfl trivial ?_
  refine g_getf (pc := 13) dX6_setBlock_13 fk_X6_19 (shK hS1 rfl) (fv_obj (shR hS1 rfl)) ?_
  refine g_getf (pc := 16) (v := .int _) dX6_setBlock_16 fk_X6_99 (shK hS1 rfl) (fun _ => congrArg Value.int (eb)) ?_
  refine g_istore_n (pc := 19) (lv' := [(0, _), (1, _), (2, _)]) dX6_setBlock_19 (nl rfl) rfl ?_
  refine g_aload_n (pc := 20) dX6_setBlock_20 rfl trivial ?_
  refine g_getf (pc := 21) dX6_setBlock_21 fk_X6_19 (shK hS1 rfl) (fv_obj (shR hS1 rfl)) ?_
  refine g_iload_n (pc := 24) dX6_setBlock_24 rfl ?_
  refine g_putI (pc := 25) dX6_setBlock_25 fp_X6_99 (shK hS1 rfl) ⟨rfl, rfl⟩ (fun _ _ _ _ => rfl) ?_
  refine g_iload_n (pc := 28) dX6_setBlock_28 rfl ?_
  refine g_ireturn (pc := 29) dX6_setBlock_29 rfl rfl ?_
  exact ⟨rfl, rfl⟩
theorem q_work0 (hS : Shp M) : EvR l jX6_work 7 120 1 6 [.ref 0, .int 0] M (.inl (some (.int (mI M 3 3)))) M := by
  refine ev_intro rfl (nb rfl) rfl ?_
  refine g_aload_n (pc := 0) dX6_work_0 rfl trivial ?_
  refine g_iload_n (pc := 1) dX6_work_1 rfl ?_
  refine g_iconst (pc := 2) (v := 0) dX6_work_2 rfl ?_
  refine g_iconst (pc := 3) (v := 1) dX6_work_3 rfl ?_
  refine g_invV_r (pc := 4) (As := [_, _, _]) dX6_work_4 rfl (s_needRange (by decide) (by decide)) rfl rfl (shK hS rfl) rfl rfl lk_X6_95 rfl (nb rfl) ⟨nb rfl, nb rfl⟩ rfl ?_
  refine g_iload_n (pc := 7) dX6_work_7 rfl ?_
  refine g_if_ne (pc := 8) (tgt := 21) dX6_work_8 rfl (fun h8 => absurd h8 ((by decide))) (fun _ => ?_)
  refine g_aload_n (pc := 11) dX6_work_11 rfl trivial ?_
  refine g_getf (pc := 12) dX6_work_12 fk_X6_19 (shK hS rfl) (fv_obj (shR hS rfl)) ?_
  refine g_getf (pc := 15) (v := .int (mI _ _ _)) dX6_work_15 fk_X6_304 (shK hS rfl) (fun _ => rfl) ?_
  refine g_goto (pc := 18) (tgt := 28) dX6_work_18 rfl ?_
  refine g_ireturn (pc := 28) dX6_work_28 rfl rfl ?_
  exact ⟨rfl, rfl⟩
theorem q_work1 (hS : Shp M) : EvR l jX6_work 7 120 1 6 [.ref 0, .int 1] M (.inl (some (.int (mI M 3 4)))) M := by
  refine ev_intro rfl (nb rfl) rfl ?_
  refine g_aload_n (pc := 0) dX6_work_0 rfl trivial ?_
  refine g_iload_n (pc := 1) dX6_work_1 rfl ?_
  refine g_iconst (pc := 2) (v := 0) dX6_work_2 rfl ?_
  refine g_iconst (pc := 3) (v := 1) dX6_work_3 rfl ?_
  refine g_invV_r (pc := 4) (As := [_, _, _]) dX6_work_4 rfl (s_needRange (by decide) (by decide)) rfl rfl (shK hS rfl) rfl rfl lk_X6_95 rfl (nb rfl) ⟨nb rfl, nb rfl⟩ rfl ?_
  refine g_iload_n (pc := 7) dX6_work_7 rfl ?_
  refine g_if_ne (pc := 8) (tgt := 21) dX6_work_8 rfl (fun _ => ?_) (fun h8 => absurd ((by decide)) h8)
  refine g_aload_n (pc := 21) dX6_work_21 rfl trivial ?_
  refine g_getf (pc := 22) dX6_work_22 fk_X6_19 (shK hS rfl) (fv_obj (shR hS rfl)) ?_
  refine g_getf (pc := 25) (v := .int (mI _ _ _)) dX6_work_25 fk_X6_307 (shK hS rfl) (fun _ => rfl) ?_
  refine g_ireturn (pc := 28) dX6_work_28 rfl rfl ?_
  exact ⟨rfl, rfl⟩
end
