section
variable {l : Launch} {M : Mem} {n p c : Nat}
def ivE (M : Mem) (s n : Nat) : ES := elAll M n (mI M (6 + 2 * s)) (wr (mI M 193) bitI n)
theorem ivE_c (M : Mem) (s n : Nat) : (ivE M s n).2.2.2 ≤ n := by
  have h := elIt_c n (wr (mI M 192) (mI M (6 + 2 * s)) n, wr (mI M 193) bitI n, mI M 194, 0) n
  simp only [Nat.zero_add] at h
  exact h
theorem Dk.el (hD : Dk M n p c) (e : ES) : Dk (elMem M e) n p c := by
  obtain ⟨h1, h2, h3, h4, h5, h6, h7, h8⟩ := hD
  refine ⟨elMem_S h1 e, (congrFun (elMem_ne e (by decide)) 1).trans h2, h3, (congrFun (elMem_ne e (by decide)) 4).trans h4, h5, (congrFun (elMem_ne e (by decide)) 5).trans h6, h7, fun s hs => ?_⟩
  rw [elMem_ne e (by omega)]
  exact h8 s hs
theorem u_invert {s t : Nat} (hD : Dk M n p c) (hs : s < 6) (ht : t < 6) : EvR l jX6_invert 7 150 2 12 [.ref 0, .int (nI s), .int (nI t)] M (.inl (some (.int (if (ivE M s n).2.2.2 < n then -3 else stV (remM (elMem M (ivE M s n)) p c) 193 t n)))) (if (ivE M s n).2.2.2 < n then elMem M (ivE M s n) else storeM (remM (elMem M (ivE M s n)) p c) 193 t n) := by
  have hn := hD.2.2.1
  have q1 : EvR l jX1_eliminateBesideUnit 3 90 0 0 [.ref 191, .ref (6 + 2 * s), .int (nI n)] M (.inl none) (elMem M (ivE M s n)) := s_eliminateBesideUnit hD.1 (shK hD.1 (rows_lay hs)) (by omega) hn
  have hc := ivE_c M s n
  generalize ivE M s n = e at *
  have hD1 := hD.el e
  have hc1 := el_c (M := M) e
  generalize elMem M e = M1 at *
  have hS1 := hD1.1
  have hz1 := hD1.2.1
  have q2 := d_remember (l := l) hD1
  have hS2 := remM_S hS1 p c
  have hz2 := d_z hD1
  unfold stV
  generalize remM M1 p c = R at *
  have q3 := s_store (l := l) (r := 193) (n := n) hS2 ht hz2 hn (shK hS2 rfl)
  have hS := hD.1
  refine ev_intro rfl (nb rfl) rfl ?_
  refine g_aload_n (pc := 0) dX6_invert_0 rfl trivial ?_
  refine g_iload_n (pc := 1) dX6_invert_1 rfl ?_
  refine g_invV_r (pc := 2) (As := [_]) dX6_invert_2 rfl (s_needSlot (in6 hs)) rfl rfl (shK hS rfl) rfl rfl lk_X6_141 rfl (nb rfl) ⟨nb rfl, nb rfl⟩ rfl ?_
  refine g_aload_n (pc := 5) dX6_invert_5 rfl trivial ?_
  refine g_iload_n (pc := 6) dX6_invert_6 rfl ?_
  refine g_invV_r (pc := 7) (As := [_]) dX6_invert_7 rfl (s_needSlot (in6 ht)) rfl rfl (shK hS rfl) rfl rfl lk_X6_141 rfl (nb rfl) ⟨nb rfl, nb rfl⟩ rfl ?_
  refine g_aload_n (pc := 10) dX6_invert_10 rfl trivial ?_
  refine g_getf (pc := 11) dX6_invert_11 fk_X6_54 (shK hS rfl) (fv_obj (shR hS rfl)) ?_
  refine g_aload_n (pc := 14) dX6_invert_14 rfl trivial ?_
  refine g_iload_n (pc := 15) dX6_invert_15 rfl ?_
  refine g_invV_r (pc := 16) (As := [_]) dX6_invert_16 rfl (s_rowsOf hS hs) rfl rfl (shK hS rfl) rfl rfl lk_X6_112 rfl (nb rfl) ⟨nb rfl, nb rfl⟩ rfl ?_
  refine g_aload_n (pc := 19) dX6_invert_19 rfl trivial ?_
  refine g_getf (pc := 20) dX6_invert_20 fk_X6_19 (shK hS rfl) (fv_obj (shR hS rfl)) ?_
  refine g_getf (pc := 23) (v := .int _) dX6_invert_23 fk_X6_89 (shK hS rfl) (fun _ => congrArg Value.int (hD.2.1)) ?_
  refine g_invV_r (pc := 26) (As := [_, _]) dX6_invert_26 rfl (q1) rfl rfl (shK hS rfl) rfl rfl lk_X6_269 rfl (nb rfl) ⟨nb rfl, nb rfl⟩ rfl ?_
  refine g_aload_n (pc := 29) dX6_invert_29 rfl trivial ?_
  refine g_getf (pc := 30) dX6_invert_30 fk_X6_54 (shK hS1 rfl) (fv_obj (shR hS1 rfl)) ?_
  refine g_getf (pc := 33) (v := .int _) dX6_invert_33 fk_X6_207 (shK hS1 rfl) (fun _ => congrArg Value.int (hc1)) ?_
  refine g_aload_n (pc := 36) dX6_invert_36 rfl trivial ?_
  refine g_getf (pc := 37) dX6_invert_37 fk_X6_19 (shK hS1 rfl) (fv_obj (shR hS1 rfl)) ?_
  refine g_getf (pc := 40) (v := .int _) dX6_invert_40 fk_X6_89 (shK hS1 rfl) (fun _ => congrArg Value.int (hz1)) ?_
  refine g_icmp_ge (pc := 43) (tgt := 49) dX6_invert_43 rfl (fun h43 => ?_) (fun h43 => ?_)
  · have h9 : ¬ e.2.2.2 < n := fun q => nI_ge q (by omega) h43
    rw [if_neg h9, if_neg h9]
    refine g_aload_n (pc := 49) dX6_invert_49 rfl trivial ?_
    refine g_invV_r (pc := 50) (As := []) dX6_invert_50 rfl (q2) rfl rfl (shK hS1 rfl) rfl rfl lk_X6_222 rfl (nb rfl) ⟨nb rfl, nb rfl⟩ rfl ?_
    refine g_aload_n (pc := 53) dX6_invert_53 rfl trivial ?_
    refine g_aload_n (pc := 54) dX6_invert_54 rfl trivial ?_
    refine g_getf (pc := 55) dX6_invert_55 fk_X6_54 (shK hS2 rfl) (fv_obj (shR hS2 rfl)) ?_
    refine g_getf (pc := 58) dX6_invert_58 fk_X6_273 (shK hS2 rfl) (fv_arr (shR hS2 rfl)) ?_
    refine g_iload_n (pc := 61) dX6_invert_61 rfl ?_
    refine g_invV_r (pc := 62) (As := [_, _]) dX6_invert_62 rfl (q3) rfl rfl (shK hS2 rfl) rfl rfl lk_X6_247 rfl (nb rfl) ⟨nb rfl, nb rfl⟩ rfl ?_
    refine g_ireturn (pc := 65) dX6_invert_65 rfl rfl ?_
    exact ⟨rfl, rfl⟩
  · have h9 : e.2.2.2 < n := Nat.lt_of_not_le fun q => h43 (nI_le q (by omega))
    rw [if_pos h9, if_pos h9]
    refine g_bipush (pc := 46) (v := (-3)) dX6_invert_46 rfl ?_
    refine g_ireturn (pc := 48) dX6_invert_48 rfl rfl ?_
    exact ⟨rfl, rfl⟩
/-- a slot's rows, the needless edges left out up to a row -/
def rdG (f : Nat → Int32) (n : Nat) : Nat → Nat → Int32
  | 0 => f
  | k + 1 => dnF (rdG f n k) k n n
def rdX (M : Mem) (s n : Nat) : Mem := sI M 195 (rdG (wr (mI M 195) (mI M (6 + 2 * s)) n) n n)
theorem u_reduce {s t : Nat} (hD : Dk M n p c) (hs : s < 6) (ht : t < 6) : EvR l jX6_reduce 7 140 2 12 [.ref 0, .int (nI s), .int (nI t)] M (.inl (some (.int (stV (rdX (remM M p c) s n) 195 t n)))) (storeM (rdX (remM M p c) s n) 195 t n) := by
  have hn := hD.2.2.1
  have hS1 := remM_S hD.1 p c
  have hz1 := d_z hD
  have q1 := d_remember (l := l) hD
  unfold stV rdX
  generalize remM M p c = R at *
  obtain ⟨g, hg⟩ : ∃ g, g = wr (mI R 195) (mI R (6 + 2 * s)) n := ⟨_, rfl⟩
  rw [← hg]
  have hS2 : ∀ f, Shp (sI R 195 f) := fun f => shp_sI hS1
  have hz2 : ∀ f, mI (sI R 195 f) 3 1 = nI n := fun f => (congrFun (sI_ne (by decide)) 1).trans hz1
  have hk2 : ∀ f, (mK (sI R 195 f))[195]? = some (kI 32) := fun f => shK (hS2 f) rfl
  have q2 := s_store (l := l) (r := 195) (n := n) (hS2 (rdG g n n)) ht (hz2 _) hn (hk2 _)
  refine ev_intro rfl (nb rfl) rfl ?_
  refine g_aload_n (pc := 0) dX6_reduce_0 rfl trivial ?_
  refine g_iload_n (pc := 1) dX6_reduce_1 rfl ?_
  refine g_invV_r (pc := 2) (As := [_]) dX6_reduce_2 rfl (s_needSlot (in6 hs)) rfl rfl (shK hD.1 rfl) rfl rfl lk_X6_141 rfl (nb rfl) ⟨nb rfl, nb rfl⟩ rfl ?_
  refine g_aload_n (pc := 5) dX6_reduce_5 rfl trivial ?_
  refine g_iload_n (pc := 6) dX6_reduce_6 rfl ?_
  refine g_invV_r (pc := 7) (As := [_]) dX6_reduce_7 rfl (s_needSlot (in6 ht)) rfl rfl (shK hD.1 rfl) rfl rfl lk_X6_141 rfl (nb rfl) ⟨nb rfl, nb rfl⟩ rfl ?_
  refine g_aload_n (pc := 10) dX6_reduce_10 rfl trivial ?_
  refine g_invV_r (pc := 11) (As := []) dX6_reduce_11 rfl (q1) rfl rfl (shK hD.1 rfl) rfl rfl lk_X6_222 rfl (nb rfl) ⟨nb rfl, nb rfl⟩ rfl ?_
  refine g_aload_n (pc := 14) dX6_reduce_14 rfl trivial ?_
  refine g_iload_n (pc := 15) dX6_reduce_15 rfl ?_
  refine g_invV_r (pc := 16) (As := [_]) dX6_reduce_16 rfl (s_rowsOf hS1 hs) rfl rfl (shK hS1 rfl) rfl rfl lk_X6_112 rfl (nb rfl) ⟨nb rfl, nb rfl⟩ rfl ?_
  refine g_iconst (pc := 19) (v := 0) dX6_reduce_19 rfl ?_
  refine g_aload_n (pc := 20) dX6_reduce_20 rfl trivial ?_
  refine g_getf (pc := 21) dX6_reduce_21 fk_X6_58 (shK hS1 rfl) (fv_arr (shR hS1 rfl)) ?_
  refine g_iconst (pc := 24) (v := 0) dX6_reduce_24 rfl ?_
  refine g_aload_n (pc := 25) dX6_reduce_25 rfl trivial ?_
  refine g_getf (pc := 26) dX6_reduce_26 fk_X6_19 (shK hS1 rfl) (fv_obj (shR hS1 rfl)) ?_
  refine g_getf (pc := 29) (v := .int _) dX6_reduce_29 fk_X6_89 (shK hS1 rfl) (fun _ => congrArg Value.int (hz1)) ?_
  refine g_copyI (pc := 32) (sp := 0) (dp := 0) dX6_reduce_32 wd_912 wd_510 wd_509 wd_108 (shK hS1 (rows_lay hs)) (shK hS1 rfl) rfl rfl rfl (by omega) (by omega) ⟨by decide, by decide⟩ (nb rfl) (nb rfl) ?_
  rw [cpy_wr, ← hg]
  refine g_iconst (pc := 35) (v := 0) dX6_reduce_35 rfl ?_
  refine g_istore_n (pc := 36) (lv' := [(0, _), (1, _), (2, _), (3, _)]) dX6_reduce_36 (nl rfl) rfl ?_
  refine go_loop (pc := 37) n (fun i => [(0, .ref 0), (1, .int (nI s)), (2, .int (nI t)), (3, .int (nI i))]) (fun i => sI R 195 (rdG g n i)) ⟨rfl, rfl, rfl, rfl, trivial⟩ rfl ?_ ?_
  · intro i hi ih
    generalize rdG g n n = X at ih ⊢
    rw [rdG] at ih
    generalize rdG g n i = f at *
    have q9 := s_dropNeedless (l := l) (a := i) (hS2 f) (hk2 f) (by decide) (hz2 f) hn hi
    rw [sI_2, sI_self] at q9
    refine g_iload_n (pc := 37) dX6_reduce_37 rfl ?_
    refine g_aload_n (pc := 38) dX6_reduce_38 rfl trivial ?_
    refine g_getf (pc := 39) dX6_reduce_39 fk_X6_19 (shK (hS2 _) rfl) (fv_obj (shR (hS2 _) rfl)) ?_
    refine g_getf (pc := 42) (v := .int _) dX6_reduce_42 fk_X6_89 (shK (hS2 _) rfl) (fun _ => congrArg Value.int ((hz2 _))) ?_
    refine g_icmp_ge (pc := 45) (tgt := 63) dX6_reduce_45 rfl (fun h45 => absurd h45 (nI_ge hi (by omega))) (fun _ => ?_)
    refine g_aload_n (pc := 48) dX6_reduce_48 rfl trivial ?_
    refine g_aload_n (pc := 49) dX6_reduce_49 rfl trivial ?_
    refine g_getf (pc := 50) dX6_reduce_50 fk_X6_58 (shK (hS2 _) rfl) (fv_arr (shR (hS2 _) rfl)) ?_
    refine g_iload_n (pc := 53) dX6_reduce_53 rfl ?_
    refine g_invV_r (pc := 54) (As := [_, _]) dX6_reduce_54 rfl (q9) rfl rfl (shK (hS2 _) rfl) rfl rfl lk_X6_282 rfl (nb rfl) ⟨nb rfl, nb rfl⟩ rfl ?_
    refine g_iinc (pc := 57) (lv' := [(0, _), (1, _), (2, _), (3, _)]) dX6_reduce_57 rfl (nI_1 _) (nl rfl) rfl ?_
    refine g_goto (pc := 60) (tgt := 37) dX6_reduce_60 rfl ?_
    exact ih
  · generalize rdG g n n = f at *
    refine g_iload_n (pc := 37) dX6_reduce_37 rfl ?_
    refine g_aload_n (pc := 38) dX6_reduce_38 rfl trivial ?_
    refine g_getf (pc := 39) dX6_reduce_39 fk_X6_19 (shK (hS2 _) rfl) (fv_obj (shR (hS2 _) rfl)) ?_
    refine g_getf (pc := 42) (v := .int _) dX6_reduce_42 fk_X6_89 (shK (hS2 _) rfl) (fun _ => congrArg Value.int ((hz2 _))) ?_
    refine g_icmp_ge (pc := 45) (tgt := 63) dX6_reduce_45 rfl (fun _ => ?_) (fun h45 => absurd (nI_le (Nat.le_refl _) (by omega)) h45)
    refine g_aload_n (pc := 63) dX6_reduce_63 rfl trivial ?_
    refine g_aload_n (pc := 64) dX6_reduce_64 rfl trivial ?_
    refine g_getf (pc := 65) dX6_reduce_65 fk_X6_58 (shK (hS2 _) rfl) (fv_arr (shR (hS2 _) rfl)) ?_
    refine g_iload_n (pc := 68) dX6_reduce_68 rfl ?_
    refine g_invV_r (pc := 69) (As := [_, _]) dX6_reduce_69 rfl (q2) rfl rfl (shK (hS2 _) rfl) rfl rfl lk_X6_247 rfl (nb rfl) ⟨nb rfl, nb rfl⟩ rfl ?_
    refine g_ireturn (pc := 72) dX6_reduce_72 rfl rfl ?_
    exact ⟨rfl, rfl⟩
end
