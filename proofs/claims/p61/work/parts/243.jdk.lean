/-! the list; the lowest bit's place -/
section
variable {l : Launch} {M : Mem} {p : Nat} {eo : Option Nat} {ds : List Nat}
/-- a list of desks -/
def AL (M : Mem) (p : Nat) (eo : Option Nat) (ds : List Nat) : Prop := ((mK M)[p]? = some (.inr 10) ∧ mI M p 2 = nI ds.length ∧ mR M p 1 = eo ∧ mX M = true) ∧ (match eo with
  | none => ds = [] ∧ mI M p 1 = nI 1001
  | some e => (mK M)[e]? = some (.inl (.object "java/lang/Object", 10)) ∧ (∀ j, mI M e j = 0) ∧ ds.length ≤ 10 ∧ ∀ j, j < ds.length → mR M e j = some (ds.getD j 0)) ∧ ∀ d ∈ ds, (mK M)[d]? = some (.inr 7)
/-- the cells of a list -/
def ALc (p : Nat) (eo : Option Nat) (i : Nat) : Prop := i = p ∨ eo = some i
theorem k_objI {x : Knd} (hk : (mK M)[p]? = some x) : EvR l jJxa1e45_init_da8c8 1 40 0 0 [.ref p] M (.inl none) M := by
  refine ev_intro rfl (nb rfl) rfl ?_
  refine g_aload_n (pc := 0) dJxa1e45_init_da8c8_0 rfl trivial ?_
  refine g_objInit (pc := 1) dJxa1e45_init_da8c8_1 wd_x1293 wd_121 wd_122 (nb rfl) (nb rfl) ?_
  refine g_return (pc := 4) dJxa1e45_init_da8c8_4 rfl ?_
  exact ⟨rfl, rfl⟩
theorem k_absI (hk : (mK M)[p]? = some (.inr 10)) : EvR l jJxc12de_init_da8c8 2 70 0 0 [.ref p] M (.inl none) (sI M p (fun_set (mI M p) 0 0)) := by
  refine ev_intro rfl (nb rfl) rfl ?_
  refine g_aload_n (pc := 0) dJxc12de_init_da8c8_0 rfl trivial ?_
  refine g_invIx_r (pc := 1) (As := []) dJxc12de_init_da8c8_1 rfl (k_objI hk) rfl rfl lk_Jxc12de_1 rfl (nb rfl) ⟨nb rfl, nb rfl⟩ rfl ?_
  refine g_aload_n (pc := 4) dJxc12de_init_da8c8_4 rfl trivial ?_
  refine g_iconst (pc := 5) (v := 0) dJxc12de_init_da8c8_5 rfl ?_
  refine g_putI (pc := 6) dJxc12de_init_da8c8_6 fp_Jxc12de_7 hk ⟨rfl, rfl⟩ (fun _ _ _ _ => rfl) ?_
  refine g_return (pc := 9) dJxc12de_init_da8c8_9 rfl ?_
  exact ⟨rfl, rfl⟩
theorem k_alNew (hk : (mK M)[p]? = some (.inr 10)) (h0 : mI M p = fun _ => 0) (h1 : mR M p = fun _ => none) (hx : mX M = true) : EvO l jJx4a65c_init_da8c8 3 100 0 0 [.ref p] M (fun r M' => r = none ∧ AL M' p none [] ∧ Xt (fun i => i = p) M M') := by
  refine ev_intro rfl (nb rfl) rfl ?_
  refine g_aload_n (pc := 0) dJx4a65c_init_da8c8_0 rfl trivial ?_
  refine g_invIx_r (pc := 1) (As := []) dJx4a65c_init_da8c8_1 rfl (k_absI hk) rfl rfl lk_Jx4a65c_1 rfl (nb rfl) ⟨nb rfl, nb rfl⟩ rfl ?_
  refine g_aload_n (pc := 4) dJx4a65c_init_da8c8_4 rfl trivial ?_
  refine g_empty (pc := 5) dJx4a65c_init_da8c8_5 wd_x1146 ?_
  refine g_putSp (pc := 8) (kS := 1000) dJx4a65c_init_da8c8_8 fp_Jx4a65c_9 (fun h => by cases h) hk (fun _ => ⟨rfl, rfl⟩) (fun _ _ _ _ => rfl) (congrFun h1 1) (by decide) ?_
  refine g_return (pc := 11) dJx4a65c_init_da8c8_11 rfl ?_
  refine ⟨_, rfl, rfl, ⟨⟨hk, ?_, congrFun h1 1, hx⟩, ⟨rfl, ?_⟩, fun d hd => nomatch hd⟩, ((Xt.rf (fun i => i = p) M).sI (fun _ => rfl)).sI (fun _ => rfl)⟩
  · rw [sI_self, fs_ne _ _ (by decide), sI_self, fs_ne _ _ (by decide), h0]
    rfl
  · rw [sI_self, fs_self]
theorem k_alSize (h : AL M p eo ds) : EvR l jJx4a65c_size_8abf5 0 0 0 0 [.ref p] M (.inl (some (.int (nI ds.length)))) M := by
  refine ev_intro rfl (nb rfl) rfl ?_
  refine g_aload_n (pc := 0) dJx4a65c_size_8abf5_0 rfl trivial ?_
  refine g_getf (pc := 1) (v := .int _) dJx4a65c_size_8abf5_1 fk_Jx4a65c_48 h.1.1 (fun _ => congrArg Value.int (h.1.2.1)) ?_
  refine g_ireturn (pc := 4) dJx4a65c_size_8abf5_4 rfl rfl ?_
  exact ⟨rfl, rfl⟩
/-- the list's first array -/
theorem k_grow (hk : (mK M)[p]? = some (.inr 10)) (h1 : mR M p 1 = none) (h2 : mI M p 1 = nI 1001) (hx : mX M = true) : EvR l jJx4a65c_grow_92f84 1 60 1 10 [.ref p, .int 1] M (.inl (some (.ref (mK M).length))) (sR (nK M (.inl (.object "java/lang/Object", 10))) p (fun_set (mR (nK M (.inl (.object "java/lang/Object", 10))) p) 1 (some (mK M).length))) := by
  refine ev_intro rfl (nb rfl) rfl ?_
  refine g_less (k' := 0 + 1) (n' := 0 + 10) (by omega) (by omega) ?_
  refine g_aload_n (pc := 0) dJx4a65c_grow_92f84_0 rfl trivial ?_
  refine g_getf (pc := 1) (v := .retAddr 2002) dJx4a65c_grow_92f84_1 fk_Jx4a65c_9 hk (fun G => fv_sp (kS := 1000) h1 h2 (by decide) G) ?_
  refine g_emptyLen (pc := 4) dJx4a65c_grow_92f84_4 ?_
  refine g_istore_n (pc := 5) (lv' := [(0, _), (1, _), (2, _)]) dJx4a65c_grow_92f84_5 (nl rfl) rfl ?_
  refine g_iload_n (pc := 6) dJx4a65c_grow_92f84_6 rfl ?_
  refine g_if_gt (pc := 7) (tgt := 20) dJx4a65c_grow_92f84_7 rfl (fun h7 => absurd h7 ((by decide))) (fun _ => ?_)
  refine g_aload_n (pc := 10) dJx4a65c_grow_92f84_10 rfl trivial ?_
  refine g_getf (pc := 11) (v := .retAddr 2002) dJx4a65c_grow_92f84_11 fk_Jx4a65c_9 hk (fun G => fv_sp (kS := 1000) h1 h2 (by decide) G) ?_
  refine g_empty (pc := 14) dJx4a65c_grow_92f84_14 wd_x1146 ?_
  refine g_acmp_same (pc := 17) (tgt := 45) dJx4a65c_grow_92f84_17 rfl (isA_s 1000) ?_
  refine g_aload_n (pc := 45) dJx4a65c_grow_92f84_45 rfl trivial ?_
  refine g_bipush (pc := 46) (v := 10) dJx4a65c_grow_92f84_46 rfl ?_
  refine g_iload_n (pc := 48) dJx4a65c_grow_92f84_48 rfl ?_
  refine g_mmax (pc := 49) dJx4a65c_grow_92f84_49 wd_x1175 wd_1627 wd_107 wd_1628 (nb rfl) (nb rfl) ?_
  rw [show (if (10 : Int32) < 1 then (1 : Int32) else 10) = nI 10 by decide]
  refine g_anewarray_Obj (pc := 52) dJx4a65c_grow_92f84_52 wd_x1176 rfl (by omega) hx ?_
  refine g_dup_x1 (pc := 55) dJx4a65c_grow_92f84_55 rfl rfl ?_
  refine g_putR (pc := 56) dJx4a65c_grow_92f84_56 fp_Jx4a65c_9 (fun h => by cases h) (new_o M hk) (fun _ => ⟨rfl, rfl⟩) (fun _ _ _ _ => rfl) ?_
  refine g_areturn (pc := 59) dJx4a65c_grow_92f84_59 rfl (Or.inr ⟨_, rfl⟩) ?_
  exact ⟨rfl, rfl⟩
theorem k_grow0 (hk : (mK M)[p]? = some (.inr 10)) (hz : mI M p 2 = 0) (h1 : mR M p 1 = none) (h2 : mI M p 1 = nI 1001) (hx : mX M = true) : EvR l jJx4a65c_grow_d5877 2 90 1 10 [.ref p] M (.inl (some (.ref (mK M).length))) (sR (nK M (.inl (.object "java/lang/Object", 10))) p (fun_set (mR (nK M (.inl (.object "java/lang/Object", 10))) p) 1 (some (mK M).length))) := by
  refine ev_intro rfl (nb rfl) rfl ?_
  refine g_aload_n (pc := 0) dJx4a65c_grow_d5877_0 rfl trivial ?_
  refine g_aload_n (pc := 1) dJx4a65c_grow_d5877_1 rfl trivial ?_
  refine g_getf (pc := 2) (v := .int _) dJx4a65c_grow_d5877_2 fk_Jx4a65c_48 hk (fun _ => congrArg Value.int (hz)) ?_
  refine g_iconst (pc := 5) (v := 1) dJx4a65c_grow_d5877_5 rfl ?_
  refine g_iadd (pc := 6) dJx4a65c_grow_d5877_6 ?_
  rw [show (0 : Int32) + 1 = 1 by decide]
  refine g_invV_r (pc := 7) (As := [_]) dJx4a65c_grow_d5877_7 rfl (k_grow hk h1 h2 hx) rfl rfl hk rfl rfl lk_Jx4a65c_69 rfl (nb rfl) ⟨nb rfl, nb rfl⟩ rfl ?_
  refine g_areturn (pc := 10) dJx4a65c_grow_d5877_10 rfl (Or.inr ⟨_, rfl⟩) ?_
  exact ⟨rfl, rfl⟩
/-- one more; the array is there -/
theorem k_add3 {e d n : Nat} (hk : (mK M)[p]? = some (.inr 10)) (he : (mK M)[e]? = some (.inl (.object "java/lang/Object", 10))) (hd : (mK M)[d]? = some (.inr 7)) (hn : n < 10) : EvR l jJx4a65c_add_72be8 3 120 1 10 [.ref p, .ref d, .ref e, .int (nI n)] M (.inl none) (sI (sR M e (fun_set (mR M e) n (some d))) p (fun_set (mI (sR M e (fun_set (mR M e) n (some d))) p) 2 (nI (n + 1)))) := by
  refine ev_intro rfl (nb rfl) rfl ?_
  refine g_iload_n (pc := 0) dJx4a65c_add_72be8_0 rfl ?_
  refine g_aload_n (pc := 1) dJx4a65c_add_72be8_1 rfl trivial ?_
  refine g_alen_O (pc := 2) dJx4a65c_add_72be8_2 (he) ?_
  refine g_icmp_ne (pc := 3) (tgt := 11) dJx4a65c_add_72be8_3 rfl (fun _ => ?_) (fun h3 => absurd ((fun h => by have := (nI_eq (by omega) (by decide)).mp (show nI n = nI 10 from h); omega)) h3)
  refine g_aload_n (pc := 11) dJx4a65c_add_72be8_11 rfl trivial ?_
  refine g_iload_n (pc := 12) dJx4a65c_add_72be8_12 rfl ?_
  refine g_aload_n (pc := 13) dJx4a65c_add_72be8_13 rfl trivial ?_
  refine g_aastore_Obj (pc := 14) dJx4a65c_add_72be8_14 he rfl hn (by decide) hd rfl rfl ?_
  refine g_aload_n (pc := 15) dJx4a65c_add_72be8_15 rfl trivial ?_
  refine g_iload_n (pc := 16) dJx4a65c_add_72be8_16 rfl ?_
  refine g_iconst (pc := 17) (v := 1) dJx4a65c_add_72be8_17 rfl ?_
  refine g_iadd (pc := 18) dJx4a65c_add_72be8_18 ?_
  rw [nI_1]
  refine g_putI (pc := 19) dJx4a65c_add_72be8_19 fp_Jx4a65c_48 hk ⟨rfl, rfl⟩ (fun _ _ _ _ => rfl) ?_
  refine g_return (pc := 22) dJx4a65c_add_72be8_22 rfl ?_
  exact ⟨rfl, rfl⟩
theorem k_add0 {d : Nat} (hk : (mK M)[p]? = some (.inr 10)) (hz : mI M p 2 = 0) (h1 : mR M p 1 = none) (h2 : mI M p 1 = nI 1001) (hd : (mK M)[d]? = some (.inr 7)) (hx : mX M = true) : EvO l jJx4a65c_add_72be8 3 120 1 10 [.ref p, .ref d, .retAddr 2002, .int 0] M (fun r M' => r = none ∧ AL M' p (some (mK M).length) [d] ∧ Xt (fun i => i = p) M M') := by
  have hp := k_lt hk
  refine ev_intro rfl (nb rfl) rfl ?_
  refine g_iload_n (pc := 0) dJx4a65c_add_72be8_0 rfl ?_
  refine g_aload_n (pc := 1) dJx4a65c_add_72be8_1 rfl (isA_s 1000) ?_
  refine g_emptyLen (pc := 2) dJx4a65c_add_72be8_2 ?_
  refine g_icmp_ne (pc := 3) (tgt := 11) dJx4a65c_add_72be8_3 rfl (fun h3 => absurd h3 ((by decide))) (fun _ => ?_)
  refine g_aload_n (pc := 6) dJx4a65c_add_72be8_6 rfl trivial ?_
  refine g_invV_r (pc := 7) (As := []) dJx4a65c_add_72be8_7 rfl (k_grow0 hk hz h1 h2 hx) rfl rfl hk rfl rfl lk_Jx4a65c_129 rfl (nb rfl) ⟨nb rfl, nb rfl⟩ rfl ?_
  refine g_astore_n (pc := 10) (lv' := [(0, _), (1, _), (2, _), (3, _)]) dJx4a65c_add_72be8_10 trivial (nl rfl) rfl ?_
  refine g_aload_n (pc := 11) dJx4a65c_add_72be8_11 rfl trivial ?_
  refine g_iload_n (pc := 12) dJx4a65c_add_72be8_12 rfl ?_
  refine g_aload_n (pc := 13) dJx4a65c_add_72be8_13 rfl trivial ?_
  refine g_aastore_Obj (pc := 14) dJx4a65c_add_72be8_14 (show (mK (nK M (.inl (.object "java/lang/Object", 10))))[(mK M).length]? = _ from new_at M _) (show (0 : Int32) = nI 0 from rfl) (by decide) (by decide) (show (mK (nK M (.inl (.object "java/lang/Object", 10))))[d]? = _ from new_o M hd) rfl rfl ?_
  refine g_aload_n (pc := 15) dJx4a65c_add_72be8_15 rfl trivial ?_
  refine g_iload_n (pc := 16) dJx4a65c_add_72be8_16 rfl ?_
  refine g_iconst (pc := 17) (v := 1) dJx4a65c_add_72be8_17 rfl ?_
  refine g_iadd (pc := 18) dJx4a65c_add_72be8_18 ?_
  rw [show (0 : Int32) + 1 = nI 1 by decide]
  refine g_putI (pc := 19) dJx4a65c_add_72be8_19 fp_Jx4a65c_48 (show (mK (nK M (.inl (.object "java/lang/Object", 10))))[p]? = _ from new_o M hk) ⟨rfl, rfl⟩ (fun _ _ _ _ => rfl) ?_
  refine g_return (pc := 22) dJx4a65c_add_72be8_22 rfl ?_
  refine ⟨_, rfl, rfl, ⟨⟨new_o M hk, ?_, ?_, hx⟩, ⟨new_at M _, fun j => ?_, (show 1 ≤ 10 by decide), fun j hj => ?_⟩, fun d' hd' => ?_⟩, ?_⟩
  · rw [sI_self, fs_self]
    rfl
  · rw [mR_sI, sR_ne (by omega), sR_self, fs_self]
  · rw [sI_ne (by omega)]
    exact congrFun (new_I M (.inl (.object "java/lang/Object", 10))) j
  · have hj0 : j = 0 := by
      have : j < 1 := hj
      omega
    subst hj0
    rw [mR_sI, sR_self, fs_self]
    rfl
  · rw [List.mem_singleton.mp hd']
    exact new_o M hd
  · exact ((((Xt.rf (fun i => i = p) M).nK _).sR (fun _ => rfl)).sR (fun h => absurd h (Nat.lt_irrefl _))).sI (fun _ => rfl)
theorem k_alAdd {d : Nat} (h : AL M p eo ds) (hl : ds.length < 10) (hd : (mK M)[d]? = some (.inr 7)) : EvO l jJx4a65c_add_9ea2d 4 150 1 10 [.ref p, .ref d] M (fun r M' => r = some (.int 1) ∧ ∃ eo', AL M' p eo' (ds ++ [d]) ∧ Xt (ALc p eo) M M' ∧ (eo' = eo ∨ ∃ e, eo' = some e ∧ (mK M).length ≤ e)) := by
  obtain ⟨⟨h1, h2, h3, h4⟩, h5, h6⟩ := h
  have hI : ∀ j, j ≠ 0 → mI (sI M p (fun_set (mI M p) 0 (mI M p 0 + 1))) p j = mI M p j := fun j hj => by rw [sI_self, fs_ne _ _ hj]
  refine ev_intro rfl (nb rfl) rfl ?_
  cases eo with
  | none =>
    obtain ⟨rfl, h7⟩ := h5
    refine g_aload_n (pc := 0) dJx4a65c_add_9ea2d_0 rfl trivial ?_
    refine g_dup (pc := 1) dJx4a65c_add_9ea2d_1 rfl ?_
    refine g_getf (pc := 2) (v := .int (mI _ _ _)) dJx4a65c_add_9ea2d_2 fk_Jx4a65c_63 h1 (fun _ => rfl) ?_
    refine g_iconst (pc := 5) (v := 1) dJx4a65c_add_9ea2d_5 rfl ?_
    refine g_iadd (pc := 6) dJx4a65c_add_9ea2d_6 ?_
    refine g_putI (pc := 7) dJx4a65c_add_9ea2d_7 fp_Jx4a65c_63 h1 ⟨rfl, rfl⟩ (fun _ _ _ _ => rfl) ?_
    refine g_aload_n (pc := 10) dJx4a65c_add_9ea2d_10 rfl trivial ?_
    refine g_aload_n (pc := 11) dJx4a65c_add_9ea2d_11 rfl trivial ?_
    refine g_aload_n (pc := 12) dJx4a65c_add_9ea2d_12 rfl trivial ?_
    refine g_getf (pc := 13) (v := .retAddr 2002) dJx4a65c_add_9ea2d_13 fk_Jx4a65c_9 h1 (fun G => fv_sp (kS := 1000) (show mR (sI M p (fun_set (mI M p) 0 (mI M p 0 + 1))) p 1 = none from h3) ((hI 1 (by decide)).trans h7) (by decide) G) ?_
    refine g_aload_n (pc := 16) dJx4a65c_add_9ea2d_16 rfl trivial ?_
    refine g_getf (pc := 17) (v := .int _) dJx4a65c_add_9ea2d_17 fk_Jx4a65c_48 h1 (fun _ => congrArg Value.int (((hI 2 (by decide)).trans h2))) ?_
    refine g_invV_o (pc := 20) (As := [_, _, _]) dJx4a65c_add_9ea2d_20 rfl (k_add0 (M := sI M p (fun_set (mI M p) 0 (mI M p 0 + 1))) h1 ((hI 2 (by decide)).trans h2) h3 ((hI 1 (by decide)).trans h7) hd h4) rfl rfl h1 rfl rfl lk_Jx4a65c_131 rfl (nb rfl) ⟨nb rfl, nb rfl⟩ rfl (fun v1 M1 hq => ?_)
    obtain ⟨rfl, hq, hx⟩ := hq
    show Go l _ _ _ _ _ _ _ _ ([] : List Value) _ _ _
    refine g_iconst (pc := 23) (v := 1) dJx4a65c_add_9ea2d_23 rfl ?_
    refine g_ireturn (pc := 24) dJx4a65c_add_9ea2d_24 rfl rfl ?_
    exact ⟨_, rfl, rfl, _, hq, (((Xt.rf (ALc p none) M).sI (fun _ => Or.inl rfl)).tr' hx (fun i _ e => Or.inl e)), Or.inr ⟨_, rfl, Nat.le_refl _⟩⟩
  | some e =>
    obtain ⟨h7, h8, h9, h10⟩ := h5
    have hep : e ≠ p := fun z => by rw [z, h1] at h7; cases h7
    refine g_aload_n (pc := 0) dJx4a65c_add_9ea2d_0 rfl trivial ?_
    refine g_dup (pc := 1) dJx4a65c_add_9ea2d_1 rfl ?_
    refine g_getf (pc := 2) (v := .int (mI _ _ _)) dJx4a65c_add_9ea2d_2 fk_Jx4a65c_63 h1 (fun _ => rfl) ?_
    refine g_iconst (pc := 5) (v := 1) dJx4a65c_add_9ea2d_5 rfl ?_
    refine g_iadd (pc := 6) dJx4a65c_add_9ea2d_6 ?_
    refine g_putI (pc := 7) dJx4a65c_add_9ea2d_7 fp_Jx4a65c_63 h1 ⟨rfl, rfl⟩ (fun _ _ _ _ => rfl) ?_
    refine g_aload_n (pc := 10) dJx4a65c_add_9ea2d_10 rfl trivial ?_
    refine g_aload_n (pc := 11) dJx4a65c_add_9ea2d_11 rfl trivial ?_
    refine g_aload_n (pc := 12) dJx4a65c_add_9ea2d_12 rfl trivial ?_
    refine g_getf (pc := 13) dJx4a65c_add_9ea2d_13 fk_Jx4a65c_9 h1 (fv_arr h3) ?_
    refine g_aload_n (pc := 16) dJx4a65c_add_9ea2d_16 rfl trivial ?_
    refine g_getf (pc := 17) (v := .int _) dJx4a65c_add_9ea2d_17 fk_Jx4a65c_48 h1 (fun _ => congrArg Value.int (((hI 2 (by decide)).trans h2))) ?_
    refine g_invV_r (pc := 20) (As := [_, _, _]) dJx4a65c_add_9ea2d_20 rfl (k_add3 (M := sI M p (fun_set (mI M p) 0 (mI M p 0 + 1))) h1 h7 hd hl) rfl rfl h1 rfl rfl lk_Jx4a65c_131 rfl (nb rfl) ⟨nb rfl, nb rfl⟩ rfl ?_
    show Go l _ _ _ _ _ _ _ _ ([] : List Value) _ _ _
    refine g_iconst (pc := 23) (v := 1) dJx4a65c_add_9ea2d_23 rfl ?_
    refine g_ireturn (pc := 24) dJx4a65c_add_9ea2d_24 rfl rfl ?_
    refine ⟨_, rfl, rfl, some e, ⟨⟨h1, ?_, ?_, h4⟩, ⟨h7, fun j => ?_, ?_, fun j hj => ?_⟩, fun d' hd' => ?_⟩, ?_, Or.inl rfl⟩
    · rw [sI_self, fs_self, List.length_append]
      rfl
    · rw [mR_sI, sR_ne (Ne.symm hep)]
      exact h3
    · rw [sI_ne hep, mI_sR, sI_ne hep]
      exact h8 j
    · rw [List.length_append]
      exact hl
    · rw [mR_sI, sR_self]
      rw [List.length_append] at hj
      have hj' : j < ds.length + 1 := hj
      by_cases z : j = ds.length
      · rw [z, fs_self, List.getD_eq_getElem?_getD, List.getElem?_append_right (Nat.le_refl _), Nat.sub_self]
        rfl
      · rw [fs_ne _ _ z, List.getD_eq_getElem?_getD, List.getElem?_append_left (by omega), ← List.getD_eq_getElem?_getD]
        exact h10 j (by omega)
    · rcases List.mem_append.mp hd' with z | z
      · exact h6 d' z
      · rw [List.mem_singleton.mp z]
        exact hd
    · exact (((Xt.rf (ALc p (some e)) M).sI (fun _ => Or.inl rfl)).sR (fun _ => Or.inr rfl)).sI (fun _ => Or.inl rfl)
/-- taking one out -/
theorem k_check3N {i len : Nat} (h : i < len) (hL : len < 2147483648) : EvR l jJ3_checkIndex_8e157 0 0 0 0 [.int (nI i), .int (nI len), .null] M (.inl (some (.int (nI i)))) M := by
  refine ev_intro rfl (nb rfl) rfl ?_
  refine g_iload_n (pc := 0) dJ3_checkIndex_8e157_0 rfl ?_
  refine g_if_lt (pc := 1) (tgt := 9) dJ3_checkIndex_8e157_1 rfl (fun h1 => absurd h1 (nI_pos (by omega))) (fun _ => ?_)
  refine g_iload_n (pc := 4) dJ3_checkIndex_8e157_4 rfl ?_
  refine g_iload_n (pc := 5) dJ3_checkIndex_8e157_5 rfl ?_
  refine g_icmp_lt (pc := 6) (tgt := 16) dJ3_checkIndex_8e157_6 rfl (fun _ => ?_) (fun h6 => absurd (nI_gt h hL) h6)
  refine g_iload_n (pc := 16) dJ3_checkIndex_8e157_16 rfl ?_
  refine g_ireturn (pc := 17) dJ3_checkIndex_8e157_17 rfl rfl ?_
  exact ⟨rfl, rfl⟩
theorem k_checkIx {i len : Nat} (h : i < len) (hL : len < 2147483648) : EvR l jJ15_checkIndex_7cf53 1 40 0 0 [.int (nI i), .int (nI len)] M (.inl (some (.int (nI i)))) M := by
  refine ev_intro rfl (nb rfl) rfl ?_
  refine g_iload_n (pc := 0) dJ15_checkIndex_7cf53_0 rfl ?_
  refine g_iload_n (pc := 1) dJ15_checkIndex_7cf53_1 rfl ?_
  refine g_aconst_null (pc := 2) dJ15_checkIndex_7cf53_2 ?_
  refine g_invS_r (pc := 3) (As := [_, _, _]) dJ15_checkIndex_7cf53_3 rfl (k_check3N h hL) rfl rfl lk_J15_105 rfl (nb rfl) ⟨nb rfl, nb rfl⟩ rfl ?_
  refine g_ireturn (pc := 6) dJ15_checkIndex_7cf53_6 rfl rfl ?_
  exact ⟨rfl, rfl⟩
theorem k_fastLast {e d : Nat} {xs : List Nat} (h : AL M p (some e) (xs ++ [d])) : EvO l jJx4a65c_fastRemove_b59b0 1 80 0 0 [.ref p, .ref e, .int (nI xs.length)] M (fun r M' => r = none ∧ AL M' p (some e) xs ∧ Xt (ALc p (some e)) M M') := by
  obtain ⟨⟨h1, h2, h3, h4⟩, ⟨h7, h8, h9, h10⟩, h6⟩ := h
  have hlen : (xs ++ [d]).length = xs.length + 1 := by rw [List.length_append]; rfl
  rw [hlen] at h2 h9 h10
  have hep : e ≠ p := fun z => by rw [z, h1] at h7; cases h7
  have hI : ∀ j, j ≠ 0 → mI (sI M p (fun_set (mI M p) 0 (mI M p 0 + 1))) p j = mI M p j := fun j hj => by rw [sI_self, fs_ne _ _ hj]
  refine ev_intro rfl (nb rfl) rfl ?_
  refine g_aload_n (pc := 0) dJx4a65c_fastRemove_b59b0_0 rfl trivial ?_
  refine g_dup (pc := 1) dJx4a65c_fastRemove_b59b0_1 rfl ?_
  refine g_getf (pc := 2) (v := .int (mI _ _ _)) dJx4a65c_fastRemove_b59b0_2 fk_Jx4a65c_63 h1 (fun _ => rfl) ?_
  refine g_iconst (pc := 5) (v := 1) dJx4a65c_fastRemove_b59b0_5 rfl ?_
  refine g_iadd (pc := 6) dJx4a65c_fastRemove_b59b0_6 ?_
  refine g_putI (pc := 7) dJx4a65c_fastRemove_b59b0_7 fp_Jx4a65c_63 h1 ⟨rfl, rfl⟩ (fun _ _ _ _ => rfl) ?_
  refine g_aload_n (pc := 10) dJx4a65c_fastRemove_b59b0_10 rfl trivial ?_
  refine g_getf (pc := 11) (v := .int _) dJx4a65c_fastRemove_b59b0_11 fk_Jx4a65c_48 h1 (fun _ => congrArg Value.int (((hI 2 (by decide)).trans h2))) ?_
  refine g_iconst (pc := 14) (v := 1) dJx4a65c_fastRemove_b59b0_14 rfl ?_
  refine g_isub (pc := 15) dJx4a65c_fastRemove_b59b0_15 ?_
  rw [nI_pred]
  refine g_dup (pc := 16) dJx4a65c_fastRemove_b59b0_16 rfl ?_
  refine g_istore_n (pc := 17) (lv' := [(0, _), (1, _), (2, _), (3, _)]) dJx4a65c_fastRemove_b59b0_17 (nl rfl) rfl ?_
  refine g_iload_n (pc := 18) dJx4a65c_fastRemove_b59b0_18 rfl ?_
  refine g_icmp_le (pc := 19) (tgt := 34) dJx4a65c_fastRemove_b59b0_19 rfl (fun _ => ?_) (fun h19 => absurd (nI_le (Nat.le_refl _) (by omega)) h19)
  refine g_aload_n (pc := 34) dJx4a65c_fastRemove_b59b0_34 rfl trivial ?_
  refine g_aload_n (pc := 35) dJx4a65c_fastRemove_b59b0_35 rfl trivial ?_
  refine g_iload_n (pc := 36) dJx4a65c_fastRemove_b59b0_36 rfl ?_
  refine g_dup_x1 (pc := 37) dJx4a65c_fastRemove_b59b0_37 rfl rfl ?_
  refine g_putI (pc := 38) dJx4a65c_fastRemove_b59b0_38 fp_Jx4a65c_48 h1 ⟨rfl, rfl⟩ (fun _ _ _ _ => rfl) ?_
  refine g_aconst_null (pc := 41) dJx4a65c_fastRemove_b59b0_41 ?_
  refine g_aastore_null (pc := 42) dJx4a65c_fastRemove_b59b0_42 h7 (by rw [sI_ne hep, sI_ne hep]; exact h8 _) rfl (by omega) (by decide) ?_
  refine g_return (pc := 43) dJx4a65c_fastRemove_b59b0_43 rfl ?_
  refine ⟨_, rfl, rfl, ⟨⟨h1, ?_, ?_, h4⟩, ⟨h7, fun j => ?_, by omega, fun j hj => ?_⟩, fun d' hd' => h6 d' (List.mem_append_left _ hd')⟩, ?_⟩
  · rw [mI_sR, sI_self, fs_self]
  · rw [sR_ne (Ne.symm hep)]
    exact h3
  · rw [mI_sR, sI_ne hep, sI_ne hep]
    exact h8 j
  · rw [sR_self, fs_ne _ _ (by omega)]
    have h11 := h10 j (by omega)
    rw [List.getD_eq_getElem?_getD, List.getElem?_append_left hj, ← List.getD_eq_getElem?_getD] at h11
    exact h11
  · exact (((Xt.rf (ALc p (some e)) M).sI (fun _ => Or.inl rfl)).sI (fun _ => Or.inl rfl)).sR (fun _ => Or.inr rfl)
theorem k_fastFirst {e d : Nat} {xs : List Nat} (h : AL M p (some e) (d :: xs)) (hl : 1 ≤ xs.length) : EvO l jJx4a65c_fastRemove_b59b0 1 80 0 0 [.ref p, .ref e, .int 0] M (fun r M' => r = none ∧ AL M' p (some e) xs ∧ Xt (ALc p (some e)) M M') := by
  obtain ⟨⟨h1, h2, h3, h4⟩, ⟨h7, h8, h9, h10⟩, h6⟩ := h
  have hlen : (d :: xs).length = xs.length + 1 := rfl
  rw [hlen] at h2 h9 h10
  have hep : e ≠ p := fun z => by rw [z, h1] at h7; cases h7
  have hI : ∀ j, j ≠ 0 → mI (sI M p (fun_set (mI M p) 0 (mI M p 0 + 1))) p j = mI M p j := fun j hj => by rw [sI_self, fs_ne _ _ hj]
  have hG : ∀ j, j < xs.length → mR M e (1 + j) = some (xs.getD j 0) := fun j hj => by
    have h11 := h10 (1 + j) (by omega)
    rw [Nat.add_comm 1 j] at h11 ⊢
    exact h11
  refine ev_intro rfl (nb rfl) rfl ?_
  refine g_aload_n (pc := 0) dJx4a65c_fastRemove_b59b0_0 rfl trivial ?_
  refine g_dup (pc := 1) dJx4a65c_fastRemove_b59b0_1 rfl ?_
  refine g_getf (pc := 2) (v := .int (mI _ _ _)) dJx4a65c_fastRemove_b59b0_2 fk_Jx4a65c_63 h1 (fun _ => rfl) ?_
  refine g_iconst (pc := 5) (v := 1) dJx4a65c_fastRemove_b59b0_5 rfl ?_
  refine g_iadd (pc := 6) dJx4a65c_fastRemove_b59b0_6 ?_
  refine g_putI (pc := 7) dJx4a65c_fastRemove_b59b0_7 fp_Jx4a65c_63 h1 ⟨rfl, rfl⟩ (fun _ _ _ _ => rfl) ?_
  refine g_aload_n (pc := 10) dJx4a65c_fastRemove_b59b0_10 rfl trivial ?_
  refine g_getf (pc := 11) (v := .int _) dJx4a65c_fastRemove_b59b0_11 fk_Jx4a65c_48 h1 (fun _ => congrArg Value.int (((hI 2 (by decide)).trans h2))) ?_
  refine g_iconst (pc := 14) (v := 1) dJx4a65c_fastRemove_b59b0_14 rfl ?_
  refine g_isub (pc := 15) dJx4a65c_fastRemove_b59b0_15 ?_
  rw [nI_pred]
  refine g_dup (pc := 16) dJx4a65c_fastRemove_b59b0_16 rfl ?_
  refine g_istore_n (pc := 17) (lv' := [(0, _), (1, _), (2, _), (3, _)]) dJx4a65c_fastRemove_b59b0_17 (nl rfl) rfl ?_
  refine g_iload_n (pc := 18) dJx4a65c_fastRemove_b59b0_18 rfl ?_
  refine g_icmp_le (pc := 19) (tgt := 34) dJx4a65c_fastRemove_b59b0_19 rfl (fun h19 => absurd h19 (nI_nle (by omega) (by omega))) (fun _ => ?_)
  refine g_aload_n (pc := 22) dJx4a65c_fastRemove_b59b0_22 rfl trivial ?_
  refine g_iload_n (pc := 23) dJx4a65c_fastRemove_b59b0_23 rfl ?_
  refine g_iconst (pc := 24) (v := 1) dJx4a65c_fastRemove_b59b0_24 rfl ?_
  refine g_iadd (pc := 25) dJx4a65c_fastRemove_b59b0_25 ?_
  rw [show (0 : Int32) + 1 = nI 1 by decide]
  refine g_aload_n (pc := 26) dJx4a65c_fastRemove_b59b0_26 rfl trivial ?_
  refine g_iload_n (pc := 27) dJx4a65c_fastRemove_b59b0_27 rfl ?_
  refine g_iload_n (pc := 28) dJx4a65c_fastRemove_b59b0_28 rfl ?_
  refine g_iload_n (pc := 29) dJx4a65c_fastRemove_b59b0_29 rfl ?_
  refine g_isub (pc := 30) dJx4a65c_fastRemove_b59b0_30 ?_
  rw [sub_0]
  refine g_copyR (pc := 31) (sp := 1) (dp := 0) (cnt := xs.length) dJx4a65c_fastRemove_b59b0_31 wd_x863 wd_510 wd_509 wd_108 h7 (fun j => by rw [sI_ne hep]; exact h8 j) (fun j hj => ⟨_, hG j hj, h6 _ (List.mem_cons_of_mem _ (by rw [List.getD_eq_getElem?_getD, List.getElem?_eq_getElem hj]; exact List.getElem_mem hj))⟩) rfl rfl rfl (by omega) (by omega) (by decide) (nb rfl) (nb rfl) ?_
  refine g_aload_n (pc := 34) dJx4a65c_fastRemove_b59b0_34 rfl trivial ?_
  refine g_aload_n (pc := 35) dJx4a65c_fastRemove_b59b0_35 rfl trivial ?_
  refine g_iload_n (pc := 36) dJx4a65c_fastRemove_b59b0_36 rfl ?_
  refine g_dup_x1 (pc := 37) dJx4a65c_fastRemove_b59b0_37 rfl rfl ?_
  refine g_putI (pc := 38) dJx4a65c_fastRemove_b59b0_38 fp_Jx4a65c_48 h1 ⟨rfl, rfl⟩ (fun _ _ _ _ => rfl) ?_
  refine g_aconst_null (pc := 41) dJx4a65c_fastRemove_b59b0_41 ?_
  refine g_aastore_null (pc := 42) dJx4a65c_fastRemove_b59b0_42 h7 (by rw [sI_ne hep]; show mI (sI M p _) e _ = 0; rw [sI_ne hep]; exact h8 _) rfl (by omega) (by decide) ?_
  refine g_return (pc := 43) dJx4a65c_fastRemove_b59b0_43 rfl ?_
  refine ⟨_, rfl, rfl, ⟨⟨h1, ?_, ?_, h4⟩, ⟨h7, fun j => ?_, by omega, fun j hj => ?_⟩, fun d' hd' => h6 d' (List.mem_cons_of_mem _ hd')⟩, ?_⟩
  · rw [mI_sR, sI_self, fs_self]
  · rw [sR_ne (Ne.symm hep), mR_sI, sR_ne (Ne.symm hep)]
    exact h3
  · rw [mI_sR, sI_ne hep, mI_sR, sI_ne hep]
    exact h8 j
  · rw [sR_self, fs_ne _ _ (by omega), mR_sI, sR_self, pk_cpy_in (Nat.zero_le _) (by omega), Nat.sub_zero]
    exact hG j hj
  · exact ((((Xt.rf (ALc p (some e)) M).sI (fun _ => Or.inl rfl)).sR (fun _ => Or.inr rfl)).sI (fun _ => Or.inl rfl)).sR (fun _ => Or.inr rfl)
theorem k_alLast {e d : Nat} {xs : List Nat} (h : AL M p (some e) (xs ++ [d])) : EvO l jJx4a65c_remove_915e3 2 120 0 0 [.ref p, .int (nI xs.length)] M (fun r M' => r = some (.ref d) ∧ AL M' p (some e) xs ∧ Xt (ALc p (some e)) M M') := by
  have hlen : (xs ++ [d]).length = xs.length + 1 := by rw [List.length_append]; rfl
  have hsz := h.2.1.2.2.1
  have hr : mR M e xs.length = some d := by
    rw [h.2.1.2.2.2 xs.length (by omega), List.getD_eq_getElem?_getD, List.getElem?_append_right (Nat.le_refl _), Nat.sub_self]
    rfl
  refine ev_intro rfl (nb rfl) rfl ?_
  refine g_iload_n (pc := 0) dJx4a65c_remove_915e3_0 rfl ?_
  refine g_aload_n (pc := 1) dJx4a65c_remove_915e3_1 rfl trivial ?_
  refine g_getf (pc := 2) (v := .int _) dJx4a65c_remove_915e3_2 fk_Jx4a65c_48 h.1.1 (fun _ => congrArg Value.int (h.1.2.1)) ?_
  refine g_invS_r (pc := 5) (As := [_, _]) dJx4a65c_remove_915e3_5 rfl (k_checkIx (by omega) (by omega)) rfl rfl lk_Jx4a65c_118 rfl (nb rfl) ⟨nb rfl, nb rfl⟩ rfl ?_
  refine g_pop (pc := 8) dJx4a65c_remove_915e3_8 rfl ?_
  refine g_aload_n (pc := 9) dJx4a65c_remove_915e3_9 rfl trivial ?_
  refine g_getf (pc := 10) dJx4a65c_remove_915e3_10 fk_Jx4a65c_9 h.1.1 (fv_arr h.1.2.2.1) ?_
  refine g_astore_n (pc := 13) (lv' := [(0, _), (1, _), (2, _)]) dJx4a65c_remove_915e3_13 trivial (nl rfl) rfl ?_
  refine g_aload_n (pc := 14) dJx4a65c_remove_915e3_14 rfl trivial ?_
  refine g_iload_n (pc := 15) dJx4a65c_remove_915e3_15 rfl ?_
  refine g_aaload_Obj (pc := 16) dJx4a65c_remove_915e3_16 h.2.1.1 rfl (by omega) (by omega) hr ?_
  refine g_astore_n (pc := 17) (lv' := [(0, _), (1, _), (2, _), (3, _)]) dJx4a65c_remove_915e3_17 trivial (nl rfl) rfl ?_
  refine g_aload_n (pc := 18) dJx4a65c_remove_915e3_18 rfl trivial ?_
  refine g_aload_n (pc := 19) dJx4a65c_remove_915e3_19 rfl trivial ?_
  refine g_iload_n (pc := 20) dJx4a65c_remove_915e3_20 rfl ?_
  refine g_invV_o (pc := 21) (As := [_, _]) dJx4a65c_remove_915e3_21 rfl (k_fastLast h) rfl rfl h.1.1 rfl rfl lk_Jx4a65c_144 rfl (nb rfl) ⟨nb rfl, nb rfl⟩ rfl (fun v1 M1 hq => ?_)
  obtain ⟨rfl, hq⟩ := hq
  show Go l _ _ _ _ _ _ _ _ ([] : List Value) _ _ _
  refine g_aload_n (pc := 24) dJx4a65c_remove_915e3_24 rfl trivial ?_
  refine g_areturn (pc := 25) dJx4a65c_remove_915e3_25 rfl (Or.inl ⟨_, rfl⟩) ?_
  exact ⟨_, rfl, rfl, hq⟩
theorem k_alFirst {e d : Nat} {xs : List Nat} (h : AL M p (some e) (d :: xs)) (hl : 1 ≤ xs.length) : EvO l jJx4a65c_remove_915e3 2 120 0 0 [.ref p, .int 0] M (fun r M' => r = some (.ref d) ∧ AL M' p (some e) xs ∧ Xt (ALc p (some e)) M M') := by
  have hlen : (d :: xs).length = xs.length + 1 := rfl
  have hsz := h.2.1.2.2.1
  have hr : mR M e 0 = some d := h.2.1.2.2.2 0 (by omega)
  refine ev_intro rfl (nb rfl) rfl ?_
  refine g_iload_n (pc := 0) dJx4a65c_remove_915e3_0 rfl ?_
  refine g_aload_n (pc := 1) dJx4a65c_remove_915e3_1 rfl trivial ?_
  refine g_getf (pc := 2) (v := .int _) dJx4a65c_remove_915e3_2 fk_Jx4a65c_48 h.1.1 (fun _ => congrArg Value.int (h.1.2.1)) ?_
  refine g_invS_r (pc := 5) (As := [_, _]) dJx4a65c_remove_915e3_5 rfl ((show EvR l _ _ _ _ _ [.int 0, .int (nI (d :: xs).length)] M (.inl (some (.int (nI 0)))) M from k_checkIx (i := 0) (by omega) (by omega))) rfl rfl lk_Jx4a65c_118 rfl (nb rfl) ⟨nb rfl, nb rfl⟩ rfl ?_
  refine g_pop (pc := 8) dJx4a65c_remove_915e3_8 rfl ?_
  refine g_aload_n (pc := 9) dJx4a65c_remove_915e3_9 rfl trivial ?_
  refine g_getf (pc := 10) dJx4a65c_remove_915e3_10 fk_Jx4a65c_9 h.1.1 (fv_arr h.1.2.2.1) ?_
  refine g_astore_n (pc := 13) (lv' := [(0, _), (1, _), (2, _)]) dJx4a65c_remove_915e3_13 trivial (nl rfl) rfl ?_
  refine g_aload_n (pc := 14) dJx4a65c_remove_915e3_14 rfl trivial ?_
  refine g_iload_n (pc := 15) dJx4a65c_remove_915e3_15 rfl ?_
  refine g_aaload_Obj (pc := 16) dJx4a65c_remove_915e3_16 h.2.1.1 rfl (show 0 < 10 by decide) (by omega) hr ?_
  refine g_astore_n (pc := 17) (lv' := [(0, _), (1, _), (2, _), (3, _)]) dJx4a65c_remove_915e3_17 trivial (nl rfl) rfl ?_
  refine g_aload_n (pc := 18) dJx4a65c_remove_915e3_18 rfl trivial ?_
  refine g_aload_n (pc := 19) dJx4a65c_remove_915e3_19 rfl trivial ?_
  refine g_iload_n (pc := 20) dJx4a65c_remove_915e3_20 rfl ?_
  refine g_invV_o (pc := 21) (As := [_, _]) dJx4a65c_remove_915e3_21 rfl (k_fastFirst h hl) rfl rfl h.1.1 rfl rfl lk_Jx4a65c_144 rfl (nb rfl) ⟨nb rfl, nb rfl⟩ rfl (fun v1 M1 hq => ?_)
  obtain ⟨rfl, hq⟩ := hq
  show Go l _ _ _ _ _ _ _ _ ([] : List Value) _ _ _
  refine g_aload_n (pc := 24) dJx4a65c_remove_915e3_24 rfl trivial ?_
  refine g_areturn (pc := 25) dJx4a65c_remove_915e3_25 rfl (Or.inl ⟨_, rfl⟩) ?_
  exact ⟨_, rfl, rfl, hq⟩
/-- the lowest bit's place -/
theorem k_ntzI {x : Int32} {b : Nat} (hb9 : b ≤ 8) (hx : (x ^^^ (-1)) &&& (x - 1) = nI (2 ^ b - 1)) : EvR l jJ6_numberOfTrailingZeros_0f7a4 0 0 0 0 [.int x] M (.inl (some (.int (nI b)))) M := by
  refine ev_intro rfl (nb rfl) rfl ?_
  refine g_iload_n (pc := 0) dJ6_numberOfTrailingZeros_0f7a4_0 rfl ?_
  refine g_iconst (pc := 1) (v := (-1)) dJ6_numberOfTrailingZeros_0f7a4_1 rfl ?_
  refine g_ixor (pc := 2) dJ6_numberOfTrailingZeros_0f7a4_2 ?_
  refine g_iload_n (pc := 3) dJ6_numberOfTrailingZeros_0f7a4_3 rfl ?_
  refine g_iconst (pc := 4) (v := 1) dJ6_numberOfTrailingZeros_0f7a4_4 rfl ?_
  refine g_isub (pc := 5) dJ6_numberOfTrailingZeros_0f7a4_5 ?_
  refine g_iand (pc := 6) dJ6_numberOfTrailingZeros_0f7a4_6 ?_
  rw [hx]
  refine g_istore_n (pc := 7) (lv' := [(0, _)]) dJ6_numberOfTrailingZeros_0f7a4_7 (nl rfl) rfl ?_
  have hb8 : b = 0 ∨ b = 1 ∨ b = 2 ∨ b = 3 ∨ b = 4 ∨ b = 5 ∨ b = 6 ∨ b = 7 ∨ b = 8 := by omega
  rcases hb8 with rfl | rfl | rfl | rfl | rfl | rfl | rfl | rfl | rfl
  · refine g_iload_n (pc := 8) dJ6_numberOfTrailingZeros_0f7a4_8 rfl ?_
    refine g_if_gt (pc := 9) (tgt := 17) dJ6_numberOfTrailingZeros_0f7a4_9 rfl (fun h9 => absurd h9 ((by decide))) (fun _ => ?_)
    refine g_iload_n (pc := 12) dJ6_numberOfTrailingZeros_0f7a4_12 rfl ?_
    refine g_bipush (pc := 13) (v := 32) dJ6_numberOfTrailingZeros_0f7a4_13 rfl ?_
    refine g_iand (pc := 15) dJ6_numberOfTrailingZeros_0f7a4_15 ?_
    refine g_ireturn (pc := 16) dJ6_numberOfTrailingZeros_0f7a4_16 rfl rfl ?_
    exact ⟨congrArg (fun z => (Sum.inl (some (Value.int z)) : Res)) (by decide), rfl⟩
  · refine g_iload_n (pc := 8) dJ6_numberOfTrailingZeros_0f7a4_8 rfl ?_
    refine g_if_gt (pc := 9) (tgt := 17) dJ6_numberOfTrailingZeros_0f7a4_9 rfl (fun _ => ?_) (fun h9 => absurd ((by decide)) h9)
    refine g_iconst (pc := 17) (v := 1) dJ6_numberOfTrailingZeros_0f7a4_17 rfl ?_
    refine g_istore_n (pc := 18) (lv' := [(0, _), (1, _)]) dJ6_numberOfTrailingZeros_0f7a4_18 (nl rfl) rfl ?_
    refine g_iload_n (pc := 19) dJ6_numberOfTrailingZeros_0f7a4_19 rfl ?_
    refine g_ldcw (pc := 20) dJ6_numberOfTrailingZeros_0f7a4_20 wd_x1068 ?_
    refine g_icmp_le (pc := 23) (tgt := 34) dJ6_numberOfTrailingZeros_0f7a4_23 rfl (fun _ => ?_) (fun h23 => absurd ((by decide)) h23)
    refine g_iload_n (pc := 34) dJ6_numberOfTrailingZeros_0f7a4_34 rfl ?_
    refine g_sipush (pc := 35) (v := 256) dJ6_numberOfTrailingZeros_0f7a4_35 rfl ?_
    refine g_icmp_le (pc := 38) (tgt := 49) dJ6_numberOfTrailingZeros_0f7a4_38 rfl (fun _ => ?_) (fun h38 => absurd ((by decide)) h38)
    refine g_iload_n (pc := 49) dJ6_numberOfTrailingZeros_0f7a4_49 rfl ?_
    refine g_bipush (pc := 50) (v := 16) dJ6_numberOfTrailingZeros_0f7a4_50 rfl ?_
    refine g_icmp_le (pc := 52) (tgt := 62) dJ6_numberOfTrailingZeros_0f7a4_52 rfl (fun _ => ?_) (fun h52 => absurd ((by decide)) h52)
    refine g_iload_n (pc := 62) dJ6_numberOfTrailingZeros_0f7a4_62 rfl ?_
    refine g_iconst (pc := 63) (v := 4) dJ6_numberOfTrailingZeros_0f7a4_63 rfl ?_
    refine g_icmp_le (pc := 64) (tgt := 74) dJ6_numberOfTrailingZeros_0f7a4_64 rfl (fun _ => ?_) (fun h64 => absurd ((by decide)) h64)
    refine g_iload_n (pc := 74) dJ6_numberOfTrailingZeros_0f7a4_74 rfl ?_
    refine g_iload_n (pc := 75) dJ6_numberOfTrailingZeros_0f7a4_75 rfl ?_
    refine g_iconst (pc := 76) (v := 1) dJ6_numberOfTrailingZeros_0f7a4_76 rfl ?_
    refine g_iushr (pc := 77) dJ6_numberOfTrailingZeros_0f7a4_77 rfl ?_
    refine g_iadd (pc := 78) dJ6_numberOfTrailingZeros_0f7a4_78 ?_
    refine g_ireturn (pc := 79) dJ6_numberOfTrailingZeros_0f7a4_79 rfl rfl ?_
    exact ⟨congrArg (fun z => (Sum.inl (some (Value.int z)) : Res)) (by decide), rfl⟩
  · refine g_iload_n (pc := 8) dJ6_numberOfTrailingZeros_0f7a4_8 rfl ?_
    refine g_if_gt (pc := 9) (tgt := 17) dJ6_numberOfTrailingZeros_0f7a4_9 rfl (fun _ => ?_) (fun h9 => absurd ((by decide)) h9)
    refine g_iconst (pc := 17) (v := 1) dJ6_numberOfTrailingZeros_0f7a4_17 rfl ?_
    refine g_istore_n (pc := 18) (lv' := [(0, _), (1, _)]) dJ6_numberOfTrailingZeros_0f7a4_18 (nl rfl) rfl ?_
    refine g_iload_n (pc := 19) dJ6_numberOfTrailingZeros_0f7a4_19 rfl ?_
    refine g_ldcw (pc := 20) dJ6_numberOfTrailingZeros_0f7a4_20 wd_x1068 ?_
    refine g_icmp_le (pc := 23) (tgt := 34) dJ6_numberOfTrailingZeros_0f7a4_23 rfl (fun _ => ?_) (fun h23 => absurd ((by decide)) h23)
    refine g_iload_n (pc := 34) dJ6_numberOfTrailingZeros_0f7a4_34 rfl ?_
    refine g_sipush (pc := 35) (v := 256) dJ6_numberOfTrailingZeros_0f7a4_35 rfl ?_
    refine g_icmp_le (pc := 38) (tgt := 49) dJ6_numberOfTrailingZeros_0f7a4_38 rfl (fun _ => ?_) (fun h38 => absurd ((by decide)) h38)
    refine g_iload_n (pc := 49) dJ6_numberOfTrailingZeros_0f7a4_49 rfl ?_
    refine g_bipush (pc := 50) (v := 16) dJ6_numberOfTrailingZeros_0f7a4_50 rfl ?_
    refine g_icmp_le (pc := 52) (tgt := 62) dJ6_numberOfTrailingZeros_0f7a4_52 rfl (fun _ => ?_) (fun h52 => absurd ((by decide)) h52)
    refine g_iload_n (pc := 62) dJ6_numberOfTrailingZeros_0f7a4_62 rfl ?_
    refine g_iconst (pc := 63) (v := 4) dJ6_numberOfTrailingZeros_0f7a4_63 rfl ?_
    refine g_icmp_le (pc := 64) (tgt := 74) dJ6_numberOfTrailingZeros_0f7a4_64 rfl (fun _ => ?_) (fun h64 => absurd ((by decide)) h64)
    refine g_iload_n (pc := 74) dJ6_numberOfTrailingZeros_0f7a4_74 rfl ?_
    refine g_iload_n (pc := 75) dJ6_numberOfTrailingZeros_0f7a4_75 rfl ?_
    refine g_iconst (pc := 76) (v := 1) dJ6_numberOfTrailingZeros_0f7a4_76 rfl ?_
    refine g_iushr (pc := 77) dJ6_numberOfTrailingZeros_0f7a4_77 rfl ?_
    refine g_iadd (pc := 78) dJ6_numberOfTrailingZeros_0f7a4_78 ?_
    refine g_ireturn (pc := 79) dJ6_numberOfTrailingZeros_0f7a4_79 rfl rfl ?_
    exact ⟨congrArg (fun z => (Sum.inl (some (Value.int z)) : Res)) (by decide), rfl⟩
  · refine g_iload_n (pc := 8) dJ6_numberOfTrailingZeros_0f7a4_8 rfl ?_
    refine g_if_gt (pc := 9) (tgt := 17) dJ6_numberOfTrailingZeros_0f7a4_9 rfl (fun _ => ?_) (fun h9 => absurd ((by decide)) h9)
    refine g_iconst (pc := 17) (v := 1) dJ6_numberOfTrailingZeros_0f7a4_17 rfl ?_
    refine g_istore_n (pc := 18) (lv' := [(0, _), (1, _)]) dJ6_numberOfTrailingZeros_0f7a4_18 (nl rfl) rfl ?_
    refine g_iload_n (pc := 19) dJ6_numberOfTrailingZeros_0f7a4_19 rfl ?_
    refine g_ldcw (pc := 20) dJ6_numberOfTrailingZeros_0f7a4_20 wd_x1068 ?_
    refine g_icmp_le (pc := 23) (tgt := 34) dJ6_numberOfTrailingZeros_0f7a4_23 rfl (fun _ => ?_) (fun h23 => absurd ((by decide)) h23)
    refine g_iload_n (pc := 34) dJ6_numberOfTrailingZeros_0f7a4_34 rfl ?_
    refine g_sipush (pc := 35) (v := 256) dJ6_numberOfTrailingZeros_0f7a4_35 rfl ?_
    refine g_icmp_le (pc := 38) (tgt := 49) dJ6_numberOfTrailingZeros_0f7a4_38 rfl (fun _ => ?_) (fun h38 => absurd ((by decide)) h38)
    refine g_iload_n (pc := 49) dJ6_numberOfTrailingZeros_0f7a4_49 rfl ?_
    refine g_bipush (pc := 50) (v := 16) dJ6_numberOfTrailingZeros_0f7a4_50 rfl ?_
    refine g_icmp_le (pc := 52) (tgt := 62) dJ6_numberOfTrailingZeros_0f7a4_52 rfl (fun _ => ?_) (fun h52 => absurd ((by decide)) h52)
    refine g_iload_n (pc := 62) dJ6_numberOfTrailingZeros_0f7a4_62 rfl ?_
    refine g_iconst (pc := 63) (v := 4) dJ6_numberOfTrailingZeros_0f7a4_63 rfl ?_
    refine g_icmp_le (pc := 64) (tgt := 74) dJ6_numberOfTrailingZeros_0f7a4_64 rfl (fun h64 => absurd h64 ((by decide))) (fun _ => ?_)
    refine g_iinc (pc := 67) (lv' := [(0, _), (1, _)]) dJ6_numberOfTrailingZeros_0f7a4_67 rfl rfl (nl rfl) rfl ?_
    refine g_iload_n (pc := 70) dJ6_numberOfTrailingZeros_0f7a4_70 rfl ?_
    refine g_iconst (pc := 71) (v := 2) dJ6_numberOfTrailingZeros_0f7a4_71 rfl ?_
    refine g_iushr (pc := 72) dJ6_numberOfTrailingZeros_0f7a4_72 rfl ?_
    refine g_istore_n (pc := 73) (lv' := [(0, _), (1, _)]) dJ6_numberOfTrailingZeros_0f7a4_73 (nl rfl) rfl ?_
    refine g_iload_n (pc := 74) dJ6_numberOfTrailingZeros_0f7a4_74 rfl ?_
    refine g_iload_n (pc := 75) dJ6_numberOfTrailingZeros_0f7a4_75 rfl ?_
    refine g_iconst (pc := 76) (v := 1) dJ6_numberOfTrailingZeros_0f7a4_76 rfl ?_
    refine g_iushr (pc := 77) dJ6_numberOfTrailingZeros_0f7a4_77 rfl ?_
    refine g_iadd (pc := 78) dJ6_numberOfTrailingZeros_0f7a4_78 ?_
    refine g_ireturn (pc := 79) dJ6_numberOfTrailingZeros_0f7a4_79 rfl rfl ?_
    exact ⟨congrArg (fun z => (Sum.inl (some (Value.int z)) : Res)) (by decide), rfl⟩
  · refine g_iload_n (pc := 8) dJ6_numberOfTrailingZeros_0f7a4_8 rfl ?_
    refine g_if_gt (pc := 9) (tgt := 17) dJ6_numberOfTrailingZeros_0f7a4_9 rfl (fun _ => ?_) (fun h9 => absurd ((by decide)) h9)
    refine g_iconst (pc := 17) (v := 1) dJ6_numberOfTrailingZeros_0f7a4_17 rfl ?_
    refine g_istore_n (pc := 18) (lv' := [(0, _), (1, _)]) dJ6_numberOfTrailingZeros_0f7a4_18 (nl rfl) rfl ?_
    refine g_iload_n (pc := 19) dJ6_numberOfTrailingZeros_0f7a4_19 rfl ?_
    refine g_ldcw (pc := 20) dJ6_numberOfTrailingZeros_0f7a4_20 wd_x1068 ?_
    refine g_icmp_le (pc := 23) (tgt := 34) dJ6_numberOfTrailingZeros_0f7a4_23 rfl (fun _ => ?_) (fun h23 => absurd ((by decide)) h23)
    refine g_iload_n (pc := 34) dJ6_numberOfTrailingZeros_0f7a4_34 rfl ?_
    refine g_sipush (pc := 35) (v := 256) dJ6_numberOfTrailingZeros_0f7a4_35 rfl ?_
    refine g_icmp_le (pc := 38) (tgt := 49) dJ6_numberOfTrailingZeros_0f7a4_38 rfl (fun _ => ?_) (fun h38 => absurd ((by decide)) h38)
    refine g_iload_n (pc := 49) dJ6_numberOfTrailingZeros_0f7a4_49 rfl ?_
    refine g_bipush (pc := 50) (v := 16) dJ6_numberOfTrailingZeros_0f7a4_50 rfl ?_
    refine g_icmp_le (pc := 52) (tgt := 62) dJ6_numberOfTrailingZeros_0f7a4_52 rfl (fun _ => ?_) (fun h52 => absurd ((by decide)) h52)
    refine g_iload_n (pc := 62) dJ6_numberOfTrailingZeros_0f7a4_62 rfl ?_
    refine g_iconst (pc := 63) (v := 4) dJ6_numberOfTrailingZeros_0f7a4_63 rfl ?_
    refine g_icmp_le (pc := 64) (tgt := 74) dJ6_numberOfTrailingZeros_0f7a4_64 rfl (fun h64 => absurd h64 ((by decide))) (fun _ => ?_)
    refine g_iinc (pc := 67) (lv' := [(0, _), (1, _)]) dJ6_numberOfTrailingZeros_0f7a4_67 rfl rfl (nl rfl) rfl ?_
    refine g_iload_n (pc := 70) dJ6_numberOfTrailingZeros_0f7a4_70 rfl ?_
    refine g_iconst (pc := 71) (v := 2) dJ6_numberOfTrailingZeros_0f7a4_71 rfl ?_
    refine g_iushr (pc := 72) dJ6_numberOfTrailingZeros_0f7a4_72 rfl ?_
    refine g_istore_n (pc := 73) (lv' := [(0, _), (1, _)]) dJ6_numberOfTrailingZeros_0f7a4_73 (nl rfl) rfl ?_
    refine g_iload_n (pc := 74) dJ6_numberOfTrailingZeros_0f7a4_74 rfl ?_
    refine g_iload_n (pc := 75) dJ6_numberOfTrailingZeros_0f7a4_75 rfl ?_
    refine g_iconst (pc := 76) (v := 1) dJ6_numberOfTrailingZeros_0f7a4_76 rfl ?_
    refine g_iushr (pc := 77) dJ6_numberOfTrailingZeros_0f7a4_77 rfl ?_
    refine g_iadd (pc := 78) dJ6_numberOfTrailingZeros_0f7a4_78 ?_
    refine g_ireturn (pc := 79) dJ6_numberOfTrailingZeros_0f7a4_79 rfl rfl ?_
    exact ⟨congrArg (fun z => (Sum.inl (some (Value.int z)) : Res)) (by decide), rfl⟩
  · refine g_iload_n (pc := 8) dJ6_numberOfTrailingZeros_0f7a4_8 rfl ?_
    refine g_if_gt (pc := 9) (tgt := 17) dJ6_numberOfTrailingZeros_0f7a4_9 rfl (fun _ => ?_) (fun h9 => absurd ((by decide)) h9)
    refine g_iconst (pc := 17) (v := 1) dJ6_numberOfTrailingZeros_0f7a4_17 rfl ?_
    refine g_istore_n (pc := 18) (lv' := [(0, _), (1, _)]) dJ6_numberOfTrailingZeros_0f7a4_18 (nl rfl) rfl ?_
    refine g_iload_n (pc := 19) dJ6_numberOfTrailingZeros_0f7a4_19 rfl ?_
    refine g_ldcw (pc := 20) dJ6_numberOfTrailingZeros_0f7a4_20 wd_x1068 ?_
    refine g_icmp_le (pc := 23) (tgt := 34) dJ6_numberOfTrailingZeros_0f7a4_23 rfl (fun _ => ?_) (fun h23 => absurd ((by decide)) h23)
    refine g_iload_n (pc := 34) dJ6_numberOfTrailingZeros_0f7a4_34 rfl ?_
    refine g_sipush (pc := 35) (v := 256) dJ6_numberOfTrailingZeros_0f7a4_35 rfl ?_
    refine g_icmp_le (pc := 38) (tgt := 49) dJ6_numberOfTrailingZeros_0f7a4_38 rfl (fun _ => ?_) (fun h38 => absurd ((by decide)) h38)
    refine g_iload_n (pc := 49) dJ6_numberOfTrailingZeros_0f7a4_49 rfl ?_
    refine g_bipush (pc := 50) (v := 16) dJ6_numberOfTrailingZeros_0f7a4_50 rfl ?_
    refine g_icmp_le (pc := 52) (tgt := 62) dJ6_numberOfTrailingZeros_0f7a4_52 rfl (fun h52 => absurd h52 ((by decide))) (fun _ => ?_)
    refine g_iinc (pc := 55) (lv' := [(0, _), (1, _)]) dJ6_numberOfTrailingZeros_0f7a4_55 rfl rfl (nl rfl) rfl ?_
    refine g_iload_n (pc := 58) dJ6_numberOfTrailingZeros_0f7a4_58 rfl ?_
    refine g_iconst (pc := 59) (v := 4) dJ6_numberOfTrailingZeros_0f7a4_59 rfl ?_
    refine g_iushr (pc := 60) dJ6_numberOfTrailingZeros_0f7a4_60 rfl ?_
    refine g_istore_n (pc := 61) (lv' := [(0, _), (1, _)]) dJ6_numberOfTrailingZeros_0f7a4_61 (nl rfl) rfl ?_
    refine g_iload_n (pc := 62) dJ6_numberOfTrailingZeros_0f7a4_62 rfl ?_
    refine g_iconst (pc := 63) (v := 4) dJ6_numberOfTrailingZeros_0f7a4_63 rfl ?_
    refine g_icmp_le (pc := 64) (tgt := 74) dJ6_numberOfTrailingZeros_0f7a4_64 rfl (fun _ => ?_) (fun h64 => absurd ((by decide)) h64)
    refine g_iload_n (pc := 74) dJ6_numberOfTrailingZeros_0f7a4_74 rfl ?_
    refine g_iload_n (pc := 75) dJ6_numberOfTrailingZeros_0f7a4_75 rfl ?_
    refine g_iconst (pc := 76) (v := 1) dJ6_numberOfTrailingZeros_0f7a4_76 rfl ?_
    refine g_iushr (pc := 77) dJ6_numberOfTrailingZeros_0f7a4_77 rfl ?_
    refine g_iadd (pc := 78) dJ6_numberOfTrailingZeros_0f7a4_78 ?_
    refine g_ireturn (pc := 79) dJ6_numberOfTrailingZeros_0f7a4_79 rfl rfl ?_
    exact ⟨congrArg (fun z => (Sum.inl (some (Value.int z)) : Res)) (by decide), rfl⟩
  · refine g_iload_n (pc := 8) dJ6_numberOfTrailingZeros_0f7a4_8 rfl ?_
    refine g_if_gt (pc := 9) (tgt := 17) dJ6_numberOfTrailingZeros_0f7a4_9 rfl (fun _ => ?_) (fun h9 => absurd ((by decide)) h9)
    refine g_iconst (pc := 17) (v := 1) dJ6_numberOfTrailingZeros_0f7a4_17 rfl ?_
    refine g_istore_n (pc := 18) (lv' := [(0, _), (1, _)]) dJ6_numberOfTrailingZeros_0f7a4_18 (nl rfl) rfl ?_
    refine g_iload_n (pc := 19) dJ6_numberOfTrailingZeros_0f7a4_19 rfl ?_
    refine g_ldcw (pc := 20) dJ6_numberOfTrailingZeros_0f7a4_20 wd_x1068 ?_
    refine g_icmp_le (pc := 23) (tgt := 34) dJ6_numberOfTrailingZeros_0f7a4_23 rfl (fun _ => ?_) (fun h23 => absurd ((by decide)) h23)
    refine g_iload_n (pc := 34) dJ6_numberOfTrailingZeros_0f7a4_34 rfl ?_
    refine g_sipush (pc := 35) (v := 256) dJ6_numberOfTrailingZeros_0f7a4_35 rfl ?_
    refine g_icmp_le (pc := 38) (tgt := 49) dJ6_numberOfTrailingZeros_0f7a4_38 rfl (fun _ => ?_) (fun h38 => absurd ((by decide)) h38)
    refine g_iload_n (pc := 49) dJ6_numberOfTrailingZeros_0f7a4_49 rfl ?_
    refine g_bipush (pc := 50) (v := 16) dJ6_numberOfTrailingZeros_0f7a4_50 rfl ?_
    refine g_icmp_le (pc := 52) (tgt := 62) dJ6_numberOfTrailingZeros_0f7a4_52 rfl (fun h52 => absurd h52 ((by decide))) (fun _ => ?_)
    refine g_iinc (pc := 55) (lv' := [(0, _), (1, _)]) dJ6_numberOfTrailingZeros_0f7a4_55 rfl rfl (nl rfl) rfl ?_
    refine g_iload_n (pc := 58) dJ6_numberOfTrailingZeros_0f7a4_58 rfl ?_
    refine g_iconst (pc := 59) (v := 4) dJ6_numberOfTrailingZeros_0f7a4_59 rfl ?_
    refine g_iushr (pc := 60) dJ6_numberOfTrailingZeros_0f7a4_60 rfl ?_
    refine g_istore_n (pc := 61) (lv' := [(0, _), (1, _)]) dJ6_numberOfTrailingZeros_0f7a4_61 (nl rfl) rfl ?_
    refine g_iload_n (pc := 62) dJ6_numberOfTrailingZeros_0f7a4_62 rfl ?_
    refine g_iconst (pc := 63) (v := 4) dJ6_numberOfTrailingZeros_0f7a4_63 rfl ?_
    refine g_icmp_le (pc := 64) (tgt := 74) dJ6_numberOfTrailingZeros_0f7a4_64 rfl (fun _ => ?_) (fun h64 => absurd ((by decide)) h64)
    refine g_iload_n (pc := 74) dJ6_numberOfTrailingZeros_0f7a4_74 rfl ?_
    refine g_iload_n (pc := 75) dJ6_numberOfTrailingZeros_0f7a4_75 rfl ?_
    refine g_iconst (pc := 76) (v := 1) dJ6_numberOfTrailingZeros_0f7a4_76 rfl ?_
    refine g_iushr (pc := 77) dJ6_numberOfTrailingZeros_0f7a4_77 rfl ?_
    refine g_iadd (pc := 78) dJ6_numberOfTrailingZeros_0f7a4_78 ?_
    refine g_ireturn (pc := 79) dJ6_numberOfTrailingZeros_0f7a4_79 rfl rfl ?_
    exact ⟨congrArg (fun z => (Sum.inl (some (Value.int z)) : Res)) (by decide), rfl⟩
  · refine g_iload_n (pc := 8) dJ6_numberOfTrailingZeros_0f7a4_8 rfl ?_
    refine g_if_gt (pc := 9) (tgt := 17) dJ6_numberOfTrailingZeros_0f7a4_9 rfl (fun _ => ?_) (fun h9 => absurd ((by decide)) h9)
    refine g_iconst (pc := 17) (v := 1) dJ6_numberOfTrailingZeros_0f7a4_17 rfl ?_
    refine g_istore_n (pc := 18) (lv' := [(0, _), (1, _)]) dJ6_numberOfTrailingZeros_0f7a4_18 (nl rfl) rfl ?_
    refine g_iload_n (pc := 19) dJ6_numberOfTrailingZeros_0f7a4_19 rfl ?_
    refine g_ldcw (pc := 20) dJ6_numberOfTrailingZeros_0f7a4_20 wd_x1068 ?_
    refine g_icmp_le (pc := 23) (tgt := 34) dJ6_numberOfTrailingZeros_0f7a4_23 rfl (fun _ => ?_) (fun h23 => absurd ((by decide)) h23)
    refine g_iload_n (pc := 34) dJ6_numberOfTrailingZeros_0f7a4_34 rfl ?_
    refine g_sipush (pc := 35) (v := 256) dJ6_numberOfTrailingZeros_0f7a4_35 rfl ?_
    refine g_icmp_le (pc := 38) (tgt := 49) dJ6_numberOfTrailingZeros_0f7a4_38 rfl (fun _ => ?_) (fun h38 => absurd ((by decide)) h38)
    refine g_iload_n (pc := 49) dJ6_numberOfTrailingZeros_0f7a4_49 rfl ?_
    refine g_bipush (pc := 50) (v := 16) dJ6_numberOfTrailingZeros_0f7a4_50 rfl ?_
    refine g_icmp_le (pc := 52) (tgt := 62) dJ6_numberOfTrailingZeros_0f7a4_52 rfl (fun h52 => absurd h52 ((by decide))) (fun _ => ?_)
    refine g_iinc (pc := 55) (lv' := [(0, _), (1, _)]) dJ6_numberOfTrailingZeros_0f7a4_55 rfl rfl (nl rfl) rfl ?_
    refine g_iload_n (pc := 58) dJ6_numberOfTrailingZeros_0f7a4_58 rfl ?_
    refine g_iconst (pc := 59) (v := 4) dJ6_numberOfTrailingZeros_0f7a4_59 rfl ?_
    refine g_iushr (pc := 60) dJ6_numberOfTrailingZeros_0f7a4_60 rfl ?_
    refine g_istore_n (pc := 61) (lv' := [(0, _), (1, _)]) dJ6_numberOfTrailingZeros_0f7a4_61 (nl rfl) rfl ?_
    refine g_iload_n (pc := 62) dJ6_numberOfTrailingZeros_0f7a4_62 rfl ?_
    refine g_iconst (pc := 63) (v := 4) dJ6_numberOfTrailingZeros_0f7a4_63 rfl ?_
    refine g_icmp_le (pc := 64) (tgt := 74) dJ6_numberOfTrailingZeros_0f7a4_64 rfl (fun h64 => absurd h64 ((by decide))) (fun _ => ?_)
    refine g_iinc (pc := 67) (lv' := [(0, _), (1, _)]) dJ6_numberOfTrailingZeros_0f7a4_67 rfl rfl (nl rfl) rfl ?_
    refine g_iload_n (pc := 70) dJ6_numberOfTrailingZeros_0f7a4_70 rfl ?_
    refine g_iconst (pc := 71) (v := 2) dJ6_numberOfTrailingZeros_0f7a4_71 rfl ?_
    refine g_iushr (pc := 72) dJ6_numberOfTrailingZeros_0f7a4_72 rfl ?_
    refine g_istore_n (pc := 73) (lv' := [(0, _), (1, _)]) dJ6_numberOfTrailingZeros_0f7a4_73 (nl rfl) rfl ?_
    refine g_iload_n (pc := 74) dJ6_numberOfTrailingZeros_0f7a4_74 rfl ?_
    refine g_iload_n (pc := 75) dJ6_numberOfTrailingZeros_0f7a4_75 rfl ?_
    refine g_iconst (pc := 76) (v := 1) dJ6_numberOfTrailingZeros_0f7a4_76 rfl ?_
    refine g_iushr (pc := 77) dJ6_numberOfTrailingZeros_0f7a4_77 rfl ?_
    refine g_iadd (pc := 78) dJ6_numberOfTrailingZeros_0f7a4_78 ?_
    refine g_ireturn (pc := 79) dJ6_numberOfTrailingZeros_0f7a4_79 rfl rfl ?_
    exact ⟨congrArg (fun z => (Sum.inl (some (Value.int z)) : Res)) (by decide), rfl⟩
  · refine g_iload_n (pc := 8) dJ6_numberOfTrailingZeros_0f7a4_8 rfl ?_
    refine g_if_gt (pc := 9) (tgt := 17) dJ6_numberOfTrailingZeros_0f7a4_9 rfl (fun _ => ?_) (fun h9 => absurd ((by decide)) h9)
    refine g_iconst (pc := 17) (v := 1) dJ6_numberOfTrailingZeros_0f7a4_17 rfl ?_
    refine g_istore_n (pc := 18) (lv' := [(0, _), (1, _)]) dJ6_numberOfTrailingZeros_0f7a4_18 (nl rfl) rfl ?_
    refine g_iload_n (pc := 19) dJ6_numberOfTrailingZeros_0f7a4_19 rfl ?_
    refine g_ldcw (pc := 20) dJ6_numberOfTrailingZeros_0f7a4_20 wd_x1068 ?_
    refine g_icmp_le (pc := 23) (tgt := 34) dJ6_numberOfTrailingZeros_0f7a4_23 rfl (fun _ => ?_) (fun h23 => absurd ((by decide)) h23)
    refine g_iload_n (pc := 34) dJ6_numberOfTrailingZeros_0f7a4_34 rfl ?_
    refine g_sipush (pc := 35) (v := 256) dJ6_numberOfTrailingZeros_0f7a4_35 rfl ?_
    refine g_icmp_le (pc := 38) (tgt := 49) dJ6_numberOfTrailingZeros_0f7a4_38 rfl (fun _ => ?_) (fun h38 => absurd ((by decide)) h38)
    refine g_iload_n (pc := 49) dJ6_numberOfTrailingZeros_0f7a4_49 rfl ?_
    refine g_bipush (pc := 50) (v := 16) dJ6_numberOfTrailingZeros_0f7a4_50 rfl ?_
    refine g_icmp_le (pc := 52) (tgt := 62) dJ6_numberOfTrailingZeros_0f7a4_52 rfl (fun h52 => absurd h52 ((by decide))) (fun _ => ?_)
    refine g_iinc (pc := 55) (lv' := [(0, _), (1, _)]) dJ6_numberOfTrailingZeros_0f7a4_55 rfl rfl (nl rfl) rfl ?_
    refine g_iload_n (pc := 58) dJ6_numberOfTrailingZeros_0f7a4_58 rfl ?_
    refine g_iconst (pc := 59) (v := 4) dJ6_numberOfTrailingZeros_0f7a4_59 rfl ?_
    refine g_iushr (pc := 60) dJ6_numberOfTrailingZeros_0f7a4_60 rfl ?_
    refine g_istore_n (pc := 61) (lv' := [(0, _), (1, _)]) dJ6_numberOfTrailingZeros_0f7a4_61 (nl rfl) rfl ?_
    refine g_iload_n (pc := 62) dJ6_numberOfTrailingZeros_0f7a4_62 rfl ?_
    refine g_iconst (pc := 63) (v := 4) dJ6_numberOfTrailingZeros_0f7a4_63 rfl ?_
    refine g_icmp_le (pc := 64) (tgt := 74) dJ6_numberOfTrailingZeros_0f7a4_64 rfl (fun h64 => absurd h64 ((by decide))) (fun _ => ?_)
    refine g_iinc (pc := 67) (lv' := [(0, _), (1, _)]) dJ6_numberOfTrailingZeros_0f7a4_67 rfl rfl (nl rfl) rfl ?_
    refine g_iload_n (pc := 70) dJ6_numberOfTrailingZeros_0f7a4_70 rfl ?_
    refine g_iconst (pc := 71) (v := 2) dJ6_numberOfTrailingZeros_0f7a4_71 rfl ?_
    refine g_iushr (pc := 72) dJ6_numberOfTrailingZeros_0f7a4_72 rfl ?_
    refine g_istore_n (pc := 73) (lv' := [(0, _), (1, _)]) dJ6_numberOfTrailingZeros_0f7a4_73 (nl rfl) rfl ?_
    refine g_iload_n (pc := 74) dJ6_numberOfTrailingZeros_0f7a4_74 rfl ?_
    refine g_iload_n (pc := 75) dJ6_numberOfTrailingZeros_0f7a4_75 rfl ?_
    refine g_iconst (pc := 76) (v := 1) dJ6_numberOfTrailingZeros_0f7a4_76 rfl ?_
    refine g_iushr (pc := 77) dJ6_numberOfTrailingZeros_0f7a4_77 rfl ?_
    refine g_iadd (pc := 78) dJ6_numberOfTrailingZeros_0f7a4_78 ?_
    refine g_ireturn (pc := 79) dJ6_numberOfTrailingZeros_0f7a4_79 rfl rfl ?_
    exact ⟨congrArg (fun z => (Sum.inl (some (Value.int z)) : Res)) (by decide), rfl⟩
theorem k_ntz {v : Int64} {b : Nat} (hb9 : b ≤ 8) (h0 : v.toInt32 ≠ 0) (hx : (v.toInt32 ^^^ (-1)) &&& (v.toInt32 - 1) = nI (2 ^ b - 1)) : EvR l jJ13_numberOfTrailingZeros_95d88 1 40 0 0 [.long v] M (.inl (some (.int (nI b)))) M := by
  refine ev_intro rfl (nb rfl) rfl ?_
  refine g_lload_n (pc := 0) dJ13_numberOfTrailingZeros_95d88_0 rfl ?_
  refine g_l2i (pc := 1) dJ13_numberOfTrailingZeros_95d88_1 rfl ?_
  refine g_istore_n (pc := 2) (lv' := [(0, _), (2, _)]) dJ13_numberOfTrailingZeros_95d88_2 (nl rfl) rfl ?_
  refine g_iload_n (pc := 3) dJ13_numberOfTrailingZeros_95d88_3 rfl ?_
  refine g_if_ne (pc := 4) (tgt := 21) dJ13_numberOfTrailingZeros_95d88_4 rfl (fun _ => ?_) (fun h4 => absurd (h0) h4)
  refine g_iload_n (pc := 21) dJ13_numberOfTrailingZeros_95d88_21 rfl ?_
  refine g_invS_r (pc := 22) (As := [_]) dJ13_numberOfTrailingZeros_95d88_22 rfl (k_ntzI hb9 hx) rfl rfl lk_J13_311 rfl (nb rfl) ⟨nb rfl, nb rfl⟩ rfl ?_
  refine g_ireturn (pc := 25) dJ13_numberOfTrailingZeros_95d88_25 rfl rfl ?_
  exact ⟨rfl, rfl⟩
end

