/-! states as wholes; what the class's object does within -/
section
variable {l : Launch} {M : Mem}
theorem shp_pI {b i : Nat} {x : Int32} (hS : Shp M) : Shp (pI M b i x) := hS
theorem shp_sI {b : Nat} {x : Nat → Int32} (hS : Shp M) : Shp (sI M b x) := hS
def stTakeL (M : Mem) (b o : Nat) : Nat → Mem
  | 0 => M
  | s + 1 => mxTake (stTakeL M b o s) (b + 2 + 2 * s) (o + 2 + 2 * s)
termination_by s => s
theorem mxTake_ne {m o i : Nat} (h1 : i ≠ m) (h2 : i ≠ m + 1) : mI (mxTake M m o) i = mI M i := by
  simp only [mxTake]; rw [pI_i h1, pI_i h1, pI_i h1, pI_i h1, sI_ne h2]
theorem mxTake_S (hS : Shp M) (m o : Nat) : Shp (mxTake M m o) := hS
theorem stTakeL_S (hS : Shp M) (b o : Nat) : ∀ s, Shp (stTakeL M b o s)
  | 0 => by rw [stTakeL]; exact hS
  | s + 1 => by rw [stTakeL]; exact mxTake_S (stTakeL_S hS b o s) _ _
theorem stTakeL_ne {b o i : Nat} : ∀ (s : Nat), s ≤ 6 → (i < b + 2 ∨ b + 14 ≤ i) → mI (stTakeL M b o s) i = mI M i
  | 0, _, _ => by rw [stTakeL]
  | s + 1, h, h2 => by
    rw [stTakeL, mxTake_ne (by omega) (by omega)]
    exact stTakeL_ne s (by omega) h2
/-- state b becomes as state o -/
def stTake (M : Mem) (b o : Nat) : Mem := pI (pI (pI (pI (stTakeL M b o 6) b 1 (mI M o 1)) b 2 (mI M o 2)) b 3 (mI M o 3)) b 4 (mI M o 4)
theorem stTake_S (hS : Shp M) (b o : Nat) : Shp (stTake M b o) := by rw [stTake]; exact stTakeL_S hS b o 6
theorem stTake_ne {b o i : Nat} (h : i < b ∨ b + 14 ≤ i) : mI (stTake M b o) i = mI M i := by
  simp only [stTake]; rw [pI_i (by omega), pI_i (by omega), pI_i (by omega), pI_i (by omega), stTakeL_ne 6 (by omega) (by omega)]
def keptOk (M : Mem) (b : Nat) : Prop := ∀ s, s < 6 → k01 (mI M (b + 2 + 2 * s) 1)
theorem s_stTake {b o : Nat} (hS : Shp M) (hb9 : isSt b) (ho : isSt o) (hd : b + 14 ≤ o ∨ o + 14 ≤ b) (hk : keptOk M o) : EvR l jX5_takeFrom 2 90 0 0 [.ref b, .ref o] M (.inl none) (stTake M b o) := by
  refine ev_intro rfl (nb rfl) rfl ?_
  refine g_iconst (pc := 0) (v := 0) dX5_takeFrom_0 rfl ?_
  refine g_istore_n (pc := 1) (lv' := [(0, _), (1, _), (2, _)]) dX5_takeFrom_1 (nl rfl) rfl ?_
  refine go_loop (pc := 2) 6 (fun i => [(0, .ref b), (1, .ref o), (2, .int (nI i))]) (fun i => stTakeL M b o i) ⟨rfl, rfl, rfl, trivial⟩ (by rw [stTakeL]) ?_ ?_
  · intro i hi ih
    have hS1 := stTakeL_S hS b o i
    rw [stTakeL.eq_2 M b o i] at ih
    obtain ⟨m1, m2⟩ := hb9.2 i hi
    obtain ⟨o1, o2⟩ := ho.2 i hi
    have hk1 : k01 (mI (stTakeL M b o i) (o + 2 + 2 * i) 1) := by rw [stTakeL_ne i (by omega) (by omega)]; exact hk i hi
    refine g_iload_n (pc := 2) dX5_takeFrom_2 rfl ?_
    refine g_bipush (pc := 3) (v := 6) dX5_takeFrom_3 rfl ?_
    refine g_icmp_ge (pc := 5) (tgt := 29) dX5_takeFrom_5 rfl (fun h5 => absurd h5 (nI_ge (b := 6) hi (by omega))) (fun _ => ?_)
    refine g_aload_n (pc := 8) dX5_takeFrom_8 rfl trivial ?_
    refine g_getf (pc := 9) dX5_takeFrom_9 fk_X5_11 (shK hS1 hb9.1.1) (fv_arr (shR hS1 hb9.1.2.2)) ?_
    refine g_iload_n (pc := 12) dX5_takeFrom_12 rfl ?_
    refine g_aaload_Matrix (pc := 13) dX5_takeFrom_13 (shK hS1 hb9.1.2.1) rfl hi (by decide) (shR hS1 m2) ?_
    refine g_aload_n (pc := 14) dX5_takeFrom_14 rfl trivial ?_
    refine g_getf (pc := 15) dX5_takeFrom_15 fk_X5_11 (shK hS1 ho.1.1) (fv_arr (shR hS1 ho.1.2.2)) ?_
    refine g_iload_n (pc := 18) dX5_takeFrom_18 rfl ?_
    refine g_aaload_Matrix (pc := 19) dX5_takeFrom_19 (shK hS1 ho.1.2.1) rfl hi (by decide) (shR hS1 o2) ?_
    refine g_invV_r (pc := 20) (As := [_]) dX5_takeFrom_20 rfl (s_mxTake hS1 m1 o1 (by omega) (by omega) hk1) rfl rfl (shK hS1 m1.1) rfl rfl lk_X5_34 rfl (nb rfl) ⟨nb rfl, nb rfl⟩ rfl ?_
    refine g_iinc (pc := 23) (lv' := [(0, _), (1, _), (2, _)]) dX5_takeFrom_23 rfl (nI_1 _) (nl rfl) rfl ?_
    refine g_goto (pc := 26) (tgt := 2) dX5_takeFrom_26 rfl ?_
    exact ih
  · have hS1 := stTakeL_S hS b o 6
    have e1 : mI (stTakeL M b o 6) o = mI M o := stTakeL_ne 6 (by omega) (by omega)
    have hob : o ≠ b := by omega
    unfold stTake
    generalize stTakeL M b o 6 = X at hS1 e1 ⊢
    refine g_iload_n (pc := 2) dX5_takeFrom_2 rfl ?_
    refine g_bipush (pc := 3) (v := 6) dX5_takeFrom_3 rfl ?_
    refine g_icmp_ge (pc := 5) (tgt := 29) dX5_takeFrom_5 rfl (fun _ => ?_) (fun h5 => absurd (nI_le (Nat.le_refl 6) (by omega)) h5)
    refine g_aload_n (pc := 29) dX5_takeFrom_29 rfl trivial ?_
    refine g_aload_n (pc := 30) dX5_takeFrom_30 rfl trivial ?_
    refine g_getf (pc := 31) (v := .int _) dX5_takeFrom_31 fk_X5_18 (shK hS1 ho.1.1) (fun _ => congrArg Value.int ((congrFun e1 1))) ?_
    refine g_putI (pc := 34) dX5_takeFrom_34 fp_X5_18 (shK hS1 hb9.1.1) ⟨rfl, rfl⟩ (fun _ _ _ _ => rfl) ?_
    refine g_aload_n (pc := 37) dX5_takeFrom_37 rfl trivial ?_
    refine g_aload_n (pc := 38) dX5_takeFrom_38 rfl trivial ?_
    refine g_getf (pc := 39) (v := .int _) dX5_takeFrom_39 fk_X5_22 (shK hS1 ho.1.1) (fun _ => congrArg Value.int (((congrFun (pI_i hob) 2).trans (congrFun e1 2)))) ?_
    refine g_putI (pc := 42) dX5_takeFrom_42 fp_X5_22 (shK hS1 hb9.1.1) ⟨rfl, rfl⟩ (fun _ _ _ _ => rfl) ?_
    refine g_aload_n (pc := 45) dX5_takeFrom_45 rfl trivial ?_
    refine g_aload_n (pc := 46) dX5_takeFrom_46 rfl trivial ?_
    refine g_getf (pc := 47) (v := .int _) dX5_takeFrom_47 fk_X5_28 (shK hS1 ho.1.1) (fun _ => congrArg Value.int (((congrFun (pI_i hob) 3).trans ((congrFun (pI_i hob) 3).trans (congrFun e1 3))))) ?_
    refine g_putI (pc := 50) dX5_takeFrom_50 fp_X5_28 (shK hS1 hb9.1.1) ⟨rfl, rfl⟩ (fun _ _ _ _ => rfl) ?_
    refine g_aload_n (pc := 53) dX5_takeFrom_53 rfl trivial ?_
    refine g_aload_n (pc := 54) dX5_takeFrom_54 rfl trivial ?_
    refine g_getf (pc := 55) (v := .int _) dX5_takeFrom_55 fk_X5_31 (shK hS1 ho.1.1) (fun _ => congrArg Value.int (((congrFun (pI_i hob) 4).trans ((congrFun (pI_i hob) 4).trans ((congrFun (pI_i hob) 4).trans (congrFun e1 4)))))) ?_
    refine g_putI (pc := 58) dX5_takeFrom_58 fp_X5_31 (shK hS1 hb9.1.1) ⟨rfl, rfl⟩ (fun _ _ _ _ => rfl) ?_
    refine g_return (pc := 61) dX5_takeFrom_61 rfl ?_
    exact ⟨rfl, rfl⟩
def stEmptyL (M : Mem) (b : Nat) : Nat → Mem
  | 0 => M
  | s + 1 => mxEmpty (stEmptyL M b s) (b + 2 + 2 * s)
termination_by s => s
theorem stEmptyL_S (hS : Shp M) (b : Nat) : ∀ s, Shp (stEmptyL M b s)
  | 0 => by rw [stEmptyL]; exact hS
  | s + 1 => by rw [stEmptyL]; exact stEmptyL_S hS b s
def stEmpty (M : Mem) (b : Nat) (n : Int32) : Mem := pI (pI (pI (pI (stEmptyL M b 6) b 1 n) b 2 4) b 3 0) b 4 0
theorem stEmpty_S (hS : Shp M) (b : Nat) (n : Int32) : Shp (stEmpty M b n) := by rw [stEmpty]; exact stEmptyL_S hS b 6
theorem s_stEmpty {b : Nat} {n : Int32} (hS : Shp M) (hb9 : isSt b) : EvR l jX5_makeEmpty 1 40 0 0 [.ref b, .int n] M (.inl none) (stEmpty M b n) := by
  refine ev_intro rfl (nb rfl) rfl ?_
  refine g_iconst (pc := 0) (v := 0) dX5_makeEmpty_0 rfl ?_
  refine g_istore_n (pc := 1) (lv' := [(0, _), (1, _), (2, _)]) dX5_makeEmpty_1 (nl rfl) rfl ?_
  refine go_loop (pc := 2) 6 (fun i => [(0, .ref b), (1, .int n), (2, .int (nI i))]) (fun i => stEmptyL M b i) ⟨rfl, rfl, rfl, trivial⟩ (by rw [stEmptyL]) ?_ ?_
  · intro i hi ih
    have hS1 := stEmptyL_S hS b i
    rw [stEmptyL.eq_2 M b i] at ih
    obtain ⟨m1, m2⟩ := hb9.2 i hi
    refine g_iload_n (pc := 2) dX5_makeEmpty_2 rfl ?_
    refine g_bipush (pc := 3) (v := 6) dX5_makeEmpty_3 rfl ?_
    refine g_icmp_ge (pc := 5) (tgt := 23) dX5_makeEmpty_5 rfl (fun h5 => absurd h5 (nI_ge (b := 6) hi (by omega))) (fun _ => ?_)
    refine g_aload_n (pc := 8) dX5_makeEmpty_8 rfl trivial ?_
    refine g_getf (pc := 9) dX5_makeEmpty_9 fk_X5_11 (shK hS1 hb9.1.1) (fv_arr (shR hS1 hb9.1.2.2)) ?_
    refine g_iload_n (pc := 12) dX5_makeEmpty_12 rfl ?_
    refine g_aaload_Matrix (pc := 13) dX5_makeEmpty_13 (shK hS1 hb9.1.2.1) rfl hi (by decide) (shR hS1 m2) ?_
    refine g_invV_r (pc := 14) (As := []) dX5_makeEmpty_14 rfl (s_mxEmpty hS1 m1) rfl rfl (shK hS1 m1.1) rfl rfl lk_X5_25 rfl (nb rfl) ⟨nb rfl, nb rfl⟩ rfl ?_
    refine g_iinc (pc := 17) (lv' := [(0, _), (1, _), (2, _)]) dX5_makeEmpty_17 rfl (nI_1 _) (nl rfl) rfl ?_
    refine g_goto (pc := 20) (tgt := 2) dX5_makeEmpty_20 rfl ?_
    exact ih
  · have hS1 := stEmptyL_S hS b 6
    unfold stEmpty
    generalize stEmptyL M b 6 = X at hS1 ⊢
    refine g_iload_n (pc := 2) dX5_makeEmpty_2 rfl ?_
    refine g_bipush (pc := 3) (v := 6) dX5_makeEmpty_3 rfl ?_
    refine g_icmp_ge (pc := 5) (tgt := 23) dX5_makeEmpty_5 rfl (fun _ => ?_) (fun h5 => absurd (nI_le (Nat.le_refl 6) (by omega)) h5)
    refine g_aload_n (pc := 23) dX5_makeEmpty_23 rfl trivial ?_
    refine g_iload_n (pc := 24) dX5_makeEmpty_24 rfl ?_
    refine g_putI (pc := 25) dX5_makeEmpty_25 fp_X5_18 (shK hS1 hb9.1.1) ⟨rfl, rfl⟩ (fun _ _ _ _ => rfl) ?_
    refine g_aload_n (pc := 28) dX5_makeEmpty_28 rfl trivial ?_
    refine g_iconst (pc := 29) (v := 4) dX5_makeEmpty_29 rfl ?_
    refine g_putI (pc := 30) dX5_makeEmpty_30 fp_X5_22 (shK hS1 hb9.1.1) ⟨rfl, rfl⟩ (fun _ _ _ _ => rfl) ?_
    refine g_aload_n (pc := 33) dX5_makeEmpty_33 rfl trivial ?_
    refine g_iconst (pc := 34) (v := 0) dX5_makeEmpty_34 rfl ?_
    refine g_putI (pc := 35) dX5_makeEmpty_35 fp_X5_28 (shK hS1 hb9.1.1) ⟨rfl, rfl⟩ (fun _ _ _ _ => rfl) ?_
    refine g_aload_n (pc := 38) dX5_makeEmpty_38 rfl trivial ?_
    refine g_iconst (pc := 39) (v := 0) dX5_makeEmpty_39 rfl ?_
    refine g_putI (pc := 40) dX5_makeEmpty_40 fp_X5_31 (shK hS1 hb9.1.1) ⟨rfl, rfl⟩ (fun _ _ _ _ => rfl) ?_
    refine g_return (pc := 43) dX5_makeEmpty_43 rfl ?_
    exact ⟨rfl, rfl⟩
/-- no closure is current -/
def dropC (M : Mem) : Nat → Mem
  | 0 => M
  | s + 1 => pI (dropC M s) (175 + 2 * s) 1 0
termination_by s => s
theorem dropC_S (hS : Shp M) : ∀ s, Shp (dropC M s)
  | 0 => by rw [dropC]; exact hS
  | s + 1 => by rw [dropC]; exact dropC_S hS s
theorem s_dropClosures (hS : Shp M) : EvR l jX6_dropClosures 0 0 0 0 [.ref 0] M (.inl none) (dropC M 6) := by
  refine ev_intro rfl (nb rfl) rfl ?_
  refine g_iconst (pc := 0) (v := 0) dX6_dropClosures_0 rfl ?_
  refine g_istore_n (pc := 1) (lv' := [(0, _), (1, _)]) dX6_dropClosures_1 (nl rfl) rfl ?_
  refine go_loop (pc := 2) 6 (fun i => [(0, .ref 0), (1, .int (nI i))]) (fun i => dropC M i) ⟨rfl, rfl, trivial⟩ (by rw [dropC]) ?_ ?_
  · intro i hi ih
    have hS1 := dropC_S hS i
    rw [dropC.eq_2 M i] at ih
    obtain ⟨c1, c2⟩ := cl_ok i hi
    refine g_iload_n (pc := 2) dX6_dropClosures_2 rfl ?_
    refine g_bipush (pc := 3) (v := 6) dX6_dropClosures_3 rfl ?_
    refine g_icmp_ge (pc := 5) (tgt := 24) dX6_dropClosures_5 rfl (fun h5 => absurd h5 (nI_ge (b := 6) hi (by omega))) (fun _ => ?_)
    refine g_aload_n (pc := 8) dX6_dropClosures_8 rfl trivial ?_
    refine g_getf (pc := 9) dX6_dropClosures_9 fk_X6_39 (shK hS1 rfl) (fv_arr (shR hS1 rfl)) ?_
    refine g_iload_n (pc := 12) dX6_dropClosures_12 rfl ?_
    refine g_aaload_Closure (pc := 13) dX6_dropClosures_13 (shK hS1 rfl) rfl hi (by decide) (shR hS1 c2) ?_
    refine g_iconst (pc := 14) (v := 0) dX6_dropClosures_14 rfl ?_
    refine g_putI (pc := 15) dX6_dropClosures_15 fp_X6_341 (shK hS1 c1.1) ⟨rfl, rfl⟩ (fun _ _ _ _ => rfl) ?_
    refine g_iinc (pc := 18) (lv' := [(0, _), (1, _)]) dX6_dropClosures_18 rfl (nI_1 _) (nl rfl) rfl ?_
    refine g_goto (pc := 21) (tgt := 2) dX6_dropClosures_21 rfl ?_
    exact ih
  · generalize dropC M 6 = X
    refine g_iload_n (pc := 2) dX6_dropClosures_2 rfl ?_
    refine g_bipush (pc := 3) (v := 6) dX6_dropClosures_3 rfl ?_
    refine g_icmp_ge (pc := 5) (tgt := 24) dX6_dropClosures_5 rfl (fun _ => ?_) (fun h5 => absurd (nI_le (Nat.le_refl 6) (by omega)) h5)
    refine g_return (pc := 24) dX6_dropClosures_24 rfl ?_
    exact ⟨rfl, rfl⟩
theorem st3 : isSt 3 := st_of (by decide)
/-- the state is replaced: nothing can be taken back, no closure is current -/
def replM (M : Mem) (o : Nat) : Mem := dropC (pI (stTake M 3 o) 0 5 0) 6
theorem s_replaceState {o : Nat} (hS : Shp M) (ho : isSt o) (hd : 17 ≤ o) (hk : keptOk M o) : EvR l jX6_replaceState 3 120 0 0 [.ref 0, .ref o] M (.inl none) (replM M o) := by
  have hS1 := stTake_S hS 3 o
  have hS2 : Shp (pI (stTake M 3 o) 0 5 0) := shp_pI hS1
  refine ev_intro rfl (nb rfl) rfl ?_
  refine g_aload_n (pc := 0) dX6_replaceState_0 rfl trivial ?_
  refine g_getf (pc := 1) dX6_replaceState_1 fk_X6_19 (shK hS rfl) (fv_obj (shR hS rfl)) ?_
  refine g_aload_n (pc := 4) dX6_replaceState_4 rfl trivial ?_
  refine g_invV_r (pc := 5) (As := [_]) dX6_replaceState_5 rfl (s_stTake hS st3 ho (by omega) hk) rfl rfl (shK hS rfl) rfl rfl lk_X6_313 rfl (nb rfl) ⟨nb rfl, nb rfl⟩ rfl ?_
  refine g_aload_n (pc := 8) dX6_replaceState_8 rfl trivial ?_
  refine g_iconst (pc := 9) (v := 0) dX6_replaceState_9 rfl ?_
  refine g_putI (pc := 10) dX6_replaceState_10 fp_X6_106 (shK hS1 rfl) ⟨rfl, rfl⟩ (fun _ _ _ _ => rfl) ?_
  refine g_aload_n (pc := 13) dX6_replaceState_13 rfl trivial ?_
  refine g_invV_r (pc := 14) (As := []) dX6_replaceState_14 rfl (s_dropClosures hS2) rfl rfl (shK hS2 rfl) rfl rfl lk_X6_316 rfl (nb rfl) ⟨nb rfl, nb rfl⟩ rfl ?_
  refine g_return (pc := 17) dX6_replaceState_17 rfl ?_
  exact ⟨rfl, rfl⟩
def keptC (M : Mem) : Nat → Nat
  | 0 => 0
  | s + 1 => if mI M (5 + 2 * s) 1 = 0 then keptC M s else keptC M s + 1
termination_by s => s
theorem s_keptSlots (hS : Shp M) : EvR l jX6_keptSlots 0 0 0 0 [.ref 0] M (.inl (some (.int (nI (keptC M 6))))) M := by
  refine ev_intro rfl (nb rfl) rfl ?_
  refine g_iconst (pc := 0) (v := 0) dX6_keptSlots_0 rfl ?_
  refine g_istore_n (pc := 1) (lv' := [(0, _), (1, _)]) dX6_keptSlots_1 (nl rfl) rfl ?_
  refine g_iconst (pc := 2) (v := 0) dX6_keptSlots_2 rfl ?_
  refine g_istore_n (pc := 3) (lv' := [(0, _), (1, _), (2, _)]) dX6_keptSlots_3 (nl rfl) rfl ?_
  refine go_loop (pc := 4) 6 (fun i => [(0, .ref 0), (1, .int (nI (keptC M i))), (2, .int (nI i))]) (fun i => M) ⟨rfl, by rw [keptC]; rfl, rfl, trivial⟩ rfl ?_ ?_
  · intro i hi ih
    obtain ⟨m1, m2⟩ := st3.2 i hi
    rw [show 3 + 2 + 2 * i = 5 + 2 * i by omega] at m1 m2
    generalize keptC M 6 = X at ih ⊢
    rw [keptC] at ih
    refine g_iload_n (pc := 4) dX6_keptSlots_4 rfl ?_
    refine g_bipush (pc := 5) (v := 6) dX6_keptSlots_5 rfl ?_
    refine g_icmp_ge (pc := 7) (tgt := 34) dX6_keptSlots_7 rfl (fun h7 => absurd h7 (nI_ge (b := 6) hi (by omega))) (fun _ => ?_)
    refine g_aload_n (pc := 10) dX6_keptSlots_10 rfl trivial ?_
    refine g_getf (pc := 11) dX6_keptSlots_11 fk_X6_19 (shK hS rfl) (fv_obj (shR hS rfl)) ?_
    refine g_getf (pc := 14) dX6_keptSlots_14 fk_X6_225 (shK hS rfl) (fv_arr (shR hS rfl)) ?_
    refine g_iload_n (pc := 17) dX6_keptSlots_17 rfl ?_
    refine g_aaload_Matrix (pc := 18) dX6_keptSlots_18 (shK hS rfl) rfl hi (by decide) (shR hS m2) ?_
    refine g_getf (pc := 19) (v := .int (mI _ _ _)) dX6_keptSlots_19 fk_X6_288 (shK hS m1.1) (fun _ => rfl) ?_
    refine g_if_eq (pc := 22) (tgt := 28) dX6_keptSlots_22 rfl (fun h22 => ?_) (fun h22 => ?_)
    · rw [if_pos h22] at ih
      refine g_iinc (pc := 28) (lv' := [(0, _), (1, _), (2, _)]) dX6_keptSlots_28 rfl (nI_1 _) (nl rfl) rfl ?_
      refine g_goto (pc := 31) (tgt := 4) dX6_keptSlots_31 rfl ?_
      exact ih
    · rw [if_neg h22] at ih
      refine g_iinc (pc := 25) (lv' := [(0, _), (1, _), (2, _)]) dX6_keptSlots_25 rfl (nI_1 _) (nl rfl) rfl ?_
      refine g_iinc (pc := 28) (lv' := [(0, _), (1, _), (2, _)]) dX6_keptSlots_28 rfl (nI_1 _) (nl rfl) rfl ?_
      refine g_goto (pc := 31) (tgt := 4) dX6_keptSlots_31 rfl ?_
      exact ih
  · generalize keptC M 6 = X
    refine g_iload_n (pc := 4) dX6_keptSlots_4 rfl ?_
    refine g_bipush (pc := 5) (v := 6) dX6_keptSlots_5 rfl ?_
    refine g_icmp_ge (pc := 7) (tgt := 34) dX6_keptSlots_7 rfl (fun _ => ?_) (fun h7 => absurd (nI_le (Nat.le_refl 6) (by omega)) h7)
    refine g_iload_n (pc := 34) dX6_keptSlots_34 rfl ?_
    refine g_ireturn (pc := 35) dX6_keptSlots_35 rfl rfl ?_
    exact ⟨rfl, rfl⟩
/-- the state is remembered: p the place of the next, c how many are remembered -/
def remM (M : Mem) (p c : Nat) : Mem := pI (pI (stTake M (32 + 14 * p) 3) 0 4 (nI (if p = 7 then 0 else p + 1))) 0 5 (nI (if c = 8 then 8 else c + 1))
theorem past_ok : ∀ p, p < 8 → 32 + 14 * p ∈ bases ∧ REFT 31 p = some (32 + 14 * p) := by decide +kernel
theorem remM_S (hS : Shp M) (p c : Nat) : Shp (remM M p c) := stTake_S hS _ _
theorem s_remember {p c : Nat} (hS : Shp M) (hp : p < 8) (hc : c ≤ 8) (h4 : mI M 0 4 = nI p) (h5 : mI M 0 5 = nI c) (hk : keptOk M 3) : EvR l jX6_remember 3 120 0 0 [.ref 0] M (.inl none) (remM M p c) := by
  obtain ⟨b1, b2⟩ := past_ok p hp
  have hb9 := st_of b1
  have hS1 := stTake_S hS (32 + 14 * p) 3
  have e0 : mI (stTake M (32 + 14 * p) 3) 0 = mI M 0 := stTake_ne (by omega)
  have hmin : (if 8 < nI c + 1 then 8 else nI c + 1) = nI (if c = 8 then 8 else c + 1) := by
    rw [nI_1]
    by_cases h : c = 8
    · subst h; decide
    · rw [if_neg h, if_neg (fun q => h (by have := (nI_ltI (a := 8) (b := c + 1) (by omega) (by omega)).mp q; omega))]
  refine ev_intro rfl (nb rfl) rfl ?_
  unfold remM
  by_cases h7 : p = 7
  · rw [if_pos h7]
    refine g_aload_n (pc := 0) dX6_remember_0 rfl trivial ?_
    refine g_getf (pc := 1) dX6_remember_1 fk_X6_26 (shK hS rfl) (fv_arr (shR hS rfl)) ?_
    refine g_aload_n (pc := 4) dX6_remember_4 rfl trivial ?_
    refine g_getf (pc := 5) (v := .int _) dX6_remember_5 fk_X6_310 (shK hS rfl) (fun _ => congrArg Value.int (h4)) ?_
    refine g_aaload_State (pc := 8) dX6_remember_8 (shK hS rfl) rfl hp (by decide) (shR hS b2) ?_
    refine g_aload_n (pc := 9) dX6_remember_9 rfl trivial ?_
    refine g_getf (pc := 10) dX6_remember_10 fk_X6_19 (shK hS rfl) (fv_obj (shR hS rfl)) ?_
    refine g_invV_r (pc := 13) (As := [_]) dX6_remember_13 rfl (s_stTake hS hb9 st3 (by omega) hk) rfl rfl (shK hS hb9.1.1) rfl rfl lk_X6_313 rfl (nb rfl) ⟨nb rfl, nb rfl⟩ rfl ?_
    refine g_aload_n (pc := 16) dX6_remember_16 rfl trivial ?_
    refine g_aload_n (pc := 17) dX6_remember_17 rfl trivial ?_
    refine g_getf (pc := 18) (v := .int _) dX6_remember_18 fk_X6_310 (shK hS1 rfl) (fun _ => congrArg Value.int (((congrFun e0 4).trans h4))) ?_
    refine g_bipush (pc := 21) (v := 7) dX6_remember_21 rfl ?_
    refine g_icmp_ne (pc := 23) (tgt := 30) dX6_remember_23 rfl (fun h23 => absurd h23 (fun h => h (by rw [h7]; rfl))) (fun _ => ?_)
    refine g_iconst (pc := 26) (v := 0) dX6_remember_26 rfl ?_
    refine g_goto (pc := 27) (tgt := 36) dX6_remember_27 rfl ?_
    refine g_putI (pc := 36) dX6_remember_36 fp_X6_310 (shK hS1 rfl) ⟨rfl, rfl⟩ (fun _ _ _ _ => rfl) ?_
    refine g_aload_n (pc := 39) dX6_remember_39 rfl trivial ?_
    refine g_aload_n (pc := 40) dX6_remember_40 rfl trivial ?_
    refine g_getf (pc := 41) (v := .int _) dX6_remember_41 fk_X6_106 (shK hS1 rfl) (fun _ => congrArg Value.int (((pI_k (by decide)).trans ((congrFun e0 5).trans h5)))) ?_
    refine g_iconst (pc := 44) (v := 1) dX6_remember_44 rfl ?_
    refine g_iadd (pc := 45) dX6_remember_45 ?_
    refine g_bipush (pc := 46) (v := 8) dX6_remember_46 rfl ?_
    refine g_mmin (pc := 48) dX6_remember_48 wd_1019 wd_430 wd_107 wd_431 (nb rfl) (nb rfl) ?_
    rw [hmin]
    refine g_putI (pc := 51) dX6_remember_51 fp_X6_106 (shK hS1 rfl) ⟨rfl, rfl⟩ (fun _ _ _ _ => rfl) ?_
    refine g_return (pc := 54) dX6_remember_54 rfl ?_
    exact ⟨rfl, rfl⟩
  · rw [if_neg h7]
    refine g_aload_n (pc := 0) dX6_remember_0 rfl trivial ?_
    refine g_getf (pc := 1) dX6_remember_1 fk_X6_26 (shK hS rfl) (fv_arr (shR hS rfl)) ?_
    refine g_aload_n (pc := 4) dX6_remember_4 rfl trivial ?_
    refine g_getf (pc := 5) (v := .int _) dX6_remember_5 fk_X6_310 (shK hS rfl) (fun _ => congrArg Value.int (h4)) ?_
    refine g_aaload_State (pc := 8) dX6_remember_8 (shK hS rfl) rfl hp (by decide) (shR hS b2) ?_
    refine g_aload_n (pc := 9) dX6_remember_9 rfl trivial ?_
    refine g_getf (pc := 10) dX6_remember_10 fk_X6_19 (shK hS rfl) (fv_obj (shR hS rfl)) ?_
    refine g_invV_r (pc := 13) (As := [_]) dX6_remember_13 rfl (s_stTake hS hb9 st3 (by omega) hk) rfl rfl (shK hS hb9.1.1) rfl rfl lk_X6_313 rfl (nb rfl) ⟨nb rfl, nb rfl⟩ rfl ?_
    refine g_aload_n (pc := 16) dX6_remember_16 rfl trivial ?_
    refine g_aload_n (pc := 17) dX6_remember_17 rfl trivial ?_
    refine g_getf (pc := 18) (v := .int _) dX6_remember_18 fk_X6_310 (shK hS1 rfl) (fun _ => congrArg Value.int (((congrFun e0 4).trans h4))) ?_
    refine g_bipush (pc := 21) (v := 7) dX6_remember_21 rfl ?_
    refine g_icmp_ne (pc := 23) (tgt := 30) dX6_remember_23 rfl (fun _ => ?_) (fun h23 => absurd (fun h => h7 ((nI_eq (by omega) (by decide)).mp h)) h23)
    refine g_aload_n (pc := 30) dX6_remember_30 rfl trivial ?_
    refine g_getf (pc := 31) (v := .int _) dX6_remember_31 fk_X6_310 (shK hS1 rfl) (fun _ => congrArg Value.int (((congrFun e0 4).trans h4))) ?_
    refine g_iconst (pc := 34) (v := 1) dX6_remember_34 rfl ?_
    refine g_iadd (pc := 35) dX6_remember_35 ?_
    rw [nI_1]
    refine g_putI (pc := 36) dX6_remember_36 fp_X6_310 (shK hS1 rfl) ⟨rfl, rfl⟩ (fun _ _ _ _ => rfl) ?_
    refine g_aload_n (pc := 39) dX6_remember_39 rfl trivial ?_
    refine g_aload_n (pc := 40) dX6_remember_40 rfl trivial ?_
    refine g_getf (pc := 41) (v := .int _) dX6_remember_41 fk_X6_106 (shK hS1 rfl) (fun _ => congrArg Value.int (((pI_k (by decide)).trans ((congrFun e0 5).trans h5)))) ?_
    refine g_iconst (pc := 44) (v := 1) dX6_remember_44 rfl ?_
    refine g_iadd (pc := 45) dX6_remember_45 ?_
    refine g_bipush (pc := 46) (v := 8) dX6_remember_46 rfl ?_
    refine g_mmin (pc := 48) dX6_remember_48 wd_1019 wd_430 wd_107 wd_431 (nb rfl) (nb rfl) ?_
    rw [hmin]
    refine g_putI (pc := 51) dX6_remember_51 fp_X6_106 (shK hS1 rfl) ⟨rfl, rfl⟩ (fun _ _ _ _ => rfl) ?_
    refine g_return (pc := 54) dX6_remember_54 rfl ?_
    exact ⟨rfl, rfl⟩
/-- the closure of a slot, made if it isn't current -/
def clOf (M : Mem) (s n : Nat) : Mem := if mI M (175 + 2 * s) 1 = 0 then clMake M (175 + 2 * s) (6 + 2 * s) n else M
theorem clOf_S (hS : Shp M) (s n : Nat) : Shp (clOf M s n) := by unfold clOf; split <;> exact hS
theorem rows_lay {s : Nat} (hs : s < 6) : LAY[6 + 2 * s]? = some (kI 32) := by
  have := ((base_ok 3 (by decide)).2 s hs).2.1
  rw [show 3 + 3 + 2 * s = 6 + 2 * s by omega] at this
  exact this
theorem s_closureOf {s n : Nat} (hS : Shp M) (hs : s < 6) (hz : mI M 3 1 = nI n) (hn : n ≤ 32) : EvR l jX6_closureOf 2 90 0 0 [.ref 0, .int (nI s)] M (.inl (some (.ref (175 + 2 * s)))) (clOf M s n) := by
  obtain ⟨c1, c2⟩ := cl_ok s hs
  refine ev_intro rfl (nb rfl) rfl ?_
  unfold clOf
  refine g_aload_n (pc := 0) dX6_closureOf_0 rfl trivial ?_
  refine g_getf (pc := 1) dX6_closureOf_1 fk_X6_39 (shK hS rfl) (fv_arr (shR hS rfl)) ?_
  refine g_iload_n (pc := 4) dX6_closureOf_4 rfl ?_
  refine g_aaload_Closure (pc := 5) dX6_closureOf_5 (shK hS rfl) rfl hs (by decide) (shR hS c2) ?_
  refine g_astore_n (pc := 6) (lv' := [(0, _), (1, _), (2, _)]) dX6_closureOf_6 trivial (nl rfl) rfl ?_
  refine g_aload_n (pc := 7) dX6_closureOf_7 rfl trivial ?_
  refine g_getf (pc := 8) (v := .int (mI _ _ _)) dX6_closureOf_8 fk_X6_341 (shK hS c1.1) (fun _ => rfl) ?_
  refine g_if_ne (pc := 11) (tgt := 30) dX6_closureOf_11 rfl (fun h11 => ?_) (fun h11 => ?_)
  · refine g_aload_n (pc := 30) dX6_closureOf_30 rfl trivial ?_
    refine g_areturn (pc := 31) dX6_closureOf_31 rfl (Or.inl ⟨_, rfl⟩) ?_
    exact ⟨rfl, (if_neg h11).symm⟩
  · refine g_aload_n (pc := 14) dX6_closureOf_14 rfl trivial ?_
    refine g_aload_n (pc := 15) dX6_closureOf_15 rfl trivial ?_
    refine g_iload_n (pc := 16) dX6_closureOf_16 rfl ?_
    refine g_invV_r (pc := 17) (As := [_]) dX6_closureOf_17 rfl (s_rowsOf hS hs) rfl rfl (shK hS rfl) rfl rfl lk_X6_112 rfl (nb rfl) ⟨nb rfl, nb rfl⟩ rfl ?_
    refine g_aload_n (pc := 20) dX6_closureOf_20 rfl trivial ?_
    refine g_getf (pc := 21) dX6_closureOf_21 fk_X6_19 (shK hS rfl) (fv_obj (shR hS rfl)) ?_
    refine g_getf (pc := 24) (v := .int _) dX6_closureOf_24 fk_X6_89 (shK hS rfl) (fun _ => congrArg Value.int (hz)) ?_
    refine g_invV_r (pc := 27) (As := [_, _]) dX6_closureOf_27 rfl (s_makeFrom hS c1 (shK hS (rows_lay hs)) hn) rfl rfl (shK hS c1.1) rfl rfl lk_X6_344 rfl (nb rfl) ⟨nb rfl, nb rfl⟩ rfl ?_
    refine g_aload_n (pc := 30) dX6_closureOf_30 rfl trivial ?_
    refine g_areturn (pc := 31) dX6_closureOf_31 rfl (Or.inl ⟨_, rfl⟩) ?_
    exact ⟨rfl, (if_pos (Decidable.not_not.mp h11)).symm⟩
def noteM (M : Mem) (s : Nat) (x : Int32) : Mem := mxAnew (pI M (175 + 2 * s) 1 0) (5 + 2 * s) x
theorem noteM_S (hS : Shp M) (s : Nat) (x : Int32) : Shp (noteM M s x) := Shp.anew (M := pI M (175 + 2 * s) 1 0) hS
theorem mx5 {s : Nat} (hs : s < 6) : isMx (5 + 2 * s) ∧ REFT 4 s = some (5 + 2 * s) := by
  have h := st3.2 s hs
  rw [show 3 + 2 + 2 * s = 5 + 2 * s by omega] at h
  exact h
theorem s_noteChange {s : Nat} {x : Int32} (hS : Shp M) (hs : s < 6) (hz : mI M 3 1 = x) : EvR l jX6_noteChange 2 50 0 0 [.ref 0, .int (nI s)] M (.inl none) (noteM M s x) := by
  obtain ⟨c1, c2⟩ := cl_ok s hs
  obtain ⟨m1, m2⟩ := mx5 hs
  have hS1 : Shp (pI M (175 + 2 * s) 1 0) := hS
  refine ev_intro rfl (nb rfl) rfl ?_
  refine g_aload_n (pc := 0) dX6_noteChange_0 rfl trivial ?_
  refine g_getf (pc := 1) dX6_noteChange_1 fk_X6_39 (shK hS rfl) (fv_arr (shR hS rfl)) ?_
  refine g_iload_n (pc := 4) dX6_noteChange_4 rfl ?_
  refine g_aaload_Closure (pc := 5) dX6_noteChange_5 (shK hS rfl) rfl hs (by decide) (shR hS c2) ?_
  refine g_iconst (pc := 6) (v := 0) dX6_noteChange_6 rfl ?_
  refine g_putI (pc := 7) dX6_noteChange_7 fp_X6_341 (shK hS c1.1) ⟨rfl, rfl⟩ (fun _ _ _ _ => rfl) ?_
  refine g_aload_n (pc := 10) dX6_noteChange_10 rfl trivial ?_
  refine g_getf (pc := 11) dX6_noteChange_11 fk_X6_19 (shK hS rfl) (fv_obj (shR hS rfl)) ?_
  refine g_getf (pc := 14) dX6_noteChange_14 fk_X6_225 (shK hS rfl) (fv_arr (shR hS rfl)) ?_
  refine g_iload_n (pc := 17) dX6_noteChange_17 rfl ?_
  refine g_aaload_Matrix (pc := 18) dX6_noteChange_18 (shK hS rfl) rfl hs (by decide) (shR hS m2) ?_
  refine g_aload_n (pc := 19) dX6_noteChange_19 rfl trivial ?_
  refine g_getf (pc := 20) dX6_noteChange_20 fk_X6_19 (shK hS rfl) (fv_obj (shR hS rfl)) ?_
  refine g_getf (pc := 23) (v := .int _) dX6_noteChange_23 fk_X6_89 (shK hS rfl) (fun _ => congrArg Value.int (((congrFun (pI_i (by omega)) 1).trans hz))) ?_
  refine g_invV_r (pc := 26) (As := [_]) dX6_noteChange_26 rfl (s_noteMadeAnew hS1 m1) rfl rfl (shK hS m1.1) rfl rfl lk_X6_292 rfl (nb rfl) ⟨nb rfl, nb rfl⟩ rfl ?_
  refine g_return (pc := 29) dX6_noteChange_29 rfl ?_
  exact ⟨rfl, rfl⟩
theorem mxAnew_ne {m i : Nat} {x : Int32} (h : i ≠ m) : mI (mxAnew M m x) i = mI M i := by
  unfold mxAnew mxLook
  split
  · rfl
  · rw [pI_i h, pI_i h, pI_i h]
theorem noteM_ne {s i : Nat} {x : Int32} (h : i ≠ 175 + 2 * s) (h2 : i ≠ 5 + 2 * s) : mI (noteM M s x) i = mI M i := by
  unfold noteM; rw [mxAnew_ne h2, pI_i h]
/-- rows are stored in a slot -/
def storeM (M : Mem) (r t n : Nat) : Mem := noteM (sI M (6 + 2 * t) (wr (mI M (6 + 2 * t)) (mI M r) n)) t (nI n)
theorem s_store {r t n : Nat} (hS : Shp M) (ht : t < 6) (hz : mI M 3 1 = nI n) (hn : n ≤ 32) (hk : (mK M)[r]? = some (kI 32)) : EvR l jX6_store 3 80 0 0 [.ref 0, .ref r, .int (nI t)] M (.inl (some (.int (onesF (mI (storeM M r t n) (6 + 2 * t)) n)))) (storeM M r t n) := by
  have hS1 : Shp (sI M (6 + 2 * t) (wr (mI M (6 + 2 * t)) (mI M r) n)) := hS
  have hS2 : Shp (storeM M r t n) := noteM_S hS1 t (nI n)
  have z2 : mI (sI M (6 + 2 * t) (wr (mI M (6 + 2 * t)) (mI M r) n)) 3 1 = nI n := (congrFun (sI_ne (by omega)) 1).trans hz
  have z3 : mI (storeM M r t n) 3 1 = nI n := (congrFun (noteM_ne (by omega) (by omega)) 1).trans z2
  refine ev_intro rfl (nb rfl) rfl ?_
  refine g_aload_n (pc := 0) dX6_store_0 rfl trivial ?_
  refine g_iconst (pc := 1) (v := 0) dX6_store_1 rfl ?_
  refine g_aload_n (pc := 2) dX6_store_2 rfl trivial ?_
  refine g_iload_n (pc := 3) dX6_store_3 rfl ?_
  refine g_invV_r (pc := 4) (As := [_]) dX6_store_4 rfl (s_rowsOf hS ht) rfl rfl (shK hS rfl) rfl rfl lk_X6_112 rfl (nb rfl) ⟨nb rfl, nb rfl⟩ rfl ?_
  refine g_iconst (pc := 7) (v := 0) dX6_store_7 rfl ?_
  refine g_aload_n (pc := 8) dX6_store_8 rfl trivial ?_
  refine g_getf (pc := 9) dX6_store_9 fk_X6_19 (shK hS rfl) (fv_obj (shR hS rfl)) ?_
  refine g_getf (pc := 12) (v := .int _) dX6_store_12 fk_X6_89 (shK hS rfl) (fun _ => congrArg Value.int (hz)) ?_
  refine g_copyI (pc := 15) (sp := 0) (dp := 0) dX6_store_15 wd_912 wd_510 wd_509 wd_108 hk (shK hS (rows_lay ht)) rfl rfl rfl (by omega) (by omega) ⟨by decide, by decide⟩ (nb rfl) (nb rfl) ?_
  rw [cpy_wr]
  refine g_aload_n (pc := 18) dX6_store_18 rfl trivial ?_
  refine g_iload_n (pc := 19) dX6_store_19 rfl ?_
  refine g_invV_r (pc := 20) (As := [_]) dX6_store_20 rfl (s_noteChange hS1 ht z2) rfl rfl (shK hS rfl) rfl rfl lk_X6_244 rfl (nb rfl) ⟨nb rfl, nb rfl⟩ rfl ?_
  refine g_aload_n (pc := 23) dX6_store_23 rfl trivial ?_
  refine g_iload_n (pc := 24) dX6_store_24 rfl ?_
  refine g_invV_r (pc := 25) (As := [_]) dX6_store_25 rfl (s_rowsOf hS2 ht) rfl rfl (shK hS2 rfl) rfl rfl lk_X6_112 rfl (nb rfl) ⟨nb rfl, nb rfl⟩ rfl ?_
  refine g_aload_n (pc := 28) dX6_store_28 rfl trivial ?_
  refine g_getf (pc := 29) dX6_store_29 fk_X6_19 (shK hS2 rfl) (fv_obj (shR hS2 rfl)) ?_
  refine g_getf (pc := 32) (v := .int _) dX6_store_32 fk_X6_89 (shK hS2 rfl) (fun _ => congrArg Value.int (z3)) ?_
  refine g_invS_r (pc := 35) (As := [_, _]) dX6_store_35 rfl (s_onesOf (shK hS2 (rows_lay ht)) hn) rfl rfl lk_X6_145 rfl (nb rfl) ⟨nb rfl, nb rfl⟩ rfl ?_
  refine g_ireturn (pc := 38) dX6_store_38 rfl rfl ?_
  exact ⟨rfl, rfl⟩
def workM (M : Mem) : Mem := pI (pI M 3 3 (mI M 187 6)) 3 4 (mI M 187 7)
theorem s_noteWork (hS : Shp M) : EvR l jX6_noteWork 0 0 0 0 [.ref 0] M (.inl none) (workM M) := by
  refine ev_intro rfl (nb rfl) rfl ?_
  refine g_aload_n (pc := 0) dX6_noteWork_0 rfl trivial ?_
  refine g_getf (pc := 1) dX6_noteWork_1 fk_X6_19 (shK hS rfl) (fv_obj (shR hS rfl)) ?_
  refine g_aload_n (pc := 4) dX6_noteWork_4 rfl trivial ?_
  refine g_getf (pc := 5) dX6_noteWork_5 fk_X6_47 (shK hS rfl) (fv_obj (shR hS rfl)) ?_
  refine g_getf (pc := 8) (v := .int (mI _ _ _)) dX6_noteWork_8 fk_X6_347 (shK hS rfl) (fun _ => rfl) ?_
  refine g_putI (pc := 11) dX6_noteWork_11 fp_X6_304 (shK hS rfl) ⟨rfl, rfl⟩ (fun _ _ _ _ => rfl) ?_
  refine g_aload_n (pc := 14) dX6_noteWork_14 rfl trivial ?_
  refine g_getf (pc := 15) dX6_noteWork_15 fk_X6_19 (shK hS rfl) (fv_obj (shR hS rfl)) ?_
  refine g_aload_n (pc := 18) dX6_noteWork_18 rfl trivial ?_
  refine g_getf (pc := 19) dX6_noteWork_19 fk_X6_47 (shK hS rfl) (fv_obj (shR hS rfl)) ?_
  refine g_getf (pc := 22) (v := .int _) dX6_noteWork_22 fk_X6_348 (shK hS rfl) (fun _ => congrArg Value.int ((congrFun (pI_i (by decide)) 7))) ?_
  refine g_putI (pc := 25) dX6_noteWork_25 fp_X6_307 (shK hS rfl) ⟨rfl, rfl⟩ (fun _ _ _ _ => rfl) ?_
  refine g_return (pc := 28) dX6_noteWork_28 rfl ?_
  exact ⟨rfl, rfl⟩
end
