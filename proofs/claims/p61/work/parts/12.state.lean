/-! matrices and states -/
section
variable {l : Launch} {M : Mem}
/-- a matrix's cells -/
def isMx (m : Nat) : Prop := LAY[m]? = some (.inr 2) ∧ LAY[m + 1]? = some (kI 32) ∧ REFT m 0 = some (m + 1)
def isSt (b : Nat) : Prop := (LAY[b]? = some (.inr 5) ∧ LAY[b + 1]? = some (.inl (.object kMx, 6)) ∧ REFT b 0 = some (b + 1)) ∧ ∀ s, s < 6 → isMx (b + 2 + 2 * s) ∧ REFT (b + 1) s = some (b + 2 + 2 * s)
theorem st_of {b : Nat} (h : b ∈ bases) : isSt b := by
  obtain ⟨h1, h2⟩ := base_ok b h
  refine ⟨h1, fun s hs => ?_⟩
  obtain ⟨g1, g2, g3, g4⟩ := h2 s hs
  have e : b + 3 + 2 * s = b + 2 + 2 * s + 1 := by omega
  rw [e] at g2 g4
  exact ⟨⟨g1, g2, g4⟩, g3⟩
def mxLook (M : Mem) (m : Nat) (x : Int32) : Mem := if mI M m 1 = 0 then M else pI (pI M m 2 x) m 3 (mI (pI M m 2 x) m 3 + x)
def mxAnew (M : Mem) (m : Nat) (x : Int32) : Mem := if mI M m 1 = 0 then M else pI (mxLook M m x) m 4 (mI (mxLook M m x) m 4 + 1)
theorem Shp.look {m : Nat} {x : Int32} (hS : Shp M) : Shp (mxLook M m x) := by unfold mxLook; split <;> exact hS
theorem Shp.anew {m : Nat} {x : Int32} (hS : Shp M) : Shp (mxAnew M m x) := by
  unfold mxAnew
  split
  · exact hS
  · exact hS.look (m := m) (x := x)
theorem s_noteLooked {m : Nat} {x : Int32} (hS : Shp M) (hm : isMx m) : EvR l jX2_noteLooked 0 0 0 0 [.ref m, .int x] M (.inl none) (mxLook M m x) := by
  refine ev_intro rfl (nb rfl) rfl ?_
  unfold mxLook
  refine g_aload_n (pc := 0) dX2_noteLooked_0 rfl trivial ?_
  refine g_getf (pc := 1) (v := .int (mI _ _ _)) dX2_noteLooked_1 fk_X2_15 (shK hS hm.1) (fun _ => rfl) ?_
  refine g_if_eq (pc := 4) (tgt := 22) dX2_noteLooked_4 rfl (fun h4 => ?_) (fun h4 => ?_)
  · refine g_return (pc := 22) dX2_noteLooked_22 rfl ?_
    exact ⟨rfl, (if_pos h4).symm⟩
  · refine g_aload_n (pc := 7) dX2_noteLooked_7 rfl trivial ?_
    refine g_iload_n (pc := 8) dX2_noteLooked_8 rfl ?_
    refine g_putI (pc := 9) dX2_noteLooked_9 fp_X2_19 (shK hS hm.1) ⟨rfl, rfl⟩ (fun _ _ _ _ => rfl) ?_
    refine g_aload_n (pc := 12) dX2_noteLooked_12 rfl trivial ?_
    refine g_dup (pc := 13) dX2_noteLooked_13 rfl ?_
    refine g_getf (pc := 14) (v := .int (mI _ _ _)) dX2_noteLooked_14 fk_X2_23 (shK hS hm.1) (fun _ => rfl) ?_
    refine g_iload_n (pc := 17) dX2_noteLooked_17 rfl ?_
    refine g_iadd (pc := 18) dX2_noteLooked_18 ?_
    refine g_putI (pc := 19) dX2_noteLooked_19 fp_X2_23 (shK hS hm.1) ⟨rfl, rfl⟩ (fun _ _ _ _ => rfl) ?_
    refine g_return (pc := 22) dX2_noteLooked_22 rfl ?_
    exact ⟨rfl, (if_neg h4).symm⟩
theorem s_noteMadeAnew {m : Nat} {x : Int32} (hS : Shp M) (hm : isMx m) : EvR l jX2_noteMadeAnew 1 21 0 0 [.ref m, .int x] M (.inl none) (mxAnew M m x) := by
  refine ev_intro rfl (nb rfl) rfl ?_
  unfold mxAnew
  have hS2 : Shp (mxLook M m x) := hS.look
  refine g_aload_n (pc := 0) dX2_noteMadeAnew_0 rfl trivial ?_
  refine g_getf (pc := 1) (v := .int (mI _ _ _)) dX2_noteMadeAnew_1 fk_X2_15 (shK hS hm.1) (fun _ => rfl) ?_
  refine g_if_eq (pc := 4) (tgt := 22) dX2_noteMadeAnew_4 rfl (fun h4 => ?_) (fun h4 => ?_)
  · refine g_return (pc := 22) dX2_noteMadeAnew_22 rfl ?_
    exact ⟨rfl, (if_pos h4).symm⟩
  · refine g_aload_n (pc := 7) dX2_noteMadeAnew_7 rfl trivial ?_
    refine g_iload_n (pc := 8) dX2_noteMadeAnew_8 rfl ?_
    refine g_invV_r (pc := 9) (As := [_]) dX2_noteMadeAnew_9 rfl (s_noteLooked hS hm) rfl rfl (shK hS hm.1) rfl rfl lk_X2_35 rfl (nb rfl) ⟨nb rfl, nb rfl⟩ rfl ?_
    refine g_aload_n (pc := 12) dX2_noteMadeAnew_12 rfl trivial ?_
    refine g_dup (pc := 13) dX2_noteMadeAnew_13 rfl ?_
    refine g_getf (pc := 14) (v := .int (mI _ _ _)) dX2_noteMadeAnew_14 fk_X2_26 (shK hS2 hm.1) (fun _ => rfl) ?_
    refine g_iconst (pc := 17) (v := 1) dX2_noteMadeAnew_17 rfl ?_
    refine g_iadd (pc := 18) dX2_noteMadeAnew_18 ?_
    refine g_putI (pc := 19) dX2_noteMadeAnew_19 fp_X2_26 (shK hS2 hm.1) ⟨rfl, rfl⟩ (fun _ _ _ _ => rfl) ?_
    refine g_return (pc := 22) dX2_noteMadeAnew_22 rfl ?_
    exact ⟨rfl, (if_neg h4).symm⟩
/-- all 0 -/
def mxEmpty (M : Mem) (m : Nat) : Mem := pI (pI (pI (pI (sI M (m + 1) (wr (mI M (m + 1)) (fun _ => 0) 32)) m 1 0) m 2 0) m 3 0) m 4 0
theorem s_mxEmpty {m : Nat} (hS : Shp M) (hm : isMx m) : EvR l jX2_makeEmpty 0 0 0 0 [.ref m] M (.inl none) (mxEmpty M m) := by
  refine ev_intro rfl (nb rfl) rfl ?_
  refine g_iconst (pc := 0) (v := 0) dX2_makeEmpty_0 rfl ?_
  refine g_istore_n (pc := 1) (lv' := [(0, _), (1, _)]) dX2_makeEmpty_1 (nl rfl) rfl ?_
  refine go_loop (pc := 2) 32 (fun i => [(0, .ref m), (1, .int (nI i))]) (fun i => sI M (m + 1) (wr (mI M (m + 1)) (fun _ => 0) i)) ⟨rfl, rfl, trivial⟩ (sI_eq (wr_0 _ _)) ?_ ?_
  · intro i hi ih
    refine g_iload_n (pc := 2) dX2_makeEmpty_2 rfl ?_
    refine g_bipush (pc := 3) (v := 32) dX2_makeEmpty_3 rfl ?_
    refine g_icmp_ge (pc := 5) (tgt := 21) dX2_makeEmpty_5 rfl (fun h5 => absurd h5 (nI_ge (b := 32) hi (by omega))) (fun _ => ?_)
    refine g_aload_n (pc := 8) dX2_makeEmpty_8 rfl trivial ?_
    refine g_getf (pc := 9) dX2_makeEmpty_9 fk_X2_9 (shK hS hm.1) (fv_arr (shR hS hm.2.2)) ?_
    refine g_iload_n (pc := 12) dX2_makeEmpty_12 rfl ?_
    refine g_iconst (pc := 13) (v := 0) dX2_makeEmpty_13 rfl ?_
    refine g_iastore (pc := 14) dX2_makeEmpty_14 (shK hS hm.2.1) rfl (by omega) (nl rfl) ?_
    refine g_iinc (pc := 15) (lv' := [(0, _), (1, _)]) dX2_makeEmpty_15 rfl (nI_1 _) (nl rfl) rfl ?_
    refine g_goto (pc := 18) (tgt := 2) dX2_makeEmpty_18 rfl ?_
    exact go_cast (sI_st (wr_s _ _ i)) ih
  · refine g_iload_n (pc := 2) dX2_makeEmpty_2 rfl ?_
    refine g_bipush (pc := 3) (v := 32) dX2_makeEmpty_3 rfl ?_
    refine g_icmp_ge (pc := 5) (tgt := 21) dX2_makeEmpty_5 rfl (fun _ => ?_) (fun h5 => absurd (nI_le (Nat.le_refl 32) (by omega)) h5)
    refine g_aload_n (pc := 21) dX2_makeEmpty_21 rfl trivial ?_
    refine g_iconst (pc := 22) (v := 0) dX2_makeEmpty_22 rfl ?_
    refine g_putI (pc := 23) dX2_makeEmpty_23 fp_X2_15 (shK hS hm.1) ⟨rfl, rfl⟩ (fun _ _ _ _ => rfl) ?_
    refine g_aload_n (pc := 26) dX2_makeEmpty_26 rfl trivial ?_
    refine g_iconst (pc := 27) (v := 0) dX2_makeEmpty_27 rfl ?_
    refine g_putI (pc := 28) dX2_makeEmpty_28 fp_X2_19 (shK hS hm.1) ⟨rfl, rfl⟩ (fun _ _ _ _ => rfl) ?_
    refine g_aload_n (pc := 31) dX2_makeEmpty_31 rfl trivial ?_
    refine g_iconst (pc := 32) (v := 0) dX2_makeEmpty_32 rfl ?_
    refine g_putI (pc := 33) dX2_makeEmpty_33 fp_X2_23 (shK hS hm.1) ⟨rfl, rfl⟩ (fun _ _ _ _ => rfl) ?_
    refine g_aload_n (pc := 36) dX2_makeEmpty_36 rfl trivial ?_
    refine g_iconst (pc := 37) (v := 0) dX2_makeEmpty_37 rfl ?_
    refine g_putI (pc := 38) dX2_makeEmpty_38 fp_X2_26 (shK hS hm.1) ⟨rfl, rfl⟩ (fun _ _ _ _ => rfl) ?_
    refine g_return (pc := 41) dX2_makeEmpty_41 rfl ?_
    exact ⟨rfl, rfl⟩
/-- m becomes as o -/
def mxTake (M : Mem) (m o : Nat) : Mem := pI (pI (pI (pI (sI M (m + 1) (wr (mI M (m + 1)) (mI M (o + 1)) 32)) m 1 (mI M o 1)) m 2 (mI M o 2)) m 3 (mI M o 3)) m 4 (mI M o 4)
def k01 (x : Int32) : Prop := x = 0 ∨ x = 1
theorem k01_n {x : Int32} (h : k01 x) : narrow .boolean (.int x) = .int x ∧ fits .boolean (.int x) = true := by rcases h with rfl | rfl <;> exact ⟨rfl, rfl⟩
theorem s_mxTake {m o : Nat} (hS : Shp M) (hm : isMx m) (ho : isMx o) (h1 : o ≠ m) (h2 : o ≠ m + 1) (hk : k01 (mI M o 1)) : EvR l jX2_takeFrom 1 60 0 0 [.ref m, .ref o] M (.inl none) (mxTake M m o) := by
  refine ev_intro rfl (nb rfl) rfl ?_
  have e1 : mI (sI M (m + 1) (wr (mI M (m + 1)) (mI M (o + 1)) 32)) o = mI M o := sI_ne h2
  refine g_aload_n (pc := 0) dX2_takeFrom_0 rfl trivial ?_
  refine g_getf (pc := 1) dX2_takeFrom_1 fk_X2_9 (shK hS ho.1) (fv_arr (shR hS ho.2.2)) ?_
  refine g_iconst (pc := 4) (v := 0) dX2_takeFrom_4 rfl ?_
  refine g_aload_n (pc := 5) dX2_takeFrom_5 rfl trivial ?_
  refine g_getf (pc := 6) dX2_takeFrom_6 fk_X2_9 (shK hS hm.1) (fv_arr (shR hS hm.2.2)) ?_
  refine g_iconst (pc := 9) (v := 0) dX2_takeFrom_9 rfl ?_
  refine g_bipush (pc := 10) (v := 32) dX2_takeFrom_10 rfl ?_
  refine g_copyI (pc := 12) dX2_takeFrom_12 wd_508 wd_510 wd_509 wd_108 (shK hS ho.2.1) (shK hS hm.2.1) rfl rfl rfl (by decide) (by decide) ⟨by decide, by decide⟩ (nb rfl) (nb rfl) ?_
  rw [cpy_wr]
  refine g_aload_n (pc := 15) dX2_takeFrom_15 rfl trivial ?_
  refine g_aload_n (pc := 16) dX2_takeFrom_16 rfl trivial ?_
  refine g_getf (pc := 17) (v := .int _) dX2_takeFrom_17 fk_X2_15 (shK hS ho.1) (fun _ => congrArg Value.int ((congrFun e1 1))) ?_
  refine g_putI (pc := 20) dX2_takeFrom_20 fp_X2_15 (shK hS hm.1) (k01_n hk) (fun _ _ _ _ => rfl) ?_
  refine g_aload_n (pc := 23) dX2_takeFrom_23 rfl trivial ?_
  refine g_aload_n (pc := 24) dX2_takeFrom_24 rfl trivial ?_
  refine g_getf (pc := 25) (v := .int _) dX2_takeFrom_25 fk_X2_19 (shK hS ho.1) (fun _ => congrArg Value.int (((congrFun (pI_i h1) 2).trans (congrFun e1 2)))) ?_
  refine g_putI (pc := 28) dX2_takeFrom_28 fp_X2_19 (shK hS hm.1) ⟨rfl, rfl⟩ (fun _ _ _ _ => rfl) ?_
  refine g_aload_n (pc := 31) dX2_takeFrom_31 rfl trivial ?_
  refine g_aload_n (pc := 32) dX2_takeFrom_32 rfl trivial ?_
  refine g_getf (pc := 33) (v := .int _) dX2_takeFrom_33 fk_X2_23 (shK hS ho.1) (fun _ => congrArg Value.int (((congrFun (pI_i h1) 3).trans ((congrFun (pI_i h1) 3).trans (congrFun e1 3))))) ?_
  refine g_putI (pc := 36) dX2_takeFrom_36 fp_X2_23 (shK hS hm.1) ⟨rfl, rfl⟩ (fun _ _ _ _ => rfl) ?_
  refine g_aload_n (pc := 39) dX2_takeFrom_39 rfl trivial ?_
  refine g_aload_n (pc := 40) dX2_takeFrom_40 rfl trivial ?_
  refine g_getf (pc := 41) (v := .int _) dX2_takeFrom_41 fk_X2_26 (shK hS ho.1) (fun _ => congrArg Value.int (((congrFun (pI_i h1) 4).trans ((congrFun (pI_i h1) 4).trans ((congrFun (pI_i h1) 4).trans (congrFun e1 4)))))) ?_
  refine g_putI (pc := 44) dX2_takeFrom_44 fp_X2_26 (shK hS hm.1) ⟨rfl, rfl⟩ (fun _ _ _ _ => rfl) ?_
  refine g_return (pc := 47) dX2_takeFrom_47 rfl ?_
  exact ⟨rfl, rfl⟩
end
