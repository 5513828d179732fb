section
variable {l : Launch} {M : Mem} {n p c : Nat}
theorem snap_ok : ∀ q, q < 2 → 145 + 14 * q ∈ bases ∧ REFT 144 q = some (145 + 14 * q) := by decide +kernel
theorem nar1 : vp_nar .boolean 1 = 1 := by decide +kernel
def svM (M : Mem) (q : Nat) : Mem := pI (stTake M (145 + 14 * q) 3) 173 q 1
theorem dropC_ne {i : Nat} (h : i < 175 ∨ 187 ≤ i) : ∀ k, k ≤ 6 → mI (dropC M k) i = mI M i
  | 0, _ => by rw [dropC]
  | k + 1, hk => by rw [dropC, pI_i (by omega), dropC_ne h k (by omega)]
theorem stTake_n {b o : Nat} : mI (stTake M b o) b 1 = mI M o 1 := by
  unfold stTake
  rw [pI_k (by decide), pI_k (by decide), pI_k (by decide), pI_self]
theorem replM_n {o : Nat} : mI (replM M o) 3 1 = mI M o 1 := by
  unfold replM
  rw [dropC_ne (by decide) 6 (Nat.le_refl _), pI_i (by decide)]
  exact stTake_n
theorem replM_S (hS : Shp M) (o : Nat) : Shp (replM M o) := by
  unfold replM
  exact dropC_S (shp_pI (stTake_S hS 3 o)) 6
theorem u_restore {q : Nat} (hS : Shp M) (hk : keptOk M (145 + 14 * q)) (hq : q < 2) : EvR l jX6_restoreSnapshot 7 170 1 6 [.ref 0, .int (nI q)] M (.inl (some (.int (if mI M 173 q = 0 then -1 else mI M (145 + 14 * q) 1)))) (if mI M 173 q = 0 then M else replM M (145 + 14 * q)) := by
  obtain ⟨b1, b2⟩ := snap_ok q hq
  have hb9 := st_of b1
  have q1 := s_replaceState (l := l) hS hb9 (by omega) hk
  have hS1 := replM_S hS (145 + 14 * q)
  have e1 : mI (replM M (145 + 14 * q)) 3 1 = mI M (145 + 14 * q) 1 := replM_n
  generalize replM M (145 + 14 * q) = M1 at *
  refine ev_intro rfl (nb rfl) rfl ?_
  refine g_aload_n (pc := 0) dX6_restoreSnapshot_0 rfl trivial ?_
  refine g_iload_n (pc := 1) dX6_restoreSnapshot_1 rfl ?_
  refine g_iconst (pc := 2) (v := 0) dX6_restoreSnapshot_2 rfl ?_
  refine g_iconst (pc := 3) (v := 1) dX6_restoreSnapshot_3 rfl ?_
  refine g_invV_r (pc := 4) (As := [_, _, _]) dX6_restoreSnapshot_4 rfl (s_needRange (nI_pos (by omega)) (nI_le (b := 1) (by omega) (by decide))) rfl rfl (shK hS rfl) rfl rfl lk_X6_95 rfl (nb rfl) ⟨nb rfl, nb rfl⟩ rfl ?_
  refine g_aload_n (pc := 7) dX6_restoreSnapshot_7 rfl trivial ?_
  refine g_getf (pc := 8) dX6_restoreSnapshot_8 fk_X6_33 (shK hS rfl) (fv_arr (shR hS rfl)) ?_
  refine g_iload_n (pc := 11) dX6_restoreSnapshot_11 rfl ?_
  refine g_zaload (pc := 12) dX6_restoreSnapshot_12 (shK hS rfl) rfl hq (nl rfl) ?_
  refine g_if_ne (pc := 13) (tgt := 18) dX6_restoreSnapshot_13 rfl (fun h13 => ?_) (fun h13 => ?_)
  · rw [if_neg h13, if_neg h13]
    refine g_aload_n (pc := 18) dX6_restoreSnapshot_18 rfl trivial ?_
    refine g_aload_n (pc := 19) dX6_restoreSnapshot_19 rfl trivial ?_
    refine g_getf (pc := 20) dX6_restoreSnapshot_20 fk_X6_30 (shK hS rfl) (fv_arr (shR hS rfl)) ?_
    refine g_iload_n (pc := 23) dX6_restoreSnapshot_23 rfl ?_
    refine g_aaload_State (pc := 24) dX6_restoreSnapshot_24 (shK hS rfl) rfl hq (by decide) (shR hS b2) ?_
    refine g_invV_r (pc := 25) (As := [_]) dX6_restoreSnapshot_25 rfl (q1) rfl rfl (shK hS rfl) rfl rfl lk_X6_83 rfl (nb rfl) ⟨nb rfl, nb rfl⟩ rfl ?_
    refine g_aload_n (pc := 28) dX6_restoreSnapshot_28 rfl trivial ?_
    refine g_getf (pc := 29) dX6_restoreSnapshot_29 fk_X6_19 (shK hS1 rfl) (fv_obj (shR hS1 rfl)) ?_
    refine g_getf (pc := 32) (v := .int _) dX6_restoreSnapshot_32 fk_X6_89 (shK hS1 rfl) (fun _ => congrArg Value.int (e1)) ?_
    refine g_ireturn (pc := 35) dX6_restoreSnapshot_35 rfl rfl ?_
    exact ⟨rfl, rfl⟩
  · rw [if_pos (Decidable.not_not.mp h13), if_pos (Decidable.not_not.mp h13)]
    refine g_iconst (pc := 16) (v := (-1)) dX6_restoreSnapshot_16 rfl ?_
    refine g_ireturn (pc := 17) dX6_restoreSnapshot_17 rfl rfl ?_
    exact ⟨rfl, rfl⟩
/-- a row written out as letters -/
def woF (x : Int32) (k : Nat) : Int32 := if hb x k = true then 49 else 48
def woM (M : Mem) (x : Int32) (n k : Nat) : Mem := sI (pI M 0 14 (nI n)) 197 (wr (mI M 197) (woF x) k)
end
