section
variable {l : Launch} {M : Mem} {n p c : Nat}
theorem q_kept0 {s : Nat} (hS : Shp M) (hs : s < 6) : EvR l jX6_kept 7 120 2 12 [.ref 0, .int (nI s), .int 0] M (.inl (some (.int (if mI M (5 + 2 * s) 1 = 0 then -1 else mI M (5 + 2 * s) 2)))) M := by
  obtain ⟨m1, m2⟩ := mx5 hs
  refine ev_intro rfl (nb rfl) rfl ?_
  by_cases h0 : mI M (5 + 2 * s) 1 = 0
  · rw [if_pos h0]
    refine g_aload_n (pc := 0) dX6_kept_0 rfl trivial ?_
    refine g_iload_n (pc := 1) dX6_kept_1 rfl ?_
    refine g_invV_r (pc := 2) (As := [_]) dX6_kept_2 rfl (s_needSlot (in6 hs)) rfl rfl (shK hS rfl) rfl rfl lk_X6_141 rfl (nb rfl) ⟨nb rfl, nb rfl⟩ rfl ?_
    refine g_aload_n (pc := 5) dX6_kept_5 rfl trivial ?_
    refine g_iload_n (pc := 6) dX6_kept_6 rfl ?_
    refine g_iconst (pc := 7) (v := 0) dX6_kept_7 rfl ?_
    refine g_iconst (pc := 8) (v := 2) dX6_kept_8 rfl ?_
    refine g_invV_r (pc := 9) (As := [_, _, _]) dX6_kept_9 rfl (s_needRange (by decide) (by decide)) rfl rfl (shK hS rfl) rfl rfl lk_X6_95 rfl (nb rfl) ⟨nb rfl, nb rfl⟩ rfl ?_
    refine g_aload_n (pc := 12) dX6_kept_12 rfl trivial ?_
    refine g_getf (pc := 13) dX6_kept_13 fk_X6_19 (shK hS rfl) (fv_obj (shR hS rfl)) ?_
    refine g_getf (pc := 16) dX6_kept_16 fk_X6_225 (shK hS rfl) (fv_arr (shR hS rfl)) ?_
    refine g_iload_n (pc := 19) dX6_kept_19 rfl ?_
    refine g_aaload_Matrix (pc := 20) dX6_kept_20 (shK hS rfl) rfl hs (by decide) (shR hS m2) ?_
    refine g_astore_n (pc := 21) (lv' := [(0, _), (1, _), (2, _), (3, _)]) dX6_kept_21 trivial (nl rfl) rfl ?_
    refine g_aload_n (pc := 22) dX6_kept_22 rfl trivial ?_
    refine g_getf (pc := 23) (v := .int _) dX6_kept_23 fk_X6_288 (shK hS m1.1) (fun _ => congrArg Value.int (h0)) ?_
    refine g_if_ne (pc := 26) (tgt := 31) dX6_kept_26 rfl (fun h26 => absurd h26 ((fun q => q rfl))) (fun _ => ?_)
    refine g_iconst (pc := 29) (v := (-1)) dX6_kept_29 rfl ?_
    refine g_ireturn (pc := 30) dX6_kept_30 rfl rfl ?_
    exact ⟨rfl, rfl⟩
  · rw [if_neg h0]
    refine g_aload_n (pc := 0) dX6_kept_0 rfl trivial ?_
    refine g_iload_n (pc := 1) dX6_kept_1 rfl ?_
    refine g_invV_r (pc := 2) (As := [_]) dX6_kept_2 rfl (s_needSlot (in6 hs)) rfl rfl (shK hS rfl) rfl rfl lk_X6_141 rfl (nb rfl) ⟨nb rfl, nb rfl⟩ rfl ?_
    refine g_aload_n (pc := 5) dX6_kept_5 rfl trivial ?_
    refine g_iload_n (pc := 6) dX6_kept_6 rfl ?_
    refine g_iconst (pc := 7) (v := 0) dX6_kept_7 rfl ?_
    refine g_iconst (pc := 8) (v := 2) dX6_kept_8 rfl ?_
    refine g_invV_r (pc := 9) (As := [_, _, _]) dX6_kept_9 rfl (s_needRange (by decide) (by decide)) rfl rfl (shK hS rfl) rfl rfl lk_X6_95 rfl (nb rfl) ⟨nb rfl, nb rfl⟩ rfl ?_
    refine g_aload_n (pc := 12) dX6_kept_12 rfl trivial ?_
    refine g_getf (pc := 13) dX6_kept_13 fk_X6_19 (shK hS rfl) (fv_obj (shR hS rfl)) ?_
    refine g_getf (pc := 16) dX6_kept_16 fk_X6_225 (shK hS rfl) (fv_arr (shR hS rfl)) ?_
    refine g_iload_n (pc := 19) dX6_kept_19 rfl ?_
    refine g_aaload_Matrix (pc := 20) dX6_kept_20 (shK hS rfl) rfl hs (by decide) (shR hS m2) ?_
    refine g_astore_n (pc := 21) (lv' := [(0, _), (1, _), (2, _), (3, _)]) dX6_kept_21 trivial (nl rfl) rfl ?_
    refine g_aload_n (pc := 22) dX6_kept_22 rfl trivial ?_
    refine g_getf (pc := 23) (v := .int (mI _ _ _)) dX6_kept_23 fk_X6_288 (shK hS m1.1) (fun _ => rfl) ?_
    refine g_if_ne (pc := 26) (tgt := 31) dX6_kept_26 rfl (fun _ => ?_) (fun h26 => absurd (h0) h26)
    refine g_iload_n (pc := 31) dX6_kept_31 rfl ?_
    refine g_lookup (pc := 32) (off := 28) (tgt := 60) dX6_kept_32 (by decide) (by decide) (by decide) ?_
    refine g_aload_n (pc := 60) dX6_kept_60 rfl trivial ?_
    refine g_getf (pc := 61) (v := .int (mI _ _ _)) dX6_kept_61 fk_X6_295 (shK hS m1.1) (fun _ => rfl) ?_
    refine g_ireturn (pc := 64) dX6_kept_64 rfl rfl ?_
    exact ⟨rfl, rfl⟩
theorem q_kept1 {s : Nat} (hS : Shp M) (hs : s < 6) : EvR l jX6_kept 7 120 2 12 [.ref 0, .int (nI s), .int 1] M (.inl (some (.int (if mI M (5 + 2 * s) 1 = 0 then -1 else mI M (5 + 2 * s) 3)))) M := by
  obtain ⟨m1, m2⟩ := mx5 hs
  refine ev_intro rfl (nb rfl) rfl ?_
  by_cases h0 : mI M (5 + 2 * s) 1 = 0
  · rw [if_pos h0]
    refine g_aload_n (pc := 0) dX6_kept_0 rfl trivial ?_
    refine g_iload_n (pc := 1) dX6_kept_1 rfl ?_
    refine g_invV_r (pc := 2) (As := [_]) dX6_kept_2 rfl (s_needSlot (in6 hs)) rfl rfl (shK hS rfl) rfl rfl lk_X6_141 rfl (nb rfl) ⟨nb rfl, nb rfl⟩ rfl ?_
    refine g_aload_n (pc := 5) dX6_kept_5 rfl trivial ?_
    refine g_iload_n (pc := 6) dX6_kept_6 rfl ?_
    refine g_iconst (pc := 7) (v := 0) dX6_kept_7 rfl ?_
    refine g_iconst (pc := 8) (v := 2) dX6_kept_8 rfl ?_
    refine g_invV_r (pc := 9) (As := [_, _, _]) dX6_kept_9 rfl (s_needRange (by decide) (by decide)) rfl rfl (shK hS rfl) rfl rfl lk_X6_95 rfl (nb rfl) ⟨nb rfl, nb rfl⟩ rfl ?_
    refine g_aload_n (pc := 12) dX6_kept_12 rfl trivial ?_
    refine g_getf (pc := 13) dX6_kept_13 fk_X6_19 (shK hS rfl) (fv_obj (shR hS rfl)) ?_
    refine g_getf (pc := 16) dX6_kept_16 fk_X6_225 (shK hS rfl) (fv_arr (shR hS rfl)) ?_
    refine g_iload_n (pc := 19) dX6_kept_19 rfl ?_
    refine g_aaload_Matrix (pc := 20) dX6_kept_20 (shK hS rfl) rfl hs (by decide) (shR hS m2) ?_
    refine g_astore_n (pc := 21) (lv' := [(0, _), (1, _), (2, _), (3, _)]) dX6_kept_21 trivial (nl rfl) rfl ?_
    refine g_aload_n (pc := 22) dX6_kept_22 rfl trivial ?_
    refine g_getf (pc := 23) (v := .int _) dX6_kept_23 fk_X6_288 (shK hS m1.1) (fun _ => congrArg Value.int (h0)) ?_
    refine g_if_ne (pc := 26) (tgt := 31) dX6_kept_26 rfl (fun h26 => absurd h26 ((fun q => q rfl))) (fun _ => ?_)
    refine g_iconst (pc := 29) (v := (-1)) dX6_kept_29 rfl ?_
    refine g_ireturn (pc := 30) dX6_kept_30 rfl rfl ?_
    exact ⟨rfl, rfl⟩
  · rw [if_neg h0]
    refine g_aload_n (pc := 0) dX6_kept_0 rfl trivial ?_
    refine g_iload_n (pc := 1) dX6_kept_1 rfl ?_
    refine g_invV_r (pc := 2) (As := [_]) dX6_kept_2 rfl (s_needSlot (in6 hs)) rfl rfl (shK hS rfl) rfl rfl lk_X6_141 rfl (nb rfl) ⟨nb rfl, nb rfl⟩ rfl ?_
    refine g_aload_n (pc := 5) dX6_kept_5 rfl trivial ?_
    refine g_iload_n (pc := 6) dX6_kept_6 rfl ?_
    refine g_iconst (pc := 7) (v := 0) dX6_kept_7 rfl ?_
    refine g_iconst (pc := 8) (v := 2) dX6_kept_8 rfl ?_
    refine g_invV_r (pc := 9) (As := [_, _, _]) dX6_kept_9 rfl (s_needRange (by decide) (by decide)) rfl rfl (shK hS rfl) rfl rfl lk_X6_95 rfl (nb rfl) ⟨nb rfl, nb rfl⟩ rfl ?_
    refine g_aload_n (pc := 12) dX6_kept_12 rfl trivial ?_
    refine g_getf (pc := 13) dX6_kept_13 fk_X6_19 (shK hS rfl) (fv_obj (shR hS rfl)) ?_
    refine g_getf (pc := 16) dX6_kept_16 fk_X6_225 (shK hS rfl) (fv_arr (shR hS rfl)) ?_
    refine g_iload_n (pc := 19) dX6_kept_19 rfl ?_
    refine g_aaload_Matrix (pc := 20) dX6_kept_20 (shK hS rfl) rfl hs (by decide) (shR hS m2) ?_
    refine g_astore_n (pc := 21) (lv' := [(0, _), (1, _), (2, _), (3, _)]) dX6_kept_21 trivial (nl rfl) rfl ?_
    refine g_aload_n (pc := 22) dX6_kept_22 rfl trivial ?_
    refine g_getf (pc := 23) (v := .int (mI _ _ _)) dX6_kept_23 fk_X6_288 (shK hS m1.1) (fun _ => rfl) ?_
    refine g_if_ne (pc := 26) (tgt := 31) dX6_kept_26 rfl (fun _ => ?_) (fun h26 => absurd (h0) h26)
    refine g_iload_n (pc := 31) dX6_kept_31 rfl ?_
    refine g_lookup (pc := 32) (off := 33) (tgt := 65) dX6_kept_32 (by decide) (by decide) (by decide) ?_
    refine g_aload_n (pc := 65) dX6_kept_65 rfl trivial ?_
    refine g_getf (pc := 66) (v := .int (mI _ _ _)) dX6_kept_66 fk_X6_298 (shK hS m1.1) (fun _ => rfl) ?_
    refine g_ireturn (pc := 69) dX6_kept_69 rfl rfl ?_
    exact ⟨rfl, rfl⟩
theorem q_kept2 {s : Nat} (hS : Shp M) (hs : s < 6) : EvR l jX6_kept 7 120 2 12 [.ref 0, .int (nI s), .int 2] M (.inl (some (.int (if mI M (5 + 2 * s) 1 = 0 then -1 else mI M (5 + 2 * s) 4)))) M := by
  obtain ⟨m1, m2⟩ := mx5 hs
  refine ev_intro rfl (nb rfl) rfl ?_
  by_cases h0 : mI M (5 + 2 * s) 1 = 0
  · rw [if_pos h0]
    refine g_aload_n (pc := 0) dX6_kept_0 rfl trivial ?_
    refine g_iload_n (pc := 1) dX6_kept_1 rfl ?_
    refine g_invV_r (pc := 2) (As := [_]) dX6_kept_2 rfl (s_needSlot (in6 hs)) rfl rfl (shK hS rfl) rfl rfl lk_X6_141 rfl (nb rfl) ⟨nb rfl, nb rfl⟩ rfl ?_
    refine g_aload_n (pc := 5) dX6_kept_5 rfl trivial ?_
    refine g_iload_n (pc := 6) dX6_kept_6 rfl ?_
    refine g_iconst (pc := 7) (v := 0) dX6_kept_7 rfl ?_
    refine g_iconst (pc := 8) (v := 2) dX6_kept_8 rfl ?_
    refine g_invV_r (pc := 9) (As := [_, _, _]) dX6_kept_9 rfl (s_needRange (by decide) (by decide)) rfl rfl (shK hS rfl) rfl rfl lk_X6_95 rfl (nb rfl) ⟨nb rfl, nb rfl⟩ rfl ?_
    refine g_aload_n (pc := 12) dX6_kept_12 rfl trivial ?_
    refine g_getf (pc := 13) dX6_kept_13 fk_X6_19 (shK hS rfl) (fv_obj (shR hS rfl)) ?_
    refine g_getf (pc := 16) dX6_kept_16 fk_X6_225 (shK hS rfl) (fv_arr (shR hS rfl)) ?_
    refine g_iload_n (pc := 19) dX6_kept_19 rfl ?_
    refine g_aaload_Matrix (pc := 20) dX6_kept_20 (shK hS rfl) rfl hs (by decide) (shR hS m2) ?_
    refine g_astore_n (pc := 21) (lv' := [(0, _), (1, _), (2, _), (3, _)]) dX6_kept_21 trivial (nl rfl) rfl ?_
    refine g_aload_n (pc := 22) dX6_kept_22 rfl trivial ?_
    refine g_getf (pc := 23) (v := .int _) dX6_kept_23 fk_X6_288 (shK hS m1.1) (fun _ => congrArg Value.int (h0)) ?_
    refine g_if_ne (pc := 26) (tgt := 31) dX6_kept_26 rfl (fun h26 => absurd h26 ((fun q => q rfl))) (fun _ => ?_)
    refine g_iconst (pc := 29) (v := (-1)) dX6_kept_29 rfl ?_
    refine g_ireturn (pc := 30) dX6_kept_30 rfl rfl ?_
    exact ⟨rfl, rfl⟩
  · rw [if_neg h0]
    refine g_aload_n (pc := 0) dX6_kept_0 rfl trivial ?_
    refine g_iload_n (pc := 1) dX6_kept_1 rfl ?_
    refine g_invV_r (pc := 2) (As := [_]) dX6_kept_2 rfl (s_needSlot (in6 hs)) rfl rfl (shK hS rfl) rfl rfl lk_X6_141 rfl (nb rfl) ⟨nb rfl, nb rfl⟩ rfl ?_
    refine g_aload_n (pc := 5) dX6_kept_5 rfl trivial ?_
    refine g_iload_n (pc := 6) dX6_kept_6 rfl ?_
    refine g_iconst (pc := 7) (v := 0) dX6_kept_7 rfl ?_
    refine g_iconst (pc := 8) (v := 2) dX6_kept_8 rfl ?_
    refine g_invV_r (pc := 9) (As := [_, _, _]) dX6_kept_9 rfl (s_needRange (by decide) (by decide)) rfl rfl (shK hS rfl) rfl rfl lk_X6_95 rfl (nb rfl) ⟨nb rfl, nb rfl⟩ rfl ?_
    refine g_aload_n (pc := 12) dX6_kept_12 rfl trivial ?_
    refine g_getf (pc := 13) dX6_kept_13 fk_X6_19 (shK hS rfl) (fv_obj (shR hS rfl)) ?_
    refine g_getf (pc := 16) dX6_kept_16 fk_X6_225 (shK hS rfl) (fv_arr (shR hS rfl)) ?_
    refine g_iload_n (pc := 19) dX6_kept_19 rfl ?_
    refine g_aaload_Matrix (pc := 20) dX6_kept_20 (shK hS rfl) rfl hs (by decide) (shR hS m2) ?_
    refine g_astore_n (pc := 21) (lv' := [(0, _), (1, _), (2, _), (3, _)]) dX6_kept_21 trivial (nl rfl) rfl ?_
    refine g_aload_n (pc := 22) dX6_kept_22 rfl trivial ?_
    refine g_getf (pc := 23) (v := .int (mI _ _ _)) dX6_kept_23 fk_X6_288 (shK hS m1.1) (fun _ => rfl) ?_
    refine g_if_ne (pc := 26) (tgt := 31) dX6_kept_26 rfl (fun _ => ?_) (fun h26 => absurd (h0) h26)
    refine g_iload_n (pc := 31) dX6_kept_31 rfl ?_
    refine g_lookup (pc := 32) (off := 38) (tgt := 70) dX6_kept_32 (by decide) (by decide) (by decide) ?_
    refine g_aload_n (pc := 70) dX6_kept_70 rfl trivial ?_
    refine g_getf (pc := 71) (v := .int (mI _ _ _)) dX6_kept_71 fk_X6_301 (shK hS m1.1) (fun _ => rfl) ?_
    refine g_ireturn (pc := 74) dX6_kept_74 rfl rfl ?_
    exact ⟨rfl, rfl⟩
theorem x_power {v w x f : Int32} (hS : Shp M) (hx0 : mX M = false) (hh : ¬ (inR v 6 ∧ inR w 6)) : EvR l jX6_power 7 140 4 24 [.ref 0, .int v, .int x, .int w, .int f] M (.inr xIO) M := by
  refine ev_intro rfl (nb rfl) rfl ?_
  by_cases h1 : inR v 6
  · refine g_aload_n (pc := 0) dX6_power_0 rfl trivial ?_
    refine g_iload_n (pc := 1) dX6_power_1 rfl ?_
    refine g_invV_r (pc := 2) (As := [_]) dX6_power_2 rfl (s_needSlot h1) rfl rfl (shK hS rfl) rfl rfl lk_X6_141 rfl (nb rfl) ⟨nb rfl, nb rfl⟩ rfl ?_
    refine g_aload_n (pc := 5) dX6_power_5 rfl trivial ?_
    refine g_iload_n (pc := 6) dX6_power_6 rfl ?_
    refine g_invV_x (pc := 7) (As := [_]) dX6_power_7 rfl (x_needSlot hS hx0 (fun h2 => hh ⟨h1, h2⟩)) rfl rfl (shK hS rfl) rfl rfl lk_X6_141 rfl (nb rfl) ⟨nb rfl, nb rfl⟩ rfl ?_
    exact ⟨rfl, rfl⟩
  · refine g_aload_n (pc := 0) dX6_power_0 rfl trivial ?_
    refine g_iload_n (pc := 1) dX6_power_1 rfl ?_
    refine g_invV_x (pc := 2) (As := [_]) dX6_power_2 rfl (x_needSlot hS hx0 h1) rfl rfl (shK hS rfl) rfl rfl lk_X6_141 rfl (nb rfl) ⟨nb rfl, nb rfl⟩ rfl ?_
    exact ⟨rfl, rfl⟩
theorem y_power {v w x f : Int32} (hS : Shp M) (hx0 : mX M = false) (h1 : inR v 6) (h2 : inR w 6) (h3 : ¬ (¬ x < 0 ∧ x ≤ 1000000)) : EvR l jX6_power 7 140 4 24 [.ref 0, .int v, .int x, .int w, .int f] M (.inr xIA) M := by
  refine ev_intro rfl (nb rfl) rfl ?_
  refine g_aload_n (pc := 0) dX6_power_0 rfl trivial ?_
  refine g_iload_n (pc := 1) dX6_power_1 rfl ?_
  refine g_invV_r (pc := 2) (As := [_]) dX6_power_2 rfl (s_needSlot h1) rfl rfl (shK hS rfl) rfl rfl lk_X6_141 rfl (nb rfl) ⟨nb rfl, nb rfl⟩ rfl ?_
  refine g_aload_n (pc := 5) dX6_power_5 rfl trivial ?_
  refine g_iload_n (pc := 6) dX6_power_6 rfl ?_
  refine g_invV_r (pc := 7) (As := [_]) dX6_power_7 rfl (s_needSlot h2) rfl rfl (shK hS rfl) rfl rfl lk_X6_141 rfl (nb rfl) ⟨nb rfl, nb rfl⟩ rfl ?_
  refine g_aload_n (pc := 10) dX6_power_10 rfl trivial ?_
  refine g_iload_n (pc := 11) dX6_power_11 rfl ?_
  refine g_iconst (pc := 12) (v := 0) dX6_power_12 rfl ?_
  refine g_ldcw (pc := 13) dX6_power_13 wd_1110 ?_
  refine g_invV_x (pc := 16) (As := [_, _, _]) dX6_power_16 rfl (x_needRange hS hx0 h3) rfl rfl (shK hS rfl) rfl rfl lk_X6_95 rfl (nb rfl) ⟨nb rfl, nb rfl⟩ rfl ?_
  exact ⟨rfl, rfl⟩
end
