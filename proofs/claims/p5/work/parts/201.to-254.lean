-- 201.query
section
section
variable {l : Launch} {M : Mem}
theorem clOf_z {s n : Nat} (hz : mI M 3 1 = nI n) (hs : s < 6) : mI (clOf M s n) 3 1 = nI n := by rw [clOf_ne (by omega) hs]; exact hz
theorem q_reaches {s a b n : Nat} (hS : Shp M) (hz : mI M 3 1 = nI n) (hn : n ≤ 32) (hs : s < 6) (ha : a < n) (hb9 : b < n) : EvR l jX6_reaches 9 160 3 18 [.ref 0, .int (nI s), .int (nI a), .int (nI b)] M (.inl (some (.int (b1 (hb (mI (clOf M s n) (175 + 2 * s + 1) a) b))))) (clOf M s n) := by
  have hS1 := clOf_S hS s n
  have hc := cl_ok' s hs
  refine ev_intro rfl (nb rfl) rfl ?_
  refine g_aload_n (pc := 0) dX6_reaches_0 rfl trivial ?_
  refine g_iload_n (pc := 1) dX6_reaches_1 rfl ?_
  refine g_iload_n (pc := 2) dX6_reaches_2 rfl ?_
  refine g_iload_n (pc := 3) dX6_reaches_3 rfl ?_
  refine g_invV_r (pc := 4) (As := [_, _, _]) dX6_reaches_4 rfl (s_needCell hS hz (in6 hs) (inR_nI ha (by omega)) (inR_nI hb9 (by omega))) rfl rfl (shK hS rfl) rfl rfl lk_X6_109 rfl (nb rfl) ⟨nb rfl, nb rfl⟩ rfl ?_
  refine g_aload_n (pc := 7) dX6_reaches_7 rfl trivial ?_
  refine g_iload_n (pc := 8) dX6_reaches_8 rfl ?_
  refine g_invV_r (pc := 9) (As := [_]) dX6_reaches_9 rfl (s_closureOf hS hs hz hn) rfl rfl (shK hS rfl) rfl rfl lk_X6_162 rfl (nb rfl) ⟨nb rfl, nb rfl⟩ rfl ?_
  refine g_getf (pc := 12) dX6_reaches_12 fk_X6_166 (shK hS1 hc.1) (fv_arr (shR hS1 hc.2.2)) ?_
  refine g_iload_n (pc := 15) dX6_reaches_15 rfl ?_
  refine g_iaload (pc := 16) dX6_reaches_16 (shK hS1 hc.2.1) rfl (by omega) (nl rfl) ?_
  refine g_iload_n (pc := 17) dX6_reaches_17 rfl ?_
  refine g_invS_r (pc := 18) (As := [_, _]) dX6_reaches_18 rfl (s_hasOne (by omega)) rfl rfl lk_X6_116 rfl (nb rfl) ⟨nb rfl, nb rfl⟩ rfl ?_
  refine g_if_eq (pc := 21) (tgt := 28) dX6_reaches_21 rfl (fun h21 => ?_) (fun h21 => ?_)
  · rw [b1_0] at h21
    refine g_iconst (pc := 28) (v := 0) dX6_reaches_28 rfl ?_
    refine g_ireturn (pc := 29) dX6_reaches_29 rfl rfl ?_
    exact ⟨by rw [h21]; rfl, rfl⟩
  · rw [b1_0, Bool.not_eq_false] at h21
    refine g_iconst (pc := 24) (v := 1) dX6_reaches_24 rfl ?_
    refine g_goto (pc := 25) (tgt := 29) dX6_reaches_25 rfl ?_
    refine g_ireturn (pc := 29) dX6_reaches_29 rfl rfl ?_
    exact ⟨by rw [h21]; rfl, rfl⟩
theorem x_reaches {v w u : Int32} {n : Nat} (hS : Shp M) (hz : mI M 3 1 = nI n) (h : ¬ (inR v 6 ∧ inR w n ∧ inR u n)) : EvR l jX6_reaches 9 160 3 18 [.ref 0, .int v, .int w, .int u] M (.inr xIO) M := by
  refine ev_intro rfl (nb rfl) rfl ?_
  refine g_aload_n (pc := 0) dX6_reaches_0 rfl trivial ?_
  refine g_iload_n (pc := 1) dX6_reaches_1 rfl ?_
  refine g_iload_n (pc := 2) dX6_reaches_2 rfl ?_
  refine g_iload_n (pc := 3) dX6_reaches_3 rfl ?_
  refine g_invV_x (pc := 4) (As := [_, _, _]) dX6_reaches_4 rfl (x_needCell hS hz h) rfl rfl (shK hS rfl) rfl rfl lk_X6_109 rfl (nb rfl) ⟨nb rfl, nb rfl⟩ rfl ?_
  exact ⟨rfl, rfl⟩
theorem q_reached {s a n : Nat} (hS : Shp M) (hz : mI M 3 1 = nI n) (hn : n ≤ 32) (hs : s < 6) (ha : a < n) : EvR l jX6_reached 8 140 2 12 [.ref 0, .int (nI s), .int (nI a)] M (.inl (some (.int (bcJ (mI (clOf M s n) (175 + 2 * s + 1) a))))) (clOf M s n) := by
  have hS1 := clOf_S hS s n
  have hc := cl_ok' s hs
  refine ev_intro rfl (nb rfl) rfl ?_
  refine g_aload_n (pc := 0) dX6_reached_0 rfl trivial ?_
  refine g_iload_n (pc := 1) dX6_reached_1 rfl ?_
  refine g_iload_n (pc := 2) dX6_reached_2 rfl ?_
  refine g_invV_r (pc := 3) (As := [_, _]) dX6_reached_3 rfl (s_needRow hS hz (in6 hs) (inR_nI ha (by omega))) rfl rfl (shK hS rfl) rfl rfl lk_X6_120 rfl (nb rfl) ⟨nb rfl, nb rfl⟩ rfl ?_
  refine g_aload_n (pc := 6) dX6_reached_6 rfl trivial ?_
  refine g_iload_n (pc := 7) dX6_reached_7 rfl ?_
  refine g_invV_r (pc := 8) (As := [_]) dX6_reached_8 rfl (s_closureOf hS hs hz hn) rfl rfl (shK hS rfl) rfl rfl lk_X6_162 rfl (nb rfl) ⟨nb rfl, nb rfl⟩ rfl ?_
  refine g_getf (pc := 11) dX6_reached_11 fk_X6_166 (shK hS1 hc.1) (fv_arr (shR hS1 hc.2.2)) ?_
  refine g_iload_n (pc := 14) dX6_reached_14 rfl ?_
  refine g_iaload (pc := 15) dX6_reached_15 (shK hS1 hc.2.1) rfl (by omega) (nl rfl) ?_
  refine g_invS_r (pc := 16) (As := [_]) dX6_reached_16 rfl (s_bitCount) rfl rfl lk_X6_132 rfl (nb rfl) ⟨nb rfl, nb rfl⟩ rfl ?_
  refine g_ireturn (pc := 19) dX6_reached_19 rfl rfl ?_
  exact ⟨rfl, rfl⟩
theorem x_reached {v w : Int32} {n : Nat} (hS : Shp M) (hz : mI M 3 1 = nI n) (h : ¬ (inR v 6 ∧ inR w n)) : EvR l jX6_reached 8 140 2 12 [.ref 0, .int v, .int w] M (.inr xIO) M := by
  refine ev_intro rfl (nb rfl) rfl ?_
  refine g_aload_n (pc := 0) dX6_reached_0 rfl trivial ?_
  refine g_iload_n (pc := 1) dX6_reached_1 rfl ?_
  refine g_iload_n (pc := 2) dX6_reached_2 rfl ?_
  refine g_invV_x (pc := 3) (As := [_, _]) dX6_reached_3 rfl (x_needRow hS hz h) rfl rfl (shK hS rfl) rfl rfl lk_X6_120 rfl (nb rfl) ⟨nb rfl, nb rfl⟩ rfl ?_
  exact ⟨rfl, rfl⟩
theorem q_pairs {s n : Nat} (hS : Shp M) (hz : mI M 3 1 = nI n) (hn : n ≤ 32) (hs : s < 6) : EvR l jX6_pairs 7 120 1 6 [.ref 0, .int (nI s)] M (.inl (some (.int (onesF (mI (clOf M s n) (175 + 2 * s + 1)) n)))) (clOf M s n) := by
  have hS1 := clOf_S hS s n
  have hc := cl_ok' s hs
  have hz1 := clOf_z hz hs
  refine ev_intro rfl (nb rfl) rfl ?_
  refine g_aload_n (pc := 0) dX6_pairs_0 rfl trivial ?_
  refine g_iload_n (pc := 1) dX6_pairs_1 rfl ?_
  refine g_invV_r (pc := 2) (As := [_]) dX6_pairs_2 rfl (s_needSlot (in6 hs)) rfl rfl (shK hS rfl) rfl rfl lk_X6_141 rfl (nb rfl) ⟨nb rfl, nb rfl⟩ rfl ?_
  refine g_aload_n (pc := 5) dX6_pairs_5 rfl trivial ?_
  refine g_iload_n (pc := 6) dX6_pairs_6 rfl ?_
  refine g_invV_r (pc := 7) (As := [_]) dX6_pairs_7 rfl (s_closureOf hS hs hz hn) rfl rfl (shK hS rfl) rfl rfl lk_X6_162 rfl (nb rfl) ⟨nb rfl, nb rfl⟩ rfl ?_
  refine g_getf (pc := 10) dX6_pairs_10 fk_X6_166 (shK hS1 hc.1) (fv_arr (shR hS1 hc.2.2)) ?_
  refine g_aload_n (pc := 13) dX6_pairs_13 rfl trivial ?_
  refine g_getf (pc := 14) dX6_pairs_14 fk_X6_19 (shK hS1 rfl) (fv_obj (shR hS1 rfl)) ?_
  refine g_getf (pc := 17) (v := .int _) dX6_pairs_17 fk_X6_89 (shK hS1 rfl) (fun _ => congrArg Value.int (hz1)) ?_
  refine g_invS_r (pc := 20) (As := [_, _]) dX6_pairs_20 rfl (s_onesOf (shK hS1 hc.2.1) hn) rfl rfl lk_X6_145 rfl (nb rfl) ⟨nb rfl, nb rfl⟩ rfl ?_
  refine g_ireturn (pc := 23) dX6_pairs_23 rfl rfl ?_
  exact ⟨rfl, rfl⟩
theorem x_pairs {v : Int32} (hS : Shp M) (h : ¬ inR v 6) : EvR l jX6_pairs 7 120 1 6 [.ref 0, .int v] M (.inr xIO) M := by
  refine ev_intro rfl (nb rfl) rfl ?_
  refine g_aload_n (pc := 0) dX6_pairs_0 rfl trivial ?_
  refine g_iload_n (pc := 1) dX6_pairs_1 rfl ?_
  refine g_invV_x (pc := 2) (As := [_]) dX6_pairs_2 rfl (x_needSlot hS h) rfl rfl (shK hS rfl) rfl rfl lk_X6_141 rfl (nb rfl) ⟨nb rfl, nb rfl⟩ rfl ?_
  exact ⟨rfl, rfl⟩
theorem q_component {s a n : Nat} (hS : Shp M) (hz : mI M 3 1 = nI n) (hn : n ≤ 32) (hs : s < 6) (ha : a < n) : EvR l jX6_component 8 140 2 12 [.ref 0, .int (nI s), .int (nI a)] M (.inl (some (.int (nI (lowMut (mI (clOf M s n) (175 + 2 * s + 1)) a n))))) (clOf M s n) := by
  have hS1 := clOf_S hS s n
  have hc := cl_ok' s hs
  have hz1 := clOf_z hz hs
  refine ev_intro rfl (nb rfl) rfl ?_
  refine g_aload_n (pc := 0) dX6_component_0 rfl trivial ?_
  refine g_iload_n (pc := 1) dX6_component_1 rfl ?_
  refine g_iload_n (pc := 2) dX6_component_2 rfl ?_
  refine g_invV_r (pc := 3) (As := [_, _]) dX6_component_3 rfl (s_needRow hS hz (in6 hs) (inR_nI ha (by omega))) rfl rfl (shK hS rfl) rfl rfl lk_X6_120 rfl (nb rfl) ⟨nb rfl, nb rfl⟩ rfl ?_
  refine g_aload_n (pc := 6) dX6_component_6 rfl trivial ?_
  refine g_iload_n (pc := 7) dX6_component_7 rfl ?_
  refine g_invV_r (pc := 8) (As := [_]) dX6_component_8 rfl (s_closureOf hS hs hz hn) rfl rfl (shK hS rfl) rfl rfl lk_X6_162 rfl (nb rfl) ⟨nb rfl, nb rfl⟩ rfl ?_
  refine g_iload_n (pc := 11) dX6_component_11 rfl ?_
  refine g_aload_n (pc := 12) dX6_component_12 rfl trivial ?_
  refine g_getf (pc := 13) dX6_component_13 fk_X6_19 (shK hS1 rfl) (fv_obj (shR hS1 rfl)) ?_
  refine g_getf (pc := 16) (v := .int _) dX6_component_16 fk_X6_89 (shK hS1 rfl) (fun _ => congrArg Value.int (hz1)) ?_
  refine g_invV_r (pc := 19) (As := [_, _]) dX6_component_19 rfl (s_lowestMutual hS1 hc (by omega) hn) rfl rfl (shK hS1 hc.1) rfl rfl lk_X6_172 rfl (nb rfl) ⟨nb rfl, nb rfl⟩ rfl ?_
  refine g_ireturn (pc := 22) dX6_component_22 rfl rfl ?_
  exact ⟨rfl, rfl⟩
theorem x_component {v w : Int32} {n : Nat} (hS : Shp M) (hz : mI M 3 1 = nI n) (h : ¬ (inR v 6 ∧ inR w n)) : EvR l jX6_component 8 140 2 12 [.ref 0, .int v, .int w] M (.inr xIO) M := by
  refine ev_intro rfl (nb rfl) rfl ?_
  refine g_aload_n (pc := 0) dX6_component_0 rfl trivial ?_
  refine g_iload_n (pc := 1) dX6_component_1 rfl ?_
  refine g_iload_n (pc := 2) dX6_component_2 rfl ?_
  refine g_invV_x (pc := 3) (As := [_, _]) dX6_component_3 rfl (x_needRow hS hz h) rfl rfl (shK hS rfl) rfl rfl lk_X6_120 rfl (nb rfl) ⟨nb rfl, nb rfl⟩ rfl ?_
  exact ⟨rfl, rfl⟩
def cmN (g : Nat → Int32) (n : Nat) : Nat → Int32
  | 0 => 0
  | k + 1 => if lowMut g k n = k then cmN g n k + 1 else cmN g n k
theorem lowMut_lt (g : Nat → Int32) (a n : Nat) : lowMut g a n < 32 := lowN_lt _
theorem q_components {s n : Nat} (hS : Shp M) (hz : mI M 3 1 = nI n) (hn : n ≤ 32) (hs : s < 6) : EvR l jX6_components 7 120 1 6 [.ref 0, .int (nI s)] M (.inl (some (.int (cmN (mI (clOf M s n) (175 + 2 * s + 1)) n n)))) (clOf M s n) := by
  have hS1 := clOf_S hS s n
  have hc := cl_ok' s hs
  have hz1 := clOf_z hz hs
  refine ev_intro rfl (nb rfl) rfl ?_
  refine g_aload_n (pc := 0) dX6_components_0 rfl trivial ?_
  refine g_iload_n (pc := 1) dX6_components_1 rfl ?_
  refine g_invV_r (pc := 2) (As := [_]) dX6_components_2 rfl (s_needSlot (in6 hs)) rfl rfl (shK hS rfl) rfl rfl lk_X6_141 rfl (nb rfl) ⟨nb rfl, nb rfl⟩ rfl ?_
  refine g_aload_n (pc := 5) dX6_components_5 rfl trivial ?_
  refine g_iload_n (pc := 6) dX6_components_6 rfl ?_
  refine g_invV_r (pc := 7) (As := [_]) dX6_components_7 rfl (s_closureOf hS hs hz hn) rfl rfl (shK hS rfl) rfl rfl lk_X6_162 rfl (nb rfl) ⟨nb rfl, nb rfl⟩ rfl ?_
  refine g_astore_n (pc := 10) (lv' := [(0, _), (1, _), (2, _)]) dX6_components_10 trivial (nl rfl) rfl ?_
  refine g_iconst (pc := 11) (v := 0) dX6_components_11 rfl ?_
  refine g_istore_n (pc := 12) (lv' := [(0, _), (1, _), (2, _), (3, _)]) dX6_components_12 (nl rfl) rfl ?_
  refine g_iconst (pc := 13) (v := 0) dX6_components_13 rfl ?_
  refine g_istore (pc := 14) (lv' := [(0, _), (1, _), (2, _), (3, _), (4, _)]) dX6_components_14 (nl rfl) rfl ?_
  refine go_loop (pc := 16) n (fun i => [(0, .ref 0), (1, .int (nI s)), (2, .ref (175 + 2 * s)), (3, .int (cmN (mI (clOf M s n) (175 + 2 * s + 1)) n i)), (4, .int (nI i))]) (fun i => clOf M s n) ⟨rfl, rfl, rfl, rfl, rfl, trivial⟩ rfl ?_ ?_
  · intro i hi ih
    generalize clOf M s n = M1 at *
    generalize cmN (mI M1 (175 + 2 * s + 1)) n n = X at ih ⊢
    rw [cmN] at ih
    refine g_iload (pc := 16) dX6_components_16 rfl ?_
    refine g_aload_n (pc := 18) dX6_components_18 rfl trivial ?_
    refine g_getf (pc := 19) dX6_components_19 fk_X6_19 (shK hS1 rfl) (fv_obj (shR hS1 rfl)) ?_
    refine g_getf (pc := 22) (v := .int _) dX6_components_22 fk_X6_89 (shK hS1 rfl) (fun _ => congrArg Value.int (hz1)) ?_
    refine g_icmp_ge (pc := 25) (tgt := 55) dX6_components_25 rfl (fun h25 => absurd h25 (nI_ge hi (by omega))) (fun _ => ?_)
    refine g_aload_n (pc := 28) dX6_components_28 rfl trivial ?_
    refine g_iload (pc := 29) dX6_components_29 rfl ?_
    refine g_aload_n (pc := 31) dX6_components_31 rfl trivial ?_
    refine g_getf (pc := 32) dX6_components_32 fk_X6_19 (shK hS1 rfl) (fv_obj (shR hS1 rfl)) ?_
    refine g_getf (pc := 35) (v := .int _) dX6_components_35 fk_X6_89 (shK hS1 rfl) (fun _ => congrArg Value.int (hz1)) ?_
    refine g_invV_r (pc := 38) (As := [_, _]) dX6_components_38 rfl (s_lowestMutual hS1 hc (by omega) hn) rfl rfl (shK hS1 hc.1) rfl rfl lk_X6_172 rfl (nb rfl) ⟨nb rfl, nb rfl⟩ rfl ?_
    refine g_iload (pc := 41) dX6_components_41 rfl ?_
    refine g_icmp_ne (pc := 43) (tgt := 49) dX6_components_43 rfl (fun h43 => ?_) (fun h43 => ?_)
    · rw [if_neg (fun h => h43 (by rw [h]))] at ih
      refine g_iinc (pc := 49) (lv' := [(0, _), (1, _), (2, _), (3, _), (4, _)]) dX6_components_49 rfl (nI_1 _) (nl rfl) rfl ?_
      refine g_goto (pc := 52) (tgt := 16) dX6_components_52 rfl ?_
      exact ih
    · rw [if_pos ((nI_eq (by have := lowMut_lt (mI M1 (175 + 2 * s + 1)) i n; omega) (by omega)).mp (Decidable.not_not.mp h43))] at ih
      refine g_iinc (pc := 46) (lv' := [(0, _), (1, _), (2, _), (3, _), (4, _)]) dX6_components_46 rfl rfl (nl rfl) rfl ?_
      refine g_iinc (pc := 49) (lv' := [(0, _), (1, _), (2, _), (3, _), (4, _)]) dX6_components_49 rfl (nI_1 _) (nl rfl) rfl ?_
      refine g_goto (pc := 52) (tgt := 16) dX6_components_52 rfl ?_
      exact ih
  · refine g_iload (pc := 16) dX6_components_16 rfl ?_
    refine g_aload_n (pc := 18) dX6_components_18 rfl trivial ?_
    refine g_getf (pc := 19) dX6_components_19 fk_X6_19 (shK hS1 rfl) (fv_obj (shR hS1 rfl)) ?_
    refine g_getf (pc := 22) (v := .int _) dX6_components_22 fk_X6_89 (shK hS1 rfl) (fun _ => congrArg Value.int (hz1)) ?_
    refine g_icmp_ge (pc := 25) (tgt := 55) dX6_components_25 rfl (fun _ => ?_) (fun h25 => absurd (nI_le (Nat.le_refl _) (by omega)) h25)
    refine g_iload_n (pc := 55) dX6_components_55 rfl ?_
    refine g_ireturn (pc := 56) dX6_components_56 rfl rfl ?_
    exact ⟨rfl, rfl⟩
theorem x_components {v : Int32} (hS : Shp M) (h : ¬ inR v 6) : EvR l jX6_components 7 120 1 6 [.ref 0, .int v] M (.inr xIO) M := by
  refine ev_intro rfl (nb rfl) rfl ?_
  refine g_aload_n (pc := 0) dX6_components_0 rfl trivial ?_
  refine g_iload_n (pc := 1) dX6_components_1 rfl ?_
  refine g_invV_x (pc := 2) (As := [_]) dX6_components_2 rfl (x_needSlot hS h) rfl rfl (shK hS rfl) rfl rfl lk_X6_141 rfl (nb rfl) ⟨nb rfl, nb rfl⟩ rfl ?_
  exact ⟨rfl, rfl⟩
def dsV (f : Nat → Int32) (a b n : Nat) : Int32 := if a = b then 0 else feF f b n n 1 (f a)
theorem q_distance {s a b n : Nat} (hS : Shp M) (hz : mI M 3 1 = nI n) (hn : n ≤ 32) (hs : s < 6) (ha : a < n) (hb9 : b < n) : EvR l jX6_distance 9 160 3 18 [.ref 0, .int (nI s), .int (nI a), .int (nI b)] M (.inl (some (.int (dsV (mI M (6 + 2 * s)) a b n)))) M := by
  refine ev_intro rfl (nb rfl) rfl ?_
  unfold dsV
  refine g_aload_n (pc := 0) dX6_distance_0 rfl trivial ?_
  refine g_iload_n (pc := 1) dX6_distance_1 rfl ?_
  refine g_iload_n (pc := 2) dX6_distance_2 rfl ?_
  refine g_iload_n (pc := 3) dX6_distance_3 rfl ?_
  refine g_invV_r (pc := 4) (As := [_, _, _]) dX6_distance_4 rfl (s_needCell hS hz (in6 hs) (inR_nI ha (by omega)) (inR_nI hb9 (by omega))) rfl rfl (shK hS rfl) rfl rfl lk_X6_109 rfl (nb rfl) ⟨nb rfl, nb rfl⟩ rfl ?_
  refine g_iload_n (pc := 7) dX6_distance_7 rfl ?_
  refine g_iload_n (pc := 8) dX6_distance_8 rfl ?_
  refine g_icmp_ne (pc := 9) (tgt := 16) dX6_distance_9 rfl (fun h9 => ?_) (fun h9 => ?_)
  · rw [if_neg (fun h => h9 (by rw [h]))]
    refine g_aload_n (pc := 16) dX6_distance_16 rfl trivial ?_
    refine g_aload_n (pc := 17) dX6_distance_17 rfl trivial ?_
    refine g_iload_n (pc := 18) dX6_distance_18 rfl ?_
    refine g_invV_r (pc := 19) (As := [_]) dX6_distance_19 rfl (s_rowsOf hS hs) rfl rfl (shK hS rfl) rfl rfl lk_X6_112 rfl (nb rfl) ⟨nb rfl, nb rfl⟩ rfl ?_
    refine g_iload_n (pc := 22) dX6_distance_22 rfl ?_
    refine g_iload_n (pc := 23) dX6_distance_23 rfl ?_
    refine g_invV_r (pc := 24) (As := [_, _, _]) dX6_distance_24 rfl (s_fewestEdges hS (shK hS (rows_lay hs)) hz hn (by omega) (by omega)) rfl rfl (shK hS rfl) rfl rfl lk_X6_175 rfl (nb rfl) ⟨nb rfl, nb rfl⟩ rfl ?_
    refine g_ireturn (pc := 27) dX6_distance_27 rfl rfl ?_
    exact ⟨rfl, rfl⟩
  · rw [if_pos ((nI_eq (by omega) (by omega)).mp (Decidable.not_not.mp h9))]
    refine g_iconst (pc := 12) (v := 0) dX6_distance_12 rfl ?_
    refine g_goto (pc := 13) (tgt := 27) dX6_distance_13 rfl ?_
    refine g_ireturn (pc := 27) dX6_distance_27 rfl rfl ?_
    exact ⟨rfl, rfl⟩
theorem x_distance {v w u : Int32} {n : Nat} (hS : Shp M) (hz : mI M 3 1 = nI n) (h : ¬ (inR v 6 ∧ inR w n ∧ inR u n)) : EvR l jX6_distance 9 160 3 18 [.ref 0, .int v, .int w, .int u] M (.inr xIO) M := by
  refine ev_intro rfl (nb rfl) rfl ?_
  refine g_aload_n (pc := 0) dX6_distance_0 rfl trivial ?_
  refine g_iload_n (pc := 1) dX6_distance_1 rfl ?_
  refine g_iload_n (pc := 2) dX6_distance_2 rfl ?_
  refine g_iload_n (pc := 3) dX6_distance_3 rfl ?_
  refine g_invV_x (pc := 4) (As := [_, _, _]) dX6_distance_4 rfl (x_needCell hS hz h) rfl rfl (shK hS rfl) rfl rfl lk_X6_109 rfl (nb rfl) ⟨nb rfl, nb rfl⟩ rfl ?_
  exact ⟨rfl, rfl⟩
theorem q_around {s a n : Nat} (hS : Shp M) (hz : mI M 3 1 = nI n) (hn : n ≤ 32) (hs : s < 6) (ha : a < n) : EvR l jX6_around 8 140 2 12 [.ref 0, .int (nI s), .int (nI a)] M (.inl (some (.int (feF (mI M (6 + 2 * s)) a n n 1 (mI M (6 + 2 * s) a))))) M := by
  refine ev_intro rfl (nb rfl) rfl ?_
  refine g_aload_n (pc := 0) dX6_around_0 rfl trivial ?_
  refine g_iload_n (pc := 1) dX6_around_1 rfl ?_
  refine g_iload_n (pc := 2) dX6_around_2 rfl ?_
  refine g_invV_r (pc := 3) (As := [_, _]) dX6_around_3 rfl (s_needRow hS hz (in6 hs) (inR_nI ha (by omega))) rfl rfl (shK hS rfl) rfl rfl lk_X6_120 rfl (nb rfl) ⟨nb rfl, nb rfl⟩ rfl ?_
  refine g_aload_n (pc := 6) dX6_around_6 rfl trivial ?_
  refine g_aload_n (pc := 7) dX6_around_7 rfl trivial ?_
  refine g_iload_n (pc := 8) dX6_around_8 rfl ?_
  refine g_invV_r (pc := 9) (As := [_]) dX6_around_9 rfl (s_rowsOf hS hs) rfl rfl (shK hS rfl) rfl rfl lk_X6_112 rfl (nb rfl) ⟨nb rfl, nb rfl⟩ rfl ?_
  refine g_iload_n (pc := 12) dX6_around_12 rfl ?_
  refine g_iload_n (pc := 13) dX6_around_13 rfl ?_
  refine g_invV_r (pc := 14) (As := [_, _, _]) dX6_around_14 rfl (s_fewestEdges hS (shK hS (rows_lay hs)) hz hn (by omega) (by omega)) rfl rfl (shK hS rfl) rfl rfl lk_X6_175 rfl (nb rfl) ⟨nb rfl, nb rfl⟩ rfl ?_
  refine g_ireturn (pc := 17) dX6_around_17 rfl rfl ?_
  exact ⟨rfl, rfl⟩
theorem x_around {v w : Int32} {n : Nat} (hS : Shp M) (hz : mI M 3 1 = nI n) (h : ¬ (inR v 6 ∧ inR w n)) : EvR l jX6_around 8 140 2 12 [.ref 0, .int v, .int w] M (.inr xIO) M := by
  refine ev_intro rfl (nb rfl) rfl ?_
  refine g_aload_n (pc := 0) dX6_around_0 rfl trivial ?_
  refine g_iload_n (pc := 1) dX6_around_1 rfl ?_
  refine g_iload_n (pc := 2) dX6_around_2 rfl ?_
  refine g_invV_x (pc := 3) (As := [_, _]) dX6_around_3 rfl (x_needRow hS hz h) rfl rfl (shK hS rfl) rfl rfl lk_X6_120 rfl (nb rfl) ⟨nb rfl, nb rfl⟩ rfl ?_
  exact ⟨rfl, rfl⟩
def giV (f : Nat → Int32) (n : Nat) : Nat → Int32
  | 0 => -1
  | k + 1 => if feF f k n n 1 (f k) = -1 then giV f n k else if giV f n k = -1 then feF f k n n 1 (f k) else if giV f n k ≤ feF f k n n 1 (f k) then giV f n k else feF f k n n 1 (f k)
theorem q_girth {s n : Nat} (hS : Shp M) (hz : mI M 3 1 = nI n) (hn : n ≤ 32) (hs : s < 6) : EvR l jX6_girth 7 120 1 6 [.ref 0, .int (nI s)] M (.inl (some (.int (giV (mI M (6 + 2 * s)) n n)))) M := by
  refine ev_intro rfl (nb rfl) rfl ?_
  refine g_aload_n (pc := 0) dX6_girth_0 rfl trivial ?_
  refine g_iload_n (pc := 1) dX6_girth_1 rfl ?_
  refine g_invV_r (pc := 2) (As := [_]) dX6_girth_2 rfl (s_needSlot (in6 hs)) rfl rfl (shK hS rfl) rfl rfl lk_X6_141 rfl (nb rfl) ⟨nb rfl, nb rfl⟩ rfl ?_
  refine g_iconst (pc := 5) (v := (-1)) dX6_girth_5 rfl ?_
  refine g_istore_n (pc := 6) (lv' := [(0, _), (1, _), (2, _)]) dX6_girth_6 (nl rfl) rfl ?_
  refine g_iconst (pc := 7) (v := 0) dX6_girth_7 rfl ?_
  refine g_istore_n (pc := 8) (lv' := [(0, _), (1, _), (2, _), (3, _)]) dX6_girth_8 (nl rfl) rfl ?_
  refine go_loop (pc := 9) n (fun i => [(0, .ref 0), (1, .int (nI s)), (2, .int (giV (mI M (6 + 2 * s)) n i)), (3, .int (nI i))]) (fun i => M) ⟨rfl, rfl, rfl, rfl, trivial⟩ rfl ?_ ?_
  · intro i hi ih
    generalize giV (mI M (6 + 2 * s)) n n = X at ih ⊢
    rw [giV] at ih
    refine g_iload_n (pc := 9) dX6_girth_9 rfl ?_
    refine g_aload_n (pc := 10) dX6_girth_10 rfl trivial ?_
    refine g_getf (pc := 11) dX6_girth_11 fk_X6_19 (shK hS rfl) (fv_obj (shR hS rfl)) ?_
    refine g_getf (pc := 14) (v := .int _) dX6_girth_14 fk_X6_89 (shK hS rfl) (fun _ => congrArg Value.int (hz)) ?_
    refine g_icmp_ge (pc := 17) (tgt := 59) dX6_girth_17 rfl (fun h17 => absurd h17 (nI_ge hi (by omega))) (fun _ => ?_)
    refine g_aload_n (pc := 20) dX6_girth_20 rfl trivial ?_
    refine g_aload_n (pc := 21) dX6_girth_21 rfl trivial ?_
    refine g_iload_n (pc := 22) dX6_girth_22 rfl ?_
    refine g_invV_r (pc := 23) (As := [_]) dX6_girth_23 rfl (s_rowsOf hS hs) rfl rfl (shK hS rfl) rfl rfl lk_X6_112 rfl (nb rfl) ⟨nb rfl, nb rfl⟩ rfl ?_
    refine g_iload_n (pc := 26) dX6_girth_26 rfl ?_
    refine g_iload_n (pc := 27) dX6_girth_27 rfl ?_
    refine g_invV_r (pc := 28) (As := [_, _, _]) dX6_girth_28 rfl (s_fewestEdges hS (shK hS (rows_lay hs)) hz hn (by omega) (by omega)) rfl rfl (shK hS rfl) rfl rfl lk_X6_175 rfl (nb rfl) ⟨nb rfl, nb rfl⟩ rfl ?_
    refine g_istore (pc := 31) (lv' := [(0, _), (1, _), (2, _), (3, _), (4, _)]) dX6_girth_31 (nl rfl) rfl ?_
    refine g_iload (pc := 33) dX6_girth_33 rfl ?_
    refine g_iconst (pc := 35) (v := (-1)) dX6_girth_35 rfl ?_
    refine g_icmp_eq (pc := 36) (tgt := 53) dX6_girth_36 rfl (fun h36 => ?_) (fun h36 => ?_)
    · rw [if_pos h36] at ih
      refine g_iinc (pc := 53) (lv' := [(0, _), (1, _), (2, _), (3, _), (4, _)]) dX6_girth_53 rfl (nI_1 _) (nl rfl) rfl ?_
      refine g_goto (pc := 56) (tgt := 9) dX6_girth_56 rfl ?_
      exact g_sub (lv' := [(0, _), (1, _), (2, _), (3, _)]) ⟨rfl, rfl, rfl, rfl, trivial⟩ ih
    · rw [if_neg h36] at ih
      refine g_iload_n (pc := 39) dX6_girth_39 rfl ?_
      refine g_iconst (pc := 40) (v := (-1)) dX6_girth_40 rfl ?_
      refine g_icmp_eq (pc := 41) (tgt := 50) dX6_girth_41 rfl (fun h41 => ?_) (fun h41 => ?_)
      · rw [if_pos h41] at ih
        refine g_iload (pc := 50) dX6_girth_50 rfl ?_
        refine g_istore_n (pc := 52) (lv' := [(0, _), (1, _), (2, _), (3, _), (4, _)]) dX6_girth_52 (nl rfl) rfl ?_
        refine g_iinc (pc := 53) (lv' := [(0, _), (1, _), (2, _), (3, _), (4, _)]) dX6_girth_53 rfl (nI_1 _) (nl rfl) rfl ?_
        refine g_goto (pc := 56) (tgt := 9) dX6_girth_56 rfl ?_
        exact g_sub (lv' := [(0, _), (1, _), (2, _), (3, _)]) ⟨rfl, rfl, rfl, rfl, trivial⟩ ih
      · rw [if_neg h41] at ih
        refine g_iload (pc := 44) dX6_girth_44 rfl ?_
        refine g_iload_n (pc := 46) dX6_girth_46 rfl ?_
        refine g_icmp_ge (pc := 47) (tgt := 53) dX6_girth_47 rfl (fun h47 => ?_) (fun h47 => ?_)
        · rw [if_pos h47] at ih
          refine g_iinc (pc := 53) (lv' := [(0, _), (1, _), (2, _), (3, _), (4, _)]) dX6_girth_53 rfl (nI_1 _) (nl rfl) rfl ?_
          refine g_goto (pc := 56) (tgt := 9) dX6_girth_56 rfl ?_
          exact g_sub (lv' := [(0, _), (1, _), (2, _), (3, _)]) ⟨rfl, rfl, rfl, rfl, trivial⟩ ih
        · rw [if_neg h47] at ih
          refine g_iload (pc := 50) dX6_girth_50 rfl ?_
          refine g_istore_n (pc := 52) (lv' := [(0, _), (1, _), (2, _), (3, _), (4, _)]) dX6_girth_52 (nl rfl) rfl ?_
          refine g_iinc (pc := 53) (lv' := [(0, _), (1, _), (2, _), (3, _), (4, _)]) dX6_girth_53 rfl (nI_1 _) (nl rfl) rfl ?_
          refine g_goto (pc := 56) (tgt := 9) dX6_girth_56 rfl ?_
          exact g_sub (lv' := [(0, _), (1, _), (2, _), (3, _)]) ⟨rfl, rfl, rfl, rfl, trivial⟩ ih
  · refine g_iload_n (pc := 9) dX6_girth_9 rfl ?_
    refine g_aload_n (pc := 10) dX6_girth_10 rfl trivial ?_
    refine g_getf (pc := 11) dX6_girth_11 fk_X6_19 (shK hS rfl) (fv_obj (shR hS rfl)) ?_
    refine g_getf (pc := 14) (v := .int _) dX6_girth_14 fk_X6_89 (shK hS rfl) (fun _ => congrArg Value.int (hz)) ?_
    refine g_icmp_ge (pc := 17) (tgt := 59) dX6_girth_17 rfl (fun _ => ?_) (fun h17 => absurd (nI_le (Nat.le_refl _) (by omega)) h17)
    refine g_iload_n (pc := 59) dX6_girth_59 rfl ?_
    refine g_ireturn (pc := 60) dX6_girth_60 rfl rfl ?_
    exact ⟨rfl, rfl⟩
theorem x_girth {v : Int32} (hS : Shp M) (h : ¬ inR v 6) : EvR l jX6_girth 7 120 1 6 [.ref 0, .int v] M (.inr xIO) M := by
  refine ev_intro rfl (nb rfl) rfl ?_
  refine g_aload_n (pc := 0) dX6_girth_0 rfl trivial ?_
  refine g_iload_n (pc := 1) dX6_girth_1 rfl ?_
  refine g_invV_x (pc := 2) (As := [_]) dX6_girth_2 rfl (x_needSlot hS h) rfl rfl (shK hS rfl) rfl rfl lk_X6_141 rfl (nb rfl) ⟨nb rfl, nb rfl⟩ rfl ?_
  exact ⟨rfl, rfl⟩
theorem q_loadErr (hS : Shp M) : EvR l jX6_loadError 0 0 0 0 [.ref 0] M (.inl (some (.int (mI M 1 5)))) M := by
  refine ev_intro rfl (nb rfl) rfl ?_
  refine g_aload_n (pc := 0) dX6_loadError_0 rfl trivial ?_
  refine g_getf (pc := 1) dX6_loadError_1 fk_X6_10 (shK hS rfl) (fv_obj (shR hS rfl)) ?_
  refine g_getf (pc := 4) (v := .int (mI _ _ _)) dX6_loadError_4 fk_X6_76 (shK hS rfl) (fun _ => rfl) ?_
  refine g_ireturn (pc := 7) dX6_loadError_7 rfl rfl ?_
  exact ⟨rfl, rfl⟩
theorem q_loadStatement (hS : Shp M) : EvR l jX6_loadStatement 0 0 0 0 [.ref 0] M (.inl (some (.int (if mI M 1 5 = 0 then -1 else mI M 1 4)))) M := by
  refine ev_intro rfl (nb rfl) rfl ?_
  refine g_aload_n (pc := 0) dX6_loadStatement_0 rfl trivial ?_
  refine g_getf (pc := 1) dX6_loadStatement_1 fk_X6_10 (shK hS rfl) (fv_obj (shR hS rfl)) ?_
  refine g_getf (pc := 4) (v := .int (mI _ _ _)) dX6_loadStatement_4 fk_X6_76 (shK hS rfl) (fun _ => rfl) ?_
  refine g_if_ne (pc := 7) (tgt := 14) dX6_loadStatement_7 rfl (fun h7 => ?_) (fun h7 => ?_)
  · rw [if_neg h7]
    refine g_aload_n (pc := 14) dX6_loadStatement_14 rfl trivial ?_
    refine g_getf (pc := 15) dX6_loadStatement_15 fk_X6_10 (shK hS rfl) (fv_obj (shR hS rfl)) ?_
    refine g_getf (pc := 18) (v := .int (mI _ _ _)) dX6_loadStatement_18 fk_X6_92 (shK hS rfl) (fun _ => rfl) ?_
    refine g_ireturn (pc := 21) dX6_loadStatement_21 rfl rfl ?_
    exact ⟨rfl, rfl⟩
  · rw [if_pos (Decidable.not_not.mp h7)]
    refine g_iconst (pc := 10) (v := (-1)) dX6_loadStatement_10 rfl ?_
    refine g_goto (pc := 11) (tgt := 21) dX6_loadStatement_11 rfl ?_
    refine g_ireturn (pc := 21) dX6_loadStatement_21 rfl rfl ?_
    exact ⟨rfl, rfl⟩
theorem q_append {x : Int64} {len : Nat} (hS : Shp M) (hl : mI M 1 1 = nI len) (hL : len ≤ 600) : EvR l jX6_append 1 30 0 0 [.ref 0, .long x] M (.inl (some (.int (apV M len x)))) (apM M len x) := by
  refine ev_intro rfl (nb rfl) rfl ?_
  refine g_aload_n (pc := 0) dX6_append_0 rfl trivial ?_
  refine g_getf (pc := 1) dX6_append_1 fk_X6_10 (shK hS rfl) (fv_obj (shR hS rfl)) ?_
  refine g_lload_n (pc := 4) dX6_append_4 rfl ?_
  refine g_invV_r (pc := 5) (As := [_]) dX6_append_5 rfl (r_addBytes hS hl hL) rfl rfl (shK hS rfl) rfl rfl lk_X6_68 rfl (nb rfl) ⟨nb rfl, nb rfl⟩ rfl ?_
  refine g_ireturn (pc := 8) dX6_append_8 rfl rfl ?_
  exact ⟨rfl, rfl⟩
end
end
-- 202.query
section
section
variable {l : Launch} {M : Mem}
def smF (f : Nat → Int32) (n : Nat) : Nat → Nat → Bool
  | 0, _ => true
  | d + 1, i => if f i = colOf f i n then smF f n d (i + 1) else false
theorem q_isSymmetric {s n : Nat} (hS : Shp M) (hz : mI M 3 1 = nI n) (hn : n ≤ 32) (hs : s < 6) : EvR l jX6_isSymmetric 7 120 1 6 [.ref 0, .int (nI s)] M (.inl (some (.int (b1 (smF (mI M (6 + 2 * s)) n n 0))))) M := by
  obtain ⟨S, hs9⟩ : ∃ S, S = smF (mI M (6 + 2 * s)) n n 0 := ⟨_, rfl⟩
  rw [← hs9]
  refine ev_intro rfl (nb rfl) rfl ?_
  refine g_aload_n (pc := 0) dX6_isSymmetric_0 rfl trivial ?_
  refine g_iload_n (pc := 1) dX6_isSymmetric_1 rfl ?_
  refine g_invV_r (pc := 2) (As := [_]) dX6_isSymmetric_2 rfl (s_needSlot (in6 hs)) rfl rfl (shK hS rfl) rfl rfl lk_X6_141 rfl (nb rfl) ⟨nb rfl, nb rfl⟩ rfl ?_
  refine g_aload_n (pc := 5) dX6_isSymmetric_5 rfl trivial ?_
  refine g_iload_n (pc := 6) dX6_isSymmetric_6 rfl ?_
  refine g_invV_r (pc := 7) (As := [_]) dX6_isSymmetric_7 rfl (s_rowsOf hS hs) rfl rfl (shK hS rfl) rfl rfl lk_X6_112 rfl (nb rfl) ⟨nb rfl, nb rfl⟩ rfl ?_
  refine g_astore_n (pc := 10) (lv' := [(0, _), (1, _), (2, _)]) dX6_isSymmetric_10 trivial (nl rfl) rfl ?_
  refine g_iconst (pc := 11) (v := 0) dX6_isSymmetric_11 rfl ?_
  refine g_istore_n (pc := 12) (lv' := [(0, _), (1, _), (2, _), (3, _)]) dX6_isSymmetric_12 (nl rfl) rfl ?_
  refine go_while (pc := 13) (σ := Nat) (fun i => i ≤ n ∧ smF (mI M (6 + 2 * s)) n (n - i) i = S) (fun i => n - i) (fun i => [(0, .ref 0), (1, .int (nI s)), (2, .ref (6 + 2 * s)), (3, .int (nI i))]) (fun _ => M) 0 ⟨rfl, rfl, rfl, rfl, trivial⟩ rfl ⟨Nat.zero_le _, hs9.symm⟩ ?_
  rintro i ⟨h1, h2⟩ ih
  by_cases hi : i < n
  · rw [show n - i = (n - (i + 1)) + 1 by omega, smF] at h2
    refine g_iload_n (pc := 13) dX6_isSymmetric_13 rfl ?_
    refine g_aload_n (pc := 14) dX6_isSymmetric_14 rfl trivial ?_
    refine g_getf (pc := 15) dX6_isSymmetric_15 fk_X6_19 (shK hS rfl) (fv_obj (shR hS rfl)) ?_
    refine g_getf (pc := 18) (v := .int _) dX6_isSymmetric_18 fk_X6_89 (shK hS rfl) (fun _ => congrArg Value.int (hz)) ?_
    refine g_icmp_ge (pc := 21) (tgt := 50) dX6_isSymmetric_21 rfl (fun h21 => absurd h21 (nI_ge hi (by omega))) (fun _ => ?_)
    refine g_aload_n (pc := 24) dX6_isSymmetric_24 rfl trivial ?_
    refine g_iload_n (pc := 25) dX6_isSymmetric_25 rfl ?_
    refine g_iaload (pc := 26) dX6_isSymmetric_26 (shK hS (rows_lay hs)) rfl (by omega) (nl rfl) ?_
    refine g_aload_n (pc := 27) dX6_isSymmetric_27 rfl trivial ?_
    refine g_iload_n (pc := 28) dX6_isSymmetric_28 rfl ?_
    refine g_aload_n (pc := 29) dX6_isSymmetric_29 rfl trivial ?_
    refine g_getf (pc := 30) dX6_isSymmetric_30 fk_X6_19 (shK hS rfl) (fv_obj (shR hS rfl)) ?_
    refine g_getf (pc := 33) (v := .int _) dX6_isSymmetric_33 fk_X6_89 (shK hS rfl) (fun _ => congrArg Value.int (hz)) ?_
    refine g_invS_r (pc := 36) (As := [_, _, _]) dX6_isSymmetric_36 rfl (s_columnOf (shK hS (rows_lay hs)) (show i < 32 by omega) hn) rfl rfl lk_X6_149 rfl (nb rfl) ⟨nb rfl, nb rfl⟩ rfl ?_
    refine g_icmp_eq (pc := 39) (tgt := 44) dX6_isSymmetric_39 rfl (fun h39 => ?_) (fun h39 => ?_)
    · rw [if_pos h39] at h2
      refine g_iinc (pc := 44) (lv' := [(0, _), (1, _), (2, _), (3, _)]) dX6_isSymmetric_44 rfl (nI_1 _) (nl rfl) rfl ?_
      refine g_goto (pc := 47) (tgt := 13) dX6_isSymmetric_47 rfl ?_
      exact ih (i + 1) ⟨by omega, h2⟩ (by omega)
    · rw [if_neg h39] at h2
      refine g_iconst (pc := 42) (v := 0) dX6_isSymmetric_42 rfl ?_
      refine g_ireturn (pc := 43) dX6_isSymmetric_43 rfl rfl ?_
      exact ⟨by rw [← h2]; rfl, rfl⟩
  · have hi' : i = n := by omega
    subst hi'
    refine g_iload_n (pc := 13) dX6_isSymmetric_13 rfl ?_
    refine g_aload_n (pc := 14) dX6_isSymmetric_14 rfl trivial ?_
    refine g_getf (pc := 15) dX6_isSymmetric_15 fk_X6_19 (shK hS rfl) (fv_obj (shR hS rfl)) ?_
    refine g_getf (pc := 18) (v := .int _) dX6_isSymmetric_18 fk_X6_89 (shK hS rfl) (fun _ => congrArg Value.int (hz)) ?_
    refine g_icmp_ge (pc := 21) (tgt := 50) dX6_isSymmetric_21 rfl (fun _ => ?_) (fun h21 => absurd (nI_le (Nat.le_refl _) (by omega)) h21)
    refine g_iconst (pc := 50) (v := 1) dX6_isSymmetric_50 rfl ?_
    refine g_ireturn (pc := 51) dX6_isSymmetric_51 rfl rfl ?_
    exact ⟨by rw [← h2, Nat.sub_self]; rfl, rfl⟩
theorem x_isSymmetric {v : Int32} (hS : Shp M) (h : ¬ inR v 6) : EvR l jX6_isSymmetric 7 120 1 6 [.ref 0, .int v] M (.inr xIO) M := by
  refine ev_intro rfl (nb rfl) rfl ?_
  refine g_aload_n (pc := 0) dX6_isSymmetric_0 rfl trivial ?_
  refine g_iload_n (pc := 1) dX6_isSymmetric_1 rfl ?_
  refine g_invV_x (pc := 2) (As := [_]) dX6_isSymmetric_2 rfl (x_needSlot hS h) rfl rfl (shK hS rfl) rfl rfl lk_X6_141 rfl (nb rfl) ⟨nb rfl, nb rfl⟩ rfl ?_
  exact ⟨rfl, rfl⟩
/-- the node at a place of an order: d places are left, p is the place, y what is left -/
def orF (f : Nat → Int32) (n : Nat) (x : Int32) : Nat → Nat → Int32 → Int32
  | 0, _, _ => -1
  | d + 1, p, y => if y &&& (jrF f y n ^^^ -1) = 0 then -1 else if nI p = x then nI (lowN (y &&& (jrF f y n ^^^ -1))) else orF f n x d (p + 1) (y &&& (bitI (lowN (y &&& (jrF f y n ^^^ -1))) ^^^ -1))
theorem q_order {s n : Nat} {x : Int32} (hS : Shp M) (hz : mI M 3 1 = nI n) (hn : n ≤ 32) (hs : s < 6) : EvR l jX6_order 7 120 1 6 [.ref 0, .int (nI s), .int x] M (.inl (some (.int (orF (mI M (6 + 2 * s)) n x n 0 (lowM n))))) M := by
  obtain ⟨S, hs9⟩ : ∃ S, S = orF (mI M (6 + 2 * s)) n x n 0 (lowM n) := ⟨_, rfl⟩
  rw [← hs9]
  refine ev_intro rfl (nb rfl) rfl ?_
  refine g_aload_n (pc := 0) dX6_order_0 rfl trivial ?_
  refine g_iload_n (pc := 1) dX6_order_1 rfl ?_
  refine g_invV_r (pc := 2) (As := [_]) dX6_order_2 rfl (s_needSlot (in6 hs)) rfl rfl (shK hS rfl) rfl rfl lk_X6_141 rfl (nb rfl) ⟨nb rfl, nb rfl⟩ rfl ?_
  refine g_aload_n (pc := 5) dX6_order_5 rfl trivial ?_
  refine g_getf (pc := 6) dX6_order_6 fk_X6_19 (shK hS rfl) (fv_obj (shR hS rfl)) ?_
  refine g_getf (pc := 9) (v := .int _) dX6_order_9 fk_X6_89 (shK hS rfl) (fun _ => congrArg Value.int (hz)) ?_
  refine g_invS_r (pc := 12) (As := [_]) dX6_order_12 rfl (s_lowest hn) rfl rfl lk_X6_128 rfl (nb rfl) ⟨nb rfl, nb rfl⟩ rfl ?_
  refine g_istore_n (pc := 15) (lv' := [(0, _), (1, _), (2, _), (3, _)]) dX6_order_15 (nl rfl) rfl ?_
  refine g_iconst (pc := 16) (v := 0) dX6_order_16 rfl ?_
  refine g_istore (pc := 17) (lv' := [(0, _), (1, _), (2, _), (3, _), (4, _)]) dX6_order_17 (nl rfl) rfl ?_
  refine go_while (pc := 19) (σ := Nat × Int32) (fun q => q.1 ≤ n ∧ orF (mI M (6 + 2 * s)) n x (n - q.1) q.1 q.2 = S) (fun q => n - q.1) (fun q => [(0, .ref 0), (1, .int (nI s)), (2, .int x), (3, .int q.2), (4, .int (nI q.1))]) (fun _ => M) (0, lowM n) ⟨rfl, rfl, rfl, rfl, rfl, trivial⟩ rfl ⟨Nat.zero_le _, hs9.symm⟩ ?_
  rintro ⟨i, y⟩ ⟨h1, h2⟩ ih
  simp only at h1 h2 ih
  by_cases hi : i < n
  · rw [show n - i = (n - (i + 1)) + 1 by omega, orF] at h2
    have ih1 := fun y' => ih (i + 1, y')
    refine g_iload (pc := 19) dX6_order_19 rfl ?_
    refine g_aload_n (pc := 21) dX6_order_21 rfl trivial ?_
    refine g_getf (pc := 22) dX6_order_22 fk_X6_19 (shK hS rfl) (fv_obj (shR hS rfl)) ?_
    refine g_getf (pc := 25) (v := .int _) dX6_order_25 fk_X6_89 (shK hS rfl) (fun _ => congrArg Value.int (hz)) ?_
    refine g_icmp_ge (pc := 28) (tgt := 85) dX6_order_28 rfl (fun h28 => absurd h28 (nI_ge hi (by omega))) (fun _ => ?_)
    refine g_iload_n (pc := 31) dX6_order_31 rfl ?_
    refine g_aload_n (pc := 32) dX6_order_32 rfl trivial ?_
    refine g_aload_n (pc := 33) dX6_order_33 rfl trivial ?_
    refine g_iload_n (pc := 34) dX6_order_34 rfl ?_
    refine g_invV_r (pc := 35) (As := [_]) dX6_order_35 rfl (s_rowsOf hS hs) rfl rfl (shK hS rfl) rfl rfl lk_X6_112 rfl (nb rfl) ⟨nb rfl, nb rfl⟩ rfl ?_
    refine g_iload_n (pc := 38) dX6_order_38 rfl ?_
    refine g_invV_r (pc := 39) (As := [_, _]) dX6_order_39 rfl (s_joinedRows hS (shK hS (rows_lay hs)) hz hn) rfl rfl (shK hS rfl) rfl rfl lk_X6_189 rfl (nb rfl) ⟨nb rfl, nb rfl⟩ rfl ?_
    refine g_iconst (pc := 42) (v := (-1)) dX6_order_42 rfl ?_
    refine g_ixor (pc := 43) dX6_order_43 ?_
    refine g_iand (pc := 44) dX6_order_44 ?_
    refine g_istore (pc := 45) (lv' := [(0, _), (1, _), (2, _), (3, _), (4, _), (5, _)]) dX6_order_45 (nl rfl) rfl ?_
    refine g_iload (pc := 47) dX6_order_47 rfl ?_
    refine g_if_ne (pc := 49) (tgt := 54) dX6_order_49 rfl (fun h49 => ?_) (fun h49 => ?_)
    · rw [if_neg h49] at h2
      refine g_iload (pc := 54) dX6_order_54 rfl ?_
      refine g_invS_r (pc := 56) (As := [_]) dX6_order_56 rfl (s_lowestOne) rfl rfl lk_X6_186 rfl (nb rfl) ⟨nb rfl, nb rfl⟩ rfl ?_
      refine g_istore (pc := 59) (lv' := [(0, _), (1, _), (2, _), (3, _), (4, _), (5, _), (6, _)]) dX6_order_59 (nl rfl) rfl ?_
      refine g_iload (pc := 61) dX6_order_61 rfl ?_
      refine g_iload_n (pc := 63) dX6_order_63 rfl ?_
      refine g_icmp_ne (pc := 64) (tgt := 70) dX6_order_64 rfl (fun h64 => ?_) (fun h64 => ?_)
      · rw [if_neg h64] at h2
        refine g_iload_n (pc := 70) dX6_order_70 rfl ?_
        refine g_iconst (pc := 71) (v := 1) dX6_order_71 rfl ?_
        refine g_iload (pc := 72) dX6_order_72 rfl ?_
        refine g_ishl (pc := 74) dX6_order_74 ?_
        refine g_iconst (pc := 75) (v := (-1)) dX6_order_75 rfl ?_
        refine g_ixor (pc := 76) dX6_order_76 ?_
        refine g_iand (pc := 77) dX6_order_77 ?_
        refine g_istore_n (pc := 78) (lv' := [(0, _), (1, _), (2, _), (3, _), (4, _), (5, _), (6, _)]) dX6_order_78 (nl rfl) rfl ?_
        refine g_iinc (pc := 79) (lv' := [(0, _), (1, _), (2, _), (3, _), (4, _), (5, _), (6, _)]) dX6_order_79 rfl (nI_1 _) (nl rfl) rfl ?_
        refine g_goto (pc := 82) (tgt := 19) dX6_order_82 rfl ?_
        exact g_sub (lv' := [(0, _), (1, _), (2, _), (3, _), (4, _)]) ⟨rfl, rfl, rfl, rfl, rfl, trivial⟩ (ih1 _ ⟨by simp only; omega, h2⟩ (by simp only; omega))
      · rw [if_pos (Decidable.not_not.mp h64)] at h2
        refine g_iload (pc := 67) dX6_order_67 rfl ?_
        refine g_ireturn (pc := 69) dX6_order_69 rfl rfl ?_
        exact ⟨by rw [← h2], rfl⟩
    · rw [if_pos (Decidable.not_not.mp h49)] at h2
      refine g_iconst (pc := 52) (v := (-1)) dX6_order_52 rfl ?_
      refine g_ireturn (pc := 53) dX6_order_53 rfl rfl ?_
      exact ⟨by rw [← h2], rfl⟩
  · have hi' : i = n := by omega
    subst hi'
    refine g_iload (pc := 19) dX6_order_19 rfl ?_
    refine g_aload_n (pc := 21) dX6_order_21 rfl trivial ?_
    refine g_getf (pc := 22) dX6_order_22 fk_X6_19 (shK hS rfl) (fv_obj (shR hS rfl)) ?_
    refine g_getf (pc := 25) (v := .int _) dX6_order_25 fk_X6_89 (shK hS rfl) (fun _ => congrArg Value.int (hz)) ?_
    refine g_icmp_ge (pc := 28) (tgt := 85) dX6_order_28 rfl (fun _ => ?_) (fun h28 => absurd (nI_le (Nat.le_refl _) (by omega)) h28)
    refine g_iconst (pc := 85) (v := (-1)) dX6_order_85 rfl ?_
    refine g_ireturn (pc := 86) dX6_order_86 rfl rfl ?_
    exact ⟨by rw [← h2, Nat.sub_self]; rfl, rfl⟩
theorem x_order {v x : Int32} (hS : Shp M) (h : ¬ inR v 6) : EvR l jX6_order 7 120 1 6 [.ref 0, .int v, .int x] M (.inr xIO) M := by
  refine ev_intro rfl (nb rfl) rfl ?_
  refine g_aload_n (pc := 0) dX6_order_0 rfl trivial ?_
  refine g_iload_n (pc := 1) dX6_order_1 rfl ?_
  refine g_invV_x (pc := 2) (As := [_]) dX6_order_2 rfl (x_needSlot hS h) rfl rfl (shK hS rfl) rfl rfl lk_X6_141 rfl (nb rfl) ⟨nb rfl, nb rfl⟩ rfl ?_
  exact ⟨rfl, rfl⟩
theorem q_gained {s a b n : Nat} (hS : Shp M) (hz : mI M 3 1 = nI n) (hn : n ≤ 32) (hs : s < 6) (ha : a < n) (hb9 : b < n) : EvR l jX6_gained 9 160 3 18 [.ref 0, .int (nI s), .int (nI a), .int (nI b)] M (.inl (some (.int (gainW (mI (clOf M s n) (175 + 2 * s + 1)) (nodesTo (mI (clOf M s n) (175 + 2 * s + 1)) a n) b n)))) (clOf M s n) := by
  have hS1 := clOf_S hS s n
  have hc := cl_ok' s hs
  have hz1 := clOf_z hz hs
  refine ev_intro rfl (nb rfl) rfl ?_
  refine g_aload_n (pc := 0) dX6_gained_0 rfl trivial ?_
  refine g_iload_n (pc := 1) dX6_gained_1 rfl ?_
  refine g_iload_n (pc := 2) dX6_gained_2 rfl ?_
  refine g_iload_n (pc := 3) dX6_gained_3 rfl ?_
  refine g_invV_r (pc := 4) (As := [_, _, _]) dX6_gained_4 rfl (s_needCell hS hz (in6 hs) (inR_nI ha (by omega)) (inR_nI hb9 (by omega))) rfl rfl (shK hS rfl) rfl rfl lk_X6_109 rfl (nb rfl) ⟨nb rfl, nb rfl⟩ rfl ?_
  refine g_aload_n (pc := 7) dX6_gained_7 rfl trivial ?_
  refine g_iload_n (pc := 8) dX6_gained_8 rfl ?_
  refine g_invV_r (pc := 9) (As := [_]) dX6_gained_9 rfl (s_closureOf hS hs hz hn) rfl rfl (shK hS rfl) rfl rfl lk_X6_162 rfl (nb rfl) ⟨nb rfl, nb rfl⟩ rfl ?_
  refine g_astore (pc := 12) (lv' := [(0, _), (1, _), (2, _), (3, _), (4, _)]) dX6_gained_12 trivial (nl rfl) rfl ?_
  refine g_aload (pc := 14) dX6_gained_14 rfl trivial ?_
  refine g_aload (pc := 16) dX6_gained_16 rfl trivial ?_
  refine g_iload_n (pc := 18) dX6_gained_18 rfl ?_
  refine g_aload_n (pc := 19) dX6_gained_19 rfl trivial ?_
  refine g_getf (pc := 20) dX6_gained_20 fk_X6_19 (shK hS1 rfl) (fv_obj (shR hS1 rfl)) ?_
  refine g_getf (pc := 23) (v := .int _) dX6_gained_23 fk_X6_89 (shK hS1 rfl) (fun _ => congrArg Value.int (hz1)) ?_
  refine g_invV_r (pc := 26) (As := [_, _]) dX6_gained_26 rfl (s_nodesTo hS1 hc (by omega) hn) rfl rfl (shK hS1 hc.1) rfl rfl lk_X6_192 rfl (nb rfl) ⟨nb rfl, nb rfl⟩ rfl ?_
  refine g_iload_n (pc := 29) dX6_gained_29 rfl ?_
  refine g_aload_n (pc := 30) dX6_gained_30 rfl trivial ?_
  refine g_getf (pc := 31) dX6_gained_31 fk_X6_19 (shK hS1 rfl) (fv_obj (shR hS1 rfl)) ?_
  refine g_getf (pc := 34) (v := .int _) dX6_gained_34 fk_X6_89 (shK hS1 rfl) (fun _ => congrArg Value.int (hz1)) ?_
  refine g_invV_r (pc := 37) (As := [_, _, _]) dX6_gained_37 rfl (s_gainWith hS1 hc (by omega) hn) rfl rfl (shK hS1 hc.1) rfl rfl lk_X6_195 rfl (nb rfl) ⟨nb rfl, nb rfl⟩ rfl ?_
  refine g_ireturn (pc := 40) dX6_gained_40 rfl rfl ?_
  exact ⟨rfl, rfl⟩
theorem x_gained {v w u : Int32} {n : Nat} (hS : Shp M) (hz : mI M 3 1 = nI n) (h : ¬ (inR v 6 ∧ inR w n ∧ inR u n)) : EvR l jX6_gained 9 160 3 18 [.ref 0, .int v, .int w, .int u] M (.inr xIO) M := by
  refine ev_intro rfl (nb rfl) rfl ?_
  refine g_aload_n (pc := 0) dX6_gained_0 rfl trivial ?_
  refine g_iload_n (pc := 1) dX6_gained_1 rfl ?_
  refine g_iload_n (pc := 2) dX6_gained_2 rfl ?_
  refine g_iload_n (pc := 3) dX6_gained_3 rfl ?_
  refine g_invV_x (pc := 4) (As := [_, _, _]) dX6_gained_4 rfl (x_needCell hS hz h) rfl rfl (shK hS rfl) rfl rfl lk_X6_109 rfl (nb rfl) ⟨nb rfl, nb rfl⟩ rfl ?_
  exact ⟨rfl, rfl⟩
def loV (M : Mem) (s a b n : Nat) : Int32 := lossB (mI (clOf (lwMem M s a b n) s n) (176 + 2 * s)) (mI (lwMem M s a b n) 195) a b n
def loM (M : Mem) (s a b n : Nat) : Mem := clOf (lwMem M s a b n) s n
theorem q_lost {s a b n : Nat} (hS : Shp M) (hz : mI M 3 1 = nI n) (hn : n ≤ 32) (hs : s < 6) (ha : a < n) (hb9 : b < n) : EvR l jX6_lost 9 190 3 18 [.ref 0, .int (nI s), .int (nI a), .int (nI b)] M (.inl (some (.int (if hb (mI M (6 + 2 * s) a) b = true then loV M s a b n else -1)))) (if hb (mI M (6 + 2 * s) a) b = true then loM M s a b n else M) := by
  refine ev_intro rfl (nb rfl) rfl ?_
  unfold loV loM
  refine g_aload_n (pc := 0) dX6_lost_0 rfl trivial ?_
  refine g_iload_n (pc := 1) dX6_lost_1 rfl ?_
  refine g_iload_n (pc := 2) dX6_lost_2 rfl ?_
  refine g_iload_n (pc := 3) dX6_lost_3 rfl ?_
  refine g_invV_r (pc := 4) (As := [_, _, _]) dX6_lost_4 rfl (s_needCell hS hz (in6 hs) (inR_nI ha (by omega)) (inR_nI hb9 (by omega))) rfl rfl (shK hS rfl) rfl rfl lk_X6_109 rfl (nb rfl) ⟨nb rfl, nb rfl⟩ rfl ?_
  refine g_aload_n (pc := 7) dX6_lost_7 rfl trivial ?_
  refine g_iload_n (pc := 8) dX6_lost_8 rfl ?_
  refine g_invV_r (pc := 9) (As := [_]) dX6_lost_9 rfl (s_rowsOf hS hs) rfl rfl (shK hS rfl) rfl rfl lk_X6_112 rfl (nb rfl) ⟨nb rfl, nb rfl⟩ rfl ?_
  refine g_iload_n (pc := 12) dX6_lost_12 rfl ?_
  refine g_iaload (pc := 13) dX6_lost_13 (shK hS (rows_lay hs)) rfl (by omega) (nl rfl) ?_
  refine g_iload_n (pc := 14) dX6_lost_14 rfl ?_
  refine g_invS_r (pc := 15) (As := [_, _]) dX6_lost_15 rfl (s_hasOne (by omega)) rfl rfl lk_X6_116 rfl (nb rfl) ⟨nb rfl, nb rfl⟩ rfl ?_
  refine g_if_eq (pc := 18) (tgt := 31) dX6_lost_18 rfl (fun h18 => ?_) (fun h18 => ?_)
  · rw [b1_0] at h18
    rw [if_neg (by rw [h18]; decide), if_neg (by rw [h18]; decide)]
    refine g_iconst (pc := 31) (v := (-1)) dX6_lost_31 rfl ?_
    refine g_ireturn (pc := 32) dX6_lost_32 rfl rfl ?_
    exact ⟨rfl, rfl⟩
  · rw [b1_0, Bool.not_eq_false] at h18
    rw [if_pos h18, if_pos h18]
    refine g_aload_n (pc := 21) dX6_lost_21 rfl trivial ?_
    refine g_iload_n (pc := 22) dX6_lost_22 rfl ?_
    refine g_iload_n (pc := 23) dX6_lost_23 rfl ?_
    refine g_iload_n (pc := 24) dX6_lost_24 rfl ?_
    refine g_invV_r (pc := 25) (As := [_, _, _]) dX6_lost_25 rfl (s_lossWithout hS hs hz hn ha hb9) rfl rfl (shK hS rfl) rfl rfl lk_X6_198 rfl (nb rfl) ⟨nb rfl, nb rfl⟩ rfl ?_
    refine g_goto (pc := 28) (tgt := 32) dX6_lost_28 rfl ?_
    refine g_ireturn (pc := 32) dX6_lost_32 rfl rfl ?_
    exact ⟨rfl, rfl⟩
theorem x_lost {v w u : Int32} {n : Nat} (hS : Shp M) (hz : mI M 3 1 = nI n) (h : ¬ (inR v 6 ∧ inR w n ∧ inR u n)) : EvR l jX6_lost 9 190 3 18 [.ref 0, .int v, .int w, .int u] M (.inr xIO) M := by
  refine ev_intro rfl (nb rfl) rfl ?_
  refine g_aload_n (pc := 0) dX6_lost_0 rfl trivial ?_
  refine g_iload_n (pc := 1) dX6_lost_1 rfl ?_
  refine g_iload_n (pc := 2) dX6_lost_2 rfl ?_
  refine g_iload_n (pc := 3) dX6_lost_3 rfl ?_
  refine g_invV_x (pc := 4) (As := [_, _, _]) dX6_lost_4 rfl (x_needCell hS hz h) rfl rfl (shK hS rfl) rfl rfl lk_X6_109 rfl (nb rfl) ⟨nb rfl, nb rfl⟩ rfl ?_
  exact ⟨rfl, rfl⟩
def trI (f : Nat → Int32) (n a : Nat) (x : Int32) : Nat → Int32
  | 0 => x
  | k + 1 => if a = k then trI f n a x k else if hb (f a) k = true then trI f n a x k + bcJ (f k &&& (colOf f a n &&& (bitI a ^^^ -1)) &&& (bitI k ^^^ -1)) else trI f n a x k
def trO (f : Nat → Int32) (n : Nat) : Nat → Int32
  | 0 => 0
  | k + 1 => trI f n k (trO f n k) n
theorem q_triangles {s n : Nat} (hS : Shp M) (hz : mI M 3 1 = nI n) (hn : n ≤ 32) (hs : s < 6) : EvR l jX6_triangles 7 120 1 6 [.ref 0, .int (nI s)] M (.inl (some (.int (trO (mI M (6 + 2 * s)) n n)))) M := by
  refine ev_intro rfl (nb rfl) rfl ?_
  refine g_aload_n (pc := 0) dX6_triangles_0 rfl trivial ?_
  refine g_iload_n (pc := 1) dX6_triangles_1 rfl ?_
  refine g_invV_r (pc := 2) (As := [_]) dX6_triangles_2 rfl (s_needSlot (in6 hs)) rfl rfl (shK hS rfl) rfl rfl lk_X6_141 rfl (nb rfl) ⟨nb rfl, nb rfl⟩ rfl ?_
  refine g_aload_n (pc := 5) dX6_triangles_5 rfl trivial ?_
  refine g_iload_n (pc := 6) dX6_triangles_6 rfl ?_
  refine g_invV_r (pc := 7) (As := [_]) dX6_triangles_7 rfl (s_rowsOf hS hs) rfl rfl (shK hS rfl) rfl rfl lk_X6_112 rfl (nb rfl) ⟨nb rfl, nb rfl⟩ rfl ?_
  refine g_astore_n (pc := 10) (lv' := [(0, _), (1, _), (2, _)]) dX6_triangles_10 trivial (nl rfl) rfl ?_
  refine g_iconst (pc := 11) (v := 0) dX6_triangles_11 rfl ?_
  refine g_istore_n (pc := 12) (lv' := [(0, _), (1, _), (2, _), (3, _)]) dX6_triangles_12 (nl rfl) rfl ?_
  refine g_iconst (pc := 13) (v := 0) dX6_triangles_13 rfl ?_
  refine g_istore (pc := 14) (lv' := [(0, _), (1, _), (2, _), (3, _), (4, _)]) dX6_triangles_14 (nl rfl) rfl ?_
  refine go_loop (pc := 16) n (fun i => [(0, .ref 0), (1, .int (nI s)), (2, .ref (6 + 2 * s)), (3, .int (trO (mI M (6 + 2 * s)) n i)), (4, .int (nI i))]) (fun i => M) ⟨rfl, rfl, rfl, rfl, rfl, trivial⟩ rfl ?_ ?_
  · intro a ha ih
    generalize trO (mI M (6 + 2 * s)) n n = X at ih ⊢
    rw [trO] at ih
    generalize trO (mI M (6 + 2 * s)) n a = x0 at ih ⊢
    refine g_iload (pc := 16) dX6_triangles_16 rfl ?_
    refine g_aload_n (pc := 18) dX6_triangles_18 rfl trivial ?_
    refine g_getf (pc := 19) dX6_triangles_19 fk_X6_19 (shK hS rfl) (fv_obj (shR hS rfl)) ?_
    refine g_getf (pc := 22) (v := .int _) dX6_triangles_22 fk_X6_89 (shK hS rfl) (fun _ => congrArg Value.int (hz)) ?_
    refine g_icmp_ge (pc := 25) (tgt := 116) dX6_triangles_25 rfl (fun h25 => absurd h25 (nI_ge ha (by omega))) (fun _ => ?_)
    refine g_aload_n (pc := 28) dX6_triangles_28 rfl trivial ?_
    refine g_iload (pc := 29) dX6_triangles_29 rfl ?_
    refine g_aload_n (pc := 31) dX6_triangles_31 rfl trivial ?_
    refine g_getf (pc := 32) dX6_triangles_32 fk_X6_19 (shK hS rfl) (fv_obj (shR hS rfl)) ?_
    refine g_getf (pc := 35) (v := .int _) dX6_triangles_35 fk_X6_89 (shK hS rfl) (fun _ => congrArg Value.int (hz)) ?_
    refine g_invS_r (pc := 38) (As := [_, _, _]) dX6_triangles_38 rfl (s_columnOf (shK hS (rows_lay hs)) (show a < 32 by omega) hn) rfl rfl lk_X6_149 rfl (nb rfl) ⟨nb rfl, nb rfl⟩ rfl ?_
    refine g_iconst (pc := 41) (v := 1) dX6_triangles_41 rfl ?_
    refine g_iload (pc := 42) dX6_triangles_42 rfl ?_
    refine g_ishl (pc := 44) dX6_triangles_44 ?_
    refine g_iconst (pc := 45) (v := (-1)) dX6_triangles_45 rfl ?_
    refine g_ixor (pc := 46) dX6_triangles_46 ?_
    refine g_iand (pc := 47) dX6_triangles_47 ?_
    refine g_istore (pc := 48) (lv' := [(0, _), (1, _), (2, _), (3, _), (4, _), (5, _)]) dX6_triangles_48 (nl rfl) rfl ?_
    refine g_iconst (pc := 50) (v := 0) dX6_triangles_50 rfl ?_
    refine g_istore (pc := 51) (lv' := [(0, _), (1, _), (2, _), (3, _), (4, _), (5, _), (6, _)]) dX6_triangles_51 (nl rfl) rfl ?_
    refine go_loop (pc := 53) n (fun i => [(0, .ref 0), (1, .int (nI s)), (2, .ref (6 + 2 * s)), (3, .int (trI (mI M (6 + 2 * s)) n a x0 i)), (4, .int (nI a)), (5, .int (colOf (mI M (6 + 2 * s)) a n &&& (bitI a ^^^ -1))), (6, .int (nI i))]) (fun i => M) ⟨rfl, rfl, rfl, rfl, rfl, rfl, rfl, trivial⟩ rfl ?_ ?_
    · intro i hi ih2
      generalize trI (mI M (6 + 2 * s)) n a x0 n = Y at ih ⊢
      rw [trI] at ih2
      refine g_iload (pc := 53) dX6_triangles_53 rfl ?_
      refine g_aload_n (pc := 55) dX6_triangles_55 rfl trivial ?_
      refine g_getf (pc := 56) dX6_triangles_56 fk_X6_19 (shK hS rfl) (fv_obj (shR hS rfl)) ?_
      refine g_getf (pc := 59) (v := .int _) dX6_triangles_59 fk_X6_89 (shK hS rfl) (fun _ => congrArg Value.int (hz)) ?_
      refine g_icmp_ge (pc := 62) (tgt := 110) dX6_triangles_62 rfl (fun h62 => absurd h62 (nI_ge hi (by omega))) (fun _ => ?_)
      refine g_iload (pc := 65) dX6_triangles_65 rfl ?_
      refine g_iload (pc := 67) dX6_triangles_67 rfl ?_
      refine g_icmp_eq (pc := 69) (tgt := 104) dX6_triangles_69 rfl (fun h69 => ?_) (fun h69 => ?_)
      · rw [if_pos ((nI_eq (by omega) (by omega)).mp h69)] at ih2
        refine g_iinc (pc := 104) (lv' := [(0, _), (1, _), (2, _), (3, _), (4, _), (5, _), (6, _)]) dX6_triangles_104 rfl (nI_1 _) (nl rfl) rfl ?_
        refine g_goto (pc := 107) (tgt := 53) dX6_triangles_107 rfl ?_
        exact ih2
      · rw [if_neg (fun h => h69 (by rw [h]))] at ih2
        refine g_aload_n (pc := 72) dX6_triangles_72 rfl trivial ?_
        refine g_iload (pc := 73) dX6_triangles_73 rfl ?_
        refine g_iaload (pc := 75) dX6_triangles_75 (shK hS (rows_lay hs)) rfl (by omega) (nl rfl) ?_
        refine g_iload (pc := 76) dX6_triangles_76 rfl ?_
        refine g_invS_r (pc := 78) (As := [_, _]) dX6_triangles_78 rfl (s_hasOne (by omega)) rfl rfl lk_X6_116 rfl (nb rfl) ⟨nb rfl, nb rfl⟩ rfl ?_
        refine g_if_eq (pc := 81) (tgt := 104) dX6_triangles_81 rfl (fun h81 => ?_) (fun h81 => ?_)
        · rw [b1_0] at h81
          rw [if_neg (by rw [h81]; decide)] at ih2
          refine g_iinc (pc := 104) (lv' := [(0, _), (1, _), (2, _), (3, _), (4, _), (5, _), (6, _)]) dX6_triangles_104 rfl (nI_1 _) (nl rfl) rfl ?_
          refine g_goto (pc := 107) (tgt := 53) dX6_triangles_107 rfl ?_
          exact ih2
        · rw [b1_0, Bool.not_eq_false] at h81
          rw [if_pos h81] at ih2
          refine g_iload_n (pc := 84) dX6_triangles_84 rfl ?_
          refine g_aload_n (pc := 85) dX6_triangles_85 rfl trivial ?_
          refine g_iload (pc := 86) dX6_triangles_86 rfl ?_
          refine g_iaload (pc := 88) dX6_triangles_88 (shK hS (rows_lay hs)) rfl (by omega) (nl rfl) ?_
          refine g_iload (pc := 89) dX6_triangles_89 rfl ?_
          refine g_iand (pc := 91) dX6_triangles_91 ?_
          refine g_iconst (pc := 92) (v := 1) dX6_triangles_92 rfl ?_
          refine g_iload (pc := 93) dX6_triangles_93 rfl ?_
          refine g_ishl (pc := 95) dX6_triangles_95 ?_
          refine g_iconst (pc := 96) (v := (-1)) dX6_triangles_96 rfl ?_
          refine g_ixor (pc := 97) dX6_triangles_97 ?_
          refine g_iand (pc := 98) dX6_triangles_98 ?_
          refine g_invS_r (pc := 99) (As := [_]) dX6_triangles_99 rfl (s_bitCount) rfl rfl lk_X6_132 rfl (nb rfl) ⟨nb rfl, nb rfl⟩ rfl ?_
          refine g_iadd (pc := 102) dX6_triangles_102 ?_
          refine g_istore_n (pc := 103) (lv' := [(0, _), (1, _), (2, _), (3, _), (4, _), (5, _), (6, _)]) dX6_triangles_103 (nl rfl) rfl ?_
          refine g_iinc (pc := 104) (lv' := [(0, _), (1, _), (2, _), (3, _), (4, _), (5, _), (6, _)]) dX6_triangles_104 rfl (nI_1 _) (nl rfl) rfl ?_
          refine g_goto (pc := 107) (tgt := 53) dX6_triangles_107 rfl ?_
          exact ih2
    · refine g_iload (pc := 53) dX6_triangles_53 rfl ?_
      refine g_aload_n (pc := 55) dX6_triangles_55 rfl trivial ?_
      refine g_getf (pc := 56) dX6_triangles_56 fk_X6_19 (shK hS rfl) (fv_obj (shR hS rfl)) ?_
      refine g_getf (pc := 59) (v := .int _) dX6_triangles_59 fk_X6_89 (shK hS rfl) (fun _ => congrArg Value.int (hz)) ?_
      refine g_icmp_ge (pc := 62) (tgt := 110) dX6_triangles_62 rfl (fun _ => ?_) (fun h62 => absurd (nI_le (Nat.le_refl _) (by omega)) h62)
      refine g_iinc (pc := 110) (lv' := [(0, _), (1, _), (2, _), (3, _), (4, _), (5, _), (6, _)]) dX6_triangles_110 rfl (nI_1 _) (nl rfl) rfl ?_
      refine g_goto (pc := 113) (tgt := 16) dX6_triangles_113 rfl ?_
      exact g_sub (lv' := [(0, _), (1, _), (2, _), (3, _), (4, _)]) ⟨rfl, rfl, rfl, rfl, rfl, trivial⟩ ih
  · refine g_iload (pc := 16) dX6_triangles_16 rfl ?_
    refine g_aload_n (pc := 18) dX6_triangles_18 rfl trivial ?_
    refine g_getf (pc := 19) dX6_triangles_19 fk_X6_19 (shK hS rfl) (fv_obj (shR hS rfl)) ?_
    refine g_getf (pc := 22) (v := .int _) dX6_triangles_22 fk_X6_89 (shK hS rfl) (fun _ => congrArg Value.int (hz)) ?_
    refine g_icmp_ge (pc := 25) (tgt := 116) dX6_triangles_25 rfl (fun _ => ?_) (fun h25 => absurd (nI_le (Nat.le_refl _) (by omega)) h25)
    refine g_iload_n (pc := 116) dX6_triangles_116 rfl ?_
    refine g_ireturn (pc := 117) dX6_triangles_117 rfl rfl ?_
    exact ⟨rfl, rfl⟩
theorem x_triangles {v : Int32} (hS : Shp M) (h : ¬ inR v 6) : EvR l jX6_triangles 7 120 1 6 [.ref 0, .int v] M (.inr xIO) M := by
  refine ev_intro rfl (nb rfl) rfl ?_
  refine g_aload_n (pc := 0) dX6_triangles_0 rfl trivial ?_
  refine g_iload_n (pc := 1) dX6_triangles_1 rfl ?_
  refine g_invV_x (pc := 2) (As := [_]) dX6_triangles_2 rfl (x_needSlot hS h) rfl rfl (shK hS rfl) rfl rfl lk_X6_141 rfl (nb rfl) ⟨nb rfl, nb rfl⟩ rfl ?_
  exact ⟨rfl, rfl⟩
theorem q_count0 (hS : Shp M) : EvR l jX6_count 7 120 1 6 [.ref 0, .int 0] M (.inl (some (.int (mI M 3 1)))) M := by
  refine ev_intro rfl (nb rfl) rfl ?_
  refine g_aload_n (pc := 0) dX6_count_0 rfl trivial ?_
  refine g_iload_n (pc := 1) dX6_count_1 rfl ?_
  refine g_iconst (pc := 2) (v := 0) dX6_count_2 rfl ?_
  refine g_iconst (pc := 3) (v := 3) dX6_count_3 rfl ?_
  refine g_invV_r (pc := 4) (As := [_, _, _]) dX6_count_4 rfl (s_needRange (by decide) (by decide)) rfl rfl (shK hS rfl) rfl rfl lk_X6_95 rfl (nb rfl) ⟨nb rfl, nb rfl⟩ rfl ?_
  refine g_iload_n (pc := 7) dX6_count_7 rfl ?_
  refine g_tableIn (pc := 8) (tgt := 36) (off := 28) dX6_count_8 (by decide) (by decide) (by decide) (by decide) ?_
  refine g_aload_n (pc := 36) dX6_count_36 rfl trivial ?_
  refine g_getf (pc := 37) dX6_count_37 fk_X6_19 (shK hS rfl) (fv_obj (shR hS rfl)) ?_
  refine g_getf (pc := 40) (v := .int (mI _ _ _)) dX6_count_40 fk_X6_89 (shK hS rfl) (fun _ => rfl) ?_
  refine g_ireturn (pc := 43) dX6_count_43 rfl rfl ?_
  exact ⟨rfl, rfl⟩
theorem q_count1 (hS : Shp M) : EvR l jX6_count 7 120 1 6 [.ref 0, .int 1] M (.inl (some (.int (mI M 3 2)))) M := by
  refine ev_intro rfl (nb rfl) rfl ?_
  refine g_aload_n (pc := 0) dX6_count_0 rfl trivial ?_
  refine g_iload_n (pc := 1) dX6_count_1 rfl ?_
  refine g_iconst (pc := 2) (v := 0) dX6_count_2 rfl ?_
  refine g_iconst (pc := 3) (v := 3) dX6_count_3 rfl ?_
  refine g_invV_r (pc := 4) (As := [_, _, _]) dX6_count_4 rfl (s_needRange (by decide) (by decide)) rfl rfl (shK hS rfl) rfl rfl lk_X6_95 rfl (nb rfl) ⟨nb rfl, nb rfl⟩ rfl ?_
  refine g_iload_n (pc := 7) dX6_count_7 rfl ?_
  refine g_tableIn (pc := 8) (tgt := 44) (off := 36) dX6_count_8 (by decide) (by decide) (by decide) (by decide) ?_
  refine g_aload_n (pc := 44) dX6_count_44 rfl trivial ?_
  refine g_getf (pc := 45) dX6_count_45 fk_X6_19 (shK hS rfl) (fv_obj (shR hS rfl)) ?_
  refine g_getf (pc := 48) (v := .int (mI _ _ _)) dX6_count_48 fk_X6_99 (shK hS rfl) (fun _ => rfl) ?_
  refine g_ireturn (pc := 51) dX6_count_51 rfl rfl ?_
  exact ⟨rfl, rfl⟩
theorem q_count2 (hS : Shp M) : EvR l jX6_count 7 120 1 6 [.ref 0, .int 2] M (.inl (some (.int (nI (keptC M 6))))) M := by
  generalize hX : keptC M 6 = X
  have hk := s_keptSlots (l := l) hS
  rw [hX] at hk
  refine ev_intro rfl (nb rfl) rfl ?_
  refine g_aload_n (pc := 0) dX6_count_0 rfl trivial ?_
  refine g_iload_n (pc := 1) dX6_count_1 rfl ?_
  refine g_iconst (pc := 2) (v := 0) dX6_count_2 rfl ?_
  refine g_iconst (pc := 3) (v := 3) dX6_count_3 rfl ?_
  refine g_invV_r (pc := 4) (As := [_, _, _]) dX6_count_4 rfl (s_needRange (by decide) (by decide)) rfl rfl (shK hS rfl) rfl rfl lk_X6_95 rfl (nb rfl) ⟨nb rfl, nb rfl⟩ rfl ?_
  refine g_iload_n (pc := 7) dX6_count_7 rfl ?_
  refine g_tableIn (pc := 8) (tgt := 52) (off := 44) dX6_count_8 (by decide) (by decide) (by decide) (by decide) ?_
  refine g_aload_n (pc := 52) dX6_count_52 rfl trivial ?_
  refine g_invV_r (pc := 53) (As := []) dX6_count_53 rfl (hk) rfl rfl (shK hS rfl) rfl rfl lk_X6_102 rfl (nb rfl) ⟨nb rfl, nb rfl⟩ rfl ?_
  refine g_ireturn (pc := 56) dX6_count_56 rfl rfl ?_
  exact ⟨rfl, rfl⟩
theorem q_count3 (hS : Shp M) : EvR l jX6_count 7 120 1 6 [.ref 0, .int 3] M (.inl (some (.int (mI M 0 5)))) M := by
  refine ev_intro rfl (nb rfl) rfl ?_
  refine g_aload_n (pc := 0) dX6_count_0 rfl trivial ?_
  refine g_iload_n (pc := 1) dX6_count_1 rfl ?_
  refine g_iconst (pc := 2) (v := 0) dX6_count_2 rfl ?_
  refine g_iconst (pc := 3) (v := 3) dX6_count_3 rfl ?_
  refine g_invV_r (pc := 4) (As := [_, _, _]) dX6_count_4 rfl (s_needRange (by decide) (by decide)) rfl rfl (shK hS rfl) rfl rfl lk_X6_95 rfl (nb rfl) ⟨nb rfl, nb rfl⟩ rfl ?_
  refine g_iload_n (pc := 7) dX6_count_7 rfl ?_
  refine g_tableOut (pc := 8) (tgt := 57) dX6_count_8 (by decide) (by decide) ?_
  refine g_aload_n (pc := 57) dX6_count_57 rfl trivial ?_
  refine g_getf (pc := 58) (v := .int (mI _ _ _)) dX6_count_58 fk_X6_106 (shK hS rfl) (fun _ => rfl) ?_
  refine g_ireturn (pc := 61) dX6_count_61 rfl rfl ?_
  exact ⟨rfl, rfl⟩
theorem x_count {v : Int32} (hS : Shp M) (h : ¬ (¬ v < 0 ∧ v ≤ 3)) : EvR l jX6_count 7 120 1 6 [.ref 0, .int v] M (.inr xIA) M := by
  refine ev_intro rfl (nb rfl) rfl ?_
  refine g_aload_n (pc := 0) dX6_count_0 rfl trivial ?_
  refine g_iload_n (pc := 1) dX6_count_1 rfl ?_
  refine g_iconst (pc := 2) (v := 0) dX6_count_2 rfl ?_
  refine g_iconst (pc := 3) (v := 3) dX6_count_3 rfl ?_
  refine g_invV_x (pc := 4) (As := [_, _, _]) dX6_count_4 rfl (x_needRange hS h) rfl rfl (shK hS rfl) rfl rfl lk_X6_95 rfl (nb rfl) ⟨nb rfl, nb rfl⟩ rfl ?_
  exact ⟨rfl, rfl⟩
end
end
-- 203.query
section
section
variable {l : Launch} {M : Mem}
/-- the elimination of a slot beside a right side -/
def elQ (M : Mem) (s n : Nat) (x : Int32) : ES := elAll M n (mI M (6 + 2 * s)) (wr (mI M 193) (fun i => us x (nI i) &&& 1) n)
theorem elQ_c (M : Mem) (s n : Nat) (x : Int32) : (elQ M s n x).2.2.2 ≤ n := by
  have h := elIt_c n (wr (mI M 192) (mI M (6 + 2 * s)) n, wr (mI M 193) (fun i => us x (nI i) &&& 1) n, mI M 194, 0) n
  simp only [Nat.zero_add] at h
  exact h
theorem elMem_S (hS : Shp M) (s : ES) : Shp (elMem M s) := hS
theorem elMem_ne {i : Nat} (s : ES) (h : i < 191 ∨ 194 < i) : mI (elMem M s) i = mI M i := by
  unfold elMem
  rw [sI_ne (by omega), sI_ne (by omega), sI_ne (by omega), sI_ne (by omega)]
theorem s_elQ {s n : Nat} {x : Int32} (hS : Shp M) (hn : n ≤ 32) (hs : s < 6) : EvR l jX1_eliminate 3 90 0 0 [.ref 191, .ref (6 + 2 * s), .int (nI n), .int x] M (.inl none) (elMem M (elQ M s n x)) := s_eliminate hS (shK hS (rows_lay hs)) (by omega) hn
theorem q_fieldRank {s n : Nat} (hS : Shp M) (hz : mI M 3 1 = nI n) (hn : n ≤ 32) (hs : s < 6) : EvR l jX6_fieldRank 7 150 1 6 [.ref 0, .int (nI s)] M (.inl (some (.int (nI (elQ M s n 0).2.2.2)))) (elMem M (elQ M s n 0)) := by
  have q1 := s_elQ (l := l) (x := 0) hS hn hs
  generalize elQ M s n 0 = e at *
  have hS1 := elMem_S hS e
  have hc := el_c (M := M) e
  refine ev_intro rfl (nb rfl) rfl ?_
  refine g_aload_n (pc := 0) dX6_fieldRank_0 rfl trivial ?_
  refine g_iload_n (pc := 1) dX6_fieldRank_1 rfl ?_
  refine g_invV_r (pc := 2) (As := [_]) dX6_fieldRank_2 rfl (s_needSlot (in6 hs)) rfl rfl (shK hS rfl) rfl rfl lk_X6_141 rfl (nb rfl) ⟨nb rfl, nb rfl⟩ rfl ?_
  refine g_aload_n (pc := 5) dX6_fieldRank_5 rfl trivial ?_
  refine g_getf (pc := 6) dX6_fieldRank_6 fk_X6_54 (shK hS rfl) (fv_obj (shR hS rfl)) ?_
  refine g_aload_n (pc := 9) dX6_fieldRank_9 rfl trivial ?_
  refine g_iload_n (pc := 10) dX6_fieldRank_10 rfl ?_
  refine g_invV_r (pc := 11) (As := [_]) dX6_fieldRank_11 rfl (s_rowsOf hS hs) rfl rfl (shK hS rfl) rfl rfl lk_X6_112 rfl (nb rfl) ⟨nb rfl, nb rfl⟩ rfl ?_
  refine g_aload_n (pc := 14) dX6_fieldRank_14 rfl trivial ?_
  refine g_getf (pc := 15) dX6_fieldRank_15 fk_X6_19 (shK hS rfl) (fv_obj (shR hS rfl)) ?_
  refine g_getf (pc := 18) (v := .int _) dX6_fieldRank_18 fk_X6_89 (shK hS rfl) (fun _ => congrArg Value.int (hz)) ?_
  refine g_iconst (pc := 21) (v := 0) dX6_fieldRank_21 rfl ?_
  refine g_invV_r (pc := 22) (As := [_, _, _]) dX6_fieldRank_22 rfl (q1) rfl rfl (shK hS rfl) rfl rfl lk_X6_204 rfl (nb rfl) ⟨nb rfl, nb rfl⟩ rfl ?_
  refine g_aload_n (pc := 25) dX6_fieldRank_25 rfl trivial ?_
  refine g_getf (pc := 26) dX6_fieldRank_26 fk_X6_54 (shK hS1 rfl) (fv_obj (shR hS1 rfl)) ?_
  refine g_getf (pc := 29) (v := .int _) dX6_fieldRank_29 fk_X6_207 (shK hS1 rfl) (fun _ => congrArg Value.int (hc)) ?_
  refine g_ireturn (pc := 32) dX6_fieldRank_32 rfl rfl ?_
  exact ⟨rfl, rfl⟩
theorem x_fieldRank {v : Int32} (hS : Shp M) (h : ¬ inR v 6) : EvR l jX6_fieldRank 7 150 1 6 [.ref 0, .int v] M (.inr xIO) M := by
  refine ev_intro rfl (nb rfl) rfl ?_
  refine g_aload_n (pc := 0) dX6_fieldRank_0 rfl trivial ?_
  refine g_iload_n (pc := 1) dX6_fieldRank_1 rfl ?_
  refine g_invV_x (pc := 2) (As := [_]) dX6_fieldRank_2 rfl (x_needSlot hS h) rfl rfl (shK hS rfl) rfl rfl lk_X6_141 rfl (nb rfl) ⟨nb rfl, nb rfl⟩ rfl ?_
  exact ⟨rfl, rfl⟩
theorem q_pivot {s n : Nat} {x : Int32} (hS : Shp M) (hz : mI M 3 1 = nI n) (hn : n ≤ 32) (hs : s < 6) : EvR l jX6_pivot 7 150 1 6 [.ref 0, .int (nI s), .int x] M (.inl (some (.int (if ¬ x < 0 ∧ x < nI (elQ M s n 0).2.2.2 then (elQ M s n 0).2.2.1 x.toNatClampNeg else -1)))) (elMem M (elQ M s n 0)) := by
  have q1 := s_elQ (l := l) (x := 0) hS hn hs
  have hp := elQ_c M s n 0
  generalize elQ M s n 0 = e at *
  have hS1 := elMem_S hS e
  have q2 := s_pivotAt (l := l) (s := e) (x := x) hS (by omega)
  generalize elMem M e = M1 at *
  refine ev_intro rfl (nb rfl) rfl ?_
  refine g_aload_n (pc := 0) dX6_pivot_0 rfl trivial ?_
  refine g_iload_n (pc := 1) dX6_pivot_1 rfl ?_
  refine g_invV_r (pc := 2) (As := [_]) dX6_pivot_2 rfl (s_needSlot (in6 hs)) rfl rfl (shK hS rfl) rfl rfl lk_X6_141 rfl (nb rfl) ⟨nb rfl, nb rfl⟩ rfl ?_
  refine g_aload_n (pc := 5) dX6_pivot_5 rfl trivial ?_
  refine g_getf (pc := 6) dX6_pivot_6 fk_X6_54 (shK hS rfl) (fv_obj (shR hS rfl)) ?_
  refine g_aload_n (pc := 9) dX6_pivot_9 rfl trivial ?_
  refine g_iload_n (pc := 10) dX6_pivot_10 rfl ?_
  refine g_invV_r (pc := 11) (As := [_]) dX6_pivot_11 rfl (s_rowsOf hS hs) rfl rfl (shK hS rfl) rfl rfl lk_X6_112 rfl (nb rfl) ⟨nb rfl, nb rfl⟩ rfl ?_
  refine g_aload_n (pc := 14) dX6_pivot_14 rfl trivial ?_
  refine g_getf (pc := 15) dX6_pivot_15 fk_X6_19 (shK hS rfl) (fv_obj (shR hS rfl)) ?_
  refine g_getf (pc := 18) (v := .int _) dX6_pivot_18 fk_X6_89 (shK hS rfl) (fun _ => congrArg Value.int (hz)) ?_
  refine g_iconst (pc := 21) (v := 0) dX6_pivot_21 rfl ?_
  refine g_invV_r (pc := 22) (As := [_, _, _]) dX6_pivot_22 rfl (q1) rfl rfl (shK hS rfl) rfl rfl lk_X6_204 rfl (nb rfl) ⟨nb rfl, nb rfl⟩ rfl ?_
  refine g_aload_n (pc := 25) dX6_pivot_25 rfl trivial ?_
  refine g_getf (pc := 26) dX6_pivot_26 fk_X6_54 (shK hS1 rfl) (fv_obj (shR hS1 rfl)) ?_
  refine g_iload_n (pc := 29) dX6_pivot_29 rfl ?_
  refine g_invV_r (pc := 30) (As := [_]) dX6_pivot_30 rfl (q2) rfl rfl (shK hS1 rfl) rfl rfl lk_X6_219 rfl (nb rfl) ⟨nb rfl, nb rfl⟩ rfl ?_
  refine g_ireturn (pc := 33) dX6_pivot_33 rfl rfl ?_
  exact ⟨rfl, rfl⟩
theorem x_pivot {v x : Int32} (hS : Shp M) (h : ¬ inR v 6) : EvR l jX6_pivot 7 150 1 6 [.ref 0, .int v, .int x] M (.inr xIO) M := by
  refine ev_intro rfl (nb rfl) rfl ?_
  refine g_aload_n (pc := 0) dX6_pivot_0 rfl trivial ?_
  refine g_iload_n (pc := 1) dX6_pivot_1 rfl ?_
  refine g_invV_x (pc := 2) (As := [_]) dX6_pivot_2 rfl (x_needSlot hS h) rfl rfl (shK hS rfl) rfl rfl lk_X6_141 rfl (nb rfl) ⟨nb rfl, nb rfl⟩ rfl ?_
  exact ⟨rfl, rfl⟩
theorem q_freedom {s n : Nat} {x : Int64} (hS : Shp M) (hz : mI M 3 1 = nI n) (hn : n ≤ 32) (hs : s < 6) : EvR l jX6_freedom 7 150 1 6 [.ref 0, .int (nI s), .long x] M (.inl (some (.int (if solvB (elQ M s n x.toInt32) (n - (elQ M s n x.toInt32).2.2.2) (elQ M s n x.toInt32).2.2.2 = true then nI n - nI (elQ M s n x.toInt32).2.2.2 else -1)))) (elMem M (elQ M s n x.toInt32)) := by
  have q1 := s_elQ (l := l) (x := x.toInt32) hS hn hs
  have hp := elQ_c M s n x.toInt32
  generalize elQ M s n x.toInt32 = e at *
  have hS1 := elMem_S hS e
  have hc := el_c (M := M) e
  have hz1 : mI (elMem M e) 3 1 = nI n := by rw [elMem_ne e (by decide)]; exact hz
  have q2 := s_isSolvable (l := l) (s := e) hS hn hp
  generalize elMem M e = M1 at *
  generalize solvB e (n - e.2.2.2) e.2.2.2 = b at *
  refine ev_intro rfl (nb rfl) rfl ?_
  refine g_aload_n (pc := 0) dX6_freedom_0 rfl trivial ?_
  refine g_iload_n (pc := 1) dX6_freedom_1 rfl ?_
  refine g_invV_r (pc := 2) (As := [_]) dX6_freedom_2 rfl (s_needSlot (in6 hs)) rfl rfl (shK hS rfl) rfl rfl lk_X6_141 rfl (nb rfl) ⟨nb rfl, nb rfl⟩ rfl ?_
  refine g_aload_n (pc := 5) dX6_freedom_5 rfl trivial ?_
  refine g_getf (pc := 6) dX6_freedom_6 fk_X6_54 (shK hS rfl) (fv_obj (shR hS rfl)) ?_
  refine g_aload_n (pc := 9) dX6_freedom_9 rfl trivial ?_
  refine g_iload_n (pc := 10) dX6_freedom_10 rfl ?_
  refine g_invV_r (pc := 11) (As := [_]) dX6_freedom_11 rfl (s_rowsOf hS hs) rfl rfl (shK hS rfl) rfl rfl lk_X6_112 rfl (nb rfl) ⟨nb rfl, nb rfl⟩ rfl ?_
  refine g_aload_n (pc := 14) dX6_freedom_14 rfl trivial ?_
  refine g_getf (pc := 15) dX6_freedom_15 fk_X6_19 (shK hS rfl) (fv_obj (shR hS rfl)) ?_
  refine g_getf (pc := 18) (v := .int _) dX6_freedom_18 fk_X6_89 (shK hS rfl) (fun _ => congrArg Value.int (hz)) ?_
  refine g_lload_n (pc := 21) dX6_freedom_21 rfl ?_
  refine g_l2i (pc := 22) dX6_freedom_22 rfl ?_
  refine g_invV_r (pc := 23) (As := [_, _, _]) dX6_freedom_23 rfl (q1) rfl rfl (shK hS rfl) rfl rfl lk_X6_204 rfl (nb rfl) ⟨nb rfl, nb rfl⟩ rfl ?_
  refine g_aload_n (pc := 26) dX6_freedom_26 rfl trivial ?_
  refine g_getf (pc := 27) dX6_freedom_27 fk_X6_54 (shK hS1 rfl) (fv_obj (shR hS1 rfl)) ?_
  refine g_aload_n (pc := 30) dX6_freedom_30 rfl trivial ?_
  refine g_getf (pc := 31) dX6_freedom_31 fk_X6_19 (shK hS1 rfl) (fv_obj (shR hS1 rfl)) ?_
  refine g_getf (pc := 34) (v := .int _) dX6_freedom_34 fk_X6_89 (shK hS1 rfl) (fun _ => congrArg Value.int (hz1)) ?_
  refine g_invV_r (pc := 37) (As := [_]) dX6_freedom_37 rfl (q2) rfl rfl (shK hS1 rfl) rfl rfl lk_X6_210 rfl (nb rfl) ⟨nb rfl, nb rfl⟩ rfl ?_
  refine g_if_eq (pc := 40) (tgt := 61) dX6_freedom_40 rfl (fun h40 => ?_) (fun h40 => ?_)
  · rw [b1_0] at h40
    rw [if_neg (by rw [h40]; decide)]
    refine g_iconst (pc := 61) (v := (-1)) dX6_freedom_61 rfl ?_
    refine g_ireturn (pc := 62) dX6_freedom_62 rfl rfl ?_
    exact ⟨rfl, rfl⟩
  · rw [b1_0, Bool.not_eq_false] at h40
    rw [if_pos h40]
    refine g_aload_n (pc := 43) dX6_freedom_43 rfl trivial ?_
    refine g_getf (pc := 44) dX6_freedom_44 fk_X6_19 (shK hS1 rfl) (fv_obj (shR hS1 rfl)) ?_
    refine g_getf (pc := 47) (v := .int _) dX6_freedom_47 fk_X6_89 (shK hS1 rfl) (fun _ => congrArg Value.int (hz1)) ?_
    refine g_aload_n (pc := 50) dX6_freedom_50 rfl trivial ?_
    refine g_getf (pc := 51) dX6_freedom_51 fk_X6_54 (shK hS1 rfl) (fv_obj (shR hS1 rfl)) ?_
    refine g_getf (pc := 54) (v := .int _) dX6_freedom_54 fk_X6_207 (shK hS1 rfl) (fun _ => congrArg Value.int (hc)) ?_
    refine g_isub (pc := 57) dX6_freedom_57 ?_
    refine g_goto (pc := 58) (tgt := 62) dX6_freedom_58 rfl ?_
    refine g_ireturn (pc := 62) dX6_freedom_62 rfl rfl ?_
    exact ⟨rfl, rfl⟩
theorem x_freedom {v : Int32} {x : Int64} (hS : Shp M) (h : ¬ inR v 6) : EvR l jX6_freedom 7 150 1 6 [.ref 0, .int v, .long x] M (.inr xIO) M := by
  refine ev_intro rfl (nb rfl) rfl ?_
  refine g_aload_n (pc := 0) dX6_freedom_0 rfl trivial ?_
  refine g_iload_n (pc := 1) dX6_freedom_1 rfl ?_
  refine g_invV_x (pc := 2) (As := [_]) dX6_freedom_2 rfl (x_needSlot hS h) rfl rfl (shK hS rfl) rfl rfl lk_X6_141 rfl (nb rfl) ⟨nb rfl, nb rfl⟩ rfl ?_
  exact ⟨rfl, rfl⟩
theorem q_solve {s n : Nat} {x : Int64} (hS : Shp M) (hz : mI M 3 1 = nI n) (hn : n ≤ 32) (hs : s < 6) : EvR l jX6_solve 7 150 1 6 [.ref 0, .int (nI s), .long x] M (.inl (some (.long (if solvB (elQ M s n x.toInt32) (n - (elQ M s n x.toInt32).2.2.2) (elQ M s n x.toInt32).2.2.2 = true then (solF (elQ M s n x.toInt32) (elQ M s n x.toInt32).2.2.2).toInt64 &&& 4294967295 else -1)))) (elMem M (elQ M s n x.toInt32)) := by
  have q1 := s_elQ (l := l) (x := x.toInt32) hS hn hs
  have hp := elQ_c M s n x.toInt32
  generalize elQ M s n x.toInt32 = e at *
  have hS1 := elMem_S hS e
  have hz1 : mI (elMem M e) 3 1 = nI n := by rw [elMem_ne e (by decide)]; exact hz
  have q2 := s_isSolvable (l := l) (s := e) hS hn hp
  have q3 := s_solution (l := l) (s := e) hS (by omega)
  generalize elMem M e = M1 at *
  generalize solvB e (n - e.2.2.2) e.2.2.2 = b at *
  refine ev_intro rfl (nb rfl) rfl ?_
  refine g_aload_n (pc := 0) dX6_solve_0 rfl trivial ?_
  refine g_iload_n (pc := 1) dX6_solve_1 rfl ?_
  refine g_invV_r (pc := 2) (As := [_]) dX6_solve_2 rfl (s_needSlot (in6 hs)) rfl rfl (shK hS rfl) rfl rfl lk_X6_141 rfl (nb rfl) ⟨nb rfl, nb rfl⟩ rfl ?_
  refine g_aload_n (pc := 5) dX6_solve_5 rfl trivial ?_
  refine g_getf (pc := 6) dX6_solve_6 fk_X6_54 (shK hS rfl) (fv_obj (shR hS rfl)) ?_
  refine g_aload_n (pc := 9) dX6_solve_9 rfl trivial ?_
  refine g_iload_n (pc := 10) dX6_solve_10 rfl ?_
  refine g_invV_r (pc := 11) (As := [_]) dX6_solve_11 rfl (s_rowsOf hS hs) rfl rfl (shK hS rfl) rfl rfl lk_X6_112 rfl (nb rfl) ⟨nb rfl, nb rfl⟩ rfl ?_
  refine g_aload_n (pc := 14) dX6_solve_14 rfl trivial ?_
  refine g_getf (pc := 15) dX6_solve_15 fk_X6_19 (shK hS rfl) (fv_obj (shR hS rfl)) ?_
  refine g_getf (pc := 18) (v := .int _) dX6_solve_18 fk_X6_89 (shK hS rfl) (fun _ => congrArg Value.int (hz)) ?_
  refine g_lload_n (pc := 21) dX6_solve_21 rfl ?_
  refine g_l2i (pc := 22) dX6_solve_22 rfl ?_
  refine g_invV_r (pc := 23) (As := [_, _, _]) dX6_solve_23 rfl (q1) rfl rfl (shK hS rfl) rfl rfl lk_X6_204 rfl (nb rfl) ⟨nb rfl, nb rfl⟩ rfl ?_
  refine g_aload_n (pc := 26) dX6_solve_26 rfl trivial ?_
  refine g_getf (pc := 27) dX6_solve_27 fk_X6_54 (shK hS1 rfl) (fv_obj (shR hS1 rfl)) ?_
  refine g_aload_n (pc := 30) dX6_solve_30 rfl trivial ?_
  refine g_getf (pc := 31) dX6_solve_31 fk_X6_19 (shK hS1 rfl) (fv_obj (shR hS1 rfl)) ?_
  refine g_getf (pc := 34) (v := .int _) dX6_solve_34 fk_X6_89 (shK hS1 rfl) (fun _ => congrArg Value.int (hz1)) ?_
  refine g_invV_r (pc := 37) (As := [_]) dX6_solve_37 rfl (q2) rfl rfl (shK hS1 rfl) rfl rfl lk_X6_210 rfl (nb rfl) ⟨nb rfl, nb rfl⟩ rfl ?_
  refine g_if_eq (pc := 40) (tgt := 56) dX6_solve_40 rfl (fun h40 => ?_) (fun h40 => ?_)
  · rw [b1_0] at h40
    rw [if_neg (by rw [h40]; decide)]
    refine g_ldc2 (pc := 56) dX6_solve_56 wd_989 ?_
    refine g_lreturn (pc := 59) dX6_solve_59 rfl ?_
    exact ⟨rfl, rfl⟩
  · rw [b1_0, Bool.not_eq_false] at h40
    rw [if_pos h40]
    refine g_aload_n (pc := 43) dX6_solve_43 rfl trivial ?_
    refine g_getf (pc := 44) dX6_solve_44 fk_X6_54 (shK hS1 rfl) (fv_obj (shR hS1 rfl)) ?_
    refine g_invV_r (pc := 47) (As := []) dX6_solve_47 rfl (q3) rfl rfl (shK hS1 rfl) rfl rfl lk_X6_214 rfl (nb rfl) ⟨nb rfl, nb rfl⟩ rfl ?_
    refine g_invS_r (pc := 50) (As := [_]) dX6_solve_50 rfl (s_unsigned) rfl rfl lk_X6_124 rfl (nb rfl) ⟨nb rfl, nb rfl⟩ rfl ?_
    refine g_goto (pc := 53) (tgt := 59) dX6_solve_53 rfl ?_
    refine g_lreturn (pc := 59) dX6_solve_59 rfl ?_
    exact ⟨rfl, rfl⟩
theorem x_solve {v : Int32} {x : Int64} (hS : Shp M) (h : ¬ inR v 6) : EvR l jX6_solve 7 150 1 6 [.ref 0, .int v, .long x] M (.inr xIO) M := by
  refine ev_intro rfl (nb rfl) rfl ?_
  refine g_aload_n (pc := 0) dX6_solve_0 rfl trivial ?_
  refine g_iload_n (pc := 1) dX6_solve_1 rfl ?_
  refine g_invV_x (pc := 2) (As := [_]) dX6_solve_2 rfl (x_needSlot hS h) rfl rfl (shK hS rfl) rfl rfl lk_X6_141 rfl (nb rfl) ⟨nb rfl, nb rfl⟩ rfl ?_
  exact ⟨rfl, rfl⟩
end
end
-- 204.query
section
section
variable {l : Launch} {M : Mem}
def beG (f g : Nat → Int32) (n a k : Nat) : Int32 := if hb (f a) k = true then -1 else gainW g (nodesTo g a n) k n
def beI (f g : Nat → Int32) (n a : Nat) (q : Int32 × Int32) : Nat → Int32 × Int32
  | 0 => q
  | k + 1 => if beG f g n a k ≤ (beI f g n a q k).2 then beI f g n a q k else (32 * nI a + nI k, beG f g n a k)
def beO (f g : Nat → Int32) (n : Nat) : Nat → Int32 × Int32
  | 0 => (-1, -1)
  | k + 1 => beI f g n k (beO f g n k) n
theorem q_bestEdge {s n : Nat} (hS : Shp M) (hz : mI M 3 1 = nI n) (hn : n ≤ 32) (hs : s < 6) : EvR l jX6_bestEdge 7 140 1 6 [.ref 0, .int (nI s)] M (.inl (some (.int (beO (mI M (6 + 2 * s)) (mI (clOf M s n) (175 + 2 * s + 1)) n n).1))) (clOf M s n) := by
  have hS1 := clOf_S hS s n
  have hc := cl_ok' s hs
  have hz1 := clOf_z hz hs
  have er : mI (clOf M s n) (6 + 2 * s) = mI M (6 + 2 * s) := clOf_ne (by omega) hs
  have q1 := s_closureOf (l := l) hS hs hz hn
  rw [← er]
  generalize clOf M s n = M1 at *
  refine ev_intro rfl (nb rfl) rfl ?_
  refine g_aload_n (pc := 0) dX6_bestEdge_0 rfl trivial ?_
  refine g_iload_n (pc := 1) dX6_bestEdge_1 rfl ?_
  refine g_invV_r (pc := 2) (As := [_]) dX6_bestEdge_2 rfl (s_needSlot (in6 hs)) rfl rfl (shK hS rfl) rfl rfl lk_X6_141 rfl (nb rfl) ⟨nb rfl, nb rfl⟩ rfl ?_
  refine g_aload_n (pc := 5) dX6_bestEdge_5 rfl trivial ?_
  refine g_iload_n (pc := 6) dX6_bestEdge_6 rfl ?_
  refine g_invV_r (pc := 7) (As := [_]) dX6_bestEdge_7 rfl (s_rowsOf hS hs) rfl rfl (shK hS rfl) rfl rfl lk_X6_112 rfl (nb rfl) ⟨nb rfl, nb rfl⟩ rfl ?_
  refine g_astore_n (pc := 10) (lv' := [(0, _), (1, _), (2, _)]) dX6_bestEdge_10 trivial (nl rfl) rfl ?_
  refine g_aload_n (pc := 11) dX6_bestEdge_11 rfl trivial ?_
  refine g_iload_n (pc := 12) dX6_bestEdge_12 rfl ?_
  refine g_invV_r (pc := 13) (As := [_]) dX6_bestEdge_13 rfl (q1) rfl rfl (shK hS rfl) rfl rfl lk_X6_162 rfl (nb rfl) ⟨nb rfl, nb rfl⟩ rfl ?_
  refine g_astore_n (pc := 16) (lv' := [(0, _), (1, _), (2, _), (3, _)]) dX6_bestEdge_16 trivial (nl rfl) rfl ?_
  refine g_iconst (pc := 17) (v := (-1)) dX6_bestEdge_17 rfl ?_
  refine g_istore (pc := 18) (lv' := [(0, _), (1, _), (2, _), (3, _), (4, _)]) dX6_bestEdge_18 (nl rfl) rfl ?_
  refine g_iconst (pc := 20) (v := (-1)) dX6_bestEdge_20 rfl ?_
  refine g_istore (pc := 21) (lv' := [(0, _), (1, _), (2, _), (3, _), (4, _), (5, _)]) dX6_bestEdge_21 (nl rfl) rfl ?_
  refine g_iconst (pc := 23) (v := 0) dX6_bestEdge_23 rfl ?_
  refine g_istore (pc := 24) (lv' := [(0, _), (1, _), (2, _), (3, _), (4, _), (5, _), (6, _)]) dX6_bestEdge_24 (nl rfl) rfl ?_
  refine go_loop (pc := 26) n (fun i => [(0, .ref 0), (1, .int (nI s)), (2, .ref (6 + 2 * s)), (3, .ref (175 + 2 * s)), (4, .int (beO (mI M1 (6 + 2 * s)) (mI M1 (175 + 2 * s + 1)) n i).1), (5, .int (beO (mI M1 (6 + 2 * s)) (mI M1 (175 + 2 * s + 1)) n i).2), (6, .int (nI i))]) (fun i => M1) ⟨rfl, rfl, rfl, rfl, rfl, rfl, rfl, trivial⟩ rfl ?_ ?_
  · intro a ha ih
    generalize beO (mI M1 (6 + 2 * s)) (mI M1 (175 + 2 * s + 1)) n n = X at ih ⊢
    rw [beO] at ih
    generalize beO (mI M1 (6 + 2 * s)) (mI M1 (175 + 2 * s + 1)) n a = q0 at ih ⊢
    refine g_iload (pc := 26) dX6_bestEdge_26 rfl ?_
    refine g_aload_n (pc := 28) dX6_bestEdge_28 rfl trivial ?_
    refine g_getf (pc := 29) dX6_bestEdge_29 fk_X6_19 (shK hS1 rfl) (fv_obj (shR hS1 rfl)) ?_
    refine g_getf (pc := 32) (v := .int _) dX6_bestEdge_32 fk_X6_89 (shK hS1 rfl) (fun _ => congrArg Value.int (hz1)) ?_
    refine g_icmp_ge (pc := 35) (tgt := 133) dX6_bestEdge_35 rfl (fun h35 => absurd h35 (nI_ge ha (by omega))) (fun _ => ?_)
    refine g_aload_n (pc := 38) dX6_bestEdge_38 rfl trivial ?_
    refine g_iload (pc := 39) dX6_bestEdge_39 rfl ?_
    refine g_aload_n (pc := 41) dX6_bestEdge_41 rfl trivial ?_
    refine g_getf (pc := 42) dX6_bestEdge_42 fk_X6_19 (shK hS1 rfl) (fv_obj (shR hS1 rfl)) ?_
    refine g_getf (pc := 45) (v := .int _) dX6_bestEdge_45 fk_X6_89 (shK hS1 rfl) (fun _ => congrArg Value.int (hz1)) ?_
    refine g_invV_r (pc := 48) (As := [_, _]) dX6_bestEdge_48 rfl (s_nodesTo hS1 hc (by omega) hn) rfl rfl (shK hS1 hc.1) rfl rfl lk_X6_192 rfl (nb rfl) ⟨nb rfl, nb rfl⟩ rfl ?_
    refine g_istore (pc := 51) (lv' := [(0, _), (1, _), (2, _), (3, _), (4, _), (5, _), (6, _), (7, _)]) dX6_bestEdge_51 (nl rfl) rfl ?_
    refine g_iconst (pc := 53) (v := 0) dX6_bestEdge_53 rfl ?_
    refine g_istore (pc := 54) (lv' := [(0, _), (1, _), (2, _), (3, _), (4, _), (5, _), (6, _), (7, _), (8, _)]) dX6_bestEdge_54 (nl rfl) rfl ?_
    refine go_loop (pc := 56) n (fun i => [(0, .ref 0), (1, .int (nI s)), (2, .ref (6 + 2 * s)), (3, .ref (175 + 2 * s)), (4, .int (beI (mI M1 (6 + 2 * s)) (mI M1 (175 + 2 * s + 1)) n a q0 i).1), (5, .int (beI (mI M1 (6 + 2 * s)) (mI M1 (175 + 2 * s + 1)) n a q0 i).2), (6, .int (nI a)), (7, .int (nodesTo (mI M1 (175 + 2 * s + 1)) a n)), (8, .int (nI i))]) (fun i => M1) ⟨rfl, rfl, rfl, rfl, rfl, rfl, rfl, rfl, rfl, trivial⟩ rfl ?_ ?_
    · intro i hi ih2
      generalize beI (mI M1 (6 + 2 * s)) (mI M1 (175 + 2 * s + 1)) n a q0 n = Y at ih ⊢
      rw [beI] at ih2
      generalize beI (mI M1 (6 + 2 * s)) (mI M1 (175 + 2 * s + 1)) n a q0 i = q2 at ih2 ⊢
      have hend : ∀ v, v = beG (mI M1 (6 + 2 * s)) (mI M1 (175 + 2 * s + 1)) n a i → Go l jX6_bestEdge 7 140 1 6 (fun r' M9 => r' = .inl (some (.int X.1)) ∧ M9 = M1) 101 [(0, .ref 0), (1, .int (nI s)), (2, .ref (6 + 2 * s)), (3, .ref (175 + 2 * s)), (4, .int q2.1), (5, .int q2.2), (6, .int (nI a)), (7, .int (nodesTo (mI M1 (175 + 2 * s + 1)) a n)), (8, .int (nI i)), (9, .int v)] [] 0 0 M1 := by
        intro v hv
        subst hv
        refine g_iload (pc := 101) dX6_bestEdge_101 rfl ?_
        refine g_iload (pc := 103) dX6_bestEdge_103 rfl ?_
        refine g_icmp_le (pc := 105) (tgt := 121) dX6_bestEdge_105 rfl (fun h105 => ?_) (fun h105 => ?_)
        · rw [if_pos h105] at ih2
          refine g_iinc (pc := 121) (lv' := [(0, _), (1, _), (2, _), (3, _), (4, _), (5, _), (6, _), (7, _), (8, _), (9, _)]) dX6_bestEdge_121 rfl (nI_1 _) (nl rfl) rfl ?_
          refine g_goto (pc := 124) (tgt := 56) dX6_bestEdge_124 rfl ?_
          exact g_sub (lv' := [(0, _), (1, _), (2, _), (3, _), (4, _), (5, _), (6, _), (7, _), (8, _)]) ⟨rfl, rfl, rfl, rfl, rfl, rfl, rfl, rfl, rfl, trivial⟩ ih2
        · rw [if_neg h105] at ih2
          refine g_iload (pc := 108) dX6_bestEdge_108 rfl ?_
          refine g_istore (pc := 110) (lv' := [(0, _), (1, _), (2, _), (3, _), (4, _), (5, _), (6, _), (7, _), (8, _), (9, _)]) dX6_bestEdge_110 (nl rfl) rfl ?_
          refine g_iload (pc := 112) dX6_bestEdge_112 rfl ?_
          refine g_iload (pc := 114) dX6_bestEdge_114 rfl ?_
          refine g_invS_r (pc := 116) (As := [_, _]) dX6_bestEdge_116 rfl (s_edgeNumber) rfl rfl lk_X6_201 rfl (nb rfl) ⟨nb rfl, nb rfl⟩ rfl ?_
          refine g_istore (pc := 119) (lv' := [(0, _), (1, _), (2, _), (3, _), (4, _), (5, _), (6, _), (7, _), (8, _), (9, _)]) dX6_bestEdge_119 (nl rfl) rfl ?_
          refine g_iinc (pc := 121) (lv' := [(0, _), (1, _), (2, _), (3, _), (4, _), (5, _), (6, _), (7, _), (8, _), (9, _)]) dX6_bestEdge_121 rfl (nI_1 _) (nl rfl) rfl ?_
          refine g_goto (pc := 124) (tgt := 56) dX6_bestEdge_124 rfl ?_
          exact g_sub (lv' := [(0, _), (1, _), (2, _), (3, _), (4, _), (5, _), (6, _), (7, _), (8, _)]) ⟨rfl, rfl, rfl, rfl, rfl, rfl, rfl, rfl, rfl, trivial⟩ ih2
      refine g_iload (pc := 56) dX6_bestEdge_56 rfl ?_
      refine g_aload_n (pc := 58) dX6_bestEdge_58 rfl trivial ?_
      refine g_getf (pc := 59) dX6_bestEdge_59 fk_X6_19 (shK hS1 rfl) (fv_obj (shR hS1 rfl)) ?_
      refine g_getf (pc := 62) (v := .int _) dX6_bestEdge_62 fk_X6_89 (shK hS1 rfl) (fun _ => congrArg Value.int (hz1)) ?_
      refine g_icmp_ge (pc := 65) (tgt := 127) dX6_bestEdge_65 rfl (fun h65 => absurd h65 (nI_ge hi (by omega))) (fun _ => ?_)
      refine g_aload_n (pc := 68) dX6_bestEdge_68 rfl trivial ?_
      refine g_iload (pc := 69) dX6_bestEdge_69 rfl ?_
      refine g_iaload (pc := 71) dX6_bestEdge_71 (shK hS1 (rows_lay hs)) rfl (by omega) (nl rfl) ?_
      refine g_iload (pc := 72) dX6_bestEdge_72 rfl ?_
      refine g_invS_r (pc := 74) (As := [_, _]) dX6_bestEdge_74 rfl (s_hasOne (by omega)) rfl rfl lk_X6_116 rfl (nb rfl) ⟨nb rfl, nb rfl⟩ rfl ?_
      refine g_if_eq (pc := 77) (tgt := 84) dX6_bestEdge_77 rfl (fun h77 => ?_) (fun h77 => ?_)
      · rw [b1_0] at h77
        refine g_aload_n (pc := 84) dX6_bestEdge_84 rfl trivial ?_
        refine g_iload (pc := 85) dX6_bestEdge_85 rfl ?_
        refine g_iload (pc := 87) dX6_bestEdge_87 rfl ?_
        refine g_aload_n (pc := 89) dX6_bestEdge_89 rfl trivial ?_
        refine g_getf (pc := 90) dX6_bestEdge_90 fk_X6_19 (shK hS1 rfl) (fv_obj (shR hS1 rfl)) ?_
        refine g_getf (pc := 93) (v := .int _) dX6_bestEdge_93 fk_X6_89 (shK hS1 rfl) (fun _ => congrArg Value.int (hz1)) ?_
        refine g_invV_r (pc := 96) (As := [_, _, _]) dX6_bestEdge_96 rfl (s_gainWith hS1 hc (by omega) hn) rfl rfl (shK hS1 hc.1) rfl rfl lk_X6_195 rfl (nb rfl) ⟨nb rfl, nb rfl⟩ rfl ?_
        refine g_istore (pc := 99) (lv' := [(0, _), (1, _), (2, _), (3, _), (4, _), (5, _), (6, _), (7, _), (8, _), (9, _)]) dX6_bestEdge_99 (nl rfl) rfl ?_
        exact hend _ (by unfold beG; rw [if_neg (by rw [h77]; decide)])
      · rw [b1_0, Bool.not_eq_false] at h77
        refine g_iconst (pc := 80) (v := (-1)) dX6_bestEdge_80 rfl ?_
        refine g_goto (pc := 81) (tgt := 99) dX6_bestEdge_81 rfl ?_
        refine g_istore (pc := 99) (lv' := [(0, _), (1, _), (2, _), (3, _), (4, _), (5, _), (6, _), (7, _), (8, _), (9, _)]) dX6_bestEdge_99 (nl rfl) rfl ?_
        exact hend _ (by unfold beG; rw [if_pos h77])
    · refine g_iload (pc := 56) dX6_bestEdge_56 rfl ?_
      refine g_aload_n (pc := 58) dX6_bestEdge_58 rfl trivial ?_
      refine g_getf (pc := 59) dX6_bestEdge_59 fk_X6_19 (shK hS1 rfl) (fv_obj (shR hS1 rfl)) ?_
      refine g_getf (pc := 62) (v := .int _) dX6_bestEdge_62 fk_X6_89 (shK hS1 rfl) (fun _ => congrArg Value.int (hz1)) ?_
      refine g_icmp_ge (pc := 65) (tgt := 127) dX6_bestEdge_65 rfl (fun _ => ?_) (fun h65 => absurd (nI_le (Nat.le_refl _) (by omega)) h65)
      refine g_iinc (pc := 127) (lv' := [(0, _), (1, _), (2, _), (3, _), (4, _), (5, _), (6, _), (7, _), (8, _)]) dX6_bestEdge_127 rfl (nI_1 _) (nl rfl) rfl ?_
      refine g_goto (pc := 130) (tgt := 26) dX6_bestEdge_130 rfl ?_
      exact g_sub (lv' := [(0, _), (1, _), (2, _), (3, _), (4, _), (5, _), (6, _)]) ⟨rfl, rfl, rfl, rfl, rfl, rfl, rfl, trivial⟩ ih
  · refine g_iload (pc := 26) dX6_bestEdge_26 rfl ?_
    refine g_aload_n (pc := 28) dX6_bestEdge_28 rfl trivial ?_
    refine g_getf (pc := 29) dX6_bestEdge_29 fk_X6_19 (shK hS1 rfl) (fv_obj (shR hS1 rfl)) ?_
    refine g_getf (pc := 32) (v := .int _) dX6_bestEdge_32 fk_X6_89 (shK hS1 rfl) (fun _ => congrArg Value.int (hz1)) ?_
    refine g_icmp_ge (pc := 35) (tgt := 133) dX6_bestEdge_35 rfl (fun _ => ?_) (fun h35 => absurd (nI_le (Nat.le_refl _) (by omega)) h35)
    refine g_iload (pc := 133) dX6_bestEdge_133 rfl ?_
    refine g_ireturn (pc := 135) dX6_bestEdge_135 rfl rfl ?_
    exact ⟨rfl, rfl⟩
theorem x_bestEdge {v : Int32} (hS : Shp M) (h : ¬ inR v 6) : EvR l jX6_bestEdge 7 140 1 6 [.ref 0, .int v] M (.inr xIO) M := by
  refine ev_intro rfl (nb rfl) rfl ?_
  refine g_aload_n (pc := 0) dX6_bestEdge_0 rfl trivial ?_
  refine g_iload_n (pc := 1) dX6_bestEdge_1 rfl ?_
  refine g_invV_x (pc := 2) (As := [_]) dX6_bestEdge_2 rfl (x_needSlot hS h) rfl rfl (shK hS rfl) rfl rfl lk_X6_141 rfl (nb rfl) ⟨nb rfl, nb rfl⟩ rfl ?_
  exact ⟨rfl, rfl⟩
def wkL (M : Mem) (s n a k : Nat) : Int32 := if hb (mI M (6 + 2 * s) a) k = true then loV M s a k n else -1
def wkM (M : Mem) (s n a k : Nat) : Mem := if hb (mI M (6 + 2 * s) a) k = true then loM M s a k n else M
def wkI (s n a : Nat) (q : Mem × Int32 × Int32) : Nat → Mem × Int32 × Int32
  | 0 => q
  | k + 1 => (wkM (wkI s n a q k).1 s n a k, if wkL (wkI s n a q k).1 s n a k ≤ (wkI s n a q k).2.2 then (wkI s n a q k).2 else (32 * nI a + nI k, wkL (wkI s n a q k).1 s n a k))
def wkO (M : Mem) (s n : Nat) : Nat → Mem × Int32 × Int32
  | 0 => (M, -1, -1)
  | k + 1 => wkI s n k (wkO M s n k) n
/-- a memory that differs from M in made rows and closures alone -/
def Nr (M M' : Mem) : Prop := Shp M' ∧ ∀ i, i < 175 ∨ 196 ≤ i → mI M' i = mI M i
theorem lwMem_ne {s a b n i : Nat} (h : i ≠ 195) : mI (lwMem M s a b n) i = mI M i := by unfold lwMem; exact sI_ne h
theorem loM_nr {M' : Mem} {s a b n : Nat} (h : Nr M M') (hs : s < 6) : Nr M (loM M' s a b n) := by
  unfold loM
  refine ⟨clOf_S (by unfold lwMem; exact shp_sI h.1) s n, fun i hi => ?_⟩
  rw [clOf_ne (by omega) hs, lwMem_ne (by omega)]
  exact h.2 i hi
theorem wkM_nr {M' : Mem} {s n a k : Nat} (h : Nr M M') (hs : s < 6) : Nr M (wkM M' s n a k) := by
  unfold wkM
  split
  · exact loM_nr h hs
  · exact h
theorem wkI_nr {s n a : Nat} {q : Mem × Int32 × Int32} (h : Nr M q.1) (hs : s < 6) : ∀ k, Nr M (wkI s n a q k).1
  | 0 => h
  | k + 1 => wkM_nr (wkI_nr h hs k) hs
theorem wkO_nr {s n : Nat} (hS : Shp M) (hs : s < 6) : ∀ k, Nr M (wkO M s n k).1
  | 0 => ⟨hS, fun _ _ => rfl⟩
  | k + 1 => wkI_nr (wkO_nr hS hs k) hs n
theorem q_weakest {s n : Nat} (hS : Shp M) (hz : mI M 3 1 = nI n) (hn : n ≤ 32) (hs : s < 6) : EvR l jX6_weakest 7 190 1 6 [.ref 0, .int (nI s)] M (.inl (some (.int (wkO M s n n).2.1))) (wkO M s n n).1 := by
  refine ev_intro rfl (nb rfl) rfl ?_
  refine g_aload_n (pc := 0) dX6_weakest_0 rfl trivial ?_
  refine g_iload_n (pc := 1) dX6_weakest_1 rfl ?_
  refine g_invV_r (pc := 2) (As := [_]) dX6_weakest_2 rfl (s_needSlot (in6 hs)) rfl rfl (shK hS rfl) rfl rfl lk_X6_141 rfl (nb rfl) ⟨nb rfl, nb rfl⟩ rfl ?_
  refine g_aload_n (pc := 5) dX6_weakest_5 rfl trivial ?_
  refine g_iload_n (pc := 6) dX6_weakest_6 rfl ?_
  refine g_invV_r (pc := 7) (As := [_]) dX6_weakest_7 rfl (s_rowsOf hS hs) rfl rfl (shK hS rfl) rfl rfl lk_X6_112 rfl (nb rfl) ⟨nb rfl, nb rfl⟩ rfl ?_
  refine g_astore_n (pc := 10) (lv' := [(0, _), (1, _), (2, _)]) dX6_weakest_10 trivial (nl rfl) rfl ?_
  refine g_iconst (pc := 11) (v := (-1)) dX6_weakest_11 rfl ?_
  refine g_istore_n (pc := 12) (lv' := [(0, _), (1, _), (2, _), (3, _)]) dX6_weakest_12 (nl rfl) rfl ?_
  refine g_iconst (pc := 13) (v := (-1)) dX6_weakest_13 rfl ?_
  refine g_istore (pc := 14) (lv' := [(0, _), (1, _), (2, _), (3, _), (4, _)]) dX6_weakest_14 (nl rfl) rfl ?_
  refine g_iconst (pc := 16) (v := 0) dX6_weakest_16 rfl ?_
  refine g_istore (pc := 17) (lv' := [(0, _), (1, _), (2, _), (3, _), (4, _), (5, _)]) dX6_weakest_17 (nl rfl) rfl ?_
  refine go_loop (pc := 19) n (fun i => [(0, .ref 0), (1, .int (nI s)), (2, .ref (6 + 2 * s)), (3, .int (wkO M s n i).2.1), (4, .int (wkO M s n i).2.2), (5, .int (nI i))]) (fun i => (wkO M s n i).1) ⟨rfl, rfl, rfl, rfl, rfl, rfl, trivial⟩ rfl ?_ ?_
  · intro a ha ih
    generalize wkO M s n n = X at ih ⊢
    have h0 := wkO_nr (n := n) hS hs a
    rw [wkO] at ih
    generalize wkO M s n a = q0 at ih h0 ⊢
    have hz0 : mI q0.1 3 1 = nI n := (congrFun (h0.2 3 (by decide)) 1).trans hz
    have hS0 := h0.1
    refine g_iload (pc := 19) dX6_weakest_19 rfl ?_
    refine g_aload_n (pc := 21) dX6_weakest_21 rfl trivial ?_
    refine g_getf (pc := 22) dX6_weakest_22 fk_X6_19 (shK hS0 rfl) (fv_obj (shR hS0 rfl)) ?_
    refine g_getf (pc := 25) (v := .int _) dX6_weakest_25 fk_X6_89 (shK hS0 rfl) (fun _ => congrArg Value.int (hz0)) ?_
    refine g_icmp_ge (pc := 28) (tgt := 104) dX6_weakest_28 rfl (fun h28 => absurd h28 (nI_ge ha (by omega))) (fun _ => ?_)
    refine g_iconst (pc := 31) (v := 0) dX6_weakest_31 rfl ?_
    refine g_istore (pc := 32) (lv' := [(0, _), (1, _), (2, _), (3, _), (4, _), (5, _), (6, _)]) dX6_weakest_32 (nl rfl) rfl ?_
    refine go_loop (pc := 34) n (fun i => [(0, .ref 0), (1, .int (nI s)), (2, .ref (6 + 2 * s)), (3, .int (wkI s n a q0 i).2.1), (4, .int (wkI s n a q0 i).2.2), (5, .int (nI a)), (6, .int (nI i))]) (fun i => (wkI s n a q0 i).1) ⟨rfl, rfl, rfl, rfl, rfl, rfl, rfl, trivial⟩ rfl ?_ ?_
    · intro i hi ih2
      generalize wkI s n a q0 n = Y at ih ⊢
      have h1 := wkI_nr (n := n) (a := a) h0 hs i
      rw [wkI] at ih2
      generalize wkI s n a q0 i = q2 at ih2 h1 ⊢
      have hz1 : mI q2.1 3 1 = nI n := (congrFun (h1.2 3 (by decide)) 1).trans hz
      have hS1 := h1.1
      have q9 := s_lossWithout (l := l) hS1 hs hz1 hn ha hi
      have eL : lossB (mI (clOf (lwMem q2.1 s a i n) s n) (176 + 2 * s)) (mI (lwMem q2.1 s a i n) 195) a i n = loV q2.1 s a i n := rfl
      have eM : clOf (lwMem q2.1 s a i n) s n = loM q2.1 s a i n := rfl
      rw [eL, eM] at q9
      have hend : ∀ v M3, v = wkL q2.1 s n a i → M3 = wkM q2.1 s n a i → Go l jX6_weakest 7 190 1 6 (fun r' M9 => r' = .inl (some (.int X.2.1)) ∧ M9 = X.1) 73 [(0, .ref 0), (1, .int (nI s)), (2, .ref (6 + 2 * s)), (3, .int q2.2.1), (4, .int q2.2.2), (5, .int (nI a)), (6, .int (nI i)), (7, .int v)] [] 0 0 M3 := by
        intro v M3 hv hM
        subst hv
        subst hM
        refine g_iload (pc := 73) dX6_weakest_73 rfl ?_
        refine g_iload (pc := 75) dX6_weakest_75 rfl ?_
        refine g_icmp_le (pc := 77) (tgt := 92) dX6_weakest_77 rfl (fun h77 => ?_) (fun h77 => ?_)
        · rw [if_pos h77] at ih2
          refine g_iinc (pc := 92) (lv' := [(0, _), (1, _), (2, _), (3, _), (4, _), (5, _), (6, _), (7, _)]) dX6_weakest_92 rfl (nI_1 _) (nl rfl) rfl ?_
          refine g_goto (pc := 95) (tgt := 34) dX6_weakest_95 rfl ?_
          exact g_sub (lv' := [(0, _), (1, _), (2, _), (3, _), (4, _), (5, _), (6, _)]) ⟨rfl, rfl, rfl, rfl, rfl, rfl, rfl, trivial⟩ ih2
        · rw [if_neg h77] at ih2
          refine g_iload (pc := 80) dX6_weakest_80 rfl ?_
          refine g_istore (pc := 82) (lv' := [(0, _), (1, _), (2, _), (3, _), (4, _), (5, _), (6, _), (7, _)]) dX6_weakest_82 (nl rfl) rfl ?_
          refine g_iload (pc := 84) dX6_weakest_84 rfl ?_
          refine g_iload (pc := 86) dX6_weakest_86 rfl ?_
          refine g_invS_r (pc := 88) (As := [_, _]) dX6_weakest_88 rfl (s_edgeNumber) rfl rfl lk_X6_201 rfl (nb rfl) ⟨nb rfl, nb rfl⟩ rfl ?_
          refine g_istore_n (pc := 91) (lv' := [(0, _), (1, _), (2, _), (3, _), (4, _), (5, _), (6, _), (7, _)]) dX6_weakest_91 (nl rfl) rfl ?_
          refine g_iinc (pc := 92) (lv' := [(0, _), (1, _), (2, _), (3, _), (4, _), (5, _), (6, _), (7, _)]) dX6_weakest_92 rfl (nI_1 _) (nl rfl) rfl ?_
          refine g_goto (pc := 95) (tgt := 34) dX6_weakest_95 rfl ?_
          exact g_sub (lv' := [(0, _), (1, _), (2, _), (3, _), (4, _), (5, _), (6, _)]) ⟨rfl, rfl, rfl, rfl, rfl, rfl, rfl, trivial⟩ ih2
      refine g_iload (pc := 34) dX6_weakest_34 rfl ?_
      refine g_aload_n (pc := 36) dX6_weakest_36 rfl trivial ?_
      refine g_getf (pc := 37) dX6_weakest_37 fk_X6_19 (shK hS1 rfl) (fv_obj (shR hS1 rfl)) ?_
      refine g_getf (pc := 40) (v := .int _) dX6_weakest_40 fk_X6_89 (shK hS1 rfl) (fun _ => congrArg Value.int (hz1)) ?_
      refine g_icmp_ge (pc := 43) (tgt := 98) dX6_weakest_43 rfl (fun h43 => absurd h43 (nI_ge hi (by omega))) (fun _ => ?_)
      refine g_aload_n (pc := 46) dX6_weakest_46 rfl trivial ?_
      refine g_iload (pc := 47) dX6_weakest_47 rfl ?_
      refine g_iaload (pc := 49) dX6_weakest_49 (shK hS1 (rows_lay hs)) rfl (by omega) (nl rfl) ?_
      refine g_iload (pc := 50) dX6_weakest_50 rfl ?_
      refine g_invS_r (pc := 52) (As := [_, _]) dX6_weakest_52 rfl (s_hasOne (by omega)) rfl rfl lk_X6_116 rfl (nb rfl) ⟨nb rfl, nb rfl⟩ rfl ?_
      refine g_if_eq (pc := 55) (tgt := 70) dX6_weakest_55 rfl (fun h55 => ?_) (fun h55 => ?_)
      · rw [b1_0] at h55
        refine g_iconst (pc := 70) (v := (-1)) dX6_weakest_70 rfl ?_
        refine g_istore (pc := 71) (lv' := [(0, _), (1, _), (2, _), (3, _), (4, _), (5, _), (6, _), (7, _)]) dX6_weakest_71 (nl rfl) rfl ?_
        exact hend _ _ (by unfold wkL; rw [if_neg (by rw [h55]; decide)]) (by unfold wkM; rw [if_neg (by rw [h55]; decide)])
      · rw [b1_0, Bool.not_eq_false] at h55
        refine g_aload_n (pc := 58) dX6_weakest_58 rfl trivial ?_
        refine g_iload_n (pc := 59) dX6_weakest_59 rfl ?_
        refine g_iload (pc := 60) dX6_weakest_60 rfl ?_
        refine g_iload (pc := 62) dX6_weakest_62 rfl ?_
        refine g_invV_r (pc := 64) (As := [_, _, _]) dX6_weakest_64 rfl (q9) rfl rfl (shK hS1 rfl) rfl rfl lk_X6_198 rfl (nb rfl) ⟨nb rfl, nb rfl⟩ rfl ?_
        refine g_goto (pc := 67) (tgt := 71) dX6_weakest_67 rfl ?_
        refine g_istore (pc := 71) (lv' := [(0, _), (1, _), (2, _), (3, _), (4, _), (5, _), (6, _), (7, _)]) dX6_weakest_71 (nl rfl) rfl ?_
        exact hend _ _ (by unfold wkL; rw [if_pos h55]) (by unfold wkM; rw [if_pos h55])
    · have h1 := wkI_nr (n := n) (a := a) h0 hs n
      generalize wkI s n a q0 n = q2 at ih h1 ⊢
      have hz1 : mI q2.1 3 1 = nI n := (congrFun (h1.2 3 (by decide)) 1).trans hz
      have hS1 := h1.1
      refine g_iload (pc := 34) dX6_weakest_34 rfl ?_
      refine g_aload_n (pc := 36) dX6_weakest_36 rfl trivial ?_
      refine g_getf (pc := 37) dX6_weakest_37 fk_X6_19 (shK hS1 rfl) (fv_obj (shR hS1 rfl)) ?_
      refine g_getf (pc := 40) (v := .int _) dX6_weakest_40 fk_X6_89 (shK hS1 rfl) (fun _ => congrArg Value.int (hz1)) ?_
      refine g_icmp_ge (pc := 43) (tgt := 98) dX6_weakest_43 rfl (fun _ => ?_) (fun h43 => absurd (nI_le (Nat.le_refl _) (by omega)) h43)
      refine g_iinc (pc := 98) (lv' := [(0, _), (1, _), (2, _), (3, _), (4, _), (5, _), (6, _)]) dX6_weakest_98 rfl (nI_1 _) (nl rfl) rfl ?_
      refine g_goto (pc := 101) (tgt := 19) dX6_weakest_101 rfl ?_
      exact g_sub (lv' := [(0, _), (1, _), (2, _), (3, _), (4, _), (5, _)]) ⟨rfl, rfl, rfl, rfl, rfl, rfl, trivial⟩ ih
  · have h1 := wkO_nr (n := n) hS hs n
    generalize wkO M s n n = q2 at h1 ⊢
    have hz1 : mI q2.1 3 1 = nI n := (congrFun (h1.2 3 (by decide)) 1).trans hz
    have hS1 := h1.1
    refine g_iload (pc := 19) dX6_weakest_19 rfl ?_
    refine g_aload_n (pc := 21) dX6_weakest_21 rfl trivial ?_
    refine g_getf (pc := 22) dX6_weakest_22 fk_X6_19 (shK hS1 rfl) (fv_obj (shR hS1 rfl)) ?_
    refine g_getf (pc := 25) (v := .int _) dX6_weakest_25 fk_X6_89 (shK hS1 rfl) (fun _ => congrArg Value.int (hz1)) ?_
    refine g_icmp_ge (pc := 28) (tgt := 104) dX6_weakest_28 rfl (fun _ => ?_) (fun h28 => absurd (nI_le (Nat.le_refl _) (by omega)) h28)
    refine g_iload_n (pc := 104) dX6_weakest_104 rfl ?_
    refine g_ireturn (pc := 105) dX6_weakest_105 rfl rfl ?_
    exact ⟨rfl, rfl⟩
theorem x_weakest {v : Int32} (hS : Shp M) (h : ¬ inR v 6) : EvR l jX6_weakest 7 190 1 6 [.ref 0, .int v] M (.inr xIO) M := by
  refine ev_intro rfl (nb rfl) rfl ?_
  refine g_aload_n (pc := 0) dX6_weakest_0 rfl trivial ?_
  refine g_iload_n (pc := 1) dX6_weakest_1 rfl ?_
  refine g_invV_x (pc := 2) (As := [_]) dX6_weakest_2 rfl (x_needSlot hS h) rfl rfl (shK hS rfl) rfl rfl lk_X6_141 rfl (nb rfl) ⟨nb rfl, nb rfl⟩ rfl ?_
  exact ⟨rfl, rfl⟩
end
end
-- 205.update
section
/-! calls that change the state -/
/-- the desk: n nodes, p the place of the next past state, c past states -/
def Dk (M : Mem) (n p c : Nat) : Prop := Shp M ∧ mI M 3 1 = nI n ∧ n ≤ 32 ∧ mI M 0 4 = nI p ∧ p < 8 ∧ mI M 0 5 = nI c ∧ c ≤ 8 ∧ keptOk M 3
section
variable {l : Launch} {M : Mem} {n p c : Nat}
theorem remM_ne {i : Nat} (hp : p < 8) (h0 : i ≠ 0) (h : i < 32 ∨ 144 ≤ i) : mI (remM M p c) i = mI M i := by
  unfold remM
  rw [pI_i h0, pI_i h0, stTake_ne (by omega)]
theorem d_remember (hD : Dk M n p c) : EvR l jX6_remember 3 120 0 0 [.ref 0] M (.inl none) (remM M p c) :=
  s_remember hD.1 hD.2.2.2.2.1 hD.2.2.2.2.2.2.1 hD.2.2.2.1 hD.2.2.2.2.2.1 hD.2.2.2.2.2.2.2
theorem d_z (hD : Dk M n p c) : mI (remM M p c) 3 1 = nI n := by rw [remM_ne hD.2.2.2.2.1 (by decide) (by decide)]; exact hD.2.1
def swV (M : Mem) (s r n : Nat) (x : Int64) : Int32 := bcJ ((x.toInt32 &&& lowM n) ^^^ mI M (6 + 2 * s) r)
def swM (M : Mem) (s r n p c : Nat) (x : Int64) : Mem := noteM (sI (remM M p c) (6 + 2 * s) (fun_set (mI M (6 + 2 * s)) r (x.toInt32 &&& lowM n))) s (nI n)
theorem u_setRow {s r : Nat} {x : Int64} (hD : Dk M n p c) (hs : s < 6) (hr : r < n) : EvR l jX6_setRow 8 150 2 12 [.ref 0, .int (nI s), .int (nI r), .long x] M (.inl (some (.int (swV M s r n x)))) (swM M s r n p c x) := by
  have hn := hD.2.2.1
  have hS1 := remM_S hD.1 p c
  have hz1 := d_z hD
  have er : mI (remM M p c) (6 + 2 * s) = mI M (6 + 2 * s) := remM_ne hD.2.2.2.2.1 (by omega) (by omega)
  have q1 := d_remember (l := l) hD
  unfold swV swM
  rw [← er]
  generalize remM M p c = R at *
  have hS2 : Shp (sI R (6 + 2 * s) (fun_set (mI R (6 + 2 * s)) r (x.toInt32 &&& lowM n))) := shp_sI hS1
  have hz2 : mI (sI R (6 + 2 * s) (fun_set (mI R (6 + 2 * s)) r (x.toInt32 &&& lowM n))) 3 1 = nI n := by rw [sI_ne (by omega)]; exact hz1
  have ev : mI (noteM (sI R (6 + 2 * s) (fun_set (mI R (6 + 2 * s)) r (x.toInt32 &&& lowM n))) s (nI n)) (6 + 2 * s) r = x.toInt32 &&& lowM n := by rw [noteM_ne (by omega) (by omega), sI_self, fs_self]
  have q2 := s_noteChange (l := l) hS2 hs hz2
  have hS3 := noteM_S hS2 s (nI n)
  refine ev_intro rfl (nb rfl) rfl ?_
  refine g_aload_n (pc := 0) dX6_setRow_0 rfl trivial ?_
  refine g_iload_n (pc := 1) dX6_setRow_1 rfl ?_
  refine g_iload_n (pc := 2) dX6_setRow_2 rfl ?_
  refine g_invV_r (pc := 3) (As := [_, _]) dX6_setRow_3 rfl (s_needRow hD.1 hD.2.1 (in6 hs) (inR_nI hr (by omega))) rfl rfl (shK hD.1 rfl) rfl rfl lk_X6_120 rfl (nb rfl) ⟨nb rfl, nb rfl⟩ rfl ?_
  refine g_aload_n (pc := 6) dX6_setRow_6 rfl trivial ?_
  refine g_invV_r (pc := 7) (As := []) dX6_setRow_7 rfl (q1) rfl rfl (shK hD.1 rfl) rfl rfl lk_X6_222 rfl (nb rfl) ⟨nb rfl, nb rfl⟩ rfl ?_
  refine g_aload_n (pc := 10) dX6_setRow_10 rfl trivial ?_
  refine g_iload_n (pc := 11) dX6_setRow_11 rfl ?_
  refine g_invV_r (pc := 12) (As := [_]) dX6_setRow_12 rfl (s_rowsOf hS1 hs) rfl rfl (shK hS1 rfl) rfl rfl lk_X6_112 rfl (nb rfl) ⟨nb rfl, nb rfl⟩ rfl ?_
  refine g_astore (pc := 15) (lv' := [(0, _), (1, _), (2, _), (3, _), (5, _)]) dX6_setRow_15 trivial (nl rfl) rfl ?_
  refine g_aload (pc := 17) dX6_setRow_17 rfl trivial ?_
  refine g_iload_n (pc := 19) dX6_setRow_19 rfl ?_
  refine g_iaload (pc := 20) dX6_setRow_20 (shK hS1 (rows_lay hs)) rfl (by omega) (nl rfl) ?_
  refine g_istore (pc := 21) (lv' := [(0, _), (1, _), (2, _), (3, _), (5, _), (6, _)]) dX6_setRow_21 (nl rfl) rfl ?_
  refine g_aload (pc := 23) dX6_setRow_23 rfl trivial ?_
  refine g_iload_n (pc := 25) dX6_setRow_25 rfl ?_
  refine g_lload_n (pc := 26) dX6_setRow_26 rfl ?_
  refine g_l2i (pc := 27) dX6_setRow_27 rfl ?_
  refine g_aload_n (pc := 28) dX6_setRow_28 rfl trivial ?_
  refine g_getf (pc := 29) dX6_setRow_29 fk_X6_19 (shK hS1 rfl) (fv_obj (shR hS1 rfl)) ?_
  refine g_getf (pc := 32) (v := .int _) dX6_setRow_32 fk_X6_89 (shK hS1 rfl) (fun _ => congrArg Value.int (hz1)) ?_
  refine g_invS_r (pc := 35) (As := [_]) dX6_setRow_35 rfl (s_lowest hn) rfl rfl lk_X6_128 rfl (nb rfl) ⟨nb rfl, nb rfl⟩ rfl ?_
  refine g_iand (pc := 38) dX6_setRow_38 ?_
  refine g_iastore (pc := 39) dX6_setRow_39 (shK hS1 (rows_lay hs)) rfl (by omega) (nl rfl) ?_
  refine g_aload_n (pc := 40) dX6_setRow_40 rfl trivial ?_
  refine g_iload_n (pc := 41) dX6_setRow_41 rfl ?_
  refine g_invV_r (pc := 42) (As := [_]) dX6_setRow_42 rfl (q2) rfl rfl (shK hS2 rfl) rfl rfl lk_X6_244 rfl (nb rfl) ⟨nb rfl, nb rfl⟩ rfl ?_
  refine g_aload (pc := 45) dX6_setRow_45 rfl trivial ?_
  refine g_iload_n (pc := 47) dX6_setRow_47 rfl ?_
  refine g_iaload (pc := 48) dX6_setRow_48 (shK hS3 (rows_lay hs)) rfl (by omega) (nl rfl) ?_
  rw [ev]
  refine g_iload (pc := 49) dX6_setRow_49 rfl ?_
  refine g_ixor (pc := 51) dX6_setRow_51 ?_
  refine g_invS_r (pc := 52) (As := [_]) dX6_setRow_52 rfl (s_bitCount) rfl rfl lk_X6_132 rfl (nb rfl) ⟨nb rfl, nb rfl⟩ rfl ?_
  refine g_ireturn (pc := 55) dX6_setRow_55 rfl rfl ?_
  exact ⟨rfl, rfl⟩
theorem x_setRow {v w : Int32} {x : Int64} (hS : Shp M) (hz : mI M 3 1 = nI n) (h : ¬ (inR v 6 ∧ inR w n)) : EvR l jX6_setRow 8 150 2 12 [.ref 0, .int v, .int w, .long x] M (.inr xIO) M := by
  refine ev_intro rfl (nb rfl) rfl ?_
  refine g_aload_n (pc := 0) dX6_setRow_0 rfl trivial ?_
  refine g_iload_n (pc := 1) dX6_setRow_1 rfl ?_
  refine g_iload_n (pc := 2) dX6_setRow_2 rfl ?_
  refine g_invV_x (pc := 3) (As := [_, _]) dX6_setRow_3 rfl (x_needRow hS hz h) rfl rfl (shK hS rfl) rfl rfl lk_X6_120 rfl (nb rfl) ⟨nb rfl, nb rfl⟩ rfl ?_
  exact ⟨rfl, rfl⟩
/-- rows of r stored in slot t, and the ones there -/
def stV (R : Mem) (r t n : Nat) : Int32 := onesF (mI (storeM R r t n) (6 + 2 * t)) n
theorem u_copy {s t : Nat} (hD : Dk M n p c) (hs : s < 6) (ht : t < 6) : EvR l jX6_copy 7 140 2 12 [.ref 0, .int (nI s), .int (nI t)] M (.inl (some (.int (stV (remM M p c) (6 + 2 * s) t n)))) (storeM (remM M p c) (6 + 2 * s) t n) := by
  have hS1 := remM_S hD.1 p c
  have hz1 := d_z hD
  have q1 := d_remember (l := l) hD
  unfold stV
  generalize remM M p c = R at *
  have q2 := s_store (l := l) (r := 6 + 2 * s) (n := n) hS1 ht hz1 hD.2.2.1 (shK hS1 (rows_lay hs))
  refine ev_intro rfl (nb rfl) rfl ?_
  refine g_aload_n (pc := 0) dX6_copy_0 rfl trivial ?_
  refine g_iload_n (pc := 1) dX6_copy_1 rfl ?_
  refine g_invV_r (pc := 2) (As := [_]) dX6_copy_2 rfl (s_needSlot (in6 hs)) rfl rfl (shK hD.1 rfl) rfl rfl lk_X6_141 rfl (nb rfl) ⟨nb rfl, nb rfl⟩ rfl ?_
  refine g_aload_n (pc := 5) dX6_copy_5 rfl trivial ?_
  refine g_iload_n (pc := 6) dX6_copy_6 rfl ?_
  refine g_invV_r (pc := 7) (As := [_]) dX6_copy_7 rfl (s_needSlot (in6 ht)) rfl rfl (shK hD.1 rfl) rfl rfl lk_X6_141 rfl (nb rfl) ⟨nb rfl, nb rfl⟩ rfl ?_
  refine g_aload_n (pc := 10) dX6_copy_10 rfl trivial ?_
  refine g_invV_r (pc := 11) (As := []) dX6_copy_11 rfl (q1) rfl rfl (shK hD.1 rfl) rfl rfl lk_X6_222 rfl (nb rfl) ⟨nb rfl, nb rfl⟩ rfl ?_
  refine g_aload_n (pc := 14) dX6_copy_14 rfl trivial ?_
  refine g_aload_n (pc := 15) dX6_copy_15 rfl trivial ?_
  refine g_iload_n (pc := 16) dX6_copy_16 rfl ?_
  refine g_invV_r (pc := 17) (As := [_]) dX6_copy_17 rfl (s_rowsOf hS1 hs) rfl rfl (shK hS1 rfl) rfl rfl lk_X6_112 rfl (nb rfl) ⟨nb rfl, nb rfl⟩ rfl ?_
  refine g_iload_n (pc := 20) dX6_copy_20 rfl ?_
  refine g_invV_r (pc := 21) (As := [_, _]) dX6_copy_21 rfl (q2) rfl rfl (shK hS1 rfl) rfl rfl lk_X6_247 rfl (nb rfl) ⟨nb rfl, nb rfl⟩ rfl ?_
  refine g_ireturn (pc := 24) dX6_copy_24 rfl rfl ?_
  exact ⟨rfl, rfl⟩
theorem x_copy {v w : Int32} (hS : Shp M) (h : ¬ (inR v 6 ∧ inR w 6)) : EvR l jX6_copy 7 140 2 12 [.ref 0, .int v, .int w] M (.inr xIO) M := by
  refine ev_intro rfl (nb rfl) rfl ?_
  by_cases h1 : inR v 6
  · refine g_aload_n (pc := 0) dX6_copy_0 rfl trivial ?_
    refine g_iload_n (pc := 1) dX6_copy_1 rfl ?_
    refine g_invV_r (pc := 2) (As := [_]) dX6_copy_2 rfl (s_needSlot h1) rfl rfl (shK hS rfl) rfl rfl lk_X6_141 rfl (nb rfl) ⟨nb rfl, nb rfl⟩ rfl ?_
    refine g_aload_n (pc := 5) dX6_copy_5 rfl trivial ?_
    refine g_iload_n (pc := 6) dX6_copy_6 rfl ?_
    refine g_invV_x (pc := 7) (As := [_]) dX6_copy_7 rfl (x_needSlot hS (fun h2 => h ⟨h1, h2⟩)) rfl rfl (shK hS rfl) rfl rfl lk_X6_141 rfl (nb rfl) ⟨nb rfl, nb rfl⟩ rfl ?_
    exact ⟨rfl, rfl⟩
  · refine g_aload_n (pc := 0) dX6_copy_0 rfl trivial ?_
    refine g_iload_n (pc := 1) dX6_copy_1 rfl ?_
    refine g_invV_x (pc := 2) (As := [_]) dX6_copy_2 rfl (x_needSlot hS h1) rfl rfl (shK hS rfl) rfl rfl lk_X6_141 rfl (nb rfl) ⟨nb rfl, nb rfl⟩ rfl ?_
    exact ⟨rfl, rfl⟩
/-- rows made beside, then stored -/
def mkM (R : Mem) (f : Nat → Int32) (n : Nat) : Mem := sI R 195 (wr (mI R 195) f n)
theorem mk_st {R : Mem} {f : Nat → Int32} (k : Nat) : pI (mkM R f k) 195 k (f k) = mkM R f (k + 1) := sI_st (wr_s _ f k)
theorem mk_ne {R : Mem} {f : Nat → Int32} {k i : Nat} (h : i ≠ 195) : mI (mkM R f k) i = mI R i := sI_ne h
theorem mk_S {R : Mem} (hS : Shp R) (f : Nat → Int32) (k : Nat) : Shp (mkM R f k) := shp_sI hS
theorem mk_0 {R : Mem} {f : Nat → Int32} : R = mkM R f 0 := by unfold mkM; rw [wr_0, sI_id]
theorem u_transpose {s t : Nat} (hD : Dk M n p c) (hs : s < 6) (ht : t < 6) : EvR l jX6_transpose 7 140 2 12 [.ref 0, .int (nI s), .int (nI t)] M (.inl (some (.int (stV (mkM (remM M p c) (fun k => colOf (mI M (6 + 2 * s)) k n) n) 195 t n)))) (storeM (mkM (remM M p c) (fun k => colOf (mI M (6 + 2 * s)) k n) n) 195 t n) := by
  have hn := hD.2.2.1
  have hS1 := remM_S hD.1 p c
  have hz1 := d_z hD
  have er : mI (remM M p c) (6 + 2 * s) = mI M (6 + 2 * s) := remM_ne hD.2.2.2.2.1 (by omega) (by omega)
  have q1 := d_remember (l := l) hD
  unfold stV
  rw [← er]
  generalize remM M p c = R at *
  have hS2 : ∀ k, Shp (mkM R (fun k => colOf (mI R (6 + 2 * s)) k n) k) := fun k => mk_S hS1 _ k
  have hz2 : ∀ k, mI (mkM R (fun k => colOf (mI R (6 + 2 * s)) k n) k) 3 1 = nI n := fun k => (congrFun (mk_ne (by decide)) 1).trans hz1
  have er2 : ∀ k, mI (mkM R (fun k => colOf (mI R (6 + 2 * s)) k n) k) (6 + 2 * s) = mI R (6 + 2 * s) := fun k => mk_ne (by omega)
  have q2 := s_store (l := l) (r := 195) (n := n) (hS2 n) ht (hz2 n) hn (shK (hS2 n) rfl)
  have est : ∀ k, pI (mkM R (fun k => colOf (mI R (6 + 2 * s)) k n) k) 195 k (colOf (mI R (6 + 2 * s)) k n) = mkM R (fun k => colOf (mI R (6 + 2 * s)) k n) (k + 1) := fun k => mk_st k
  have e00 : R = mkM R (fun k => colOf (mI R (6 + 2 * s)) k n) 0 := mk_0
  refine ev_intro rfl (nb rfl) rfl ?_
  refine g_aload_n (pc := 0) dX6_transpose_0 rfl trivial ?_
  refine g_iload_n (pc := 1) dX6_transpose_1 rfl ?_
  refine g_invV_r (pc := 2) (As := [_]) dX6_transpose_2 rfl (s_needSlot (in6 hs)) rfl rfl (shK hD.1 rfl) rfl rfl lk_X6_141 rfl (nb rfl) ⟨nb rfl, nb rfl⟩ rfl ?_
  refine g_aload_n (pc := 5) dX6_transpose_5 rfl trivial ?_
  refine g_iload_n (pc := 6) dX6_transpose_6 rfl ?_
  refine g_invV_r (pc := 7) (As := [_]) dX6_transpose_7 rfl (s_needSlot (in6 ht)) rfl rfl (shK hD.1 rfl) rfl rfl lk_X6_141 rfl (nb rfl) ⟨nb rfl, nb rfl⟩ rfl ?_
  refine g_aload_n (pc := 10) dX6_transpose_10 rfl trivial ?_
  refine g_invV_r (pc := 11) (As := []) dX6_transpose_11 rfl (q1) rfl rfl (shK hD.1 rfl) rfl rfl lk_X6_222 rfl (nb rfl) ⟨nb rfl, nb rfl⟩ rfl ?_
  refine g_iconst (pc := 14) (v := 0) dX6_transpose_14 rfl ?_
  refine g_istore_n (pc := 15) (lv' := [(0, _), (1, _), (2, _), (3, _)]) dX6_transpose_15 (nl rfl) rfl ?_
  refine go_loop (pc := 16) n (fun i => [(0, .ref 0), (1, .int (nI s)), (2, .int (nI t)), (3, .int (nI i))]) (fun i => mkM R (fun k => colOf (mI R (6 + 2 * s)) k n) i) ⟨rfl, rfl, rfl, rfl, trivial⟩ e00 ?_ ?_
  · intro i hi ih
    have hS3 := hS2 i
    have hz3 := hz2 i
    have er3 := er2 i
    have est3 := est i
    generalize mkM R (fun k => colOf (mI R (6 + 2 * s)) k n) n = M9 at ih ⊢
    generalize mkM R (fun k => colOf (mI R (6 + 2 * s)) k n) (i + 1) = M4 at *
    generalize mkM R (fun k => colOf (mI R (6 + 2 * s)) k n) i = M3 at *
    refine g_iload_n (pc := 16) dX6_transpose_16 rfl ?_
    refine g_aload_n (pc := 17) dX6_transpose_17 rfl trivial ?_
    refine g_getf (pc := 18) dX6_transpose_18 fk_X6_19 (shK hS3 rfl) (fv_obj (shR hS3 rfl)) ?_
    refine g_getf (pc := 21) (v := .int _) dX6_transpose_21 fk_X6_89 (shK hS3 rfl) (fun _ => congrArg Value.int (hz3)) ?_
    refine g_icmp_ge (pc := 24) (tgt := 55) dX6_transpose_24 rfl (fun h24 => absurd h24 (nI_ge hi (by omega))) (fun _ => ?_)
    refine g_aload_n (pc := 27) dX6_transpose_27 rfl trivial ?_
    refine g_getf (pc := 28) dX6_transpose_28 fk_X6_58 (shK hS3 rfl) (fv_arr (shR hS3 rfl)) ?_
    refine g_iload_n (pc := 31) dX6_transpose_31 rfl ?_
    refine g_aload_n (pc := 32) dX6_transpose_32 rfl trivial ?_
    refine g_iload_n (pc := 33) dX6_transpose_33 rfl ?_
    refine g_invV_r (pc := 34) (As := [_]) dX6_transpose_34 rfl (s_rowsOf hS3 hs) rfl rfl (shK hS3 rfl) rfl rfl lk_X6_112 rfl (nb rfl) ⟨nb rfl, nb rfl⟩ rfl ?_
    refine g_iload_n (pc := 37) dX6_transpose_37 rfl ?_
    refine g_aload_n (pc := 38) dX6_transpose_38 rfl trivial ?_
    refine g_getf (pc := 39) dX6_transpose_39 fk_X6_19 (shK hS3 rfl) (fv_obj (shR hS3 rfl)) ?_
    refine g_getf (pc := 42) (v := .int _) dX6_transpose_42 fk_X6_89 (shK hS3 rfl) (fun _ => congrArg Value.int (hz3)) ?_
    refine g_invS_r (pc := 45) (As := [_, _, _]) dX6_transpose_45 rfl (s_columnOf (shK hS3 (rows_lay hs)) (show i < 32 by omega) hn) rfl rfl lk_X6_149 rfl (nb rfl) ⟨nb rfl, nb rfl⟩ rfl ?_
    rw [er3]
    refine g_iastore (pc := 48) dX6_transpose_48 (shK hS3 rfl) rfl (by omega) (nl rfl) ?_
    refine go_cast est3 ?_
    refine g_iinc (pc := 49) (lv' := [(0, _), (1, _), (2, _), (3, _)]) dX6_transpose_49 rfl (nI_1 _) (nl rfl) rfl ?_
    refine g_goto (pc := 52) (tgt := 16) dX6_transpose_52 rfl ?_
    exact ih
  · have hS3 := hS2 n
    have hz3 := hz2 n
    generalize mkM R (fun k => colOf (mI R (6 + 2 * s)) k n) n = M9 at *
    refine g_iload_n (pc := 16) dX6_transpose_16 rfl ?_
    refine g_aload_n (pc := 17) dX6_transpose_17 rfl trivial ?_
    refine g_getf (pc := 18) dX6_transpose_18 fk_X6_19 (shK hS3 rfl) (fv_obj (shR hS3 rfl)) ?_
    refine g_getf (pc := 21) (v := .int _) dX6_transpose_21 fk_X6_89 (shK hS3 rfl) (fun _ => congrArg Value.int (hz3)) ?_
    refine g_icmp_ge (pc := 24) (tgt := 55) dX6_transpose_24 rfl (fun _ => ?_) (fun h24 => absurd (nI_le (Nat.le_refl _) (by omega)) h24)
    refine g_aload_n (pc := 55) dX6_transpose_55 rfl trivial ?_
    refine g_aload_n (pc := 56) dX6_transpose_56 rfl trivial ?_
    refine g_getf (pc := 57) dX6_transpose_57 fk_X6_58 (shK hS3 rfl) (fv_arr (shR hS3 rfl)) ?_
    refine g_iload_n (pc := 60) dX6_transpose_60 rfl ?_
    refine g_invV_r (pc := 61) (As := [_, _]) dX6_transpose_61 rfl (q2) rfl rfl (shK hS3 rfl) rfl rfl lk_X6_247 rfl (nb rfl) ⟨nb rfl, nb rfl⟩ rfl ?_
    refine g_ireturn (pc := 64) dX6_transpose_64 rfl rfl ?_
    exact ⟨rfl, rfl⟩
theorem x_transpose {v w : Int32} (hS : Shp M) (h : ¬ (inR v 6 ∧ inR w 6)) : EvR l jX6_transpose 7 140 2 12 [.ref 0, .int v, .int w] M (.inr xIO) M := by
  refine ev_intro rfl (nb rfl) rfl ?_
  by_cases h1 : inR v 6
  · refine g_aload_n (pc := 0) dX6_transpose_0 rfl trivial ?_
    refine g_iload_n (pc := 1) dX6_transpose_1 rfl ?_
    refine g_invV_r (pc := 2) (As := [_]) dX6_transpose_2 rfl (s_needSlot h1) rfl rfl (shK hS rfl) rfl rfl lk_X6_141 rfl (nb rfl) ⟨nb rfl, nb rfl⟩ rfl ?_
    refine g_aload_n (pc := 5) dX6_transpose_5 rfl trivial ?_
    refine g_iload_n (pc := 6) dX6_transpose_6 rfl ?_
    refine g_invV_x (pc := 7) (As := [_]) dX6_transpose_7 rfl (x_needSlot hS (fun h2 => h ⟨h1, h2⟩)) rfl rfl (shK hS rfl) rfl rfl lk_X6_141 rfl (nb rfl) ⟨nb rfl, nb rfl⟩ rfl ?_
    exact ⟨rfl, rfl⟩
  · refine g_aload_n (pc := 0) dX6_transpose_0 rfl trivial ?_
    refine g_iload_n (pc := 1) dX6_transpose_1 rfl ?_
    refine g_invV_x (pc := 2) (As := [_]) dX6_transpose_2 rfl (x_needSlot hS h1) rfl rfl (shK hS rfl) rfl rfl lk_X6_141 rfl (nb rfl) ⟨nb rfl, nb rfl⟩ rfl ?_
    exact ⟨rfl, rfl⟩
theorem u_close {s t : Nat} (hD : Dk M n p c) (hs : s < 6) (ht : t < 6) : EvR l jX6_close 7 140 2 12 [.ref 0, .int (nI s), .int (nI t)] M (.inl (some (.int (stV (clOf (remM M p c) s n) (175 + 2 * s + 1) t n)))) (storeM (clOf (remM M p c) s n) (175 + 2 * s + 1) t n) := by
  have hn := hD.2.2.1
  have hS1 := remM_S hD.1 p c
  have hz1 := d_z hD
  have q1 := d_remember (l := l) hD
  have hc := cl_ok' s hs
  unfold stV
  generalize remM M p c = R at *
  have hS2 := clOf_S hS1 s n
  have hz2 := clOf_z hz1 hs
  have q2 := s_closureOf (l := l) hS1 hs hz1 hn
  generalize clOf R s n = R2 at *
  have q3 := s_store (l := l) (r := 175 + 2 * s + 1) (n := n) hS2 ht hz2 hn (shK hS2 hc.2.1)
  refine ev_intro rfl (nb rfl) rfl ?_
  refine g_aload_n (pc := 0) dX6_close_0 rfl trivial ?_
  refine g_iload_n (pc := 1) dX6_close_1 rfl ?_
  refine g_invV_r (pc := 2) (As := [_]) dX6_close_2 rfl (s_needSlot (in6 hs)) rfl rfl (shK hD.1 rfl) rfl rfl lk_X6_141 rfl (nb rfl) ⟨nb rfl, nb rfl⟩ rfl ?_
  refine g_aload_n (pc := 5) dX6_close_5 rfl trivial ?_
  refine g_iload_n (pc := 6) dX6_close_6 rfl ?_
  refine g_invV_r (pc := 7) (As := [_]) dX6_close_7 rfl (s_needSlot (in6 ht)) rfl rfl (shK hD.1 rfl) rfl rfl lk_X6_141 rfl (nb rfl) ⟨nb rfl, nb rfl⟩ rfl ?_
  refine g_aload_n (pc := 10) dX6_close_10 rfl trivial ?_
  refine g_invV_r (pc := 11) (As := []) dX6_close_11 rfl (q1) rfl rfl (shK hD.1 rfl) rfl rfl lk_X6_222 rfl (nb rfl) ⟨nb rfl, nb rfl⟩ rfl ?_
  refine g_aload_n (pc := 14) dX6_close_14 rfl trivial ?_
  refine g_aload_n (pc := 15) dX6_close_15 rfl trivial ?_
  refine g_iload_n (pc := 16) dX6_close_16 rfl ?_
  refine g_invV_r (pc := 17) (As := [_]) dX6_close_17 rfl (q2) rfl rfl (shK hS1 rfl) rfl rfl lk_X6_162 rfl (nb rfl) ⟨nb rfl, nb rfl⟩ rfl ?_
  refine g_getf (pc := 20) dX6_close_20 fk_X6_166 (shK hS2 hc.1) (fv_arr (shR hS2 hc.2.2)) ?_
  refine g_iload_n (pc := 23) dX6_close_23 rfl ?_
  refine g_invV_r (pc := 24) (As := [_, _]) dX6_close_24 rfl (q3) rfl rfl (shK hS2 rfl) rfl rfl lk_X6_247 rfl (nb rfl) ⟨nb rfl, nb rfl⟩ rfl ?_
  refine g_ireturn (pc := 27) dX6_close_27 rfl rfl ?_
  exact ⟨rfl, rfl⟩
theorem x_close {v w : Int32} (hS : Shp M) (h : ¬ (inR v 6 ∧ inR w 6)) : EvR l jX6_close 7 140 2 12 [.ref 0, .int v, .int w] M (.inr xIO) M := by
  refine ev_intro rfl (nb rfl) rfl ?_
  by_cases h1 : inR v 6
  · refine g_aload_n (pc := 0) dX6_close_0 rfl trivial ?_
    refine g_iload_n (pc := 1) dX6_close_1 rfl ?_
    refine g_invV_r (pc := 2) (As := [_]) dX6_close_2 rfl (s_needSlot h1) rfl rfl (shK hS rfl) rfl rfl lk_X6_141 rfl (nb rfl) ⟨nb rfl, nb rfl⟩ rfl ?_
    refine g_aload_n (pc := 5) dX6_close_5 rfl trivial ?_
    refine g_iload_n (pc := 6) dX6_close_6 rfl ?_
    refine g_invV_x (pc := 7) (As := [_]) dX6_close_7 rfl (x_needSlot hS (fun h2 => h ⟨h1, h2⟩)) rfl rfl (shK hS rfl) rfl rfl lk_X6_141 rfl (nb rfl) ⟨nb rfl, nb rfl⟩ rfl ?_
    exact ⟨rfl, rfl⟩
  · refine g_aload_n (pc := 0) dX6_close_0 rfl trivial ?_
    refine g_iload_n (pc := 1) dX6_close_1 rfl ?_
    refine g_invV_x (pc := 2) (As := [_]) dX6_close_2 rfl (x_needSlot hS h1) rfl rfl (shK hS rfl) rfl rfl lk_X6_141 rfl (nb rfl) ⟨nb rfl, nb rfl⟩ rfl ?_
    exact ⟨rfl, rfl⟩
end
end
-- 206.update
section
section
variable {l : Launch} {M : Mem} {n p c : Nat}
theorem u_combine {a b t how : Nat} (hD : Dk M n p c) (ha : a < 6) (hb9 : b < 6) (ht : t < 6) (hh : how < 4) : EvR l jX6_combine 7 140 4 24 [.ref 0, .int (nI a), .int (nI b), .int (nI t), .int (nI how)] M (.inl (some (.int (stV (mkM (remM M p c) (fun k => comb (mI M (6 + 2 * a) k) (mI M (6 + 2 * b) k) how) n) 195 t n)))) (storeM (mkM (remM M p c) (fun k => comb (mI M (6 + 2 * a) k) (mI M (6 + 2 * b) k) how) n) 195 t n) := by
  have hn := hD.2.2.1
  have hS1 := remM_S hD.1 p c
  have hz1 := d_z hD
  have er : ∀ s, s < 6 → mI (remM M p c) (6 + 2 * s) = mI M (6 + 2 * s) := fun s hs => remM_ne hD.2.2.2.2.1 (by omega) (by omega)
  have q1 := d_remember (l := l) hD
  unfold stV
  rw [← er a ha, ← er b hb9]
  generalize remM M p c = R at *
  obtain ⟨f, hf⟩ : ∃ f, f = fun k => comb (mI R (6 + 2 * a) k) (mI R (6 + 2 * b) k) how := ⟨_, rfl⟩
  have hf1 : ∀ k, f k = comb (mI R (6 + 2 * a) k) (mI R (6 + 2 * b) k) how := fun k => by rw [hf]
  rw [← hf]
  have hS2 : ∀ k, Shp (mkM R f k) := fun k => mk_S hS1 f k
  have hz2 : ∀ k, mI (mkM R f k) 3 1 = nI n := fun k => (congrFun (mk_ne (by decide)) 1).trans hz1
  have er2 : ∀ k s, s < 6 → mI (mkM R f k) (6 + 2 * s) = mI R (6 + 2 * s) := fun k s hs => mk_ne (by omega)
  have q2 := s_store (l := l) (r := 195) (n := n) (hS2 n) ht (hz2 n) hn (shK (hS2 n) rfl)
  have est : ∀ k, pI (mkM R f k) 195 k (f k) = mkM R f (k + 1) := fun k => mk_st k
  have e00 : R = mkM R f 0 := mk_0
  refine ev_intro rfl (nb rfl) rfl ?_
  refine g_aload_n (pc := 0) dX6_combine_0 rfl trivial ?_
  refine g_iload_n (pc := 1) dX6_combine_1 rfl ?_
  refine g_invV_r (pc := 2) (As := [_]) dX6_combine_2 rfl (s_needSlot (in6 ha)) rfl rfl (shK hD.1 rfl) rfl rfl lk_X6_141 rfl (nb rfl) ⟨nb rfl, nb rfl⟩ rfl ?_
  refine g_aload_n (pc := 5) dX6_combine_5 rfl trivial ?_
  refine g_iload_n (pc := 6) dX6_combine_6 rfl ?_
  refine g_invV_r (pc := 7) (As := [_]) dX6_combine_7 rfl (s_needSlot (in6 hb9)) rfl rfl (shK hD.1 rfl) rfl rfl lk_X6_141 rfl (nb rfl) ⟨nb rfl, nb rfl⟩ rfl ?_
  refine g_aload_n (pc := 10) dX6_combine_10 rfl trivial ?_
  refine g_iload_n (pc := 11) dX6_combine_11 rfl ?_
  refine g_invV_r (pc := 12) (As := [_]) dX6_combine_12 rfl (s_needSlot (in6 ht)) rfl rfl (shK hD.1 rfl) rfl rfl lk_X6_141 rfl (nb rfl) ⟨nb rfl, nb rfl⟩ rfl ?_
  refine g_aload_n (pc := 15) dX6_combine_15 rfl trivial ?_
  refine g_iload (pc := 16) dX6_combine_16 rfl ?_
  refine g_iconst (pc := 18) (v := 0) dX6_combine_18 rfl ?_
  refine g_iconst (pc := 19) (v := 3) dX6_combine_19 rfl ?_
  refine g_invV_r (pc := 20) (As := [_, _, _]) dX6_combine_20 rfl (s_needRange (nI_pos (by omega)) (nI_le (b := 3) (by omega) (by decide))) rfl rfl (shK hD.1 rfl) rfl rfl lk_X6_95 rfl (nb rfl) ⟨nb rfl, nb rfl⟩ rfl ?_
  refine g_aload_n (pc := 23) dX6_combine_23 rfl trivial ?_
  refine g_invV_r (pc := 24) (As := []) dX6_combine_24 rfl (q1) rfl rfl (shK hD.1 rfl) rfl rfl lk_X6_222 rfl (nb rfl) ⟨nb rfl, nb rfl⟩ rfl ?_
  refine g_iconst (pc := 27) (v := 0) dX6_combine_27 rfl ?_
  refine g_istore (pc := 28) (lv' := [(0, _), (1, _), (2, _), (3, _), (4, _), (5, _)]) dX6_combine_28 (nl rfl) rfl ?_
  refine go_loop (pc := 30) n (fun i => [(0, .ref 0), (1, .int (nI a)), (2, .int (nI b)), (3, .int (nI t)), (4, .int (nI how)), (5, .int (nI i))]) (fun i => mkM R f i) ⟨rfl, rfl, rfl, rfl, rfl, rfl, trivial⟩ e00 ?_ ?_
  · intro i hi ih
    have hS3 := hS2 i
    have hz3 := hz2 i
    have era := er2 i a ha
    have erb := er2 i b hb9
    have est3 := est i
    rw [hf1] at est3
    generalize mkM R f n = M9 at ih ⊢
    generalize mkM R f (i + 1) = M4 at *
    generalize mkM R f i = M3 at *
    refine g_iload (pc := 30) dX6_combine_30 rfl ?_
    refine g_aload_n (pc := 32) dX6_combine_32 rfl trivial ?_
    refine g_getf (pc := 33) dX6_combine_33 fk_X6_19 (shK hS3 rfl) (fv_obj (shR hS3 rfl)) ?_
    refine g_getf (pc := 36) (v := .int _) dX6_combine_36 fk_X6_89 (shK hS3 rfl) (fun _ => congrArg Value.int (hz3)) ?_
    refine g_icmp_ge (pc := 39) (tgt := 76) dX6_combine_39 rfl (fun h39 => absurd h39 (nI_ge hi (by omega))) (fun _ => ?_)
    refine g_aload_n (pc := 42) dX6_combine_42 rfl trivial ?_
    refine g_getf (pc := 43) dX6_combine_43 fk_X6_58 (shK hS3 rfl) (fv_arr (shR hS3 rfl)) ?_
    refine g_iload (pc := 46) dX6_combine_46 rfl ?_
    refine g_aload_n (pc := 48) dX6_combine_48 rfl trivial ?_
    refine g_iload_n (pc := 49) dX6_combine_49 rfl ?_
    refine g_invV_r (pc := 50) (As := [_]) dX6_combine_50 rfl (s_rowsOf hS3 ha) rfl rfl (shK hS3 rfl) rfl rfl lk_X6_112 rfl (nb rfl) ⟨nb rfl, nb rfl⟩ rfl ?_
    refine g_iload (pc := 53) dX6_combine_53 rfl ?_
    refine g_iaload (pc := 55) dX6_combine_55 (shK hS3 (rows_lay ha)) rfl (by omega) (nl rfl) ?_
    rw [era]
    refine g_aload_n (pc := 56) dX6_combine_56 rfl trivial ?_
    refine g_iload_n (pc := 57) dX6_combine_57 rfl ?_
    refine g_invV_r (pc := 58) (As := [_]) dX6_combine_58 rfl (s_rowsOf hS3 hb9) rfl rfl (shK hS3 rfl) rfl rfl lk_X6_112 rfl (nb rfl) ⟨nb rfl, nb rfl⟩ rfl ?_
    refine g_iload (pc := 61) dX6_combine_61 rfl ?_
    refine g_iaload (pc := 63) dX6_combine_63 (shK hS3 (rows_lay hb9)) rfl (by omega) (nl rfl) ?_
    rw [erb]
    refine g_iload (pc := 64) dX6_combine_64 rfl ?_
    refine g_invS_r (pc := 66) (As := [_, _, _]) dX6_combine_66 rfl (s_combined hh) rfl rfl lk_X6_250 rfl (nb rfl) ⟨nb rfl, nb rfl⟩ rfl ?_
    refine g_iastore (pc := 69) dX6_combine_69 (shK hS3 rfl) rfl (by omega) (nl rfl) ?_
    refine go_cast est3 ?_
    refine g_iinc (pc := 70) (lv' := [(0, _), (1, _), (2, _), (3, _), (4, _), (5, _)]) dX6_combine_70 rfl (nI_1 _) (nl rfl) rfl ?_
    refine g_goto (pc := 73) (tgt := 30) dX6_combine_73 rfl ?_
    exact ih
  · have hS3 := hS2 n
    have hz3 := hz2 n
    generalize mkM R f n = M9 at *
    refine g_iload (pc := 30) dX6_combine_30 rfl ?_
    refine g_aload_n (pc := 32) dX6_combine_32 rfl trivial ?_
    refine g_getf (pc := 33) dX6_combine_33 fk_X6_19 (shK hS3 rfl) (fv_obj (shR hS3 rfl)) ?_
    refine g_getf (pc := 36) (v := .int _) dX6_combine_36 fk_X6_89 (shK hS3 rfl) (fun _ => congrArg Value.int (hz3)) ?_
    refine g_icmp_ge (pc := 39) (tgt := 76) dX6_combine_39 rfl (fun _ => ?_) (fun h39 => absurd (nI_le (Nat.le_refl _) (by omega)) h39)
    refine g_aload_n (pc := 76) dX6_combine_76 rfl trivial ?_
    refine g_aload_n (pc := 77) dX6_combine_77 rfl trivial ?_
    refine g_getf (pc := 78) dX6_combine_78 fk_X6_58 (shK hS3 rfl) (fv_arr (shR hS3 rfl)) ?_
    refine g_iload_n (pc := 81) dX6_combine_81 rfl ?_
    refine g_invV_r (pc := 82) (As := [_, _]) dX6_combine_82 rfl (q2) rfl rfl (shK hS3 rfl) rfl rfl lk_X6_247 rfl (nb rfl) ⟨nb rfl, nb rfl⟩ rfl ?_
    refine g_ireturn (pc := 85) dX6_combine_85 rfl rfl ?_
    exact ⟨rfl, rfl⟩
def kpM (M : Mem) (s n p c : Nat) (f : Int32) : Mem := mxAnew (pI (remM M p c) (5 + 2 * s) 1 f) (5 + 2 * s) (nI n)
theorem kpM_S (hS : Shp M) (s : Nat) (f : Int32) : Shp (kpM M s n p c f) := (shp_pI (remM_S hS p c)).anew
theorem u_keep {s : Nat} {f : Int32} (hD : Dk M n p c) (hs : s < 6) (hf : k01 f) : EvR l jX6_keep 7 140 1 6 [.ref 0, .int (nI s), .int f] M (.inl (some (.int (nI (keptC (kpM M s n p c f) 6))))) (kpM M s n p c f) := by
  have hS1 := remM_S hD.1 p c
  have hz1 := d_z hD
  have q1 := d_remember (l := l) hD
  have hS4 := kpM_S (n := n) (p := p) (c := c) hD.1 s f
  have q4 := s_keptSlots (l := l) hS4
  generalize keptC (kpM M s n p c f) 6 = K at *
  unfold kpM at *
  generalize remM M p c = R at *
  obtain ⟨m1, m2⟩ := mx5 hs
  have hS2 : Shp (pI R (5 + 2 * s) 1 f) := shp_pI hS1
  have hz2 : mI (pI R (5 + 2 * s) 1 f) 3 1 = nI n := (congrFun (pI_i (by omega)) 1).trans hz1
  have q2 := s_noteMadeAnew (l := l) (x := nI n) hS2 m1
  generalize hM2 : pI R (5 + 2 * s) 1 f = M2 at *
  generalize mxAnew M2 (5 + 2 * s) (nI n) = M3 at *
  refine ev_intro rfl (nb rfl) rfl ?_
  refine g_aload_n (pc := 0) dX6_keep_0 rfl trivial ?_
  refine g_iload_n (pc := 1) dX6_keep_1 rfl ?_
  refine g_invV_r (pc := 2) (As := [_]) dX6_keep_2 rfl (s_needSlot (in6 hs)) rfl rfl (shK hD.1 rfl) rfl rfl lk_X6_141 rfl (nb rfl) ⟨nb rfl, nb rfl⟩ rfl ?_
  refine g_aload_n (pc := 5) dX6_keep_5 rfl trivial ?_
  refine g_invV_r (pc := 6) (As := []) dX6_keep_6 rfl (q1) rfl rfl (shK hD.1 rfl) rfl rfl lk_X6_222 rfl (nb rfl) ⟨nb rfl, nb rfl⟩ rfl ?_
  refine g_aload_n (pc := 9) dX6_keep_9 rfl trivial ?_
  refine g_getf (pc := 10) dX6_keep_10 fk_X6_19 (shK hS1 rfl) (fv_obj (shR hS1 rfl)) ?_
  refine g_getf (pc := 13) dX6_keep_13 fk_X6_225 (shK hS1 rfl) (fv_arr (shR hS1 rfl)) ?_
  refine g_iload_n (pc := 16) dX6_keep_16 rfl ?_
  refine g_aaload_Matrix (pc := 17) dX6_keep_17 (shK hS1 rfl) rfl hs (by decide) (shR hS1 m2) ?_
  refine g_astore_n (pc := 18) (lv' := [(0, _), (1, _), (2, _), (3, _)]) dX6_keep_18 trivial (nl rfl) rfl ?_
  refine g_aload_n (pc := 19) dX6_keep_19 rfl trivial ?_
  refine g_iload_n (pc := 20) dX6_keep_20 rfl ?_
  refine g_putI (pc := 21) dX6_keep_21 fp_X6_288 (shK hS1 m1.1) (k01_n hf) (fun _ _ _ _ => rfl) ?_
  refine go_cast hM2 ?_
  refine g_aload_n (pc := 24) dX6_keep_24 rfl trivial ?_
  refine g_aload_n (pc := 25) dX6_keep_25 rfl trivial ?_
  refine g_getf (pc := 26) dX6_keep_26 fk_X6_19 (shK hS2 rfl) (fv_obj (shR hS2 rfl)) ?_
  refine g_getf (pc := 29) (v := .int _) dX6_keep_29 fk_X6_89 (shK hS2 rfl) (fun _ => congrArg Value.int (hz2)) ?_
  refine g_invV_r (pc := 32) (As := [_]) dX6_keep_32 rfl (q2) rfl rfl (shK hS2 m1.1) rfl rfl lk_X6_292 rfl (nb rfl) ⟨nb rfl, nb rfl⟩ rfl ?_
  refine g_aload_n (pc := 35) dX6_keep_35 rfl trivial ?_
  refine g_invV_r (pc := 36) (As := []) dX6_keep_36 rfl (q4) rfl rfl (shK hS4 rfl) rfl rfl lk_X6_102 rfl (nb rfl) ⟨nb rfl, nb rfl⟩ rfl ?_
  refine g_ireturn (pc := 39) dX6_keep_39 rfl rfl ?_
  exact ⟨rfl, rfl⟩
theorem u_setBlock {v : Int32} (hD : Dk M n p c) (h1 : ¬ v < 1) (h2 : v ≤ 8) : EvR l jX6_setBlock 7 140 1 6 [.ref 0, .int v] M (.inl (some (.int (mI M 3 2)))) (pI (remM M p c) 3 2 v) := by
  have hS1 := remM_S hD.1 p c
  have q1 := d_remember (l := l) hD
  have eb : mI (remM M p c) 3 2 = mI M 3 2 := by rw [remM_ne hD.2.2.2.2.1 (by decide) (by decide)]
  generalize remM M p c = R at *
  refine ev_intro rfl (nb rfl) rfl ?_
  refine g_aload_n (pc := 0) dX6_setBlock_0 rfl trivial ?_
  refine g_iload_n (pc := 1) dX6_setBlock_1 rfl ?_
  refine g_iconst (pc := 2) (v := 1) dX6_setBlock_2 rfl ?_
  refine g_bipush (pc := 3) (v := 8) dX6_setBlock_3 rfl ?_
  refine g_invV_r (pc := 5) (As := [_, _, _]) dX6_setBlock_5 rfl (s_needRange h1 h2) rfl rfl (shK hD.1 rfl) rfl rfl lk_X6_95 rfl (nb rfl) ⟨nb rfl, nb rfl⟩ rfl ?_
  refine g_aload_n (pc := 8) dX6_setBlock_8 rfl trivial ?_
  refine g_invV_r (pc := 9) (As := []) dX6_setBlock_9 rfl (q1) rfl rfl (shK hD.1 rfl) rfl rfl lk_X6_222 rfl (nb rfl) ⟨nb rfl, nb rfl⟩ rfl ?_
  refine g_aload_n (pc := 12) dX6_setBlock_12 rfl trivial ?_
  refine g_getf (pc := 13) dX6_setBlock_13 fk_X6_19 (shK hS1 rfl) (fv_obj (shR hS1 rfl)) ?_
  refine g_getf (pc := 16) (v := .int _) dX6_setBlock_16 fk_X6_99 (shK hS1 rfl) (fun _ => congrArg Value.int (eb)) ?_
  refine g_istore_n (pc := 19) (lv' := [(0, _), (1, _), (2, _)]) dX6_setBlock_19 (nl rfl) rfl ?_
  refine g_aload_n (pc := 20) dX6_setBlock_20 rfl trivial ?_
  refine g_getf (pc := 21) dX6_setBlock_21 fk_X6_19 (shK hS1 rfl) (fv_obj (shR hS1 rfl)) ?_
  refine g_iload_n (pc := 24) dX6_setBlock_24 rfl ?_
  refine g_putI (pc := 25) dX6_setBlock_25 fp_X6_99 (shK hS1 rfl) ⟨rfl, rfl⟩ (fun _ _ _ _ => rfl) ?_
  refine g_iload_n (pc := 28) dX6_setBlock_28 rfl ?_
  refine g_ireturn (pc := 29) dX6_setBlock_29 rfl rfl ?_
  exact ⟨rfl, rfl⟩
theorem x_setBlock {v : Int32} (hS : Shp M) (h : ¬ (¬ v < 1 ∧ v ≤ 8)) : EvR l jX6_setBlock 7 140 1 6 [.ref 0, .int v] M (.inr xIA) M := by
  refine ev_intro rfl (nb rfl) rfl ?_
  refine g_aload_n (pc := 0) dX6_setBlock_0 rfl trivial ?_
  refine g_iload_n (pc := 1) dX6_setBlock_1 rfl ?_
  refine g_iconst (pc := 2) (v := 1) dX6_setBlock_2 rfl ?_
  refine g_bipush (pc := 3) (v := 8) dX6_setBlock_3 rfl ?_
  refine g_invV_x (pc := 5) (As := [_, _, _]) dX6_setBlock_5 rfl (x_needRange hS h) rfl rfl (shK hS rfl) rfl rfl lk_X6_95 rfl (nb rfl) ⟨nb rfl, nb rfl⟩ rfl ?_
  exact ⟨rfl, rfl⟩
theorem q_work0 (hS : Shp M) : EvR l jX6_work 7 120 1 6 [.ref 0, .int 0] M (.inl (some (.int (mI M 3 3)))) M := by
  refine ev_intro rfl (nb rfl) rfl ?_
  refine g_aload_n (pc := 0) dX6_work_0 rfl trivial ?_
  refine g_iload_n (pc := 1) dX6_work_1 rfl ?_
  refine g_iconst (pc := 2) (v := 0) dX6_work_2 rfl ?_
  refine g_iconst (pc := 3) (v := 1) dX6_work_3 rfl ?_
  refine g_invV_r (pc := 4) (As := [_, _, _]) dX6_work_4 rfl (s_needRange (by decide) (by decide)) rfl rfl (shK hS rfl) rfl rfl lk_X6_95 rfl (nb rfl) ⟨nb rfl, nb rfl⟩ rfl ?_
  refine g_iload_n (pc := 7) dX6_work_7 rfl ?_
  refine g_if_ne (pc := 8) (tgt := 21) dX6_work_8 rfl (fun h8 => absurd h8 ((by decide))) (fun _ => ?_)
  refine g_aload_n (pc := 11) dX6_work_11 rfl trivial ?_
  refine g_getf (pc := 12) dX6_work_12 fk_X6_19 (shK hS rfl) (fv_obj (shR hS rfl)) ?_
  refine g_getf (pc := 15) (v := .int (mI _ _ _)) dX6_work_15 fk_X6_304 (shK hS rfl) (fun _ => rfl) ?_
  refine g_goto (pc := 18) (tgt := 28) dX6_work_18 rfl ?_
  refine g_ireturn (pc := 28) dX6_work_28 rfl rfl ?_
  exact ⟨rfl, rfl⟩
theorem q_work1 (hS : Shp M) : EvR l jX6_work 7 120 1 6 [.ref 0, .int 1] M (.inl (some (.int (mI M 3 4)))) M := by
  refine ev_intro rfl (nb rfl) rfl ?_
  refine g_aload_n (pc := 0) dX6_work_0 rfl trivial ?_
  refine g_iload_n (pc := 1) dX6_work_1 rfl ?_
  refine g_iconst (pc := 2) (v := 0) dX6_work_2 rfl ?_
  refine g_iconst (pc := 3) (v := 1) dX6_work_3 rfl ?_
  refine g_invV_r (pc := 4) (As := [_, _, _]) dX6_work_4 rfl (s_needRange (by decide) (by decide)) rfl rfl (shK hS rfl) rfl rfl lk_X6_95 rfl (nb rfl) ⟨nb rfl, nb rfl⟩ rfl ?_
  refine g_iload_n (pc := 7) dX6_work_7 rfl ?_
  refine g_if_ne (pc := 8) (tgt := 21) dX6_work_8 rfl (fun _ => ?_) (fun h8 => absurd ((by decide)) h8)
  refine g_aload_n (pc := 21) dX6_work_21 rfl trivial ?_
  refine g_getf (pc := 22) dX6_work_22 fk_X6_19 (shK hS rfl) (fv_obj (shR hS rfl)) ?_
  refine g_getf (pc := 25) (v := .int (mI _ _ _)) dX6_work_25 fk_X6_307 (shK hS rfl) (fun _ => rfl) ?_
  refine g_ireturn (pc := 28) dX6_work_28 rfl rfl ?_
  exact ⟨rfl, rfl⟩
theorem x_work {v : Int32} (hS : Shp M) (h : ¬ (¬ v < 0 ∧ v ≤ 1)) : EvR l jX6_work 7 120 1 6 [.ref 0, .int v] M (.inr xIA) M := by
  refine ev_intro rfl (nb rfl) rfl ?_
  refine g_aload_n (pc := 0) dX6_work_0 rfl trivial ?_
  refine g_iload_n (pc := 1) dX6_work_1 rfl ?_
  refine g_iconst (pc := 2) (v := 0) dX6_work_2 rfl ?_
  refine g_iconst (pc := 3) (v := 1) dX6_work_3 rfl ?_
  refine g_invV_x (pc := 4) (As := [_, _, _]) dX6_work_4 rfl (x_needRange hS h) rfl rfl (shK hS rfl) rfl rfl lk_X6_95 rfl (nb rfl) ⟨nb rfl, nb rfl⟩ rfl ?_
  exact ⟨rfl, rfl⟩
theorem q_outputByte {v : Int32} {k : Nat} (hS : Shp M) (ho : mI M 0 14 = nI k) (hk : k ≤ 32) : EvR l jX6_outputByte 0 0 0 0 [.ref 0, .int v] M (.inl (some (.int (if ¬ v < 0 ∧ v < nI k then mI M 197 v.toNatClampNeg else -1)))) M := by
  refine ev_intro rfl (nb rfl) rfl ?_
  by_cases h : ¬ v < 0 ∧ v < nI k
  · rw [if_pos h]
    obtain ⟨i, hi, rfl⟩ := inR_of (v := v) (n := k) h (by omega)
    rw [nI_clamp (by omega)]
    refine g_iload_n (pc := 0) dX6_outputByte_0 rfl ?_
    refine g_if_lt (pc := 1) (tgt := 21) dX6_outputByte_1 rfl (fun h1 => absurd h1 (h.1)) (fun _ => ?_)
    refine g_iload_n (pc := 4) dX6_outputByte_4 rfl ?_
    refine g_aload_n (pc := 5) dX6_outputByte_5 rfl trivial ?_
    refine g_getf (pc := 6) (v := .int _) dX6_outputByte_6 fk_X6_86 (shK hS rfl) (fun _ => congrArg Value.int (ho)) ?_
    refine g_icmp_ge (pc := 9) (tgt := 21) dX6_outputByte_9 rfl (fun h9 => absurd h9 (nI_ge hi (by omega))) (fun _ => ?_)
    refine g_aload_n (pc := 12) dX6_outputByte_12 rfl trivial ?_
    refine g_getf (pc := 13) dX6_outputByte_13 fk_X6_65 (shK hS rfl) (fv_arr (shR hS rfl)) ?_
    refine g_iload_n (pc := 16) dX6_outputByte_16 rfl ?_
    refine g_iaload (pc := 17) dX6_outputByte_17 (shK hS rfl) rfl (by omega) (nl rfl) ?_
    refine g_goto (pc := 18) (tgt := 22) dX6_outputByte_18 rfl ?_
    refine g_ireturn (pc := 22) dX6_outputByte_22 rfl rfl ?_
    exact ⟨rfl, rfl⟩
  · rw [if_neg h]
    refine g_iload_n (pc := 0) dX6_outputByte_0 rfl ?_
    refine g_if_lt (pc := 1) (tgt := 21) dX6_outputByte_1 rfl (fun h1 => ?_) (fun h1 => ?_)
    · refine g_iconst (pc := 21) (v := (-1)) dX6_outputByte_21 rfl ?_
      refine g_ireturn (pc := 22) dX6_outputByte_22 rfl rfl ?_
      exact ⟨rfl, rfl⟩
    · refine g_iload_n (pc := 4) dX6_outputByte_4 rfl ?_
      refine g_aload_n (pc := 5) dX6_outputByte_5 rfl trivial ?_
      refine g_getf (pc := 6) (v := .int _) dX6_outputByte_6 fk_X6_86 (shK hS rfl) (fun _ => congrArg Value.int (ho)) ?_
      refine g_icmp_ge (pc := 9) (tgt := 21) dX6_outputByte_9 rfl (fun _ => ?_) (fun h9 => absurd (Int32.not_lt.mp (fun q => h ⟨h1, q⟩)) h9)
      refine g_iconst (pc := 21) (v := (-1)) dX6_outputByte_21 rfl ?_
      refine g_ireturn (pc := 22) dX6_outputByte_22 rfl rfl ?_
      exact ⟨rfl, rfl⟩
end
end
-- 207.update
section
section
variable {l : Launch} {M : Mem} {n p c : Nat}
theorem snap_ok : ∀ q, q < 2 → 145 + 14 * q ∈ bases ∧ REFT 144 q = some (145 + 14 * q) := by decide +kernel
theorem nar1 : vp_nar .boolean 1 = 1 := by decide +kernel
def svM (M : Mem) (q : Nat) : Mem := pI (stTake M (145 + 14 * q) 3) 173 q 1
theorem u_save {q : Nat} (hS : Shp M) (hk : keptOk M 3) (hq : q < 2) : EvR l jX6_saveSnapshot 7 140 1 6 [.ref 0, .int (nI q)] M (.inl (some (.int (mI M 3 1)))) (svM M q) := by
  obtain ⟨b1, b2⟩ := snap_ok q hq
  have hb9 := st_of b1
  have q1 := s_stTake (l := l) hS hb9 st3 (by omega) hk
  have hS1 := stTake_S hS (145 + 14 * q) 3
  have e3 : mI (stTake M (145 + 14 * q) 3) 3 1 = mI M 3 1 := congrFun (stTake_ne (by omega)) 1
  unfold svM
  generalize stTake M (145 + 14 * q) 3 = M1 at *
  have hS2 : Shp (pI M1 173 q 1) := shp_pI hS1
  have e4 : mI (pI M1 173 q 1) 3 1 = mI M 3 1 := (congrFun (pI_i (by decide)) 1).trans e3
  generalize hM2 : pI M1 173 q 1 = M2 at *
  refine ev_intro rfl (nb rfl) rfl ?_
  refine g_aload_n (pc := 0) dX6_saveSnapshot_0 rfl trivial ?_
  refine g_iload_n (pc := 1) dX6_saveSnapshot_1 rfl ?_
  refine g_iconst (pc := 2) (v := 0) dX6_saveSnapshot_2 rfl ?_
  refine g_iconst (pc := 3) (v := 1) dX6_saveSnapshot_3 rfl ?_
  refine g_invV_r (pc := 4) (As := [_, _, _]) dX6_saveSnapshot_4 rfl (s_needRange (nI_pos (by omega)) (nI_le (b := 1) (by omega) (by decide))) rfl rfl (shK hS rfl) rfl rfl lk_X6_95 rfl (nb rfl) ⟨nb rfl, nb rfl⟩ rfl ?_
  refine g_aload_n (pc := 7) dX6_saveSnapshot_7 rfl trivial ?_
  refine g_getf (pc := 8) dX6_saveSnapshot_8 fk_X6_30 (shK hS rfl) (fv_arr (shR hS rfl)) ?_
  refine g_iload_n (pc := 11) dX6_saveSnapshot_11 rfl ?_
  refine g_aaload_State (pc := 12) dX6_saveSnapshot_12 (shK hS rfl) rfl hq (by decide) (shR hS b2) ?_
  refine g_aload_n (pc := 13) dX6_saveSnapshot_13 rfl trivial ?_
  refine g_getf (pc := 14) dX6_saveSnapshot_14 fk_X6_19 (shK hS rfl) (fv_obj (shR hS rfl)) ?_
  refine g_invV_r (pc := 17) (As := [_]) dX6_saveSnapshot_17 rfl (q1) rfl rfl (shK hS hb9.1.1) rfl rfl lk_X6_313 rfl (nb rfl) ⟨nb rfl, nb rfl⟩ rfl ?_
  refine g_aload_n (pc := 20) dX6_saveSnapshot_20 rfl trivial ?_
  refine g_getf (pc := 21) dX6_saveSnapshot_21 fk_X6_33 (shK hS1 rfl) (fv_arr (shR hS1 rfl)) ?_
  refine g_iload_n (pc := 24) dX6_saveSnapshot_24 rfl ?_
  refine g_iconst (pc := 25) (v := 1) dX6_saveSnapshot_25 rfl ?_
  refine g_zastore (pc := 26) dX6_saveSnapshot_26 (shK hS1 rfl) rfl hq (nl rfl) ?_
  rw [nar1]
  refine go_cast hM2 ?_
  refine g_aload_n (pc := 27) dX6_saveSnapshot_27 rfl trivial ?_
  refine g_getf (pc := 28) dX6_saveSnapshot_28 fk_X6_19 (shK hS2 rfl) (fv_obj (shR hS2 rfl)) ?_
  refine g_getf (pc := 31) (v := .int _) dX6_saveSnapshot_31 fk_X6_89 (shK hS2 rfl) (fun _ => congrArg Value.int (e4)) ?_
  refine g_ireturn (pc := 34) dX6_saveSnapshot_34 rfl rfl ?_
  exact ⟨rfl, rfl⟩
theorem x_save {v : Int32} (hS : Shp M) (h : ¬ (¬ v < 0 ∧ v ≤ 1)) : EvR l jX6_saveSnapshot 7 140 1 6 [.ref 0, .int v] M (.inr xIA) M := by
  refine ev_intro rfl (nb rfl) rfl ?_
  refine g_aload_n (pc := 0) dX6_saveSnapshot_0 rfl trivial ?_
  refine g_iload_n (pc := 1) dX6_saveSnapshot_1 rfl ?_
  refine g_iconst (pc := 2) (v := 0) dX6_saveSnapshot_2 rfl ?_
  refine g_iconst (pc := 3) (v := 1) dX6_saveSnapshot_3 rfl ?_
  refine g_invV_x (pc := 4) (As := [_, _, _]) dX6_saveSnapshot_4 rfl (x_needRange hS h) rfl rfl (shK hS rfl) rfl rfl lk_X6_95 rfl (nb rfl) ⟨nb rfl, nb rfl⟩ rfl ?_
  exact ⟨rfl, rfl⟩
theorem dropC_ne {i : Nat} (h : i < 175 ∨ 187 ≤ i) : ∀ k, k ≤ 6 → mI (dropC M k) i = mI M i
  | 0, _ => by rw [dropC]
  | k + 1, hk => by rw [dropC, pI_i (by omega), dropC_ne h k (by omega)]
theorem stTake_n {b o : Nat} : mI (stTake M b o) b 1 = mI M o 1 := by
  unfold stTake
  rw [pI_k (by decide), pI_k (by decide), pI_k (by decide), pI_self]
theorem replM_n {o : Nat} : mI (replM M o) 3 1 = mI M o 1 := by
  unfold replM
  rw [dropC_ne (by decide) 6 (Nat.le_refl _), pI_i (by decide)]
  exact stTake_n
theorem replM_S (hS : Shp M) (o : Nat) : Shp (replM M o) := by
  unfold replM
  exact dropC_S (shp_pI (stTake_S hS 3 o)) 6
theorem u_restore {q : Nat} (hS : Shp M) (hk : keptOk M (145 + 14 * q)) (hq : q < 2) : EvR l jX6_restoreSnapshot 7 170 1 6 [.ref 0, .int (nI q)] M (.inl (some (.int (if mI M 173 q = 0 then -1 else mI M (145 + 14 * q) 1)))) (if mI M 173 q = 0 then M else replM M (145 + 14 * q)) := by
  obtain ⟨b1, b2⟩ := snap_ok q hq
  have hb9 := st_of b1
  have q1 := s_replaceState (l := l) hS hb9 (by omega) hk
  have hS1 := replM_S hS (145 + 14 * q)
  have e1 : mI (replM M (145 + 14 * q)) 3 1 = mI M (145 + 14 * q) 1 := replM_n
  generalize replM M (145 + 14 * q) = M1 at *
  refine ev_intro rfl (nb rfl) rfl ?_
  refine g_aload_n (pc := 0) dX6_restoreSnapshot_0 rfl trivial ?_
  refine g_iload_n (pc := 1) dX6_restoreSnapshot_1 rfl ?_
  refine g_iconst (pc := 2) (v := 0) dX6_restoreSnapshot_2 rfl ?_
  refine g_iconst (pc := 3) (v := 1) dX6_restoreSnapshot_3 rfl ?_
  refine g_invV_r (pc := 4) (As := [_, _, _]) dX6_restoreSnapshot_4 rfl (s_needRange (nI_pos (by omega)) (nI_le (b := 1) (by omega) (by decide))) rfl rfl (shK hS rfl) rfl rfl lk_X6_95 rfl (nb rfl) ⟨nb rfl, nb rfl⟩ rfl ?_
  refine g_aload_n (pc := 7) dX6_restoreSnapshot_7 rfl trivial ?_
  refine g_getf (pc := 8) dX6_restoreSnapshot_8 fk_X6_33 (shK hS rfl) (fv_arr (shR hS rfl)) ?_
  refine g_iload_n (pc := 11) dX6_restoreSnapshot_11 rfl ?_
  refine g_zaload (pc := 12) dX6_restoreSnapshot_12 (shK hS rfl) rfl hq (nl rfl) ?_
  refine g_if_ne (pc := 13) (tgt := 18) dX6_restoreSnapshot_13 rfl (fun h13 => ?_) (fun h13 => ?_)
  · rw [if_neg h13, if_neg h13]
    refine g_aload_n (pc := 18) dX6_restoreSnapshot_18 rfl trivial ?_
    refine g_aload_n (pc := 19) dX6_restoreSnapshot_19 rfl trivial ?_
    refine g_getf (pc := 20) dX6_restoreSnapshot_20 fk_X6_30 (shK hS rfl) (fv_arr (shR hS rfl)) ?_
    refine g_iload_n (pc := 23) dX6_restoreSnapshot_23 rfl ?_
    refine g_aaload_State (pc := 24) dX6_restoreSnapshot_24 (shK hS rfl) rfl hq (by decide) (shR hS b2) ?_
    refine g_invV_r (pc := 25) (As := [_]) dX6_restoreSnapshot_25 rfl (q1) rfl rfl (shK hS rfl) rfl rfl lk_X6_83 rfl (nb rfl) ⟨nb rfl, nb rfl⟩ rfl ?_
    refine g_aload_n (pc := 28) dX6_restoreSnapshot_28 rfl trivial ?_
    refine g_getf (pc := 29) dX6_restoreSnapshot_29 fk_X6_19 (shK hS1 rfl) (fv_obj (shR hS1 rfl)) ?_
    refine g_getf (pc := 32) (v := .int _) dX6_restoreSnapshot_32 fk_X6_89 (shK hS1 rfl) (fun _ => congrArg Value.int (e1)) ?_
    refine g_ireturn (pc := 35) dX6_restoreSnapshot_35 rfl rfl ?_
    exact ⟨rfl, rfl⟩
  · rw [if_pos (Decidable.not_not.mp h13), if_pos (Decidable.not_not.mp h13)]
    refine g_iconst (pc := 16) (v := (-1)) dX6_restoreSnapshot_16 rfl ?_
    refine g_ireturn (pc := 17) dX6_restoreSnapshot_17 rfl rfl ?_
    exact ⟨rfl, rfl⟩
theorem x_restore {v : Int32} (hS : Shp M) (h : ¬ (¬ v < 0 ∧ v ≤ 1)) : EvR l jX6_restoreSnapshot 7 170 1 6 [.ref 0, .int v] M (.inr xIA) M := by
  refine ev_intro rfl (nb rfl) rfl ?_
  refine g_aload_n (pc := 0) dX6_restoreSnapshot_0 rfl trivial ?_
  refine g_iload_n (pc := 1) dX6_restoreSnapshot_1 rfl ?_
  refine g_iconst (pc := 2) (v := 0) dX6_restoreSnapshot_2 rfl ?_
  refine g_iconst (pc := 3) (v := 1) dX6_restoreSnapshot_3 rfl ?_
  refine g_invV_x (pc := 4) (As := [_, _, _]) dX6_restoreSnapshot_4 rfl (x_needRange hS h) rfl rfl (shK hS rfl) rfl rfl lk_X6_95 rfl (nb rfl) ⟨nb rfl, nb rfl⟩ rfl ?_
  exact ⟨rfl, rfl⟩
/-- a row written out as letters -/
def woF (x : Int32) (k : Nat) : Int32 := if hb x k = true then 49 else 48
def woM (M : Mem) (x : Int32) (n k : Nat) : Mem := sI (pI M 0 14 (nI n)) 197 (wr (mI M 197) (woF x) k)
theorem q_writeRow {s r : Nat} (hS : Shp M) (hz : mI M 3 1 = nI n) (hn : n ≤ 32) (hs : s < 6) (hr : r < n) : EvR l jX6_writeRow 8 140 2 12 [.ref 0, .int (nI s), .int (nI r)] M (.inl (some (.int (nI n)))) (woM M (mI M (6 + 2 * s) r) n n) := by
  obtain ⟨x, hx⟩ : ∃ x, x = mI M (6 + 2 * s) r := ⟨_, rfl⟩
  rw [← hx]
  have e00 : pI M 0 14 (nI n) = woM M x n 0 := by
    unfold woM
    rw [wr_0]
    exact (sI_eq (pI_i (by decide)).symm)
  have hS2 : ∀ k, Shp (woM M x n k) := fun k => shp_sI (shp_pI hS)
  have ho : ∀ k, mI (woM M x n k) 0 14 = nI n := fun k => by unfold woM; rw [sI_ne (by decide), pI_self]
  have est : ∀ k, pI (woM M x n k) 197 k (woF x k) = woM M x n (k + 1) := fun k => sI_st (wr_s _ (woF x) k)
  refine ev_intro rfl (nb rfl) rfl ?_
  refine g_aload_n (pc := 0) dX6_writeRow_0 rfl trivial ?_
  refine g_iload_n (pc := 1) dX6_writeRow_1 rfl ?_
  refine g_iload_n (pc := 2) dX6_writeRow_2 rfl ?_
  refine g_invV_r (pc := 3) (As := [_, _]) dX6_writeRow_3 rfl (s_needRow hS hz (in6 hs) (inR_nI hr (by omega))) rfl rfl (shK hS rfl) rfl rfl lk_X6_120 rfl (nb rfl) ⟨nb rfl, nb rfl⟩ rfl ?_
  refine g_aload_n (pc := 6) dX6_writeRow_6 rfl trivial ?_
  refine g_iload_n (pc := 7) dX6_writeRow_7 rfl ?_
  refine g_invV_r (pc := 8) (As := [_]) dX6_writeRow_8 rfl (s_rowsOf hS hs) rfl rfl (shK hS rfl) rfl rfl lk_X6_112 rfl (nb rfl) ⟨nb rfl, nb rfl⟩ rfl ?_
  refine g_iload_n (pc := 11) dX6_writeRow_11 rfl ?_
  refine g_iaload (pc := 12) dX6_writeRow_12 (shK hS (rows_lay hs)) rfl (by omega) (nl rfl) ?_
  rw [← hx]
  refine g_istore_n (pc := 13) (lv' := [(0, _), (1, _), (2, _), (3, _)]) dX6_writeRow_13 (nl rfl) rfl ?_
  refine g_aload_n (pc := 14) dX6_writeRow_14 rfl trivial ?_
  refine g_aload_n (pc := 15) dX6_writeRow_15 rfl trivial ?_
  refine g_getf (pc := 16) dX6_writeRow_16 fk_X6_19 (shK hS rfl) (fv_obj (shR hS rfl)) ?_
  refine g_getf (pc := 19) (v := .int _) dX6_writeRow_19 fk_X6_89 (shK hS rfl) (fun _ => congrArg Value.int (hz)) ?_
  refine g_putI (pc := 22) dX6_writeRow_22 fp_X6_86 (shK hS rfl) ⟨rfl, rfl⟩ (fun _ _ _ _ => rfl) ?_
  refine g_iconst (pc := 25) (v := 0) dX6_writeRow_25 rfl ?_
  refine g_istore (pc := 26) (lv' := [(0, _), (1, _), (2, _), (3, _), (4, _)]) dX6_writeRow_26 (nl rfl) rfl ?_
  refine go_loop (pc := 28) n (fun i => [(0, .ref 0), (1, .int (nI s)), (2, .int (nI r)), (3, .int x), (4, .int (nI i))]) (fun i => woM M x n i) ⟨rfl, rfl, rfl, rfl, rfl, trivial⟩ e00 ?_ ?_
  · intro i hi ih
    have hS3 := hS2 i
    have ho3 := ho i
    have est3 := est i
    generalize woM M x n n = M9 at ih ⊢
    generalize woM M x n (i + 1) = M4 at *
    generalize woM M x n i = M3 at *
    unfold woF at est3
    refine g_iload (pc := 28) dX6_writeRow_28 rfl ?_
    refine g_aload_n (pc := 30) dX6_writeRow_30 rfl trivial ?_
    refine g_getf (pc := 31) (v := .int _) dX6_writeRow_31 fk_X6_86 (shK hS3 rfl) (fun _ => congrArg Value.int (ho3)) ?_
    refine g_icmp_ge (pc := 34) (tgt := 66) dX6_writeRow_34 rfl (fun h34 => absurd h34 (nI_ge hi (by omega))) (fun _ => ?_)
    refine g_aload_n (pc := 37) dX6_writeRow_37 rfl trivial ?_
    refine g_getf (pc := 38) dX6_writeRow_38 fk_X6_65 (shK hS3 rfl) (fv_arr (shR hS3 rfl)) ?_
    refine g_iload (pc := 41) dX6_writeRow_41 rfl ?_
    refine g_iload_n (pc := 43) dX6_writeRow_43 rfl ?_
    refine g_iload (pc := 44) dX6_writeRow_44 rfl ?_
    refine g_invS_r (pc := 46) (As := [_, _]) dX6_writeRow_46 rfl (s_hasOne (by omega)) rfl rfl lk_X6_116 rfl (nb rfl) ⟨nb rfl, nb rfl⟩ rfl ?_
    refine g_if_eq (pc := 49) (tgt := 57) dX6_writeRow_49 rfl (fun h49 => ?_) (fun h49 => ?_)
    · rw [b1_0] at h49
      rw [if_neg (by rw [h49]; decide)] at est3
      refine g_bipush (pc := 57) (v := 48) dX6_writeRow_57 rfl ?_
      refine g_iastore (pc := 59) dX6_writeRow_59 (shK hS3 rfl) rfl (by omega) (nl rfl) ?_
      refine go_cast est3 ?_
      refine g_iinc (pc := 60) (lv' := [(0, _), (1, _), (2, _), (3, _), (4, _)]) dX6_writeRow_60 rfl (nI_1 _) (nl rfl) rfl ?_
      refine g_goto (pc := 63) (tgt := 28) dX6_writeRow_63 rfl ?_
      exact ih
    · rw [b1_0, Bool.not_eq_false] at h49
      rw [if_pos h49] at est3
      refine g_bipush (pc := 52) (v := 49) dX6_writeRow_52 rfl ?_
      refine g_goto (pc := 54) (tgt := 59) dX6_writeRow_54 rfl ?_
      refine g_iastore (pc := 59) dX6_writeRow_59 (shK hS3 rfl) rfl (by omega) (nl rfl) ?_
      refine go_cast est3 ?_
      refine g_iinc (pc := 60) (lv' := [(0, _), (1, _), (2, _), (3, _), (4, _)]) dX6_writeRow_60 rfl (nI_1 _) (nl rfl) rfl ?_
      refine g_goto (pc := 63) (tgt := 28) dX6_writeRow_63 rfl ?_
      exact ih
  · have hS3 := hS2 n
    have ho3 := ho n
    generalize woM M x n n = M9 at *
    refine g_iload (pc := 28) dX6_writeRow_28 rfl ?_
    refine g_aload_n (pc := 30) dX6_writeRow_30 rfl trivial ?_
    refine g_getf (pc := 31) (v := .int _) dX6_writeRow_31 fk_X6_86 (shK hS3 rfl) (fun _ => congrArg Value.int (ho3)) ?_
    refine g_icmp_ge (pc := 34) (tgt := 66) dX6_writeRow_34 rfl (fun _ => ?_) (fun h34 => absurd (nI_le (Nat.le_refl _) (by omega)) h34)
    refine g_aload_n (pc := 66) dX6_writeRow_66 rfl trivial ?_
    refine g_getf (pc := 67) (v := .int _) dX6_writeRow_67 fk_X6_86 (shK hS3 rfl) (fun _ => congrArg Value.int (ho3)) ?_
    refine g_ireturn (pc := 70) dX6_writeRow_70 rfl rfl ?_
    exact ⟨rfl, rfl⟩
theorem x_writeRow {v w : Int32} (hS : Shp M) (hz : mI M 3 1 = nI n) (h : ¬ (inR v 6 ∧ inR w n)) : EvR l jX6_writeRow 8 140 2 12 [.ref 0, .int v, .int w] M (.inr xIO) M := by
  refine ev_intro rfl (nb rfl) rfl ?_
  refine g_aload_n (pc := 0) dX6_writeRow_0 rfl trivial ?_
  refine g_iload_n (pc := 1) dX6_writeRow_1 rfl ?_
  refine g_iload_n (pc := 2) dX6_writeRow_2 rfl ?_
  refine g_invV_x (pc := 3) (As := [_, _]) dX6_writeRow_3 rfl (x_needRow hS hz h) rfl rfl (shK hS rfl) rfl rfl lk_X6_120 rfl (nb rfl) ⟨nb rfl, nb rfl⟩ rfl ?_
  exact ⟨rfl, rfl⟩
end
end
-- 208.update
section
section
variable {l : Launch} {M : Mem} {n p c : Nat}
def ivE (M : Mem) (s n : Nat) : ES := elAll M n (mI M (6 + 2 * s)) (wr (mI M 193) bitI n)
theorem ivE_c (M : Mem) (s n : Nat) : (ivE M s n).2.2.2 ≤ n := by
  have h := elIt_c n (wr (mI M 192) (mI M (6 + 2 * s)) n, wr (mI M 193) bitI n, mI M 194, 0) n
  simp only [Nat.zero_add] at h
  exact h
theorem Dk.el (hD : Dk M n p c) (e : ES) : Dk (elMem M e) n p c := by
  obtain ⟨h1, h2, h3, h4, h5, h6, h7, h8⟩ := hD
  refine ⟨elMem_S h1 e, (congrFun (elMem_ne e (by decide)) 1).trans h2, h3, (congrFun (elMem_ne e (by decide)) 4).trans h4, h5, (congrFun (elMem_ne e (by decide)) 5).trans h6, h7, fun s hs => ?_⟩
  rw [elMem_ne e (by omega)]
  exact h8 s hs
theorem u_invert {s t : Nat} (hD : Dk M n p c) (hs : s < 6) (ht : t < 6) : EvR l jX6_invert 7 150 2 12 [.ref 0, .int (nI s), .int (nI t)] M (.inl (some (.int (if (ivE M s n).2.2.2 < n then -3 else stV (remM (elMem M (ivE M s n)) p c) 193 t n)))) (if (ivE M s n).2.2.2 < n then elMem M (ivE M s n) else storeM (remM (elMem M (ivE M s n)) p c) 193 t n) := by
  have hn := hD.2.2.1
  have q1 : EvR l jX1_eliminateBesideUnit 3 90 0 0 [.ref 191, .ref (6 + 2 * s), .int (nI n)] M (.inl none) (elMem M (ivE M s n)) := s_eliminateBesideUnit hD.1 (shK hD.1 (rows_lay hs)) (by omega) hn
  have hc := ivE_c M s n
  generalize ivE M s n = e at *
  have hD1 := hD.el e
  have hc1 := el_c (M := M) e
  generalize elMem M e = M1 at *
  have hS1 := hD1.1
  have hz1 := hD1.2.1
  have q2 := d_remember (l := l) hD1
  have hS2 := remM_S hS1 p c
  have hz2 := d_z hD1
  unfold stV
  generalize remM M1 p c = R at *
  have q3 := s_store (l := l) (r := 193) (n := n) hS2 ht hz2 hn (shK hS2 rfl)
  have hS := hD.1
  refine ev_intro rfl (nb rfl) rfl ?_
  refine g_aload_n (pc := 0) dX6_invert_0 rfl trivial ?_
  refine g_iload_n (pc := 1) dX6_invert_1 rfl ?_
  refine g_invV_r (pc := 2) (As := [_]) dX6_invert_2 rfl (s_needSlot (in6 hs)) rfl rfl (shK hS rfl) rfl rfl lk_X6_141 rfl (nb rfl) ⟨nb rfl, nb rfl⟩ rfl ?_
  refine g_aload_n (pc := 5) dX6_invert_5 rfl trivial ?_
  refine g_iload_n (pc := 6) dX6_invert_6 rfl ?_
  refine g_invV_r (pc := 7) (As := [_]) dX6_invert_7 rfl (s_needSlot (in6 ht)) rfl rfl (shK hS rfl) rfl rfl lk_X6_141 rfl (nb rfl) ⟨nb rfl, nb rfl⟩ rfl ?_
  refine g_aload_n (pc := 10) dX6_invert_10 rfl trivial ?_
  refine g_getf (pc := 11) dX6_invert_11 fk_X6_54 (shK hS rfl) (fv_obj (shR hS rfl)) ?_
  refine g_aload_n (pc := 14) dX6_invert_14 rfl trivial ?_
  refine g_iload_n (pc := 15) dX6_invert_15 rfl ?_
  refine g_invV_r (pc := 16) (As := [_]) dX6_invert_16 rfl (s_rowsOf hS hs) rfl rfl (shK hS rfl) rfl rfl lk_X6_112 rfl (nb rfl) ⟨nb rfl, nb rfl⟩ rfl ?_
  refine g_aload_n (pc := 19) dX6_invert_19 rfl trivial ?_
  refine g_getf (pc := 20) dX6_invert_20 fk_X6_19 (shK hS rfl) (fv_obj (shR hS rfl)) ?_
  refine g_getf (pc := 23) (v := .int _) dX6_invert_23 fk_X6_89 (shK hS rfl) (fun _ => congrArg Value.int (hD.2.1)) ?_
  refine g_invV_r (pc := 26) (As := [_, _]) dX6_invert_26 rfl (q1) rfl rfl (shK hS rfl) rfl rfl lk_X6_269 rfl (nb rfl) ⟨nb rfl, nb rfl⟩ rfl ?_
  refine g_aload_n (pc := 29) dX6_invert_29 rfl trivial ?_
  refine g_getf (pc := 30) dX6_invert_30 fk_X6_54 (shK hS1 rfl) (fv_obj (shR hS1 rfl)) ?_
  refine g_getf (pc := 33) (v := .int _) dX6_invert_33 fk_X6_207 (shK hS1 rfl) (fun _ => congrArg Value.int (hc1)) ?_
  refine g_aload_n (pc := 36) dX6_invert_36 rfl trivial ?_
  refine g_getf (pc := 37) dX6_invert_37 fk_X6_19 (shK hS1 rfl) (fv_obj (shR hS1 rfl)) ?_
  refine g_getf (pc := 40) (v := .int _) dX6_invert_40 fk_X6_89 (shK hS1 rfl) (fun _ => congrArg Value.int (hz1)) ?_
  refine g_icmp_ge (pc := 43) (tgt := 49) dX6_invert_43 rfl (fun h43 => ?_) (fun h43 => ?_)
  · have h9 : ¬ e.2.2.2 < n := fun q => nI_ge q (by omega) h43
    rw [if_neg h9, if_neg h9]
    refine g_aload_n (pc := 49) dX6_invert_49 rfl trivial ?_
    refine g_invV_r (pc := 50) (As := []) dX6_invert_50 rfl (q2) rfl rfl (shK hS1 rfl) rfl rfl lk_X6_222 rfl (nb rfl) ⟨nb rfl, nb rfl⟩ rfl ?_
    refine g_aload_n (pc := 53) dX6_invert_53 rfl trivial ?_
    refine g_aload_n (pc := 54) dX6_invert_54 rfl trivial ?_
    refine g_getf (pc := 55) dX6_invert_55 fk_X6_54 (shK hS2 rfl) (fv_obj (shR hS2 rfl)) ?_
    refine g_getf (pc := 58) dX6_invert_58 fk_X6_273 (shK hS2 rfl) (fv_arr (shR hS2 rfl)) ?_
    refine g_iload_n (pc := 61) dX6_invert_61 rfl ?_
    refine g_invV_r (pc := 62) (As := [_, _]) dX6_invert_62 rfl (q3) rfl rfl (shK hS2 rfl) rfl rfl lk_X6_247 rfl (nb rfl) ⟨nb rfl, nb rfl⟩ rfl ?_
    refine g_ireturn (pc := 65) dX6_invert_65 rfl rfl ?_
    exact ⟨rfl, rfl⟩
  · have h9 : e.2.2.2 < n := Nat.lt_of_not_le fun q => h43 (nI_le q (by omega))
    rw [if_pos h9, if_pos h9]
    refine g_bipush (pc := 46) (v := (-3)) dX6_invert_46 rfl ?_
    refine g_ireturn (pc := 48) dX6_invert_48 rfl rfl ?_
    exact ⟨rfl, rfl⟩
theorem x_invert {v w : Int32} (hS : Shp M) (h : ¬ (inR v 6 ∧ inR w 6)) : EvR l jX6_invert 7 150 2 12 [.ref 0, .int v, .int w] M (.inr xIO) M := by
  refine ev_intro rfl (nb rfl) rfl ?_
  by_cases h1 : inR v 6
  · refine g_aload_n (pc := 0) dX6_invert_0 rfl trivial ?_
    refine g_iload_n (pc := 1) dX6_invert_1 rfl ?_
    refine g_invV_r (pc := 2) (As := [_]) dX6_invert_2 rfl (s_needSlot h1) rfl rfl (shK hS rfl) rfl rfl lk_X6_141 rfl (nb rfl) ⟨nb rfl, nb rfl⟩ rfl ?_
    refine g_aload_n (pc := 5) dX6_invert_5 rfl trivial ?_
    refine g_iload_n (pc := 6) dX6_invert_6 rfl ?_
    refine g_invV_x (pc := 7) (As := [_]) dX6_invert_7 rfl (x_needSlot hS (fun h2 => h ⟨h1, h2⟩)) rfl rfl (shK hS rfl) rfl rfl lk_X6_141 rfl (nb rfl) ⟨nb rfl, nb rfl⟩ rfl ?_
    exact ⟨rfl, rfl⟩
  · refine g_aload_n (pc := 0) dX6_invert_0 rfl trivial ?_
    refine g_iload_n (pc := 1) dX6_invert_1 rfl ?_
    refine g_invV_x (pc := 2) (As := [_]) dX6_invert_2 rfl (x_needSlot hS h1) rfl rfl (shK hS rfl) rfl rfl lk_X6_141 rfl (nb rfl) ⟨nb rfl, nb rfl⟩ rfl ?_
    exact ⟨rfl, rfl⟩
/-- a slot's rows, the needless edges left out up to a row -/
def rdG (f : Nat → Int32) (n : Nat) : Nat → Nat → Int32
  | 0 => f
  | k + 1 => dnF (rdG f n k) k n n
def rdX (M : Mem) (s n : Nat) : Mem := sI M 195 (rdG (wr (mI M 195) (mI M (6 + 2 * s)) n) n n)
theorem u_reduce {s t : Nat} (hD : Dk M n p c) (hs : s < 6) (ht : t < 6) : EvR l jX6_reduce 7 140 2 12 [.ref 0, .int (nI s), .int (nI t)] M (.inl (some (.int (stV (rdX (remM M p c) s n) 195 t n)))) (storeM (rdX (remM M p c) s n) 195 t n) := by
  have hn := hD.2.2.1
  have hS1 := remM_S hD.1 p c
  have hz1 := d_z hD
  have q1 := d_remember (l := l) hD
  unfold stV rdX
  generalize remM M p c = R at *
  obtain ⟨g, hg⟩ : ∃ g, g = wr (mI R 195) (mI R (6 + 2 * s)) n := ⟨_, rfl⟩
  rw [← hg]
  have hS2 : ∀ f, Shp (sI R 195 f) := fun f => shp_sI hS1
  have hz2 : ∀ f, mI (sI R 195 f) 3 1 = nI n := fun f => (congrFun (sI_ne (by decide)) 1).trans hz1
  have hk2 : ∀ f, (mK (sI R 195 f))[195]? = some (kI 32) := fun f => shK (hS2 f) rfl
  have q2 := s_store (l := l) (r := 195) (n := n) (hS2 (rdG g n n)) ht (hz2 _) hn (hk2 _)
  refine ev_intro rfl (nb rfl) rfl ?_
  refine g_aload_n (pc := 0) dX6_reduce_0 rfl trivial ?_
  refine g_iload_n (pc := 1) dX6_reduce_1 rfl ?_
  refine g_invV_r (pc := 2) (As := [_]) dX6_reduce_2 rfl (s_needSlot (in6 hs)) rfl rfl (shK hD.1 rfl) rfl rfl lk_X6_141 rfl (nb rfl) ⟨nb rfl, nb rfl⟩ rfl ?_
  refine g_aload_n (pc := 5) dX6_reduce_5 rfl trivial ?_
  refine g_iload_n (pc := 6) dX6_reduce_6 rfl ?_
  refine g_invV_r (pc := 7) (As := [_]) dX6_reduce_7 rfl (s_needSlot (in6 ht)) rfl rfl (shK hD.1 rfl) rfl rfl lk_X6_141 rfl (nb rfl) ⟨nb rfl, nb rfl⟩ rfl ?_
  refine g_aload_n (pc := 10) dX6_reduce_10 rfl trivial ?_
  refine g_invV_r (pc := 11) (As := []) dX6_reduce_11 rfl (q1) rfl rfl (shK hD.1 rfl) rfl rfl lk_X6_222 rfl (nb rfl) ⟨nb rfl, nb rfl⟩ rfl ?_
  refine g_aload_n (pc := 14) dX6_reduce_14 rfl trivial ?_
  refine g_iload_n (pc := 15) dX6_reduce_15 rfl ?_
  refine g_invV_r (pc := 16) (As := [_]) dX6_reduce_16 rfl (s_rowsOf hS1 hs) rfl rfl (shK hS1 rfl) rfl rfl lk_X6_112 rfl (nb rfl) ⟨nb rfl, nb rfl⟩ rfl ?_
  refine g_iconst (pc := 19) (v := 0) dX6_reduce_19 rfl ?_
  refine g_aload_n (pc := 20) dX6_reduce_20 rfl trivial ?_
  refine g_getf (pc := 21) dX6_reduce_21 fk_X6_58 (shK hS1 rfl) (fv_arr (shR hS1 rfl)) ?_
  refine g_iconst (pc := 24) (v := 0) dX6_reduce_24 rfl ?_
  refine g_aload_n (pc := 25) dX6_reduce_25 rfl trivial ?_
  refine g_getf (pc := 26) dX6_reduce_26 fk_X6_19 (shK hS1 rfl) (fv_obj (shR hS1 rfl)) ?_
  refine g_getf (pc := 29) (v := .int _) dX6_reduce_29 fk_X6_89 (shK hS1 rfl) (fun _ => congrArg Value.int (hz1)) ?_
  refine g_copyI (pc := 32) (sp := 0) (dp := 0) dX6_reduce_32 wd_912 wd_510 wd_509 wd_108 (shK hS1 (rows_lay hs)) (shK hS1 rfl) rfl rfl rfl (by omega) (by omega) ⟨by decide, by decide⟩ hS1.2.1 (nb rfl) (nb rfl) ?_
  rw [cpy_wr, ← hg]
  refine g_iconst (pc := 35) (v := 0) dX6_reduce_35 rfl ?_
  refine g_istore_n (pc := 36) (lv' := [(0, _), (1, _), (2, _), (3, _)]) dX6_reduce_36 (nl rfl) rfl ?_
  refine go_loop (pc := 37) n (fun i => [(0, .ref 0), (1, .int (nI s)), (2, .int (nI t)), (3, .int (nI i))]) (fun i => sI R 195 (rdG g n i)) ⟨rfl, rfl, rfl, rfl, trivial⟩ rfl ?_ ?_
  · intro i hi ih
    generalize rdG g n n = X at ih ⊢
    rw [rdG] at ih
    generalize rdG g n i = f at *
    have q9 := s_dropNeedless (l := l) (a := i) (hS2 f) (hk2 f) (by decide) (hz2 f) hn hi
    rw [sI_2, sI_self] at q9
    refine g_iload_n (pc := 37) dX6_reduce_37 rfl ?_
    refine g_aload_n (pc := 38) dX6_reduce_38 rfl trivial ?_
    refine g_getf (pc := 39) dX6_reduce_39 fk_X6_19 (shK (hS2 _) rfl) (fv_obj (shR (hS2 _) rfl)) ?_
    refine g_getf (pc := 42) (v := .int _) dX6_reduce_42 fk_X6_89 (shK (hS2 _) rfl) (fun _ => congrArg Value.int ((hz2 _))) ?_
    refine g_icmp_ge (pc := 45) (tgt := 63) dX6_reduce_45 rfl (fun h45 => absurd h45 (nI_ge hi (by omega))) (fun _ => ?_)
    refine g_aload_n (pc := 48) dX6_reduce_48 rfl trivial ?_
    refine g_aload_n (pc := 49) dX6_reduce_49 rfl trivial ?_
    refine g_getf (pc := 50) dX6_reduce_50 fk_X6_58 (shK (hS2 _) rfl) (fv_arr (shR (hS2 _) rfl)) ?_
    refine g_iload_n (pc := 53) dX6_reduce_53 rfl ?_
    refine g_invV_r (pc := 54) (As := [_, _]) dX6_reduce_54 rfl (q9) rfl rfl (shK (hS2 _) rfl) rfl rfl lk_X6_282 rfl (nb rfl) ⟨nb rfl, nb rfl⟩ rfl ?_
    refine g_iinc (pc := 57) (lv' := [(0, _), (1, _), (2, _), (3, _)]) dX6_reduce_57 rfl (nI_1 _) (nl rfl) rfl ?_
    refine g_goto (pc := 60) (tgt := 37) dX6_reduce_60 rfl ?_
    exact ih
  · generalize rdG g n n = f at *
    refine g_iload_n (pc := 37) dX6_reduce_37 rfl ?_
    refine g_aload_n (pc := 38) dX6_reduce_38 rfl trivial ?_
    refine g_getf (pc := 39) dX6_reduce_39 fk_X6_19 (shK (hS2 _) rfl) (fv_obj (shR (hS2 _) rfl)) ?_
    refine g_getf (pc := 42) (v := .int _) dX6_reduce_42 fk_X6_89 (shK (hS2 _) rfl) (fun _ => congrArg Value.int ((hz2 _))) ?_
    refine g_icmp_ge (pc := 45) (tgt := 63) dX6_reduce_45 rfl (fun _ => ?_) (fun h45 => absurd (nI_le (Nat.le_refl _) (by omega)) h45)
    refine g_aload_n (pc := 63) dX6_reduce_63 rfl trivial ?_
    refine g_aload_n (pc := 64) dX6_reduce_64 rfl trivial ?_
    refine g_getf (pc := 65) dX6_reduce_65 fk_X6_58 (shK (hS2 _) rfl) (fv_arr (shR (hS2 _) rfl)) ?_
    refine g_iload_n (pc := 68) dX6_reduce_68 rfl ?_
    refine g_invV_r (pc := 69) (As := [_, _]) dX6_reduce_69 rfl (q2) rfl rfl (shK (hS2 _) rfl) rfl rfl lk_X6_247 rfl (nb rfl) ⟨nb rfl, nb rfl⟩ rfl ?_
    refine g_ireturn (pc := 72) dX6_reduce_72 rfl rfl ?_
    exact ⟨rfl, rfl⟩
theorem x_reduce {v w : Int32} (hS : Shp M) (h : ¬ (inR v 6 ∧ inR w 6)) : EvR l jX6_reduce 7 140 2 12 [.ref 0, .int v, .int w] M (.inr xIO) M := by
  refine ev_intro rfl (nb rfl) rfl ?_
  by_cases h1 : inR v 6
  · refine g_aload_n (pc := 0) dX6_reduce_0 rfl trivial ?_
    refine g_iload_n (pc := 1) dX6_reduce_1 rfl ?_
    refine g_invV_r (pc := 2) (As := [_]) dX6_reduce_2 rfl (s_needSlot h1) rfl rfl (shK hS rfl) rfl rfl lk_X6_141 rfl (nb rfl) ⟨nb rfl, nb rfl⟩ rfl ?_
    refine g_aload_n (pc := 5) dX6_reduce_5 rfl trivial ?_
    refine g_iload_n (pc := 6) dX6_reduce_6 rfl ?_
    refine g_invV_x (pc := 7) (As := [_]) dX6_reduce_7 rfl (x_needSlot hS (fun h2 => h ⟨h1, h2⟩)) rfl rfl (shK hS rfl) rfl rfl lk_X6_141 rfl (nb rfl) ⟨nb rfl, nb rfl⟩ rfl ?_
    exact ⟨rfl, rfl⟩
  · refine g_aload_n (pc := 0) dX6_reduce_0 rfl trivial ?_
    refine g_iload_n (pc := 1) dX6_reduce_1 rfl ?_
    refine g_invV_x (pc := 2) (As := [_]) dX6_reduce_2 rfl (x_needSlot hS h1) rfl rfl (shK hS rfl) rfl rfl lk_X6_141 rfl (nb rfl) ⟨nb rfl, nb rfl⟩ rfl ?_
    exact ⟨rfl, rfl⟩
end
end
-- 209.update
section
section
variable {l : Launch} {M : Mem} {n p c : Nat}
theorem begMem_S {f : Int32} (hS : Shp M) : Shp (begMem M f) := hS
theorem begMem_3 {f : Int32} : mI (begMem M f) 187 3 = mI M 3 1 := by
  unfold begMem
  rw [pI_k (by decide), pI_k (by decide), pI_self]
theorem begMem_4 {f : Int32} : mI (begMem M f) 187 4 = mI M 3 2 := by
  unfold begMem
  rw [pI_k (by decide), pI_self]
theorem begMem_ne {f : Int32} {i : Nat} (h : i ≠ 187) : mI (begMem M f) i = mI M i := by
  unfold begMem
  rw [pI_i h, pI_i h, pI_i h]
theorem mulMem_S {ri : Nat} {s : PS} (hS : Shp M) : Shp (mulMem M ri s) := hS
theorem mulMem_ne {ri i : Nat} {s : PS} (h : i ≠ 187) (h1 : i ≠ 188) (h2 : i ≠ ri) : mI (mulMem M ri s) i = mI M i := by
  unfold mulMem
  rw [sI_ne h, sI_ne h2, sI_ne h1]
theorem workM_S (hS : Shp M) : Shp (workM M) := hS
theorem workM_1 : mI (workM M) 3 1 = mI M 3 1 := by unfold workM; rw [pI_k (by decide), pI_k (by decide)]
def prM (R : Mem) (a b n bl : Nat) (f : Int32) : Mem := workM (mulMem (begMem R f) 195 (mulEnd (begMem R f) n bl (6 + 2 * a) (6 + 2 * b) 195))
theorem u_product {a b t bl : Nat} {f : Int32} (hD : Dk M n p c) (hbl : mI M 3 2 = nI bl) (hb1 : 1 ≤ bl) (hb8 : bl ≤ 8) (ha : a < 6) (hb9 : b < 6) (ht : t < 6) (hf : k01 f) : EvR l jX6_product 7 140 3 18 [.ref 0, .int (nI a), .int (nI b), .int (nI t), .int f] M (.inl (some (.int (stV (prM (remM M p c) a b n bl f) 195 t n)))) (storeM (prM (remM M p c) a b n bl f) 195 t n) := by
  have hn := hD.2.2.1
  have hS1 := remM_S hD.1 p c
  have hz1 := d_z hD
  have hl1 : mI (remM M p c) 3 2 = nI bl := by rw [remM_ne hD.2.2.2.2.1 (by decide) (by decide)]; exact hbl
  have q1 := d_remember (l := l) hD
  unfold stV prM
  generalize remM M p c = R at *
  have q2 := s_begin (l := l) hS1 hf
  have hS2 := begMem_S (f := f) hS1
  have hz2 : mI (begMem R f) 187 3 = nI n := begMem_3.trans hz1
  have hl2 : mI (begMem R f) 187 4 = nI bl := begMem_4.trans hl1
  have hz3 : mI (begMem R f) 3 1 = nI n := (congrFun (begMem_ne (by decide)) 1).trans hz1
  generalize begMem R f = B at *
  have q3 := s_multiply (l := l) (ra := 6 + 2 * a) (rb := 6 + 2 * b) (ri := 195) hS2 hz2 hl2 hn hb1 hb8 (shK hS2 (rows_lay ha)) (shK hS2 (rows_lay hb9)) (shK hS2 rfl) (by omega) (by omega) (by omega) (by omega) (by decide) (by decide) (by omega) (by omega)
  generalize mulEnd B n bl (6 + 2 * a) (6 + 2 * b) 195 = e at *
  have hS3 := mulMem_S (ri := 195) (s := e) hS2
  have hz4 : mI (mulMem B 195 e) 3 1 = nI n := (congrFun (mulMem_ne (by decide) (by decide) (by decide)) 1).trans hz3
  generalize mulMem B 195 e = P at *
  have q4 := s_noteWork (l := l) hS3
  have hS4 := workM_S hS3
  have hz5 : mI (workM P) 3 1 = nI n := workM_1.trans hz4
  generalize workM P = W at *
  have q5 := s_store (l := l) (r := 195) (n := n) hS4 ht hz5 hn (shK hS4 rfl)
  refine ev_intro rfl (nb rfl) rfl ?_
  refine g_aload_n (pc := 0) dX6_product_0 rfl trivial ?_
  refine g_iload_n (pc := 1) dX6_product_1 rfl ?_
  refine g_invV_r (pc := 2) (As := [_]) dX6_product_2 rfl (s_needSlot (in6 ha)) rfl rfl (shK hD.1 rfl) rfl rfl lk_X6_141 rfl (nb rfl) ⟨nb rfl, nb rfl⟩ rfl ?_
  refine g_aload_n (pc := 5) dX6_product_5 rfl trivial ?_
  refine g_iload_n (pc := 6) dX6_product_6 rfl ?_
  refine g_invV_r (pc := 7) (As := [_]) dX6_product_7 rfl (s_needSlot (in6 hb9)) rfl rfl (shK hD.1 rfl) rfl rfl lk_X6_141 rfl (nb rfl) ⟨nb rfl, nb rfl⟩ rfl ?_
  refine g_aload_n (pc := 10) dX6_product_10 rfl trivial ?_
  refine g_iload_n (pc := 11) dX6_product_11 rfl ?_
  refine g_invV_r (pc := 12) (As := [_]) dX6_product_12 rfl (s_needSlot (in6 ht)) rfl rfl (shK hD.1 rfl) rfl rfl lk_X6_141 rfl (nb rfl) ⟨nb rfl, nb rfl⟩ rfl ?_
  refine g_aload_n (pc := 15) dX6_product_15 rfl trivial ?_
  refine g_invV_r (pc := 16) (As := []) dX6_product_16 rfl (q1) rfl rfl (shK hD.1 rfl) rfl rfl lk_X6_222 rfl (nb rfl) ⟨nb rfl, nb rfl⟩ rfl ?_
  refine g_aload_n (pc := 19) dX6_product_19 rfl trivial ?_
  refine g_getf (pc := 20) dX6_product_20 fk_X6_47 (shK hS1 rfl) (fv_obj (shR hS1 rfl)) ?_
  refine g_aload_n (pc := 23) dX6_product_23 rfl trivial ?_
  refine g_getf (pc := 24) dX6_product_24 fk_X6_19 (shK hS1 rfl) (fv_obj (shR hS1 rfl)) ?_
  refine g_iload (pc := 27) dX6_product_27 rfl ?_
  refine g_invV_r (pc := 29) (As := [_, _]) dX6_product_29 rfl (q2) rfl rfl (shK hS1 rfl) rfl rfl lk_X6_253 rfl (nb rfl) ⟨nb rfl, nb rfl⟩ rfl ?_
  refine g_aload_n (pc := 32) dX6_product_32 rfl trivial ?_
  refine g_getf (pc := 33) dX6_product_33 fk_X6_47 (shK hS2 rfl) (fv_obj (shR hS2 rfl)) ?_
  refine g_aload_n (pc := 36) dX6_product_36 rfl trivial ?_
  refine g_iload_n (pc := 37) dX6_product_37 rfl ?_
  refine g_invV_r (pc := 38) (As := [_]) dX6_product_38 rfl (s_rowsOf hS2 ha) rfl rfl (shK hS2 rfl) rfl rfl lk_X6_112 rfl (nb rfl) ⟨nb rfl, nb rfl⟩ rfl ?_
  refine g_aload_n (pc := 41) dX6_product_41 rfl trivial ?_
  refine g_iload_n (pc := 42) dX6_product_42 rfl ?_
  refine g_invV_r (pc := 43) (As := [_]) dX6_product_43 rfl (s_rowsOf hS2 hb9) rfl rfl (shK hS2 rfl) rfl rfl lk_X6_112 rfl (nb rfl) ⟨nb rfl, nb rfl⟩ rfl ?_
  refine g_aload_n (pc := 46) dX6_product_46 rfl trivial ?_
  refine g_getf (pc := 47) dX6_product_47 fk_X6_58 (shK hS2 rfl) (fv_arr (shR hS2 rfl)) ?_
  refine g_invV_r (pc := 50) (As := [_, _, _]) dX6_product_50 rfl (q3) rfl rfl (shK hS2 rfl) rfl rfl lk_X6_257 rfl (nb rfl) ⟨nb rfl, nb rfl⟩ rfl ?_
  refine g_aload_n (pc := 53) dX6_product_53 rfl trivial ?_
  refine g_invV_r (pc := 54) (As := []) dX6_product_54 rfl (q4) rfl rfl (shK hS3 rfl) rfl rfl lk_X6_261 rfl (nb rfl) ⟨nb rfl, nb rfl⟩ rfl ?_
  refine g_aload_n (pc := 57) dX6_product_57 rfl trivial ?_
  refine g_aload_n (pc := 58) dX6_product_58 rfl trivial ?_
  refine g_getf (pc := 59) dX6_product_59 fk_X6_58 (shK hS4 rfl) (fv_arr (shR hS4 rfl)) ?_
  refine g_iload_n (pc := 62) dX6_product_62 rfl ?_
  refine g_invV_r (pc := 63) (As := [_, _]) dX6_product_63 rfl (q5) rfl rfl (shK hS4 rfl) rfl rfl lk_X6_247 rfl (nb rfl) ⟨nb rfl, nb rfl⟩ rfl ?_
  refine g_ireturn (pc := 66) dX6_product_66 rfl rfl ?_
  exact ⟨rfl, rfl⟩
theorem rsMem_S {s : RS} (hS : Shp M) : Shp (rsMem M s) := hS
theorem rsMem_ne {i : Nat} {s : RS} (h : i < 187 ∨ 190 < i) : mI (rsMem M s) i = mI M i := by
  unfold rsMem
  rw [sI_ne (by omega), sI_ne (by omega), sI_ne (by omega), sI_ne (by omega)]
def pwE (R : Mem) (s n bl : Nat) (f x : Int32) : RS := raiseEnd (begMem R f) n bl (6 + 2 * s) x
def pwM (R : Mem) (s n bl : Nat) (f x : Int32) : Mem := if 0 < x then workM (rsMem (begMem R f) (pwE R s n bl f x)) else rsMem (begMem R f) (pwE R s n bl f x)
theorem u_power {s t bl : Nat} {f x : Int32} (hD : Dk M n p c) (hbl : mI M 3 2 = nI bl) (hb1 : 1 ≤ bl) (hb8 : bl ≤ 8) (hs : s < 6) (ht : t < 6) (hf : k01 f) (h0 : ¬ x < 0) (h1 : x ≤ 1000000) : EvR l jX6_power 7 140 4 24 [.ref 0, .int (nI s), .int x, .int (nI t), .int f] M (.inl (some (.int (stV (pwM (remM M p c) s n bl f x) (rsP (pwE (remM M p c) s n bl f x)) t n)))) (storeM (pwM (remM M p c) s n bl f x) (rsP (pwE (remM M p c) s n bl f x)) t n) := by
  have hn := hD.2.2.1
  have hS1 := remM_S hD.1 p c
  have hz1 := d_z hD
  have hl1 : mI (remM M p c) 3 2 = nI bl := by rw [remM_ne hD.2.2.2.2.1 (by decide) (by decide)]; exact hbl
  have q1 := d_remember (l := l) hD
  unfold stV pwM pwE
  generalize remM M p c = R at *
  have q2 := s_begin (l := l) hS1 hf
  have hS2 := begMem_S (f := f) hS1
  have hz2 : mI (begMem R f) 187 3 = nI n := begMem_3.trans hz1
  have hl2 : mI (begMem R f) 187 4 = nI bl := begMem_4.trans hl1
  have hz3 : mI (begMem R f) 3 1 = nI n := (congrFun (begMem_ne (by decide)) 1).trans hz1
  generalize begMem R f = B at *
  have q3 := s_raise (l := l) (rb := 6 + 2 * s) (x := x) hS2 hz2 hl2 hn hb1 hb8 (shK hS2 (rows_lay hs)) (by omega) (by omega) (by omega) (by omega)
  generalize raiseEnd B n bl (6 + 2 * s) x = e at *
  have hS3 := rsMem_S (s := e) hS2
  have hz4 : mI (rsMem B e) 3 1 = nI n := (congrFun (rsMem_ne (by decide)) 1).trans hz3
  have hr := (rs_ids e).1
  generalize rsMem B e = P at *
  generalize rsP e = r at *
  have q4 := s_noteWork (l := l) hS3
  have hS4 := workM_S hS3
  have hz5 : mI (workM P) 3 1 = nI n := workM_1.trans hz4
  have hkr : ∀ {Z : Mem}, Shp Z → (mK Z)[r]? = some (kI 32) := fun {Z} hZ => by
    rcases hr with rfl | rfl
    · exact shK hZ rfl
    · exact shK hZ rfl
  have q5 := s_store (l := l) (r := r) (n := n) hS4 ht hz5 hn (hkr hS4)
  have q6 := s_store (l := l) (r := r) (n := n) hS3 ht hz4 hn (hkr hS3)
  generalize workM P = W at *
  refine ev_intro rfl (nb rfl) rfl ?_
  refine g_aload_n (pc := 0) dX6_power_0 rfl trivial ?_
  refine g_iload_n (pc := 1) dX6_power_1 rfl ?_
  refine g_invV_r (pc := 2) (As := [_]) dX6_power_2 rfl (s_needSlot (in6 hs)) rfl rfl (shK hD.1 rfl) rfl rfl lk_X6_141 rfl (nb rfl) ⟨nb rfl, nb rfl⟩ rfl ?_
  refine g_aload_n (pc := 5) dX6_power_5 rfl trivial ?_
  refine g_iload_n (pc := 6) dX6_power_6 rfl ?_
  refine g_invV_r (pc := 7) (As := [_]) dX6_power_7 rfl (s_needSlot (in6 ht)) rfl rfl (shK hD.1 rfl) rfl rfl lk_X6_141 rfl (nb rfl) ⟨nb rfl, nb rfl⟩ rfl ?_
  refine g_aload_n (pc := 10) dX6_power_10 rfl trivial ?_
  refine g_iload_n (pc := 11) dX6_power_11 rfl ?_
  refine g_iconst (pc := 12) (v := 0) dX6_power_12 rfl ?_
  refine g_ldcw (pc := 13) dX6_power_13 wd_1110 ?_
  refine g_invV_r (pc := 16) (As := [_, _, _]) dX6_power_16 rfl (s_needRange h0 h1) rfl rfl (shK hD.1 rfl) rfl rfl lk_X6_95 rfl (nb rfl) ⟨nb rfl, nb rfl⟩ rfl ?_
  refine g_aload_n (pc := 19) dX6_power_19 rfl trivial ?_
  refine g_invV_r (pc := 20) (As := []) dX6_power_20 rfl (q1) rfl rfl (shK hD.1 rfl) rfl rfl lk_X6_222 rfl (nb rfl) ⟨nb rfl, nb rfl⟩ rfl ?_
  refine g_aload_n (pc := 23) dX6_power_23 rfl trivial ?_
  refine g_getf (pc := 24) dX6_power_24 fk_X6_47 (shK hS1 rfl) (fv_obj (shR hS1 rfl)) ?_
  refine g_aload_n (pc := 27) dX6_power_27 rfl trivial ?_
  refine g_getf (pc := 28) dX6_power_28 fk_X6_19 (shK hS1 rfl) (fv_obj (shR hS1 rfl)) ?_
  refine g_iload (pc := 31) dX6_power_31 rfl ?_
  refine g_invV_r (pc := 33) (As := [_, _]) dX6_power_33 rfl (q2) rfl rfl (shK hS1 rfl) rfl rfl lk_X6_253 rfl (nb rfl) ⟨nb rfl, nb rfl⟩ rfl ?_
  refine g_aload_n (pc := 36) dX6_power_36 rfl trivial ?_
  refine g_getf (pc := 37) dX6_power_37 fk_X6_47 (shK hS2 rfl) (fv_obj (shR hS2 rfl)) ?_
  refine g_aload_n (pc := 40) dX6_power_40 rfl trivial ?_
  refine g_iload_n (pc := 41) dX6_power_41 rfl ?_
  refine g_invV_r (pc := 42) (As := [_]) dX6_power_42 rfl (s_rowsOf hS2 hs) rfl rfl (shK hS2 rfl) rfl rfl lk_X6_112 rfl (nb rfl) ⟨nb rfl, nb rfl⟩ rfl ?_
  refine g_iload_n (pc := 45) dX6_power_45 rfl ?_
  refine g_invV_r (pc := 46) (As := [_, _]) dX6_power_46 rfl (q3) rfl rfl (shK hS2 rfl) rfl rfl lk_X6_265 rfl (nb rfl) ⟨nb rfl, nb rfl⟩ rfl ?_
  refine g_astore (pc := 49) (lv' := [(0, _), (1, _), (2, _), (3, _), (4, _), (5, _)]) dX6_power_49 trivial (nl rfl) rfl ?_
  refine g_iload_n (pc := 51) dX6_power_51 rfl ?_
  refine g_if_le (pc := 52) (tgt := 59) dX6_power_52 rfl (fun h52 => ?_) (fun h52 => ?_)
  · rw [if_neg (Int32.not_lt.mpr h52)]
    refine g_aload_n (pc := 59) dX6_power_59 rfl trivial ?_
    refine g_aload (pc := 60) dX6_power_60 rfl trivial ?_
    refine g_iload_n (pc := 62) dX6_power_62 rfl ?_
    refine g_invV_r (pc := 63) (As := [_, _]) dX6_power_63 rfl (q6) rfl rfl (shK hS3 rfl) rfl rfl lk_X6_247 rfl (nb rfl) ⟨nb rfl, nb rfl⟩ rfl ?_
    refine g_ireturn (pc := 66) dX6_power_66 rfl rfl ?_
    exact ⟨rfl, rfl⟩
  · rw [if_pos (Int32.not_le.mp h52)]
    refine g_aload_n (pc := 55) dX6_power_55 rfl trivial ?_
    refine g_invV_r (pc := 56) (As := []) dX6_power_56 rfl (q4) rfl rfl (shK hS3 rfl) rfl rfl lk_X6_261 rfl (nb rfl) ⟨nb rfl, nb rfl⟩ rfl ?_
    refine g_aload_n (pc := 59) dX6_power_59 rfl trivial ?_
    refine g_aload (pc := 60) dX6_power_60 rfl trivial ?_
    refine g_iload_n (pc := 62) dX6_power_62 rfl ?_
    refine g_invV_r (pc := 63) (As := [_, _]) dX6_power_63 rfl (q5) rfl rfl (shK hS4 rfl) rfl rfl lk_X6_247 rfl (nb rfl) ⟨nb rfl, nb rfl⟩ rfl ?_
    refine g_ireturn (pc := 66) dX6_power_66 rfl rfl ?_
    exact ⟨rfl, rfl⟩
end
end
-- 210.update
section
section
variable {l : Launch} {M : Mem} {n p c : Nat}
theorem mxLook_ne {m i : Nat} {x : Int32} (h : i ≠ m) : mI (mxLook M m x) i = mI M i := by
  unfold mxLook
  split
  · rfl
  · rw [pI_i h, pI_i h]
def ptN (R : Mem) (s r n : Nat) : Int32 := nodesTo (mI (clOf R s n) (175 + 2 * s + 1)) r n
/-- after the flip of an entry, the closure as before -/
def ptF (R : Mem) (s r k n : Nat) : Mem := sI (mxLook (clOf R s n) (5 + 2 * s) (bcJ (ptN R s r n))) (6 + 2 * s) (fun_set (mI R (6 + 2 * s)) r (mI R (6 + 2 * s) r ^^^ bitI k))
def ptV (R : Mem) (s r k n : Nat) (f : Int32) : Int32 := if b1 (hb (mI R (6 + 2 * s) r) k) = f then 0 else if f = 0 then mendS (mI (ptF R s r k n) (175 + 2 * s + 1)) (mI (ptF R s r k n) (6 + 2 * s)) (ptN R s r n) n n else gainW (mI (ptF R s r k n) (175 + 2 * s + 1)) (ptN R s r n) k n
def ptM (R : Mem) (s r k n : Nat) (f : Int32) : Mem := if b1 (hb (mI R (6 + 2 * s) r) k) = f then mxLook R (5 + 2 * s) 0 else if f = 0 then sI (ptF R s r k n) (175 + 2 * s + 1) (mendG (mI (ptF R s r k n) (175 + 2 * s + 1)) (mI (ptF R s r k n) (6 + 2 * s)) (ptN R s r n) n n) else sI (ptF R s r k n) (175 + 2 * s + 1) (extF (mI (ptF R s r k n) (175 + 2 * s + 1)) (ptN R s r n) (mI (ptF R s r k n) (175 + 2 * s + 1) k ||| bitI k) n)
theorem u_put {s r k : Nat} {f : Int32} (hD : Dk M n p c) (hs : s < 6) (hr : r < n) (hk9 : k < n) (hf : k01 f) : EvR l jX6_put 9 160 3 18 [.ref 0, .int (nI s), .int (nI r), .int (nI k), .int f] M (.inl (some (.int (ptV (remM M p c) s r k n f)))) (ptM (remM M p c) s r k n f) := by
  have hn := hD.2.2.1
  have hS1 := remM_S hD.1 p c
  have hz1 := d_z hD
  have q1 := d_remember (l := l) hD
  obtain ⟨m1, m2⟩ := mx5 hs
  have m3 := m1.2.1
  have m4 := m1.2.2
  rw [show 5 + 2 * s + 1 = 6 + 2 * s by omega] at m3 m4
  have hc := cl_ok' s hs
  generalize remM M p c = R at *
  have q2 := s_closureOf (l := l) hS1 hs hz1 hn
  have hS2 := clOf_S hS1 s n
  have hz2 := clOf_z hz1 hs
  have er : mI (clOf R s n) (6 + 2 * s) = mI R (6 + 2 * s) := clOf_ne (by omega) hs
  have hq0 := s_noteLooked (l := l) (x := 0) hS1 m1
  have eN : ptN R s r n = nodesTo (mI (clOf R s n) (175 + 2 * s + 1)) r n := rfl
  have eF : ptF R s r k n = sI (mxLook (clOf R s n) (5 + 2 * s) (bcJ (ptN R s r n))) (6 + 2 * s) (fun_set (mI R (6 + 2 * s)) r (mI R (6 + 2 * s) r ^^^ bitI k)) := rfl
  unfold ptV ptM
  generalize ptF R s r k n = F9 at *
  generalize ptN R s r n = N9 at *
  generalize mxLook R (5 + 2 * s) 0 = M0 at *
  generalize clOf R s n = C at *
  have q3 := s_noteLooked (l := l) (x := bcJ N9) hS2 m1
  have hS3 : Shp (mxLook C (5 + 2 * s) (bcJ N9)) := hS2.look
  have er3 : mI (mxLook C (5 + 2 * s) (bcJ N9)) (6 + 2 * s) = mI R (6 + 2 * s) := (mxLook_ne (by omega)).trans er
  have hz3 : mI (mxLook C (5 + 2 * s) (bcJ N9)) 3 1 = nI n := (congrFun (mxLook_ne (by omega)) 1).trans hz2
  generalize mxLook C (5 + 2 * s) (bcJ N9) = K at *
  have hS4 : Shp F9 := by rw [eF]; exact shp_sI hS3
  have hz4 : mI F9 3 1 = nI n := by rw [eF]; exact (congrFun (sI_ne (by omega)) 1).trans hz3
  have est : sI K (6 + 2 * s) (fun_set (mI K (6 + 2 * s)) r (mI K (6 + 2 * s) r ^^^ bitI k)) = F9 := by rw [eF, er3]
  have q5 := s_extend (l := l) (b := k) (nodes := N9) hS4 hc (by omega) hn
  have q6 := s_mend (l := l) (r := 6 + 2 * s) (nodes := N9) hS4 hc (shK hS4 (rows_lay hs)) (by omega) hn
  have q4 := s_nodesTo (l := l) (a := r) hS2 hc (by omega) hn
  rw [← eN] at q4
  refine ev_intro rfl (nb rfl) rfl ?_
  refine g_aload_n (pc := 0) dX6_put_0 rfl trivial ?_
  refine g_iload_n (pc := 1) dX6_put_1 rfl ?_
  refine g_iload_n (pc := 2) dX6_put_2 rfl ?_
  refine g_iload_n (pc := 3) dX6_put_3 rfl ?_
  refine g_invV_r (pc := 4) (As := [_, _, _]) dX6_put_4 rfl (s_needCell hD.1 hD.2.1 (in6 hs) (inR_nI hr (by omega)) (inR_nI hk9 (by omega))) rfl rfl (shK hD.1 rfl) rfl rfl lk_X6_109 rfl (nb rfl) ⟨nb rfl, nb rfl⟩ rfl ?_
  refine g_aload_n (pc := 7) dX6_put_7 rfl trivial ?_
  refine g_invV_r (pc := 8) (As := []) dX6_put_8 rfl (q1) rfl rfl (shK hD.1 rfl) rfl rfl lk_X6_222 rfl (nb rfl) ⟨nb rfl, nb rfl⟩ rfl ?_
  refine g_aload_n (pc := 11) dX6_put_11 rfl trivial ?_
  refine g_getf (pc := 12) dX6_put_12 fk_X6_19 (shK hS1 rfl) (fv_obj (shR hS1 rfl)) ?_
  refine g_getf (pc := 15) dX6_put_15 fk_X6_225 (shK hS1 rfl) (fv_arr (shR hS1 rfl)) ?_
  refine g_iload_n (pc := 18) dX6_put_18 rfl ?_
  refine g_aaload_Matrix (pc := 19) dX6_put_19 (shK hS1 rfl) rfl hs (by decide) (shR hS1 m2) ?_
  refine g_astore (pc := 20) (lv' := [(0, _), (1, _), (2, _), (3, _), (4, _), (5, _)]) dX6_put_20 trivial (nl rfl) rfl ?_
  refine g_aload (pc := 22) dX6_put_22 rfl trivial ?_
  refine g_getf (pc := 24) dX6_put_24 fk_X6_229 (shK hS1 m1.1) (fv_arr (shR hS1 m4)) ?_
  refine g_iload_n (pc := 27) dX6_put_27 rfl ?_
  refine g_iaload (pc := 28) dX6_put_28 (shK hS1 m3) rfl (by omega) (nl rfl) ?_
  refine g_iload_n (pc := 29) dX6_put_29 rfl ?_
  refine g_invS_r (pc := 30) (As := [_, _]) dX6_put_30 rfl (s_hasOne (by omega)) rfl rfl lk_X6_116 rfl (nb rfl) ⟨nb rfl, nb rfl⟩ rfl ?_
  refine g_iload (pc := 33) dX6_put_33 rfl ?_
  refine g_icmp_ne (pc := 35) (tgt := 46) dX6_put_35 rfl (fun h35 => ?_) (fun h35 => ?_)
  · rw [if_neg h35, if_neg h35]
    refine g_aload_n (pc := 46) dX6_put_46 rfl trivial ?_
    refine g_iload_n (pc := 47) dX6_put_47 rfl ?_
    refine g_invV_r (pc := 48) (As := [_]) dX6_put_48 rfl (q2) rfl rfl (shK hS1 rfl) rfl rfl lk_X6_162 rfl (nb rfl) ⟨nb rfl, nb rfl⟩ rfl ?_
    refine g_astore (pc := 51) (lv' := [(0, _), (1, _), (2, _), (3, _), (4, _), (5, _), (6, _)]) dX6_put_51 trivial (nl rfl) rfl ?_
    refine g_aload (pc := 53) dX6_put_53 rfl trivial ?_
    refine g_iload_n (pc := 55) dX6_put_55 rfl ?_
    refine g_aload_n (pc := 56) dX6_put_56 rfl trivial ?_
    refine g_getf (pc := 57) dX6_put_57 fk_X6_19 (shK hS2 rfl) (fv_obj (shR hS2 rfl)) ?_
    refine g_getf (pc := 60) (v := .int _) dX6_put_60 fk_X6_89 (shK hS2 rfl) (fun _ => congrArg Value.int (hz2)) ?_
    refine g_invV_r (pc := 63) (As := [_, _]) dX6_put_63 rfl (q4) rfl rfl (shK hS2 hc.1) rfl rfl lk_X6_192 rfl (nb rfl) ⟨nb rfl, nb rfl⟩ rfl ?_
    refine g_istore (pc := 66) (lv' := [(0, _), (1, _), (2, _), (3, _), (4, _), (5, _), (6, _), (7, _)]) dX6_put_66 (nl rfl) rfl ?_
    refine g_aload (pc := 68) dX6_put_68 rfl trivial ?_
    refine g_iload (pc := 70) dX6_put_70 rfl ?_
    refine g_invS_r (pc := 72) (As := [_]) dX6_put_72 rfl (s_bitCount) rfl rfl lk_X6_132 rfl (nb rfl) ⟨nb rfl, nb rfl⟩ rfl ?_
    refine g_invV_r (pc := 75) (As := [_]) dX6_put_75 rfl (q3) rfl rfl (shK hS2 m1.1) rfl rfl lk_X6_234 rfl (nb rfl) ⟨nb rfl, nb rfl⟩ rfl ?_
    refine g_aload (pc := 78) dX6_put_78 rfl trivial ?_
    refine g_getf (pc := 80) dX6_put_80 fk_X6_229 (shK hS3 m1.1) (fv_arr (shR hS3 m4)) ?_
    refine g_iload_n (pc := 83) dX6_put_83 rfl ?_
    refine g_dup2_11 (pc := 84) dX6_put_84 rfl rfl ?_
    refine g_iaload (pc := 85) dX6_put_85 (shK hS3 m3) rfl (by omega) (nl rfl) ?_
    refine g_iconst (pc := 86) (v := 1) dX6_put_86 rfl ?_
    refine g_iload_n (pc := 87) dX6_put_87 rfl ?_
    refine g_ishl (pc := 88) dX6_put_88 ?_
    refine g_ixor (pc := 89) dX6_put_89 ?_
    refine g_iastore (pc := 90) dX6_put_90 (shK hS3 m3) rfl (by omega) (nl rfl) ?_
    refine go_cast est ?_
    refine g_iload (pc := 91) dX6_put_91 rfl ?_
    refine g_if_eq (pc := 93) (tgt := 114) dX6_put_93 rfl (fun h93 => ?_) (fun h93 => ?_)
    · rw [if_pos h93, if_pos h93]
      refine g_aload (pc := 114) dX6_put_114 rfl trivial ?_
      refine g_iload (pc := 116) dX6_put_116 rfl ?_
      refine g_aload (pc := 118) dX6_put_118 rfl trivial ?_
      refine g_getf (pc := 120) dX6_put_120 fk_X6_229 (shK hS4 m1.1) (fv_arr (shR hS4 m4)) ?_
      refine g_aload_n (pc := 123) dX6_put_123 rfl trivial ?_
      refine g_getf (pc := 124) dX6_put_124 fk_X6_19 (shK hS4 rfl) (fv_obj (shR hS4 rfl)) ?_
      refine g_getf (pc := 127) (v := .int _) dX6_put_127 fk_X6_89 (shK hS4 rfl) (fun _ => congrArg Value.int (hz4)) ?_
      refine g_invV_r (pc := 130) (As := [_, _, _]) dX6_put_130 rfl (q6) rfl rfl (shK hS4 hc.1) rfl rfl lk_X6_240 rfl (nb rfl) ⟨nb rfl, nb rfl⟩ rfl ?_
      refine g_ireturn (pc := 133) dX6_put_133 rfl rfl ?_
      exact ⟨rfl, rfl⟩
    · rw [if_neg h93, if_neg h93]
      refine g_aload (pc := 96) dX6_put_96 rfl trivial ?_
      refine g_iload (pc := 98) dX6_put_98 rfl ?_
      refine g_iload_n (pc := 100) dX6_put_100 rfl ?_
      refine g_aload_n (pc := 101) dX6_put_101 rfl trivial ?_
      refine g_getf (pc := 102) dX6_put_102 fk_X6_19 (shK hS4 rfl) (fv_obj (shR hS4 rfl)) ?_
      refine g_getf (pc := 105) (v := .int _) dX6_put_105 fk_X6_89 (shK hS4 rfl) (fun _ => congrArg Value.int (hz4)) ?_
      refine g_invV_r (pc := 108) (As := [_, _, _]) dX6_put_108 rfl (q5) rfl rfl (shK hS4 hc.1) rfl rfl lk_X6_237 rfl (nb rfl) ⟨nb rfl, nb rfl⟩ rfl ?_
      refine g_goto (pc := 111) (tgt := 133) dX6_put_111 rfl ?_
      refine g_ireturn (pc := 133) dX6_put_133 rfl rfl ?_
      exact ⟨rfl, rfl⟩
  · rw [if_pos (Decidable.not_not.mp h35), if_pos (Decidable.not_not.mp h35)]
    refine g_aload (pc := 38) dX6_put_38 rfl trivial ?_
    refine g_iconst (pc := 40) (v := 0) dX6_put_40 rfl ?_
    refine g_invV_r (pc := 41) (As := [_]) dX6_put_41 rfl (hq0) rfl rfl (shK hS1 m1.1) rfl rfl lk_X6_234 rfl (nb rfl) ⟨nb rfl, nb rfl⟩ rfl ?_
    refine g_iconst (pc := 44) (v := 0) dX6_put_44 rfl ?_
    refine g_ireturn (pc := 45) dX6_put_45 rfl rfl ?_
    exact ⟨rfl, rfl⟩
theorem x_put {v w u f : Int32} (hS : Shp M) (hz : mI M 3 1 = nI n) (h : ¬ (inR v 6 ∧ inR w n ∧ inR u n)) : EvR l jX6_put 9 160 3 18 [.ref 0, .int v, .int w, .int u, .int f] M (.inr xIO) M := by
  refine ev_intro rfl (nb rfl) rfl ?_
  refine g_aload_n (pc := 0) dX6_put_0 rfl trivial ?_
  refine g_iload_n (pc := 1) dX6_put_1 rfl ?_
  refine g_iload_n (pc := 2) dX6_put_2 rfl ?_
  refine g_iload_n (pc := 3) dX6_put_3 rfl ?_
  refine g_invV_x (pc := 4) (As := [_, _, _]) dX6_put_4 rfl (x_needCell hS hz h) rfl rfl (shK hS rfl) rfl rfl lk_X6_109 rfl (nb rfl) ⟨nb rfl, nb rfl⟩ rfl ?_
  exact ⟨rfl, rfl⟩
end
end
-- 211.update
section
section
variable {l : Launch} {M : Mem} {n p c : Nat}
def srcN (a b i : Nat) : Nat := if i = a then b else if i = b then a else i
def exF (f : Nat → Int32) (a b i : Nat) : Int32 := exch (f (srcN a b i)) a b
def exC (f : Nat → Int32) (a b : Nat) : Nat → Int32
  | 0 => 0
  | k + 1 => exC f a b k + bcJ (exF f a b k ^^^ f k)
theorem u_exchange {s a b : Nat} (hD : Dk M n p c) (hs : s < 6) (ha : a < n) (hb9 : b < n) : EvR l jX6_exchange 9 160 3 18 [.ref 0, .int (nI s), .int (nI a), .int (nI b)] M (.inl (some (.int (exC (mI M (6 + 2 * s)) a b n)))) (storeM (mkM (remM M p c) (exF (mI M (6 + 2 * s)) a b) n) 195 s n) := by
  have hn := hD.2.2.1
  have hS1 := remM_S hD.1 p c
  have hz1 := d_z hD
  have er : mI (remM M p c) (6 + 2 * s) = mI M (6 + 2 * s) := remM_ne hD.2.2.2.2.1 (by omega) (by omega)
  have q1 := d_remember (l := l) hD
  rw [← er]
  generalize remM M p c = R at *
  obtain ⟨f, hf⟩ : ∃ f, f = mI R (6 + 2 * s) := ⟨_, rfl⟩
  rw [← hf]
  obtain ⟨g, hg⟩ : ∃ g, g = exF f a b := ⟨_, rfl⟩
  rw [← hg]
  have hg1 : ∀ i, g i = exch (f (srcN a b i)) a b := fun i => by rw [hg]; rfl
  have hS2 : ∀ k, Shp (mkM R g k) := fun k => mk_S hS1 g k
  have hz2 : ∀ k, mI (mkM R g k) 3 1 = nI n := fun k => (congrFun (mk_ne (by decide)) 1).trans hz1
  have er2 : ∀ k, mI (mkM R g k) (6 + 2 * s) = f := fun k => (mk_ne (by omega)).trans hf.symm
  have q2 := s_store (l := l) (r := 195) (n := n) (hS2 n) hs (hz2 n) hn (shK (hS2 n) rfl)
  have est : ∀ k, pI (mkM R g k) 195 k (g k) = mkM R g (k + 1) := fun k => mk_st k
  have erd : ∀ k, mI (mkM R g (k + 1)) 195 k = g k := fun k => by unfold mkM; rw [sI_self, wr_lt (Nat.lt_succ_self k)]
  have e00 : R = mkM R g 0 := mk_0
  refine ev_intro rfl (nb rfl) rfl ?_
  refine g_aload_n (pc := 0) dX6_exchange_0 rfl trivial ?_
  refine g_iload_n (pc := 1) dX6_exchange_1 rfl ?_
  refine g_iload_n (pc := 2) dX6_exchange_2 rfl ?_
  refine g_iload_n (pc := 3) dX6_exchange_3 rfl ?_
  refine g_invV_r (pc := 4) (As := [_, _, _]) dX6_exchange_4 rfl (s_needCell hD.1 hD.2.1 (in6 hs) (inR_nI ha (by omega)) (inR_nI hb9 (by omega))) rfl rfl (shK hD.1 rfl) rfl rfl lk_X6_109 rfl (nb rfl) ⟨nb rfl, nb rfl⟩ rfl ?_
  refine g_aload_n (pc := 7) dX6_exchange_7 rfl trivial ?_
  refine g_invV_r (pc := 8) (As := []) dX6_exchange_8 rfl (q1) rfl rfl (shK hD.1 rfl) rfl rfl lk_X6_222 rfl (nb rfl) ⟨nb rfl, nb rfl⟩ rfl ?_
  refine g_aload_n (pc := 11) dX6_exchange_11 rfl trivial ?_
  refine g_iload_n (pc := 12) dX6_exchange_12 rfl ?_
  refine g_invV_r (pc := 13) (As := [_]) dX6_exchange_13 rfl (s_rowsOf hS1 hs) rfl rfl (shK hS1 rfl) rfl rfl lk_X6_112 rfl (nb rfl) ⟨nb rfl, nb rfl⟩ rfl ?_
  refine g_astore (pc := 16) (lv' := [(0, _), (1, _), (2, _), (3, _), (4, _)]) dX6_exchange_16 trivial (nl rfl) rfl ?_
  refine g_iconst (pc := 18) (v := 0) dX6_exchange_18 rfl ?_
  refine g_istore (pc := 19) (lv' := [(0, _), (1, _), (2, _), (3, _), (4, _), (5, _)]) dX6_exchange_19 (nl rfl) rfl ?_
  refine g_iconst (pc := 21) (v := 0) dX6_exchange_21 rfl ?_
  refine g_istore (pc := 22) (lv' := [(0, _), (1, _), (2, _), (3, _), (4, _), (5, _), (6, _)]) dX6_exchange_22 (nl rfl) rfl ?_
  refine go_loop (pc := 24) n (fun i => [(0, .ref 0), (1, .int (nI s)), (2, .int (nI a)), (3, .int (nI b)), (4, .ref (6 + 2 * s)), (5, .int (exC f a b i)), (6, .int (nI i))]) (fun i => mkM R g i) ⟨rfl, rfl, rfl, rfl, rfl, rfl, rfl, trivial⟩ e00 ?_ ?_
  · intro i hi ih
    have hS3 := hS2 i
    have hz3 := hz2 i
    have er3 := er2 i
    have est3 := est i
    have hS5 := hS2 (i + 1)
    have er5 := er2 (i + 1)
    have erd5 := erd i
    generalize exC f a b n = X9 at ih ⊢
    rw [exC] at ih
    generalize exC f a b i = x0 at ih ⊢
    have hEF : exF f a b i = g i := by rw [hg]
    rw [hEF] at ih
    generalize mkM R g n = M9 at *
    generalize mkM R g (i + 1) = M4 at *
    generalize mkM R g i = M3 at *
    have hgi := hg1 i
    generalize g i = y at *
    have hend : ∀ j, j < 32 → y = exch (f j) a b → Go l jX6_exchange 9 160 3 18 (fun r' M' => r' = .inl (some (.int X9)) ∧ M' = storeM M9 195 s n) 60 [(0, .ref 0), (1, .int (nI s)), (2, .int (nI a)), (3, .int (nI b)), (4, .ref (6 + 2 * s)), (5, .int x0), (6, .int (nI i)), (7, .int (nI j))] [] 0 0 M3 := by
      intro j hj hy
      refine g_aload_n (pc := 60) dX6_exchange_60 rfl trivial ?_
      refine g_getf (pc := 61) dX6_exchange_61 fk_X6_58 (shK hS3 rfl) (fv_arr (shR hS3 rfl)) ?_
      refine g_iload (pc := 64) dX6_exchange_64 rfl ?_
      refine g_aload (pc := 66) dX6_exchange_66 rfl trivial ?_
      refine g_iload (pc := 68) dX6_exchange_68 rfl ?_
      refine g_iaload (pc := 70) dX6_exchange_70 (shK hS3 (rows_lay hs)) rfl hj (nl rfl) ?_
      rw [er3]
      refine g_iload_n (pc := 71) dX6_exchange_71 rfl ?_
      refine g_iload_n (pc := 72) dX6_exchange_72 rfl ?_
      refine g_invS_r (pc := 73) (As := [_, _, _]) dX6_exchange_73 rfl (s_exchanged (show a < 32 by omega) (show b < 32 by omega)) rfl rfl lk_X6_285 rfl (nb rfl) ⟨nb rfl, nb rfl⟩ rfl ?_
      rw [← hy]
      refine g_iastore (pc := 76) dX6_exchange_76 (shK hS3 rfl) rfl (by omega) (nl rfl) ?_
      refine go_cast est3 ?_
      refine g_iload (pc := 77) dX6_exchange_77 rfl ?_
      refine g_aload_n (pc := 79) dX6_exchange_79 rfl trivial ?_
      refine g_getf (pc := 80) dX6_exchange_80 fk_X6_58 (shK hS5 rfl) (fv_arr (shR hS5 rfl)) ?_
      refine g_iload (pc := 83) dX6_exchange_83 rfl ?_
      refine g_iaload (pc := 85) dX6_exchange_85 (shK hS5 rfl) rfl (by omega) (nl rfl) ?_
      rw [erd5]
      refine g_aload (pc := 86) dX6_exchange_86 rfl trivial ?_
      refine g_iload (pc := 88) dX6_exchange_88 rfl ?_
      refine g_iaload (pc := 90) dX6_exchange_90 (shK hS5 (rows_lay hs)) rfl (by omega) (nl rfl) ?_
      rw [er5]
      refine g_ixor (pc := 91) dX6_exchange_91 ?_
      refine g_invS_r (pc := 92) (As := [_]) dX6_exchange_92 rfl (s_bitCount) rfl rfl lk_X6_132 rfl (nb rfl) ⟨nb rfl, nb rfl⟩ rfl ?_
      refine g_iadd (pc := 95) dX6_exchange_95 ?_
      refine g_istore (pc := 96) (lv' := [(0, _), (1, _), (2, _), (3, _), (4, _), (5, _), (6, _), (7, _)]) dX6_exchange_96 (nl rfl) rfl ?_
      refine g_iinc (pc := 98) (lv' := [(0, _), (1, _), (2, _), (3, _), (4, _), (5, _), (6, _), (7, _)]) dX6_exchange_98 rfl (nI_1 _) (nl rfl) rfl ?_
      refine g_goto (pc := 101) (tgt := 24) dX6_exchange_101 rfl ?_
      exact g_sub (lv' := [(0, _), (1, _), (2, _), (3, _), (4, _), (5, _), (6, _)]) ⟨rfl, rfl, rfl, rfl, rfl, rfl, rfl, trivial⟩ ih
    unfold srcN at hgi
    refine g_iload (pc := 24) dX6_exchange_24 rfl ?_
    refine g_aload_n (pc := 26) dX6_exchange_26 rfl trivial ?_
    refine g_getf (pc := 27) dX6_exchange_27 fk_X6_19 (shK hS3 rfl) (fv_obj (shR hS3 rfl)) ?_
    refine g_getf (pc := 30) (v := .int _) dX6_exchange_30 fk_X6_89 (shK hS3 rfl) (fun _ => congrArg Value.int (hz3)) ?_
    refine g_icmp_ge (pc := 33) (tgt := 104) dX6_exchange_33 rfl (fun h33 => absurd h33 (nI_ge hi (by omega))) (fun _ => ?_)
    refine g_iload (pc := 36) dX6_exchange_36 rfl ?_
    refine g_iload_n (pc := 38) dX6_exchange_38 rfl ?_
    refine g_icmp_ne (pc := 39) (tgt := 46) dX6_exchange_39 rfl (fun h39 => ?_) (fun h39 => ?_)
    · rw [if_neg (fun h => h39 (by rw [h]))] at hgi
      refine g_iload (pc := 46) dX6_exchange_46 rfl ?_
      refine g_iload_n (pc := 48) dX6_exchange_48 rfl ?_
      refine g_icmp_ne (pc := 49) (tgt := 56) dX6_exchange_49 rfl (fun h49 => ?_) (fun h49 => ?_)
      · rw [if_neg (fun h => h49 (by rw [h]))] at hgi
        refine g_iload (pc := 56) dX6_exchange_56 rfl ?_
        refine g_istore (pc := 58) (lv' := [(0, _), (1, _), (2, _), (3, _), (4, _), (5, _), (6, _), (7, _)]) dX6_exchange_58 (nl rfl) rfl ?_
        exact hend _ (by omega) hgi
      · rw [if_pos ((nI_eq (by omega) (by omega)).mp (Decidable.not_not.mp h49))] at hgi
        refine g_iload_n (pc := 52) dX6_exchange_52 rfl ?_
        refine g_goto (pc := 53) (tgt := 58) dX6_exchange_53 rfl ?_
        refine g_istore (pc := 58) (lv' := [(0, _), (1, _), (2, _), (3, _), (4, _), (5, _), (6, _), (7, _)]) dX6_exchange_58 (nl rfl) rfl ?_
        exact hend _ (by omega) hgi
    · rw [if_pos ((nI_eq (by omega) (by omega)).mp (Decidable.not_not.mp h39))] at hgi
      refine g_iload_n (pc := 42) dX6_exchange_42 rfl ?_
      refine g_goto (pc := 43) (tgt := 58) dX6_exchange_43 rfl ?_
      refine g_istore (pc := 58) (lv' := [(0, _), (1, _), (2, _), (3, _), (4, _), (5, _), (6, _), (7, _)]) dX6_exchange_58 (nl rfl) rfl ?_
      exact hend _ (by omega) hgi
  · have hS3 := hS2 n
    have hz3 := hz2 n
    generalize mkM R g n = M9 at *
    refine g_iload (pc := 24) dX6_exchange_24 rfl ?_
    refine g_aload_n (pc := 26) dX6_exchange_26 rfl trivial ?_
    refine g_getf (pc := 27) dX6_exchange_27 fk_X6_19 (shK hS3 rfl) (fv_obj (shR hS3 rfl)) ?_
    refine g_getf (pc := 30) (v := .int _) dX6_exchange_30 fk_X6_89 (shK hS3 rfl) (fun _ => congrArg Value.int (hz3)) ?_
    refine g_icmp_ge (pc := 33) (tgt := 104) dX6_exchange_33 rfl (fun _ => ?_) (fun h33 => absurd (nI_le (Nat.le_refl _) (by omega)) h33)
    refine g_aload_n (pc := 104) dX6_exchange_104 rfl trivial ?_
    refine g_aload_n (pc := 105) dX6_exchange_105 rfl trivial ?_
    refine g_getf (pc := 106) dX6_exchange_106 fk_X6_58 (shK hS3 rfl) (fv_arr (shR hS3 rfl)) ?_
    refine g_iload_n (pc := 109) dX6_exchange_109 rfl ?_
    refine g_invV_r (pc := 110) (As := [_, _]) dX6_exchange_110 rfl (q2) rfl rfl (shK hS3 rfl) rfl rfl lk_X6_247 rfl (nb rfl) ⟨nb rfl, nb rfl⟩ rfl ?_
    refine g_pop (pc := 113) dX6_exchange_113 rfl ?_
    refine g_iload (pc := 114) dX6_exchange_114 rfl ?_
    refine g_ireturn (pc := 116) dX6_exchange_116 rfl rfl ?_
    exact ⟨rfl, rfl⟩
theorem x_exchange {v w u : Int32} (hS : Shp M) (hz : mI M 3 1 = nI n) (h : ¬ (inR v 6 ∧ inR w n ∧ inR u n)) : EvR l jX6_exchange 9 160 3 18 [.ref 0, .int v, .int w, .int u] M (.inr xIO) M := by
  refine ev_intro rfl (nb rfl) rfl ?_
  refine g_aload_n (pc := 0) dX6_exchange_0 rfl trivial ?_
  refine g_iload_n (pc := 1) dX6_exchange_1 rfl ?_
  refine g_iload_n (pc := 2) dX6_exchange_2 rfl ?_
  refine g_iload_n (pc := 3) dX6_exchange_3 rfl ?_
  refine g_invV_x (pc := 4) (As := [_, _, _]) dX6_exchange_4 rfl (x_needCell hS hz h) rfl rfl (shK hS rfl) rfl rfl lk_X6_109 rfl (nb rfl) ⟨nb rfl, nb rfl⟩ rfl ?_
  exact ⟨rfl, rfl⟩
/-- one call is taken back; b is the past state -/
def unP (p : Nat) : Nat := if p = 0 then 7 else p - 1
def unM (M : Mem) (p c : Nat) : Mem := dropC (stTake (pI (pI M 0 5 (nI (c - 1))) 0 4 (nI (unP p))) 3 (32 + 14 * unP p)) 6
theorem u_undo (hD : Dk M n p c) (hk : keptOk M (32 + 14 * unP p)) (hc : 1 ≤ c) : EvR l jX6_undo 3 120 0 0 [.ref 0] M (.inl (some (.int (nI (c - 1))))) (unM M p c) := by
  have hp : unP p < 8 := by have := hD.2.2.2.2.1; unfold unP; split <;> omega
  obtain ⟨b1, b2⟩ := past_ok (unP p) hp
  have hb9 := st_of b1
  have hS := hD.1
  have hS1 : Shp (pI (pI M 0 5 (nI (c - 1))) 0 4 (nI (unP p))) := shp_pI (shp_pI hS)
  have hk1 : keptOk (pI (pI M 0 5 (nI (c - 1))) 0 4 (nI (unP p))) (32 + 14 * unP p) := fun s hs => by
    rw [pI_i (by omega), pI_i (by omega)]; exact hk s hs
  have h4 : mI (pI (pI M 0 5 (nI (c - 1))) 0 4 (nI (unP p))) 0 4 = nI (unP p) := pI_self _ _ _ _
  have h5 : mI (pI (pI M 0 5 (nI (c - 1))) 0 4 (nI (unP p))) 0 5 = nI (c - 1) := (pI_k (by decide)).trans (pI_self _ _ _ _)
  have h40 : mI (pI M 0 5 (nI (c - 1))) 0 4 = nI p := (pI_k (by decide)).trans hD.2.2.2.1
  have q1 := s_stTake (l := l) hS1 st3 hb9 (by omega) hk1
  unfold unM
  have hS0 : Shp (pI M 0 5 (nI (c - 1))) := shp_pI hS
  generalize hB : pI (pI M 0 5 (nI (c - 1))) 0 4 (nI (unP p)) = B at *
  have hS2 := stTake_S hS1 3 (32 + 14 * unP p)
  have h52 : mI (stTake B 3 (32 + 14 * unP p)) 0 5 = nI (c - 1) := by rw [stTake_ne (by decide)]; exact h5
  generalize stTake B 3 (32 + 14 * unP p) = T at *
  have q2 := s_dropClosures (l := l) hS2
  have hS3 := dropC_S hS2 6
  have h53 : mI (dropC T 6) 0 5 = nI (c - 1) := by rw [dropC_ne (by decide) 6 (Nat.le_refl _)]; exact h52
  generalize dropC T 6 = U at *
  have hend : Go l jX6_undo 3 120 0 0 (fun r' M9 => r' = .inl (some (.int (nI (c - 1)))) ∧ M9 = U) 41 [(0, .ref 0)] [] 0 0 B := by
    refine g_aload_n (pc := 41) dX6_undo_41 rfl trivial ?_
    refine g_getf (pc := 42) dX6_undo_42 fk_X6_19 (shK hS1 rfl) (fv_obj (shR hS1 rfl)) ?_
    refine g_aload_n (pc := 45) dX6_undo_45 rfl trivial ?_
    refine g_getf (pc := 46) dX6_undo_46 fk_X6_26 (shK hS1 rfl) (fv_arr (shR hS1 rfl)) ?_
    refine g_aload_n (pc := 49) dX6_undo_49 rfl trivial ?_
    refine g_getf (pc := 50) (v := .int _) dX6_undo_50 fk_X6_310 (shK hS1 rfl) (fun _ => congrArg Value.int (h4)) ?_
    refine g_aaload_State (pc := 53) dX6_undo_53 (shK hS1 rfl) rfl hp (by decide) (shR hS1 b2) ?_
    refine g_invV_r (pc := 54) (As := [_]) dX6_undo_54 rfl (q1) rfl rfl (shK hS1 rfl) rfl rfl lk_X6_313 rfl (nb rfl) ⟨nb rfl, nb rfl⟩ rfl ?_
    refine g_aload_n (pc := 57) dX6_undo_57 rfl trivial ?_
    refine g_invV_r (pc := 58) (As := []) dX6_undo_58 rfl (q2) rfl rfl (shK hS2 rfl) rfl rfl lk_X6_316 rfl (nb rfl) ⟨nb rfl, nb rfl⟩ rfl ?_
    refine g_aload_n (pc := 61) dX6_undo_61 rfl trivial ?_
    refine g_getf (pc := 62) (v := .int _) dX6_undo_62 fk_X6_106 (shK hS3 rfl) (fun _ => congrArg Value.int (h53)) ?_
    refine g_ireturn (pc := 65) dX6_undo_65 rfl rfl ?_
    exact ⟨rfl, rfl⟩
  refine ev_intro rfl (nb rfl) rfl ?_
  by_cases h0 : p = 0
  · refine g_aload_n (pc := 0) dX6_undo_0 rfl trivial ?_
    refine g_getf (pc := 1) (v := .int _) dX6_undo_1 fk_X6_106 (shK hS rfl) (fun _ => congrArg Value.int (hD.2.2.2.2.2.1)) ?_
    refine g_if_ne (pc := 4) (tgt := 9) dX6_undo_4 rfl (fun _ => ?_) (fun h4 => absurd (nI_ne0 hc (by have := hD.2.2.2.2.2.2.1; omega)) h4)
    refine g_aload_n (pc := 9) dX6_undo_9 rfl trivial ?_
    refine g_dup (pc := 10) dX6_undo_10 rfl ?_
    refine g_getf (pc := 11) (v := .int _) dX6_undo_11 fk_X6_106 (shK hS rfl) (fun _ => congrArg Value.int (hD.2.2.2.2.2.1)) ?_
    refine g_iconst (pc := 14) (v := 1) dX6_undo_14 rfl ?_
    refine g_isub (pc := 15) dX6_undo_15 ?_
    rw [nI_m1 hc]
    refine g_putI (pc := 16) dX6_undo_16 fp_X6_106 (shK hS rfl) ⟨rfl, rfl⟩ (fun _ _ _ _ => rfl) ?_
    refine g_aload_n (pc := 19) dX6_undo_19 rfl trivial ?_
    refine g_aload_n (pc := 20) dX6_undo_20 rfl trivial ?_
    refine g_getf (pc := 21) (v := .int _) dX6_undo_21 fk_X6_310 (shK hS0 rfl) (fun _ => congrArg Value.int (h40)) ?_
    refine g_if_ne (pc := 24) (tgt := 32) dX6_undo_24 rfl (fun h24 => absurd h24 ((fun h => h (by rw [h0]; rfl)))) (fun _ => ?_)
    refine g_bipush (pc := 27) (v := 7) dX6_undo_27 rfl ?_
    refine g_goto (pc := 29) (tgt := 38) dX6_undo_29 rfl ?_
    refine g_putI (pc := 38) dX6_undo_38 fp_X6_310 (shK hS0 rfl) ⟨rfl, rfl⟩ (fun _ _ _ _ => rfl) ?_
    refine go_cast (show _ = B by rw [← hB]; unfold unP; rw [if_pos h0]; rfl) ?_
    exact hend
  · refine g_aload_n (pc := 0) dX6_undo_0 rfl trivial ?_
    refine g_getf (pc := 1) (v := .int _) dX6_undo_1 fk_X6_106 (shK hS rfl) (fun _ => congrArg Value.int (hD.2.2.2.2.2.1)) ?_
    refine g_if_ne (pc := 4) (tgt := 9) dX6_undo_4 rfl (fun _ => ?_) (fun h4 => absurd (nI_ne0 hc (by have := hD.2.2.2.2.2.2.1; omega)) h4)
    refine g_aload_n (pc := 9) dX6_undo_9 rfl trivial ?_
    refine g_dup (pc := 10) dX6_undo_10 rfl ?_
    refine g_getf (pc := 11) (v := .int _) dX6_undo_11 fk_X6_106 (shK hS rfl) (fun _ => congrArg Value.int (hD.2.2.2.2.2.1)) ?_
    refine g_iconst (pc := 14) (v := 1) dX6_undo_14 rfl ?_
    refine g_isub (pc := 15) dX6_undo_15 ?_
    rw [nI_m1 hc]
    refine g_putI (pc := 16) dX6_undo_16 fp_X6_106 (shK hS rfl) ⟨rfl, rfl⟩ (fun _ _ _ _ => rfl) ?_
    refine g_aload_n (pc := 19) dX6_undo_19 rfl trivial ?_
    refine g_aload_n (pc := 20) dX6_undo_20 rfl trivial ?_
    refine g_getf (pc := 21) (v := .int _) dX6_undo_21 fk_X6_310 (shK hS0 rfl) (fun _ => congrArg Value.int (h40)) ?_
    refine g_if_ne (pc := 24) (tgt := 32) dX6_undo_24 rfl (fun _ => ?_) (fun h24 => absurd (nI_ne0 (Nat.pos_of_ne_zero h0) (by have := hD.2.2.2.2.1; omega)) h24)
    refine g_aload_n (pc := 32) dX6_undo_32 rfl trivial ?_
    refine g_getf (pc := 33) (v := .int _) dX6_undo_33 fk_X6_310 (shK hS0 rfl) (fun _ => congrArg Value.int (h40)) ?_
    refine g_iconst (pc := 36) (v := 1) dX6_undo_36 rfl ?_
    refine g_isub (pc := 37) dX6_undo_37 ?_
    rw [nI_m1 (Nat.pos_of_ne_zero h0)]
    refine g_putI (pc := 38) dX6_undo_38 fp_X6_310 (shK hS0 rfl) ⟨rfl, rfl⟩ (fun _ _ _ _ => rfl) ?_
    refine go_cast (show _ = B by rw [← hB]; unfold unP; rw [if_neg h0]) ?_
    exact hend
theorem v_undo (hS : Shp M) (h : mI M 0 5 = 0) : EvR l jX6_undo 3 120 0 0 [.ref 0] M (.inl (some (.int (-1)))) M := by
  refine ev_intro rfl (nb rfl) rfl ?_
  refine g_aload_n (pc := 0) dX6_undo_0 rfl trivial ?_
  refine g_getf (pc := 1) (v := .int _) dX6_undo_1 fk_X6_106 (shK hS rfl) (fun _ => congrArg Value.int (h)) ?_
  refine g_if_ne (pc := 4) (tgt := 9) dX6_undo_4 rfl (fun h4 => absurd h4 ((fun q => q rfl))) (fun _ => ?_)
  refine g_iconst (pc := 7) (v := (-1)) dX6_undo_7 rfl ?_
  refine g_ireturn (pc := 8) dX6_undo_8 rfl rfl ?_
  exact ⟨rfl, rfl⟩
end
end
-- 212.update
section
section
variable {l : Launch} {M : Mem} {n p c : Nat}
theorem q_kept0 {s : Nat} (hS : Shp M) (hs : s < 6) : EvR l jX6_kept 7 120 2 12 [.ref 0, .int (nI s), .int 0] M (.inl (some (.int (if mI M (5 + 2 * s) 1 = 0 then -1 else mI M (5 + 2 * s) 2)))) M := by
  obtain ⟨m1, m2⟩ := mx5 hs
  refine ev_intro rfl (nb rfl) rfl ?_
  by_cases h0 : mI M (5 + 2 * s) 1 = 0
  · rw [if_pos h0]
    refine g_aload_n (pc := 0) dX6_kept_0 rfl trivial ?_
    refine g_iload_n (pc := 1) dX6_kept_1 rfl ?_
    refine g_invV_r (pc := 2) (As := [_]) dX6_kept_2 rfl (s_needSlot (in6 hs)) rfl rfl (shK hS rfl) rfl rfl lk_X6_141 rfl (nb rfl) ⟨nb rfl, nb rfl⟩ rfl ?_
    refine g_aload_n (pc := 5) dX6_kept_5 rfl trivial ?_
    refine g_iload_n (pc := 6) dX6_kept_6 rfl ?_
    refine g_iconst (pc := 7) (v := 0) dX6_kept_7 rfl ?_
    refine g_iconst (pc := 8) (v := 2) dX6_kept_8 rfl ?_
    refine g_invV_r (pc := 9) (As := [_, _, _]) dX6_kept_9 rfl (s_needRange (by decide) (by decide)) rfl rfl (shK hS rfl) rfl rfl lk_X6_95 rfl (nb rfl) ⟨nb rfl, nb rfl⟩ rfl ?_
    refine g_aload_n (pc := 12) dX6_kept_12 rfl trivial ?_
    refine g_getf (pc := 13) dX6_kept_13 fk_X6_19 (shK hS rfl) (fv_obj (shR hS rfl)) ?_
    refine g_getf (pc := 16) dX6_kept_16 fk_X6_225 (shK hS rfl) (fv_arr (shR hS rfl)) ?_
    refine g_iload_n (pc := 19) dX6_kept_19 rfl ?_
    refine g_aaload_Matrix (pc := 20) dX6_kept_20 (shK hS rfl) rfl hs (by decide) (shR hS m2) ?_
    refine g_astore_n (pc := 21) (lv' := [(0, _), (1, _), (2, _), (3, _)]) dX6_kept_21 trivial (nl rfl) rfl ?_
    refine g_aload_n (pc := 22) dX6_kept_22 rfl trivial ?_
    refine g_getf (pc := 23) (v := .int _) dX6_kept_23 fk_X6_288 (shK hS m1.1) (fun _ => congrArg Value.int (h0)) ?_
    refine g_if_ne (pc := 26) (tgt := 31) dX6_kept_26 rfl (fun h26 => absurd h26 ((fun q => q rfl))) (fun _ => ?_)
    refine g_iconst (pc := 29) (v := (-1)) dX6_kept_29 rfl ?_
    refine g_ireturn (pc := 30) dX6_kept_30 rfl rfl ?_
    exact ⟨rfl, rfl⟩
  · rw [if_neg h0]
    refine g_aload_n (pc := 0) dX6_kept_0 rfl trivial ?_
    refine g_iload_n (pc := 1) dX6_kept_1 rfl ?_
    refine g_invV_r (pc := 2) (As := [_]) dX6_kept_2 rfl (s_needSlot (in6 hs)) rfl rfl (shK hS rfl) rfl rfl lk_X6_141 rfl (nb rfl) ⟨nb rfl, nb rfl⟩ rfl ?_
    refine g_aload_n (pc := 5) dX6_kept_5 rfl trivial ?_
    refine g_iload_n (pc := 6) dX6_kept_6 rfl ?_
    refine g_iconst (pc := 7) (v := 0) dX6_kept_7 rfl ?_
    refine g_iconst (pc := 8) (v := 2) dX6_kept_8 rfl ?_
    refine g_invV_r (pc := 9) (As := [_, _, _]) dX6_kept_9 rfl (s_needRange (by decide) (by decide)) rfl rfl (shK hS rfl) rfl rfl lk_X6_95 rfl (nb rfl) ⟨nb rfl, nb rfl⟩ rfl ?_
    refine g_aload_n (pc := 12) dX6_kept_12 rfl trivial ?_
    refine g_getf (pc := 13) dX6_kept_13 fk_X6_19 (shK hS rfl) (fv_obj (shR hS rfl)) ?_
    refine g_getf (pc := 16) dX6_kept_16 fk_X6_225 (shK hS rfl) (fv_arr (shR hS rfl)) ?_
    refine g_iload_n (pc := 19) dX6_kept_19 rfl ?_
    refine g_aaload_Matrix (pc := 20) dX6_kept_20 (shK hS rfl) rfl hs (by decide) (shR hS m2) ?_
    refine g_astore_n (pc := 21) (lv' := [(0, _), (1, _), (2, _), (3, _)]) dX6_kept_21 trivial (nl rfl) rfl ?_
    refine g_aload_n (pc := 22) dX6_kept_22 rfl trivial ?_
    refine g_getf (pc := 23) (v := .int (mI _ _ _)) dX6_kept_23 fk_X6_288 (shK hS m1.1) (fun _ => rfl) ?_
    refine g_if_ne (pc := 26) (tgt := 31) dX6_kept_26 rfl (fun _ => ?_) (fun h26 => absurd (h0) h26)
    refine g_iload_n (pc := 31) dX6_kept_31 rfl ?_
    refine g_lookup (pc := 32) (off := 28) (tgt := 60) dX6_kept_32 (by decide) (by decide) (by decide) ?_
    refine g_aload_n (pc := 60) dX6_kept_60 rfl trivial ?_
    refine g_getf (pc := 61) (v := .int (mI _ _ _)) dX6_kept_61 fk_X6_295 (shK hS m1.1) (fun _ => rfl) ?_
    refine g_ireturn (pc := 64) dX6_kept_64 rfl rfl ?_
    exact ⟨rfl, rfl⟩
theorem q_kept1 {s : Nat} (hS : Shp M) (hs : s < 6) : EvR l jX6_kept 7 120 2 12 [.ref 0, .int (nI s), .int 1] M (.inl (some (.int (if mI M (5 + 2 * s) 1 = 0 then -1 else mI M (5 + 2 * s) 3)))) M := by
  obtain ⟨m1, m2⟩ := mx5 hs
  refine ev_intro rfl (nb rfl) rfl ?_
  by_cases h0 : mI M (5 + 2 * s) 1 = 0
  · rw [if_pos h0]
    refine g_aload_n (pc := 0) dX6_kept_0 rfl trivial ?_
    refine g_iload_n (pc := 1) dX6_kept_1 rfl ?_
    refine g_invV_r (pc := 2) (As := [_]) dX6_kept_2 rfl (s_needSlot (in6 hs)) rfl rfl (shK hS rfl) rfl rfl lk_X6_141 rfl (nb rfl) ⟨nb rfl, nb rfl⟩ rfl ?_
    refine g_aload_n (pc := 5) dX6_kept_5 rfl trivial ?_
    refine g_iload_n (pc := 6) dX6_kept_6 rfl ?_
    refine g_iconst (pc := 7) (v := 0) dX6_kept_7 rfl ?_
    refine g_iconst (pc := 8) (v := 2) dX6_kept_8 rfl ?_
    refine g_invV_r (pc := 9) (As := [_, _, _]) dX6_kept_9 rfl (s_needRange (by decide) (by decide)) rfl rfl (shK hS rfl) rfl rfl lk_X6_95 rfl (nb rfl) ⟨nb rfl, nb rfl⟩ rfl ?_
    refine g_aload_n (pc := 12) dX6_kept_12 rfl trivial ?_
    refine g_getf (pc := 13) dX6_kept_13 fk_X6_19 (shK hS rfl) (fv_obj (shR hS rfl)) ?_
    refine g_getf (pc := 16) dX6_kept_16 fk_X6_225 (shK hS rfl) (fv_arr (shR hS rfl)) ?_
    refine g_iload_n (pc := 19) dX6_kept_19 rfl ?_
    refine g_aaload_Matrix (pc := 20) dX6_kept_20 (shK hS rfl) rfl hs (by decide) (shR hS m2) ?_
    refine g_astore_n (pc := 21) (lv' := [(0, _), (1, _), (2, _), (3, _)]) dX6_kept_21 trivial (nl rfl) rfl ?_
    refine g_aload_n (pc := 22) dX6_kept_22 rfl trivial ?_
    refine g_getf (pc := 23) (v := .int _) dX6_kept_23 fk_X6_288 (shK hS m1.1) (fun _ => congrArg Value.int (h0)) ?_
    refine g_if_ne (pc := 26) (tgt := 31) dX6_kept_26 rfl (fun h26 => absurd h26 ((fun q => q rfl))) (fun _ => ?_)
    refine g_iconst (pc := 29) (v := (-1)) dX6_kept_29 rfl ?_
    refine g_ireturn (pc := 30) dX6_kept_30 rfl rfl ?_
    exact ⟨rfl, rfl⟩
  · rw [if_neg h0]
    refine g_aload_n (pc := 0) dX6_kept_0 rfl trivial ?_
    refine g_iload_n (pc := 1) dX6_kept_1 rfl ?_
    refine g_invV_r (pc := 2) (As := [_]) dX6_kept_2 rfl (s_needSlot (in6 hs)) rfl rfl (shK hS rfl) rfl rfl lk_X6_141 rfl (nb rfl) ⟨nb rfl, nb rfl⟩ rfl ?_
    refine g_aload_n (pc := 5) dX6_kept_5 rfl trivial ?_
    refine g_iload_n (pc := 6) dX6_kept_6 rfl ?_
    refine g_iconst (pc := 7) (v := 0) dX6_kept_7 rfl ?_
    refine g_iconst (pc := 8) (v := 2) dX6_kept_8 rfl ?_
    refine g_invV_r (pc := 9) (As := [_, _, _]) dX6_kept_9 rfl (s_needRange (by decide) (by decide)) rfl rfl (shK hS rfl) rfl rfl lk_X6_95 rfl (nb rfl) ⟨nb rfl, nb rfl⟩ rfl ?_
    refine g_aload_n (pc := 12) dX6_kept_12 rfl trivial ?_
    refine g_getf (pc := 13) dX6_kept_13 fk_X6_19 (shK hS rfl) (fv_obj (shR hS rfl)) ?_
    refine g_getf (pc := 16) dX6_kept_16 fk_X6_225 (shK hS rfl) (fv_arr (shR hS rfl)) ?_
    refine g_iload_n (pc := 19) dX6_kept_19 rfl ?_
    refine g_aaload_Matrix (pc := 20) dX6_kept_20 (shK hS rfl) rfl hs (by decide) (shR hS m2) ?_
    refine g_astore_n (pc := 21) (lv' := [(0, _), (1, _), (2, _), (3, _)]) dX6_kept_21 trivial (nl rfl) rfl ?_
    refine g_aload_n (pc := 22) dX6_kept_22 rfl trivial ?_
    refine g_getf (pc := 23) (v := .int (mI _ _ _)) dX6_kept_23 fk_X6_288 (shK hS m1.1) (fun _ => rfl) ?_
    refine g_if_ne (pc := 26) (tgt := 31) dX6_kept_26 rfl (fun _ => ?_) (fun h26 => absurd (h0) h26)
    refine g_iload_n (pc := 31) dX6_kept_31 rfl ?_
    refine g_lookup (pc := 32) (off := 33) (tgt := 65) dX6_kept_32 (by decide) (by decide) (by decide) ?_
    refine g_aload_n (pc := 65) dX6_kept_65 rfl trivial ?_
    refine g_getf (pc := 66) (v := .int (mI _ _ _)) dX6_kept_66 fk_X6_298 (shK hS m1.1) (fun _ => rfl) ?_
    refine g_ireturn (pc := 69) dX6_kept_69 rfl rfl ?_
    exact ⟨rfl, rfl⟩
theorem q_kept2 {s : Nat} (hS : Shp M) (hs : s < 6) : EvR l jX6_kept 7 120 2 12 [.ref 0, .int (nI s), .int 2] M (.inl (some (.int (if mI M (5 + 2 * s) 1 = 0 then -1 else mI M (5 + 2 * s) 4)))) M := by
  obtain ⟨m1, m2⟩ := mx5 hs
  refine ev_intro rfl (nb rfl) rfl ?_
  by_cases h0 : mI M (5 + 2 * s) 1 = 0
  · rw [if_pos h0]
    refine g_aload_n (pc := 0) dX6_kept_0 rfl trivial ?_
    refine g_iload_n (pc := 1) dX6_kept_1 rfl ?_
    refine g_invV_r (pc := 2) (As := [_]) dX6_kept_2 rfl (s_needSlot (in6 hs)) rfl rfl (shK hS rfl) rfl rfl lk_X6_141 rfl (nb rfl) ⟨nb rfl, nb rfl⟩ rfl ?_
    refine g_aload_n (pc := 5) dX6_kept_5 rfl trivial ?_
    refine g_iload_n (pc := 6) dX6_kept_6 rfl ?_
    refine g_iconst (pc := 7) (v := 0) dX6_kept_7 rfl ?_
    refine g_iconst (pc := 8) (v := 2) dX6_kept_8 rfl ?_
    refine g_invV_r (pc := 9) (As := [_, _, _]) dX6_kept_9 rfl (s_needRange (by decide) (by decide)) rfl rfl (shK hS rfl) rfl rfl lk_X6_95 rfl (nb rfl) ⟨nb rfl, nb rfl⟩ rfl ?_
    refine g_aload_n (pc := 12) dX6_kept_12 rfl trivial ?_
    refine g_getf (pc := 13) dX6_kept_13 fk_X6_19 (shK hS rfl) (fv_obj (shR hS rfl)) ?_
    refine g_getf (pc := 16) dX6_kept_16 fk_X6_225 (shK hS rfl) (fv_arr (shR hS rfl)) ?_
    refine g_iload_n (pc := 19) dX6_kept_19 rfl ?_
    refine g_aaload_Matrix (pc := 20) dX6_kept_20 (shK hS rfl) rfl hs (by decide) (shR hS m2) ?_
    refine g_astore_n (pc := 21) (lv' := [(0, _), (1, _), (2, _), (3, _)]) dX6_kept_21 trivial (nl rfl) rfl ?_
    refine g_aload_n (pc := 22) dX6_kept_22 rfl trivial ?_
    refine g_getf (pc := 23) (v := .int _) dX6_kept_23 fk_X6_288 (shK hS m1.1) (fun _ => congrArg Value.int (h0)) ?_
    refine g_if_ne (pc := 26) (tgt := 31) dX6_kept_26 rfl (fun h26 => absurd h26 ((fun q => q rfl))) (fun _ => ?_)
    refine g_iconst (pc := 29) (v := (-1)) dX6_kept_29 rfl ?_
    refine g_ireturn (pc := 30) dX6_kept_30 rfl rfl ?_
    exact ⟨rfl, rfl⟩
  · rw [if_neg h0]
    refine g_aload_n (pc := 0) dX6_kept_0 rfl trivial ?_
    refine g_iload_n (pc := 1) dX6_kept_1 rfl ?_
    refine g_invV_r (pc := 2) (As := [_]) dX6_kept_2 rfl (s_needSlot (in6 hs)) rfl rfl (shK hS rfl) rfl rfl lk_X6_141 rfl (nb rfl) ⟨nb rfl, nb rfl⟩ rfl ?_
    refine g_aload_n (pc := 5) dX6_kept_5 rfl trivial ?_
    refine g_iload_n (pc := 6) dX6_kept_6 rfl ?_
    refine g_iconst (pc := 7) (v := 0) dX6_kept_7 rfl ?_
    refine g_iconst (pc := 8) (v := 2) dX6_kept_8 rfl ?_
    refine g_invV_r (pc := 9) (As := [_, _, _]) dX6_kept_9 rfl (s_needRange (by decide) (by decide)) rfl rfl (shK hS rfl) rfl rfl lk_X6_95 rfl (nb rfl) ⟨nb rfl, nb rfl⟩ rfl ?_
    refine g_aload_n (pc := 12) dX6_kept_12 rfl trivial ?_
    refine g_getf (pc := 13) dX6_kept_13 fk_X6_19 (shK hS rfl) (fv_obj (shR hS rfl)) ?_
    refine g_getf (pc := 16) dX6_kept_16 fk_X6_225 (shK hS rfl) (fv_arr (shR hS rfl)) ?_
    refine g_iload_n (pc := 19) dX6_kept_19 rfl ?_
    refine g_aaload_Matrix (pc := 20) dX6_kept_20 (shK hS rfl) rfl hs (by decide) (shR hS m2) ?_
    refine g_astore_n (pc := 21) (lv' := [(0, _), (1, _), (2, _), (3, _)]) dX6_kept_21 trivial (nl rfl) rfl ?_
    refine g_aload_n (pc := 22) dX6_kept_22 rfl trivial ?_
    refine g_getf (pc := 23) (v := .int (mI _ _ _)) dX6_kept_23 fk_X6_288 (shK hS m1.1) (fun _ => rfl) ?_
    refine g_if_ne (pc := 26) (tgt := 31) dX6_kept_26 rfl (fun _ => ?_) (fun h26 => absurd (h0) h26)
    refine g_iload_n (pc := 31) dX6_kept_31 rfl ?_
    refine g_lookup (pc := 32) (off := 38) (tgt := 70) dX6_kept_32 (by decide) (by decide) (by decide) ?_
    refine g_aload_n (pc := 70) dX6_kept_70 rfl trivial ?_
    refine g_getf (pc := 71) (v := .int (mI _ _ _)) dX6_kept_71 fk_X6_301 (shK hS m1.1) (fun _ => rfl) ?_
    refine g_ireturn (pc := 74) dX6_kept_74 rfl rfl ?_
    exact ⟨rfl, rfl⟩
theorem x_kept {v w : Int32} (hS : Shp M) (h : ¬ inR v 6) : EvR l jX6_kept 7 120 2 12 [.ref 0, .int v, .int w] M (.inr xIO) M := by
  refine ev_intro rfl (nb rfl) rfl ?_
  refine g_aload_n (pc := 0) dX6_kept_0 rfl trivial ?_
  refine g_iload_n (pc := 1) dX6_kept_1 rfl ?_
  refine g_invV_x (pc := 2) (As := [_]) dX6_kept_2 rfl (x_needSlot hS h) rfl rfl (shK hS rfl) rfl rfl lk_X6_141 rfl (nb rfl) ⟨nb rfl, nb rfl⟩ rfl ?_
  exact ⟨rfl, rfl⟩
theorem y_kept {v w : Int32} (hS : Shp M) (h : inR v 6) (h' : ¬ (¬ w < 0 ∧ w ≤ 2)) : EvR l jX6_kept 7 120 2 12 [.ref 0, .int v, .int w] M (.inr xIA) M := by
  refine ev_intro rfl (nb rfl) rfl ?_
  refine g_aload_n (pc := 0) dX6_kept_0 rfl trivial ?_
  refine g_iload_n (pc := 1) dX6_kept_1 rfl ?_
  refine g_invV_r (pc := 2) (As := [_]) dX6_kept_2 rfl (s_needSlot h) rfl rfl (shK hS rfl) rfl rfl lk_X6_141 rfl (nb rfl) ⟨nb rfl, nb rfl⟩ rfl ?_
  refine g_aload_n (pc := 5) dX6_kept_5 rfl trivial ?_
  refine g_iload_n (pc := 6) dX6_kept_6 rfl ?_
  refine g_iconst (pc := 7) (v := 0) dX6_kept_7 rfl ?_
  refine g_iconst (pc := 8) (v := 2) dX6_kept_8 rfl ?_
  refine g_invV_x (pc := 9) (As := [_, _, _]) dX6_kept_9 rfl (x_needRange hS h') rfl rfl (shK hS rfl) rfl rfl lk_X6_95 rfl (nb rfl) ⟨nb rfl, nb rfl⟩ rfl ?_
  exact ⟨rfl, rfl⟩
theorem x_keep {v f : Int32} (hS : Shp M) (h : ¬ inR v 6) : EvR l jX6_keep 7 140 1 6 [.ref 0, .int v, .int f] M (.inr xIO) M := by
  refine ev_intro rfl (nb rfl) rfl ?_
  refine g_aload_n (pc := 0) dX6_keep_0 rfl trivial ?_
  refine g_iload_n (pc := 1) dX6_keep_1 rfl ?_
  refine g_invV_x (pc := 2) (As := [_]) dX6_keep_2 rfl (x_needSlot hS h) rfl rfl (shK hS rfl) rfl rfl lk_X6_141 rfl (nb rfl) ⟨nb rfl, nb rfl⟩ rfl ?_
  exact ⟨rfl, rfl⟩
theorem x_combine {v w u h : Int32} (hS : Shp M) (hh : ¬ (inR v 6 ∧ inR w 6 ∧ inR u 6)) : EvR l jX6_combine 7 140 4 24 [.ref 0, .int v, .int w, .int u, .int h] M (.inr xIO) M := by
  refine ev_intro rfl (nb rfl) rfl ?_
  by_cases h1 : inR v 6
  · by_cases h2 : inR w 6
    · refine g_aload_n (pc := 0) dX6_combine_0 rfl trivial ?_
      refine g_iload_n (pc := 1) dX6_combine_1 rfl ?_
      refine g_invV_r (pc := 2) (As := [_]) dX6_combine_2 rfl (s_needSlot h1) rfl rfl (shK hS rfl) rfl rfl lk_X6_141 rfl (nb rfl) ⟨nb rfl, nb rfl⟩ rfl ?_
      refine g_aload_n (pc := 5) dX6_combine_5 rfl trivial ?_
      refine g_iload_n (pc := 6) dX6_combine_6 rfl ?_
      refine g_invV_r (pc := 7) (As := [_]) dX6_combine_7 rfl (s_needSlot h2) rfl rfl (shK hS rfl) rfl rfl lk_X6_141 rfl (nb rfl) ⟨nb rfl, nb rfl⟩ rfl ?_
      refine g_aload_n (pc := 10) dX6_combine_10 rfl trivial ?_
      refine g_iload_n (pc := 11) dX6_combine_11 rfl ?_
      refine g_invV_x (pc := 12) (As := [_]) dX6_combine_12 rfl (x_needSlot hS (fun h3 => hh ⟨h1, h2, h3⟩)) rfl rfl (shK hS rfl) rfl rfl lk_X6_141 rfl (nb rfl) ⟨nb rfl, nb rfl⟩ rfl ?_
      exact ⟨rfl, rfl⟩
    · refine g_aload_n (pc := 0) dX6_combine_0 rfl trivial ?_
      refine g_iload_n (pc := 1) dX6_combine_1 rfl ?_
      refine g_invV_r (pc := 2) (As := [_]) dX6_combine_2 rfl (s_needSlot h1) rfl rfl (shK hS rfl) rfl rfl lk_X6_141 rfl (nb rfl) ⟨nb rfl, nb rfl⟩ rfl ?_
      refine g_aload_n (pc := 5) dX6_combine_5 rfl trivial ?_
      refine g_iload_n (pc := 6) dX6_combine_6 rfl ?_
      refine g_invV_x (pc := 7) (As := [_]) dX6_combine_7 rfl (x_needSlot hS h2) rfl rfl (shK hS rfl) rfl rfl lk_X6_141 rfl (nb rfl) ⟨nb rfl, nb rfl⟩ rfl ?_
      exact ⟨rfl, rfl⟩
  · refine g_aload_n (pc := 0) dX6_combine_0 rfl trivial ?_
    refine g_iload_n (pc := 1) dX6_combine_1 rfl ?_
    refine g_invV_x (pc := 2) (As := [_]) dX6_combine_2 rfl (x_needSlot hS h1) rfl rfl (shK hS rfl) rfl rfl lk_X6_141 rfl (nb rfl) ⟨nb rfl, nb rfl⟩ rfl ?_
    exact ⟨rfl, rfl⟩
theorem y_combine {v w u h : Int32} (hS : Shp M) (h1 : inR v 6) (h2 : inR w 6) (h3 : inR u 6) (h4 : ¬ (¬ h < 0 ∧ h ≤ 3)) : EvR l jX6_combine 7 140 4 24 [.ref 0, .int v, .int w, .int u, .int h] M (.inr xIA) M := by
  refine ev_intro rfl (nb rfl) rfl ?_
  refine g_aload_n (pc := 0) dX6_combine_0 rfl trivial ?_
  refine g_iload_n (pc := 1) dX6_combine_1 rfl ?_
  refine g_invV_r (pc := 2) (As := [_]) dX6_combine_2 rfl (s_needSlot h1) rfl rfl (shK hS rfl) rfl rfl lk_X6_141 rfl (nb rfl) ⟨nb rfl, nb rfl⟩ rfl ?_
  refine g_aload_n (pc := 5) dX6_combine_5 rfl trivial ?_
  refine g_iload_n (pc := 6) dX6_combine_6 rfl ?_
  refine g_invV_r (pc := 7) (As := [_]) dX6_combine_7 rfl (s_needSlot h2) rfl rfl (shK hS rfl) rfl rfl lk_X6_141 rfl (nb rfl) ⟨nb rfl, nb rfl⟩ rfl ?_
  refine g_aload_n (pc := 10) dX6_combine_10 rfl trivial ?_
  refine g_iload_n (pc := 11) dX6_combine_11 rfl ?_
  refine g_invV_r (pc := 12) (As := [_]) dX6_combine_12 rfl (s_needSlot h3) rfl rfl (shK hS rfl) rfl rfl lk_X6_141 rfl (nb rfl) ⟨nb rfl, nb rfl⟩ rfl ?_
  refine g_aload_n (pc := 15) dX6_combine_15 rfl trivial ?_
  refine g_iload (pc := 16) dX6_combine_16 rfl ?_
  refine g_iconst (pc := 18) (v := 0) dX6_combine_18 rfl ?_
  refine g_iconst (pc := 19) (v := 3) dX6_combine_19 rfl ?_
  refine g_invV_x (pc := 20) (As := [_, _, _]) dX6_combine_20 rfl (x_needRange hS h4) rfl rfl (shK hS rfl) rfl rfl lk_X6_95 rfl (nb rfl) ⟨nb rfl, nb rfl⟩ rfl ?_
  exact ⟨rfl, rfl⟩
theorem x_product {v w u f : Int32} (hS : Shp M) (hh : ¬ (inR v 6 ∧ inR w 6 ∧ inR u 6)) : EvR l jX6_product 7 140 3 18 [.ref 0, .int v, .int w, .int u, .int f] M (.inr xIO) M := by
  refine ev_intro rfl (nb rfl) rfl ?_
  by_cases h1 : inR v 6
  · by_cases h2 : inR w 6
    · refine g_aload_n (pc := 0) dX6_product_0 rfl trivial ?_
      refine g_iload_n (pc := 1) dX6_product_1 rfl ?_
      refine g_invV_r (pc := 2) (As := [_]) dX6_product_2 rfl (s_needSlot h1) rfl rfl (shK hS rfl) rfl rfl lk_X6_141 rfl (nb rfl) ⟨nb rfl, nb rfl⟩ rfl ?_
      refine g_aload_n (pc := 5) dX6_product_5 rfl trivial ?_
      refine g_iload_n (pc := 6) dX6_product_6 rfl ?_
      refine g_invV_r (pc := 7) (As := [_]) dX6_product_7 rfl (s_needSlot h2) rfl rfl (shK hS rfl) rfl rfl lk_X6_141 rfl (nb rfl) ⟨nb rfl, nb rfl⟩ rfl ?_
      refine g_aload_n (pc := 10) dX6_product_10 rfl trivial ?_
      refine g_iload_n (pc := 11) dX6_product_11 rfl ?_
      refine g_invV_x (pc := 12) (As := [_]) dX6_product_12 rfl (x_needSlot hS (fun h3 => hh ⟨h1, h2, h3⟩)) rfl rfl (shK hS rfl) rfl rfl lk_X6_141 rfl (nb rfl) ⟨nb rfl, nb rfl⟩ rfl ?_
      exact ⟨rfl, rfl⟩
    · refine g_aload_n (pc := 0) dX6_product_0 rfl trivial ?_
      refine g_iload_n (pc := 1) dX6_product_1 rfl ?_
      refine g_invV_r (pc := 2) (As := [_]) dX6_product_2 rfl (s_needSlot h1) rfl rfl (shK hS rfl) rfl rfl lk_X6_141 rfl (nb rfl) ⟨nb rfl, nb rfl⟩ rfl ?_
      refine g_aload_n (pc := 5) dX6_product_5 rfl trivial ?_
      refine g_iload_n (pc := 6) dX6_product_6 rfl ?_
      refine g_invV_x (pc := 7) (As := [_]) dX6_product_7 rfl (x_needSlot hS h2) rfl rfl (shK hS rfl) rfl rfl lk_X6_141 rfl (nb rfl) ⟨nb rfl, nb rfl⟩ rfl ?_
      exact ⟨rfl, rfl⟩
  · refine g_aload_n (pc := 0) dX6_product_0 rfl trivial ?_
    refine g_iload_n (pc := 1) dX6_product_1 rfl ?_
    refine g_invV_x (pc := 2) (As := [_]) dX6_product_2 rfl (x_needSlot hS h1) rfl rfl (shK hS rfl) rfl rfl lk_X6_141 rfl (nb rfl) ⟨nb rfl, nb rfl⟩ rfl ?_
    exact ⟨rfl, rfl⟩
theorem x_power {v w x f : Int32} (hS : Shp M) (hh : ¬ (inR v 6 ∧ inR w 6)) : EvR l jX6_power 7 140 4 24 [.ref 0, .int v, .int x, .int w, .int f] M (.inr xIO) M := by
  refine ev_intro rfl (nb rfl) rfl ?_
  by_cases h1 : inR v 6
  · refine g_aload_n (pc := 0) dX6_power_0 rfl trivial ?_
    refine g_iload_n (pc := 1) dX6_power_1 rfl ?_
    refine g_invV_r (pc := 2) (As := [_]) dX6_power_2 rfl (s_needSlot h1) rfl rfl (shK hS rfl) rfl rfl lk_X6_141 rfl (nb rfl) ⟨nb rfl, nb rfl⟩ rfl ?_
    refine g_aload_n (pc := 5) dX6_power_5 rfl trivial ?_
    refine g_iload_n (pc := 6) dX6_power_6 rfl ?_
    refine g_invV_x (pc := 7) (As := [_]) dX6_power_7 rfl (x_needSlot hS (fun h2 => hh ⟨h1, h2⟩)) rfl rfl (shK hS rfl) rfl rfl lk_X6_141 rfl (nb rfl) ⟨nb rfl, nb rfl⟩ rfl ?_
    exact ⟨rfl, rfl⟩
  · refine g_aload_n (pc := 0) dX6_power_0 rfl trivial ?_
    refine g_iload_n (pc := 1) dX6_power_1 rfl ?_
    refine g_invV_x (pc := 2) (As := [_]) dX6_power_2 rfl (x_needSlot hS h1) rfl rfl (shK hS rfl) rfl rfl lk_X6_141 rfl (nb rfl) ⟨nb rfl, nb rfl⟩ rfl ?_
    exact ⟨rfl, rfl⟩
theorem y_power {v w x f : Int32} (hS : Shp M) (h1 : inR v 6) (h2 : inR w 6) (h3 : ¬ (¬ x < 0 ∧ x ≤ 1000000)) : EvR l jX6_power 7 140 4 24 [.ref 0, .int v, .int x, .int w, .int f] M (.inr xIA) M := by
  refine ev_intro rfl (nb rfl) rfl ?_
  refine g_aload_n (pc := 0) dX6_power_0 rfl trivial ?_
  refine g_iload_n (pc := 1) dX6_power_1 rfl ?_
  refine g_invV_r (pc := 2) (As := [_]) dX6_power_2 rfl (s_needSlot h1) rfl rfl (shK hS rfl) rfl rfl lk_X6_141 rfl (nb rfl) ⟨nb rfl, nb rfl⟩ rfl ?_
  refine g_aload_n (pc := 5) dX6_power_5 rfl trivial ?_
  refine g_iload_n (pc := 6) dX6_power_6 rfl ?_
  refine g_invV_r (pc := 7) (As := [_]) dX6_power_7 rfl (s_needSlot h2) rfl rfl (shK hS rfl) rfl rfl lk_X6_141 rfl (nb rfl) ⟨nb rfl, nb rfl⟩ rfl ?_
  refine g_aload_n (pc := 10) dX6_power_10 rfl trivial ?_
  refine g_iload_n (pc := 11) dX6_power_11 rfl ?_
  refine g_iconst (pc := 12) (v := 0) dX6_power_12 rfl ?_
  refine g_ldcw (pc := 13) dX6_power_13 wd_1110 ?_
  refine g_invV_x (pc := 16) (As := [_, _, _]) dX6_power_16 rfl (x_needRange hS h3) rfl rfl (shK hS rfl) rfl rfl lk_X6_95 rfl (nb rfl) ⟨nb rfl, nb rfl⟩ rfl ?_
  exact ⟨rfl, rfl⟩
end
end
-- 213.step
section
section
variable {l : Launch} {M : Mem} {n : Nat}
theorem s_fillLevels0 {r b : Nat} (hS : Shp M) : EvR l jX6_fillLevels 0 0 0 0 [.ref 0, .ref r, .int (nI b), .int (nI 0)] M (.inl none) (sI M 196 (wr (mI M 196) (rwlF (mI M r) b n) 1)) := by
  have e0 : sI M 196 (fun_set (mI M 196) 0 (bitI b)) = sI M 196 (wr (mI M 196) (rwlF (mI M r) b n) 1) := by rw [← wr_s, wr_0]; rfl
  generalize sI M 196 (wr (mI M 196) (rwlF (mI M r) b n) 1) = M9 at *
  refine ev_intro rfl (nb rfl) rfl ?_
  refine g_aload_n (pc := 0) dX6_fillLevels_0 rfl trivial ?_
  refine g_getf (pc := 1) dX6_fillLevels_1 fk_X6_62 (shK hS rfl) (fv_arr (shR hS rfl)) ?_
  refine g_iconst (pc := 4) (v := 0) dX6_fillLevels_4 rfl ?_
  refine g_iconst (pc := 5) (v := 1) dX6_fillLevels_5 rfl ?_
  refine g_iload_n (pc := 6) dX6_fillLevels_6 rfl ?_
  refine g_ishl (pc := 7) dX6_fillLevels_7 ?_
  refine g_iastore (pc := 8) dX6_fillLevels_8 (shK hS rfl) rfl (by decide) (nl rfl) ?_
  refine go_cast e0 ?_
  refine g_iconst (pc := 9) (v := 1) dX6_fillLevels_9 rfl ?_
  refine g_istore (pc := 10) (lv' := [(0, _), (1, _), (2, _), (3, _), (4, _)]) dX6_fillLevels_10 (nl rfl) rfl ?_
  refine g_iload (pc := 12) dX6_fillLevels_12 rfl ?_
  refine g_iload_n (pc := 14) dX6_fillLevels_14 rfl ?_
  refine g_icmp_ge (pc := 15) (tgt := 83) dX6_fillLevels_15 rfl (fun _ => ?_) (fun h15 => absurd ((by decide)) h15)
  refine g_return (pc := 83) dX6_fillLevels_83 rfl ?_
  exact ⟨rfl, rfl⟩
theorem feF_ok (f : Nat → Int32) (b n : Nat) : ∀ d e x, feF f b n d e x = -1 ∨ ∃ k, k < e + d ∧ feF f b n d e x = nI k
  | 0, _, _ => Or.inl rfl
  | d + 1, e, x => by
    rw [feF]
    split
    · exact Or.inr ⟨e, by omega, rfl⟩
    · rcases feF_ok f b n d (e + 1) (jrF f x n) with h | ⟨k, h1, h2⟩
      · exact Or.inl h
      · exact Or.inr ⟨k, by omega, h2⟩
theorem dsV_ok (f : Nat → Int32) (a b : Nat) : dsV f a b n = -1 ∨ ∃ k, k ≤ n ∧ dsV f a b n = nI k := by
  unfold dsV
  split
  · exact Or.inr ⟨0, Nat.zero_le _, rfl⟩
  · rcases feF_ok f b n n 1 (f a) with h | ⟨k, h1, h2⟩
    · exact Or.inl h
    · exact Or.inr ⟨k, by omega, h2⟩
theorem sp_lt : ∀ {d : Nat}, d ≤ 32 → nI d - 1 < nI d := by
  intro d h
  have h9 : ∀ d, d < 33 → nI d - 1 < nI d := by decide +kernel
  exact h9 d (by omega)
/-- the node after m steps of k -/
def ndF (f lv : Nat → Int32) (k a : Nat) : Nat → Nat
  | 0 => a
  | m + 1 => lowN (f (ndF f lv k a m) &&& lv (k - m - 1))
theorem ndF_lt {f lv : Nat → Int32} {k a : Nat} (h : a < 32) : ∀ m, ndF f lv k a m < 32
  | 0 => h
  | _ + 1 => lowN_lt _
def spM (M : Mem) (s b n k : Nat) : Mem := sI M 196 (wr (mI M 196) (rwlF (mI M (6 + 2 * s)) b n) (if k = 0 then 1 else k))
theorem q_stepAt {s a b k j : Nat} (hS : Shp M) (hz : mI M 3 1 = nI n) (hn : n ≤ 32) (hs : s < 6) (ha : a < n) (hb9 : b < n) (hd : dsV (mI M (6 + 2 * s)) a b n = nI k) (hk : k ≤ n) (hj : j ≤ k) : EvR l jX6_stepAt 10 190 3 18 [.ref 0, .int (nI s), .int (nI a), .int (nI b), .int (nI j)] M (.inl (some (.int (nI (ndF (mI M (6 + 2 * s)) (rwlF (mI M (6 + 2 * s)) b n) k a j))))) (spM M s b n k) := by
  have q1 := q_distance (l := l) hS hz hn hs ha hb9
  rw [hd] at q1
  have q2 : EvR l jX6_fillLevels 0 0 0 0 [.ref 0, .ref (6 + 2 * s), .int (nI b), .int (nI k)] M (.inl none) (spM M s b n k) := by
    unfold spM
    by_cases h0 : k = 0
    · rw [if_pos h0, h0]; exact s_fillLevels0 hS
    · rw [if_neg h0]; exact s_fillLevels hS (shK hS (rows_lay hs)) (by omega) hz hn (by omega) (by omega)
  have hS2 : Shp (spM M s b n k) := by unfold spM; exact shp_sI hS
  have er : mI (spM M s b n k) (6 + 2 * s) = mI M (6 + 2 * s) := by unfold spM; exact sI_ne (by omega)
  have el : ∀ i, i < k → mI (spM M s b n k) 196 i = rwlF (mI M (6 + 2 * s)) b n i := fun i hi => by unfold spM; rw [sI_self, wr_lt (by split <;> omega)]
  generalize spM M s b n k = M2 at *
  generalize rwlF (mI M (6 + 2 * s)) b n = lv9 at *
  generalize mI M (6 + 2 * s) = f at *
  refine ev_intro rfl (nb rfl) rfl ?_
  refine g_aload_n (pc := 0) dX6_stepAt_0 rfl trivial ?_
  refine g_iload_n (pc := 1) dX6_stepAt_1 rfl ?_
  refine g_iload_n (pc := 2) dX6_stepAt_2 rfl ?_
  refine g_iload_n (pc := 3) dX6_stepAt_3 rfl ?_
  refine g_invV_r (pc := 4) (As := [_, _, _]) dX6_stepAt_4 rfl (q1) rfl rfl (shK hS rfl) rfl rfl lk_X6_178 rfl (nb rfl) ⟨nb rfl, nb rfl⟩ rfl ?_
  refine g_istore (pc := 7) (lv' := [(0, _), (1, _), (2, _), (3, _), (4, _), (5, _)]) dX6_stepAt_7 (nl rfl) rfl ?_
  refine g_iload (pc := 9) dX6_stepAt_9 rfl ?_
  refine g_if_lt (pc := 11) (tgt := 21) dX6_stepAt_11 rfl (fun h11 => absurd h11 (nI_pos (by omega))) (fun _ => ?_)
  refine g_iload (pc := 14) dX6_stepAt_14 rfl ?_
  refine g_iload (pc := 16) dX6_stepAt_16 rfl ?_
  refine g_icmp_le (pc := 18) (tgt := 23) dX6_stepAt_18 rfl (fun _ => ?_) (fun h18 => absurd (nI_le hj (by omega)) h18)
  refine g_aload_n (pc := 23) dX6_stepAt_23 rfl trivial ?_
  refine g_iload_n (pc := 24) dX6_stepAt_24 rfl ?_
  refine g_invV_r (pc := 25) (As := [_]) dX6_stepAt_25 rfl (s_rowsOf hS hs) rfl rfl (shK hS rfl) rfl rfl lk_X6_112 rfl (nb rfl) ⟨nb rfl, nb rfl⟩ rfl ?_
  refine g_astore (pc := 28) (lv' := [(0, _), (1, _), (2, _), (3, _), (4, _), (5, _), (6, _)]) dX6_stepAt_28 trivial (nl rfl) rfl ?_
  refine g_aload_n (pc := 30) dX6_stepAt_30 rfl trivial ?_
  refine g_aload (pc := 31) dX6_stepAt_31 rfl trivial ?_
  refine g_iload_n (pc := 33) dX6_stepAt_33 rfl ?_
  refine g_iload (pc := 34) dX6_stepAt_34 rfl ?_
  refine g_invV_r (pc := 36) (As := [_, _, _]) dX6_stepAt_36 rfl (q2) rfl rfl (shK hS rfl) rfl rfl lk_X6_182 rfl (nb rfl) ⟨nb rfl, nb rfl⟩ rfl ?_
  refine g_iload_n (pc := 39) dX6_stepAt_39 rfl ?_
  refine g_istore (pc := 40) (lv' := [(0, _), (1, _), (2, _), (3, _), (4, _), (5, _), (6, _), (7, _)]) dX6_stepAt_40 (nl rfl) rfl ?_
  refine g_iload (pc := 42) dX6_stepAt_42 rfl ?_
  refine g_iconst (pc := 44) (v := 1) dX6_stepAt_44 rfl ?_
  refine g_isub (pc := 45) dX6_stepAt_45 ?_
  refine g_istore (pc := 46) (lv' := [(0, _), (1, _), (2, _), (3, _), (4, _), (5, _), (6, _), (7, _), (8, _)]) dX6_stepAt_46 (nl rfl) rfl ?_
  refine go_loop (pc := 48) j (fun m => [(0, .ref 0), (1, .int (nI s)), (2, .int (nI a)), (3, .int (nI b)), (4, .int (nI j)), (5, .int (nI k)), (6, .ref (6 + 2 * s)), (7, .int (nI (ndF f lv9 k a m))), (8, .int (nI (k - m) - 1))]) (fun m => M2) ⟨rfl, rfl, rfl, rfl, rfl, rfl, rfl, rfl, rfl, trivial⟩ rfl ?_ ?_
  · intro m hm ih
    have hlt := ndF_lt (f := f) (lv := lv9) (k := k) (show a < 32 by omega) m
    generalize ndF f lv9 k a j = X at ih ⊢
    rw [ndF] at ih
    generalize ndF f lv9 k a m = nd at *
    have e1 : nI (k - m) - 1 = nI (k - m - 1) := nI_m1 (by omega)
    have e2 := el (k - m - 1) (by omega)
    have e3 : nI (k - m - 1) + Int32.ofInt (-1) = nI (k - (m + 1)) - 1 := by
      rw [show k - (m + 1) = k - m - 1 by omega, Int32.sub_eq_add_neg]; rfl
    rw [e1]
    rw [← e2, ← er] at ih
    refine g_iload (pc := 48) dX6_stepAt_48 rfl ?_
    refine g_iload (pc := 50) dX6_stepAt_50 rfl ?_
    refine g_iload (pc := 52) dX6_stepAt_52 rfl ?_
    refine g_isub (pc := 54) dX6_stepAt_54 ?_
    rw [nI_sub' hj]
    refine g_icmp_lt (pc := 55) (tgt := 82) dX6_stepAt_55 rfl (fun h55 => absurd h55 (nI_nlt (show k - j ≤ k - m - 1 by omega) (by omega))) (fun _ => ?_)
    refine g_aload (pc := 58) dX6_stepAt_58 rfl trivial ?_
    refine g_iload (pc := 60) dX6_stepAt_60 rfl ?_
    refine g_iaload (pc := 62) dX6_stepAt_62 (shK hS2 (rows_lay hs)) rfl hlt (nl rfl) ?_
    refine g_aload_n (pc := 63) dX6_stepAt_63 rfl trivial ?_
    refine g_getf (pc := 64) dX6_stepAt_64 fk_X6_62 (shK hS2 rfl) (fv_arr (shR hS2 rfl)) ?_
    refine g_iload (pc := 67) dX6_stepAt_67 rfl ?_
    refine g_iaload (pc := 69) dX6_stepAt_69 (shK hS2 rfl) rfl (show k - m - 1 < 32 by omega) (nl rfl) ?_
    refine g_iand (pc := 70) dX6_stepAt_70 ?_
    refine g_invS_r (pc := 71) (As := [_]) dX6_stepAt_71 rfl (s_lowestOne) rfl rfl lk_X6_186 rfl (nb rfl) ⟨nb rfl, nb rfl⟩ rfl ?_
    refine g_istore (pc := 74) (lv' := [(0, _), (1, _), (2, _), (3, _), (4, _), (5, _), (6, _), (7, _), (8, _)]) dX6_stepAt_74 (nl rfl) rfl ?_
    refine g_iinc (pc := 76) (lv' := [(0, _), (1, _), (2, _), (3, _), (4, _), (5, _), (6, _), (7, _), (8, _)]) dX6_stepAt_76 rfl e3 (nl rfl) rfl ?_
    refine g_goto (pc := 79) (tgt := 48) dX6_stepAt_79 rfl ?_
    exact ih
  · refine g_iload (pc := 48) dX6_stepAt_48 rfl ?_
    refine g_iload (pc := 50) dX6_stepAt_50 rfl ?_
    refine g_iload (pc := 52) dX6_stepAt_52 rfl ?_
    refine g_isub (pc := 54) dX6_stepAt_54 ?_
    rw [nI_sub' hj]
    refine g_icmp_lt (pc := 55) (tgt := 82) dX6_stepAt_55 rfl (fun _ => ?_) (fun h55 => absurd (sp_lt (show k - j ≤ 32 by omega)) h55)
    refine g_iload (pc := 82) dX6_stepAt_82 rfl ?_
    refine g_ireturn (pc := 84) dX6_stepAt_84 rfl rfl ?_
    exact ⟨rfl, rfl⟩
theorem v_stepAt {s a b : Nat} {x : Int32} (hS : Shp M) (hz : mI M 3 1 = nI n) (hn : n ≤ 32) (hs : s < 6) (ha : a < n) (hb9 : b < n) (h : ¬ (¬ x < 0 ∧ x ≤ dsV (mI M (6 + 2 * s)) a b n)) : EvR l jX6_stepAt 10 190 3 18 [.ref 0, .int (nI s), .int (nI a), .int (nI b), .int x] M (.inl (some (.int (-1)))) M := by
  have q1 := q_distance (l := l) hS hz hn hs ha hb9
  generalize dsV (mI M (6 + 2 * s)) a b n = d at *
  refine ev_intro rfl (nb rfl) rfl ?_
  refine g_aload_n (pc := 0) dX6_stepAt_0 rfl trivial ?_
  refine g_iload_n (pc := 1) dX6_stepAt_1 rfl ?_
  refine g_iload_n (pc := 2) dX6_stepAt_2 rfl ?_
  refine g_iload_n (pc := 3) dX6_stepAt_3 rfl ?_
  refine g_invV_r (pc := 4) (As := [_, _, _]) dX6_stepAt_4 rfl (q1) rfl rfl (shK hS rfl) rfl rfl lk_X6_178 rfl (nb rfl) ⟨nb rfl, nb rfl⟩ rfl ?_
  refine g_istore (pc := 7) (lv' := [(0, _), (1, _), (2, _), (3, _), (4, _), (5, _)]) dX6_stepAt_7 (nl rfl) rfl ?_
  refine g_iload (pc := 9) dX6_stepAt_9 rfl ?_
  refine g_if_lt (pc := 11) (tgt := 21) dX6_stepAt_11 rfl (fun h11 => ?_) (fun h11 => ?_)
  · refine g_iconst (pc := 21) (v := (-1)) dX6_stepAt_21 rfl ?_
    refine g_ireturn (pc := 22) dX6_stepAt_22 rfl rfl ?_
    exact ⟨rfl, rfl⟩
  · refine g_iload (pc := 14) dX6_stepAt_14 rfl ?_
    refine g_iload (pc := 16) dX6_stepAt_16 rfl ?_
    refine g_icmp_le (pc := 18) (tgt := 23) dX6_stepAt_18 rfl (fun h18 => absurd h18 ((fun q => h ⟨h11, q⟩))) (fun _ => ?_)
    refine g_iconst (pc := 21) (v := (-1)) dX6_stepAt_21 rfl ?_
    refine g_ireturn (pc := 22) dX6_stepAt_22 rfl rfl ?_
    exact ⟨rfl, rfl⟩
theorem x_stepAt {v w u x : Int32} (hS : Shp M) (hz : mI M 3 1 = nI n) (h : ¬ (inR v 6 ∧ inR w n ∧ inR u n)) : EvR l jX6_stepAt 10 190 3 18 [.ref 0, .int v, .int w, .int u, .int x] M (.inr xIO) M := by
  refine ev_intro rfl (nb rfl) rfl ?_
  refine g_aload_n (pc := 0) dX6_stepAt_0 rfl trivial ?_
  refine g_iload_n (pc := 1) dX6_stepAt_1 rfl ?_
  refine g_iload_n (pc := 2) dX6_stepAt_2 rfl ?_
  refine g_iload_n (pc := 3) dX6_stepAt_3 rfl ?_
  refine g_invV_x (pc := 4) (As := [_, _, _]) dX6_stepAt_4 rfl (x_distance hS hz h) rfl rfl (shK hS rfl) rfl rfl lk_X6_178 rfl (nb rfl) ⟨nb rfl, nb rfl⟩ rfl ?_
  exact ⟨rfl, rfl⟩
end
end
-- 214.load
section
section
variable {l : Launch} {M : Mem} {n len : Nat} {s : RP}
theorem mxEmpty_1 {m : Nat} : mI (mxEmpty M m) m 1 = 0 := by
  unfold mxEmpty
  rw [pI_k (by decide), pI_k (by decide), pI_k (by decide), pI_self]
theorem mxEmpty_ne {m i : Nat} (h : i ≠ m) (h2 : i ≠ m + 1) : mI (mxEmpty M m) i = mI M i := by
  unfold mxEmpty
  rw [pI_i h, pI_i h, pI_i h, pI_i h, sI_ne h2]
theorem stEmptyL_k {b : Nat} : ∀ k, ∀ s, s < k → mI (stEmptyL M b k) (b + 2 + 2 * s) 1 = 0
  | 0, s, h => by omega
  | k + 1, s, h => by
    rw [stEmptyL]
    by_cases h1 : s = k
    · rw [h1]; exact mxEmpty_1
    · rw [mxEmpty_ne (by omega) (by omega)]; exact stEmptyL_k k s (by omega)
theorem stEmpty_k {b : Nat} {x : Int32} : keptOk (stEmpty M b x) b := fun s hs => by
  unfold stEmpty
  rw [pI_i (by omega), pI_i (by omega), pI_i (by omega), pI_i (by omega)]
  exact Or.inl (stEmptyL_k 6 s hs)
theorem mxLook_1 {m i : Nat} {x : Int32} : mI (mxLook M m x) i 1 = mI M i 1 := by
  unfold mxLook
  split
  · rfl
  · by_cases h : i = m
    · subst h; rw [pI_k (by decide), pI_k (by decide)]
    · rw [pI_i h, pI_i h]
theorem mxAnew_1 {m i : Nat} {x : Int32} : mI (mxAnew M m x) i 1 = mI M i 1 := by
  unfold mxAnew
  split
  · rfl
  · by_cases h : i = m
    · subst h; rw [pI_k (by decide), mxLook_1]
    · rw [pI_i h, mxLook_1]
theorem anL_1 {x : Int32} {i : Nat} : ∀ k, mI (anL M x k) i 1 = mI M i 1
  | 0 => by rw [anL]
  | k + 1 => by rw [anL, mxAnew_1, anL_1 k]
theorem kept_sI {a : Nat} {f : Nat → Int32} (h : keptOk M 17) : keptOk (sI M (20 + 2 * a) f) 17 := fun s hs => by
  rw [sI_ne (by omega)]; exact h s hs
theorem kept_pI {a : Nat} (h : keptOk M 17) : keptOk (pI M (19 + 2 * a) 1 1) 17 := fun s hs => by
  by_cases e : s = a
  · subst e
    rw [show 17 + 2 + 2 * s = 19 + 2 * s by omega, pI_self]
    exact Or.inr rfl
  · rw [pI_i (by omega)]; exact h s hs
theorem rsR_k {n : Nat} (h : keptOk M 17) : keptOk (rsR M len n s).1 17 := by
  have k1 : keptOk (edM M len n (twd (mI M 2) len s)) 17 := by unfold edM; exact kept_sI h
  have k2 : keptOk (rrM M len n (twd (mI M 2) len s)) 17 := by unfold rrM; exact kept_sI h
  have k3 : keptOk (rfM M len n (twd (mI M 2) len s)) 17 := by unfold rfM; exact kept_sI h
  have k8 : keptOk (rkM M len (twd (mI M 2) len s)) 17 := by unfold rkM; exact kept_pI h
  have k9 : keptOk (pI M 17 2 (tnv (mI M 2) len 1 8 (twd (mI M 2) len s))) 17 := fun s hs => by rw [pI_i (by omega)]; exact h s hs
  unfold rsR
  generalize twd (mI M 2) len s = s1 at *
  generalize skipP (mI M 2) len s.1 = b at *
  generalize wdQ (mI M 2) b s1.1 (strW 1) = c1
  generalize wdQ (mI M 2) b s1.1 (strW 2) = c2
  generalize wdQ (mI M 2) b s1.1 (strW 3) = c3
  generalize wdQ (mI M 2) b s1.1 (strW 8) = c8
  generalize wdQ (mI M 2) b s1.1 (strW 9) = c9
  generalize tnm (mI M 2) len 1 8 s1 = e9 at *
  generalize pI M 17 2 (tnv (mI M 2) len 1 8 s1) = m9 at *
  generalize rFail 1 (nI b) s1 = e0 at *
  generalize edM M len n s1 = m1 at *
  generalize edS (mI M 2) len n s1 = e1 at *
  generalize rrM M len n s1 = m2 at *
  generalize rrS (mI M 2) len n s1 = e2 at *
  generalize rfM M len n s1 = m3 at *
  generalize rfS (mI M 2) len n s1 = e3 at *
  generalize rkM M len s1 = m8 at *
  generalize rkS M len s1 = e8 at *
  cases c1 with
  | true => exact k1
  | false =>
  cases c2 with
  | true => exact k2
  | false =>
  cases c3 with
  | true => exact k3
  | false =>
  cases c8 with
  | true => exact k8
  | false =>
  cases c9 with
  | true => exact k9
  | false => exact h
theorem rsL_k {n : Nat} : ∀ (d : Nat) (M : Mem) (s : RP), keptOk M 17 → keptOk (rsL len n d M s).1 17
  | 0, M, s, h => by rw [rsL.eq_1]; exact h
  | d + 1, M, s, h => by
    rw [rsL.eq_2]
    have h3 := rsR_k (n := n) (len := len) (s := tsc (mI M 2) len (skp (mI M 2) len s)) h
    generalize tsc (mI M 2) len (skp (mI M 2) len s) = s2 at *
    generalize skp (mI M 2) len s = s1 at *
    generalize rsR M len n s2 = r at *
    split
    · split
      · exact rsL_k d r.1 r.2 h3
      · exact rsL_k d M s2 h
    · exact h
theorem riM_k : keptOk (riM M len) 17 := fun s hs => by
  unfold riM
  rw [pI_i (by omega), rd_ne (by omega), anL_1]
  unfold riR
  exact rsL_k len _ _ stEmpty_k s hs
theorem riR_ok (hS : Shp M) : (Shp (riR M len).1 ∧ (∀ i, i < 17 ∨ 31 ≤ i → mI (riR M len).1 i = mI M i)) ∧ mI (riR M len).1 17 1 = nI (riN M len) := by
  unfold riR
  have z2 : (rzS (mI M 2) len (0, mI M 1 3, 0, 0, 0)).1 ≤ len := by unfold rzS; exact tnm_le (rzS0_le (Nat.zero_le _))
  obtain ⟨⟨a1, a2, a3⟩, a4⟩ := rsL_ok (n := riN M len) len (stEmpty M 17 (nI (riN M len))) _ (stEmpty_S hS 17 _) z2
  exact ⟨⟨a1, fun i h => (a2 i h).trans (stEmpty_ne (by omega))⟩, a3.trans stEmpty_n⟩
theorem riM_S (hS : Shp M) : Shp (riM M len) := by
  unfold riM
  exact shp_pI (rd_S (anL_S (riR_ok hS).1.1 _ 6))
theorem riM_n (hS : Shp M) : mI (riM M len) 17 1 = nI (riN M len) := by
  unfold riM
  rw [pI_i (by decide), rd_ne (by decide), anL_ne (by decide) 6 (Nat.le_refl _)]
  exact (riR_ok hS).2
theorem riM_5 : mI (riM M len) 1 5 = (riR M len).2.2.2.2.1 := by
  unfold riM
  rw [pI_k (by decide)]
  exact rd_5
theorem riM_6 : mI (riM M len) 1 6 = (riR M len).2.2.2.2.2 := by
  unfold riM
  rw [pI_k (by decide)]
  exact rd_6
theorem u_load (hS : Shp M) (hl : mI M 1 1 = nI len) (hL : len ≤ 600) : EvR l jX6_load 9 260 0 0 [.ref 0] M (.inl (some (.int (if (riR M len).2.2.2.2.1 = 0 then nI (riN M len) else -100 - (riR M len).2.2.2.2.2)))) (if (riR M len).2.2.2.2.1 = 0 then pI (replM (riM M len) 17) 0 14 0 else riM M len) := by
  have q1 := r_readInto (l := l) hS hl hL
  have hS1 := riM_S (len := len) hS
  have h5 := riM_5 (M := M) (len := len)
  have h6 := riM_6 (M := M) (len := len)
  have hk := riM_k (M := M) (len := len)
  have hn1 := riM_n (len := len) hS
  generalize riN M len = n9 at *
  generalize riM M len = M1 at *
  generalize (riR M len).2.2.2.2.1 = e5 at *
  generalize (riR M len).2.2.2.2.2 = e6 at *
  have q2 := s_replaceState (l := l) hS1 st17 (by decide) hk
  have hS2 := replM_S hS1 17
  have e2 : mI (replM M1 17) 3 1 = nI n9 := replM_n.trans hn1
  generalize replM M1 17 = M2 at *
  have hS3 : Shp (pI M2 0 14 0) := shp_pI hS2
  have e3 : mI (pI M2 0 14 0) 3 1 = nI n9 := (congrFun (pI_i (by decide)) 1).trans e2
  refine ev_intro rfl (nb rfl) rfl ?_
  refine g_aload_n (pc := 0) dX6_load_0 rfl trivial ?_
  refine g_getf (pc := 1) dX6_load_1 fk_X6_10 (shK hS rfl) (fv_obj (shR hS rfl)) ?_
  refine g_aload_n (pc := 4) dX6_load_4 rfl trivial ?_
  refine g_getf (pc := 5) dX6_load_5 fk_X6_23 (shK hS rfl) (fv_obj (shR hS rfl)) ?_
  refine g_invV_r (pc := 8) (As := [_]) dX6_load_8 rfl (q1) rfl rfl (shK hS rfl) rfl rfl lk_X6_72 rfl (nb rfl) ⟨nb rfl, nb rfl⟩ rfl ?_
  refine g_aload_n (pc := 11) dX6_load_11 rfl trivial ?_
  refine g_getf (pc := 12) dX6_load_12 fk_X6_10 (shK hS1 rfl) (fv_obj (shR hS1 rfl)) ?_
  refine g_getf (pc := 15) (v := .int _) dX6_load_15 fk_X6_76 (shK hS1 rfl) (fun _ => congrArg Value.int (h5)) ?_
  refine g_if_eq (pc := 18) (tgt := 32) dX6_load_18 rfl (fun h18 => ?_) (fun h18 => ?_)
  · rw [if_pos h18, if_pos h18]
    refine g_aload_n (pc := 32) dX6_load_32 rfl trivial ?_
    refine g_aload_n (pc := 33) dX6_load_33 rfl trivial ?_
    refine g_getf (pc := 34) dX6_load_34 fk_X6_23 (shK hS1 rfl) (fv_obj (shR hS1 rfl)) ?_
    refine g_invV_r (pc := 37) (As := [_]) dX6_load_37 rfl (q2) rfl rfl (shK hS1 rfl) rfl rfl lk_X6_83 rfl (nb rfl) ⟨nb rfl, nb rfl⟩ rfl ?_
    refine g_aload_n (pc := 40) dX6_load_40 rfl trivial ?_
    refine g_iconst (pc := 41) (v := 0) dX6_load_41 rfl ?_
    refine g_putI (pc := 42) dX6_load_42 fp_X6_86 (shK hS2 rfl) ⟨rfl, rfl⟩ (fun _ _ _ _ => rfl) ?_
    refine g_aload_n (pc := 45) dX6_load_45 rfl trivial ?_
    refine g_getf (pc := 46) dX6_load_46 fk_X6_19 (shK hS3 rfl) (fv_obj (shR hS3 rfl)) ?_
    refine g_getf (pc := 49) (v := .int _) dX6_load_49 fk_X6_89 (shK hS3 rfl) (fun _ => congrArg Value.int (e3)) ?_
    refine g_ireturn (pc := 52) dX6_load_52 rfl rfl ?_
    exact ⟨rfl, rfl⟩
  · rw [if_neg h18, if_neg h18]
    refine g_bipush (pc := 21) (v := (-100)) dX6_load_21 rfl ?_
    refine g_aload_n (pc := 23) dX6_load_23 rfl trivial ?_
    refine g_getf (pc := 24) dX6_load_24 fk_X6_10 (shK hS1 rfl) (fv_obj (shR hS1 rfl)) ?_
    refine g_getf (pc := 27) (v := .int _) dX6_load_27 fk_X6_80 (shK hS1 rfl) (fun _ => congrArg Value.int (h6)) ?_
    refine g_isub (pc := 30) dX6_load_30 ?_
    refine g_ireturn (pc := 31) dX6_load_31 rfl rfl ?_
    exact ⟨rfl, rfl⟩
end
end
-- 22.init
section
/-! what the constructors make -/
section
variable {l : Launch} {M : Mem}
/-- reference a of cell i is r -/
def pR (M : Mem) (i a r : Nat) : Mem := sR M i (fun_set (mR M i) a (some r))
theorem nK_k {m : Nat} {x k : Knd} (hk : (mK M)[m]? = some x) : (mK (nK M k))[m]? = some x := by
  have hm : m < (mK M).length := by
    rcases Nat.lt_or_ge m (mK M).length with h | h
    · exact h
    · rw [List.getElem?_eq_none h] at hk; cases hk
  show (mK M ++ [k])[m]? = _
  rw [List.getElem?_append_left hm]
  exact hk
theorem nK_n {N : Nat} {k : Knd} (hN : (mK M).length = N) : (mK (nK M k)).length = N + 1 := by
  show (mK M ++ [k]).length = _
  rw [List.length_append, hN]
  rfl
theorem pR_k {m i a r : Nat} {x : Knd} (hk : (mK M)[m]? = some x) : (mK (pR M i a r))[m]? = some x := hk
theorem pR_n {N i a r : Nat} (hN : (mK M).length = N) : (mK (pR M i a r)).length = N := hN
theorem nK_x {k : Knd} (hx : mX M = true) : mX (nK M k) = true := hx
theorem pR_x {i a r : Nat} (hx : mX M = true) : mX (pR M i a r) = true := hx
theorem i_X2 {m N : Nat} (hx : mX M = true) (hk : (mK M)[m]? = some (.inr 2)) (hN : (mK M).length = N) : EvR l jX2_init 1 30 1 32 [.ref m] M (.inl none) (pR (nK M (kI 32)) m 0 N) := by
  refine ev_intro rfl (nb rfl) rfl ?_
  subst hN
  refine g_aload_n (pc := 0) dX2_init_0 rfl trivial ?_
  refine g_objInit (pc := 1) dX2_init_1 wd_167 wd_121 wd_122 (nb rfl) (nb rfl) ?_
  refine g_aload_n (pc := 4) dX2_init_4 rfl trivial ?_
  refine g_bipush (pc := 5) (v := 32) dX2_init_5 rfl ?_
  refine g_newarray_int (pc := 7) (len := 32) (n := 0) (k := 0) dX2_init_7 wd_154 rfl (by decide) hx ?_
  refine g_putR (pc := 9) dX2_init_9 fp_X2_9 (fun _ => ⟨rfl, _, rfl, rfl⟩) (nK_k hk) (fun _ => ⟨rfl, rfl⟩) (fun _ _ _ _ => rfl) ?_
  refine g_return (pc := 12) dX2_init_12 rfl ?_
  exact ⟨rfl, rfl⟩
theorem i_X0 {m N : Nat} (hx : mX M = true) (hk : (mK M)[m]? = some (.inr 0)) (hN : (mK M).length = N) : EvR l jX0_init 1 30 1 32 [.ref m] M (.inl none) (pR (nK M (kI 32)) m 0 N) := by
  refine ev_intro rfl (nb rfl) rfl ?_
  subst hN
  refine g_aload_n (pc := 0) dX0_init_0 rfl trivial ?_
  refine g_objInit (pc := 1) dX0_init_1 wd_224 wd_121 wd_122 (nb rfl) (nb rfl) ?_
  refine g_aload_n (pc := 4) dX0_init_4 rfl trivial ?_
  refine g_bipush (pc := 5) (v := 32) dX0_init_5 rfl ?_
  refine g_newarray_int (pc := 7) (len := 32) (n := 0) (k := 0) dX0_init_7 wd_154 rfl (by decide) hx ?_
  refine g_putR (pc := 9) dX0_init_9 fp_X0_9 (fun _ => ⟨rfl, _, rfl, rfl⟩) (nK_k hk) (fun _ => ⟨rfl, rfl⟩) (fun _ _ _ _ => rfl) ?_
  refine g_return (pc := 12) dX0_init_12 rfl ?_
  exact ⟨rfl, rfl⟩
theorem i_X4 {m N : Nat} (hx : mX M = true) (hk : (mK M)[m]? = some (.inr 4)) (hN : (mK M).length = N) : EvR l jX4_init 1 30 1 600 [.ref m] M (.inl none) (pR (nK M (kI 600)) m 0 N) := by
  refine ev_intro rfl (nb rfl) rfl ?_
  subst hN
  refine g_aload_n (pc := 0) dX4_init_0 rfl trivial ?_
  refine g_objInit (pc := 1) dX4_init_1 wd_128 wd_121 wd_122 (nb rfl) (nb rfl) ?_
  refine g_aload_n (pc := 4) dX4_init_4 rfl trivial ?_
  refine g_sipush (pc := 5) (v := 600) dX4_init_5 rfl ?_
  refine g_newarray_int (pc := 8) (len := 600) (n := 0) (k := 0) dX4_init_8 wd_154 rfl (by decide) hx ?_
  refine g_putR (pc := 10) dX4_init_10 fp_X4_9 (fun _ => ⟨rfl, _, rfl, rfl⟩) (nK_k hk) (fun _ => ⟨rfl, rfl⟩) (fun _ _ _ _ => rfl) ?_
  refine g_return (pc := 13) dX4_init_13 rfl ?_
  exact ⟨rfl, rfl⟩
theorem i_X1 {m N : Nat} (hx : mX M = true) (hk : (mK M)[m]? = some (.inr 1)) (hN : (mK M).length = N) : EvR l jX1_init 1 30 3 96 [.ref m] M (.inl none) (pR (nK (pR (nK (pR (nK M (kI 32)) m 0 N) (kI 32)) m 1 (N + 1)) (kI 32)) m 2 (N + 2)) := by
  have n1 := nK_n (k := kI 32) hN
  have k1 := nK_k (k := kI 32) hk
  have x1 := nK_x (k := kI 32) hx
  subst hN
  have n2 := nK_n (k := kI 32) (pR_n (i := m) (a := 0) (r := (mK M).length) n1)
  have k2 := nK_k (k := kI 32) (pR_k (i := m) (a := 0) (r := (mK M).length) k1)
  have x2 := nK_x (k := kI 32) (pR_x (i := m) (a := 0) (r := (mK M).length) x1)
  refine ev_intro rfl (nb rfl) rfl ?_
  refine g_aload_n (pc := 0) dX1_init_0 rfl trivial ?_
  refine g_objInit (pc := 1) dX1_init_1 wd_273 wd_121 wd_122 (nb rfl) (nb rfl) ?_
  refine g_aload_n (pc := 4) dX1_init_4 rfl trivial ?_
  refine g_bipush (pc := 5) (v := 32) dX1_init_5 rfl ?_
  refine g_newarray_int (pc := 7) (len := 32) (n := 64) (k := 2) dX1_init_7 wd_154 rfl (by decide) hx ?_
  refine g_putR (pc := 9) dX1_init_9 fp_X1_9 (fun _ => ⟨rfl, _, rfl, rfl⟩) k1 (fun _ => ⟨rfl, rfl⟩) (fun _ _ _ _ => rfl) ?_
  refine g_aload_n (pc := 12) dX1_init_12 rfl trivial ?_
  refine g_bipush (pc := 13) (v := 32) dX1_init_13 rfl ?_
  refine g_newarray_int (pc := 15) (len := 32) (n := 32) (k := 1) dX1_init_15 wd_154 rfl (by decide) x1 ?_
  refine g_putR (pc := 17) dX1_init_17 fp_X1_15 (fun _ => ⟨rfl, _, rfl, rfl⟩) k2 (fun _ => ⟨rfl, rfl⟩) (fun _ _ _ _ => rfl) ?_
  refine g_aload_n (pc := 20) dX1_init_20 rfl trivial ?_
  refine g_bipush (pc := 21) (v := 32) dX1_init_21 rfl ?_
  refine g_newarray_int (pc := 23) (len := 32) (n := 0) (k := 0) dX1_init_23 wd_154 rfl (by decide) x2 ?_
  refine g_putR (pc := 25) dX1_init_25 fp_X1_18 (fun _ => ⟨rfl, _, rfl, rfl⟩) (nK_k k2) (fun _ => ⟨rfl, rfl⟩) (fun _ _ _ _ => rfl) ?_
  refine g_return (pc := 28) dX1_init_28 rfl ?_
  exact ⟨rfl, by rw [← n1, ← n2]; rfl⟩
end
end
-- 23.long
section
/-! longs that are rows of bits -/
def uL (x : Int32) : Int64 := x.toInt64 &&& 4294967295
theorem m32 : ∀ i, i < 64 → (4294967295 : Int64).toBitVec.getLsbD i = decide (i < 32) := by decide +kernel
theorem hl_uL (x : Int32) (i : Nat) : hl (uL x) i = (decide (i < 32) && hb x i) := by
  unfold hl uL hb
  rw [Int64.toBitVec_and, BitVec.getLsbD_and, Int32.toBitVec_toInt64, BitVec.getLsbD_signExtend]
  by_cases h : i < 32
  · rw [m32 i (by omega)]
    simp [h, show i < 64 by omega]
  · by_cases h2 : i < 64
    · rw [m32 i h2]; simp [h]
    · simp [h, h2]
theorem hl_ext {x y : Int64} (h : ∀ i, i < 64 → hl x i = hl y i) : x = y := Int64.toBitVec_inj.mp (BitVec.eq_of_getLsbD_eq h)
theorem hb_ext {x y : Int32} (h : ∀ i, i < 32 → hb x i = hb y i) : x = y := Int32.toBitVec_inj.mp (BitVec.eq_of_getLsbD_eq h)
theorem hl_and (x y : Int64) (i : Nat) : hl (x &&& y) i = (hl x i && hl y i) := by unfold hl; rw [Int64.toBitVec_and, BitVec.getLsbD_and]
theorem hl_or (x y : Int64) (i : Nat) : hl (x ||| y) i = (hl x i || hl y i) := by unfold hl; rw [Int64.toBitVec_or, BitVec.getLsbD_or]
theorem hl_xor (x y : Int64) (i : Nat) : hl (x ^^^ y) i = Bool.xor (hl x i) (hl y i) := by unfold hl; rw [Int64.toBitVec_xor, BitVec.getLsbD_xor]
theorem hb_and (x y : Int32) (i : Nat) : hb (x &&& y) i = (hb x i && hb y i) := by unfold hb; rw [Int32.toBitVec_and, BitVec.getLsbD_and]
theorem hb_or (x y : Int32) (i : Nat) : hb (x ||| y) i = (hb x i || hb y i) := by unfold hb; rw [Int32.toBitVec_or, BitVec.getLsbD_or]
theorem hb_xor (x y : Int32) (i : Nat) : hb (x ^^^ y) i = Bool.xor (hb x i) (hb y i) := by unfold hb; rw [Int32.toBitVec_xor, BitVec.getLsbD_xor]
theorem hb_ge {x : Int32} {i : Nat} (h : 32 ≤ i) : hb x i = false := BitVec.getLsbD_of_ge _ _ h
theorem hb_m1 {i : Nat} (h : i < 32) : hb (-1) i = true := (by decide +kernel : ∀ i, i < 32 → hb (-1) i = true) i h
theorem hb_0 (i : Nat) : hb 0 i = false := by unfold hb; exact BitVec.getLsbD_zero
theorem hb_not {x : Int32} {i : Nat} (h : i < 32) : hb (x ^^^ -1) i = !hb x i := by rw [hb_xor, hb_m1 h]; simp
theorem bitI_hb : ∀ c, c < 32 → ∀ i, i < 32 → hb (bitI c) i = decide (i = c) := by decide +kernel
theorem hb_bitI {c i : Nat} (hc : c < 32) : hb (bitI c) i = decide (i = c) := by
  by_cases h : i < 32
  · exact bitI_hb c hc i h
  · rw [hb_ge (by omega)]; simp; omega
theorem lowM_hb : ∀ c, c ≤ 32 → ∀ i, i < 32 → hb (lowM c) i = decide (i < c) := by decide +kernel
theorem hb_lowM {c i : Nat} (hc : c ≤ 32) : hb (lowM c) i = decide (i < c) := by
  by_cases h : i < 32
  · exact lowM_hb c hc i h
  · rw [hb_ge (by omega)]; simp; omega
theorem uL_and (x y : Int32) : uL x &&& uL y = uL (x &&& y) := hl_ext fun i _ => by simp only [hl_and, hl_uL, hb_and]; cases decide (i < 32) <;> simp
theorem uL_or (x y : Int32) : uL x ||| uL y = uL (x ||| y) := hl_ext fun i _ => by simp only [hl_or, hl_uL, hb_or]; cases decide (i < 32) <;> simp
theorem uL_xor (x y : Int32) : uL x ^^^ uL y = uL (x ^^^ y) := hl_ext fun i _ => by simp only [hl_xor, hl_uL, hb_xor]; cases decide (i < 32) <;> simp
theorem uL_low (v : Int64) (x : Int32) : v &&& uL x = uL (v.toInt32 &&& x) := hl_ext fun i _ => by
  simp only [hl_and, hl_uL, hb_and]
  by_cases h : i < 32
  · have : hb v.toInt32 i = hl v i := by
      unfold hb hl
      rw [Int64.toBitVec_toInt32, BitVec.getLsbD_signExtend]
      simp [h, show i < 64 by omega]
    simp [h, this]
  · simp [h]
theorem uL_inj {x y : Int32} : uL x = uL y ↔ x = y := ⟨fun h => hb_ext fun i hi => by
  have := congrArg (fun z => hl z i) h
  simpa [hl_uL, hi] using this, fun h => by rw [h]⟩
theorem uL_0 : uL 0 = 0 := by decide +kernel
theorem uL_eq0 {x : Int32} : uL x = 0 ↔ x = 0 := by rw [← uL_0, uL_inj]
theorem uL_32 (x : Int32) : (uL x).toInt32 = x := hb_ext fun i hi => by
  have : hb (uL x).toInt32 i = hl (uL x) i := by
    unfold hb hl
    rw [Int64.toBitVec_toInt32, BitVec.getLsbD_signExtend]
    simp [hi, show i < 64 by omega]
  rw [this, hl_uL]; simp [hi]
theorem shc : ∀ c, c < 64 → ((nI c).toInt64 &&& 63).toBitVec.smod 64 = BitVec.ofNat 64 c := by decide +kernel
theorem hl_shr (y : Int64) {c : Nat} (hc : c < 64) (i : Nat) (hi : i < 64) : hl (y >>> ((nI c).toInt64 &&& 63)) i = if c + i < 64 then hl y (c + i) else y.toBitVec.msb := by
  unfold hl
  rw [Int64.toBitVec_shiftRight, shc c hc]
  show (BitVec.sshiftRight y.toBitVec (BitVec.ofNat 64 c).toNat).getLsbD i = _
  rw [BitVec.toNat_ofNat, Nat.mod_eq_of_lt (by omega), BitVec.getLsbD_sshiftRight]
  simp [hi, Nat.not_le.mpr hi]
theorem msb_uL (x : Int32) : (uL x).toBitVec.msb = false := by
  rw [BitVec.msb_eq_getLsbD_last]
  exact hl_uL x 63
/-- a bit taken out of a row -/
theorem uL_one (x : Int32) {c : Nat} (hc : c < 32) : uL x >>> ((nI c).toInt64 &&& 63) &&& 1 = uL (b1 (hb x c)) := hl_ext fun i hi => by
  rw [hl_and, hl_shr _ (by omega) i hi, msb_uL, hl_uL, hl_uL]
  by_cases h0 : i = 0
  · subst h0
    rw [if_pos (by omega)]
    have h1 : hl 1 0 = true := by decide
    rw [h1]
    cases h : hb x c <;> simp [b1, hb, hc] <;> decide
  · have h1 : hl 1 i = false := (by decide +kernel : ∀ i, i < 64 → i ≠ 0 → hl 1 i = false) i hi h0
    rw [h1]
    have h2 : ∀ b, i < 32 → hb (b1 b) i = false := fun b h => by
      cases b
      · exact hb_0 i
      · exact (by decide +kernel : ∀ i, i < 32 → i ≠ 0 → hb (b1 true) i = false) i h h0
    by_cases h3 : i < 32
    · rw [h2 _ h3]; simp
    · simp [h3]
theorem uL_b1 (b : Bool) : (uL (b1 b)).toInt32 = b1 b := uL_32 _
theorem sh_bit : ∀ c, c < 32 → (1 : Int64) <<< ((nI c).toInt64 &&& 63) = uL (bitI c) := by decide +kernel
theorem sh_low : ∀ c, c ≤ 32 → (1 : Int64) <<< ((nI c).toInt64 &&& 63) - 1 = uL (lowM c) := by decide +kernel
theorem sh_b1 : ∀ b : Bool, ∀ c, c < 32 → (b1 b).toInt64 <<< ((nI c).toInt64 &&& 63) = uL (if b then bitI c else 0) := by decide +kernel
theorem uL_not (x y : Int32) : uL x &&& (uL y ^^^ -1) = uL (x &&& (y ^^^ -1)) := hl_ext fun i hi => by
  have h1 : hl (-1) i = true := (by decide +kernel : ∀ i, i < 64 → hl (-1) i = true) i hi
  simp only [hl_and, hl_xor, hl_uL, hb_and, h1]
  by_cases h : i < 32
  · rw [hb_not h]; simp [h]
  · simp [h]
end
-- 231.pop
section
/-! what bcJ counts -/
/-- the ones among the lowest k bits of a number -/
def pcn : Nat → Nat → Nat
  | 0, _ => 0
  | k + 1, m => m % 2 + pcn k (m / 2)
/-- one stage of a word of k bytes -/
def mk5 (c : Nat) : Nat → Nat
  | 0 => 0
  | k + 1 => 256 * mk5 c k + c
theorem and_div256 (a b : Nat) : (a &&& b) / 256 = a / 256 &&& b / 256 := by
  have this : (a &&& b) >>> 8 = a >>> 8 &&& b >>> 8 := Nat.shiftRight_and_distrib
  simpa [Nat.shiftRight_eq_div_pow] using this
theorem and_mod256 (a b : Nat) : (a &&& b) % 256 = a % 256 &&& b % 256 := Nat.and_mod_two_pow (n := 8) ..
theorem and_split {a b c d : Nat} (hb : b < 256) (hd : d < 256) : (256 * a + b) &&& (256 * c + d) = 256 * (a &&& c) + (b &&& d) := by
  have h1 := and_div256 (256 * a + b) (256 * c + d)
  have h2 := and_mod256 (256 * a + b) (256 * c + d)
  rw [show (256 * a + b) / 256 = a by omega, show (256 * c + d) / 256 = c by omega] at h1
  rw [show (256 * a + b) % 256 = b by omega, show (256 * c + d) % 256 = d by omega] at h2
  omega
theorem shr_split (q r s : Nat) (hs : s ≤ 8) (hr : r < 256) : (256 * q + r) >>> s = 256 * (q >>> s) + ((q % 2 ^ s) * 2 ^ (8 - s) + r >>> s) := by
  simp only [Nat.shiftRight_eq_div_pow]
  have e : 256 = 2 ^ s * 2 ^ (8 - s) := by rw [← Nat.pow_add, show s + (8 - s) = 8 by omega]
  have hp : 0 < 2 ^ s := Nat.pow_pos (by decide)
  have h1 := Nat.div_add_mod q (2 ^ s)
  generalize q / 2 ^ s = u at *
  generalize q % 2 ^ s = w at *
  have h2 : 256 * q + r = 2 ^ s * (256 * u + w * 2 ^ (8 - s)) + r := by
    rw [← h1, Nat.mul_add, Nat.mul_add]
    have : 256 * w = 2 ^ s * (w * 2 ^ (8 - s)) := by rw [e, Nat.mul_comm w, Nat.mul_assoc]
    have h3 : 256 * (2 ^ s * u) = 2 ^ s * (256 * u) := Nat.mul_left_comm _ _ _
    omega
  rw [h2, Nat.mul_add_div hp, Nat.add_assoc]
/-- the three stages on one byte -/
def g1 (v : Nat) : Nat := v - (v >>> 1 &&& 0x55)
def g2 (v : Nat) : Nat := (v &&& 0x33) + (v >>> 2 &&& 0x33)
def g3 (v : Nat) : Nat := (v + v >>> 4) &&& 0x0f
theorem pst1 : ∀ w, w < 2 → ∀ r, r < 256 → ((w * 2 ^ (8 - 1) + r >>> 1) &&& 0x55 = r >>> 1 &&& 0x55) ∧ w * 2 ^ (8 - 1) + r >>> 1 < 256 ∧ r >>> 1 &&& 0x55 ≤ r := by decide +kernel
theorem pst2 : ∀ w, w < 4 → ∀ r, r < 256 → ((w * 2 ^ (8 - 2) + r >>> 2) &&& 0x33 = r >>> 2 &&& 0x33) ∧ w * 2 ^ (8 - 2) + r >>> 2 < 256 := by decide +kernel
theorem pst3 : ∀ r, r < 256 → g3 (g2 (g1 r)) = pcn 8 r ∧ g1 r < 256 ∧ g2 (g1 r) < 256 ∧ g2 (g1 r) % 16 + g2 (g1 r) / 16 < 16 ∧ g2 (g1 r) % 16 ≤ 4 ∧ g2 (g1 r) / 16 ≤ 4 := by decide +kernel
def w1 (k x : Nat) : Nat := x - (x >>> 1 &&& mk5 0x55 k)
def w2 (k x : Nat) : Nat := (x &&& mk5 0x33 k) + (x >>> 2 &&& mk5 0x33 k)
def w3 (k x : Nat) : Nat := (x + x >>> 4) &&& mk5 0x0f k
theorem w1_s (k q r : Nat) (hr : r < 256) : w1 (k + 1) (256 * q + r) = 256 * w1 k q + g1 r := by
  obtain ⟨a1, a2, a3⟩ := pst1 (q % 2 ^ 1) (Nat.mod_lt _ (by decide)) r hr
  unfold w1 g1
  rw [shr_split q r 1 (by decide) hr, mk5, and_split a2 (by decide), a1]
  have : q >>> 1 &&& mk5 85 k ≤ q := Nat.le_trans Nat.and_le_left (by rw [Nat.shiftRight_eq_div_pow]; omega)
  omega
theorem w2_s (k q r : Nat) (hr : r < 256) : w2 (k + 1) (256 * q + r) = 256 * w2 k q + g2 r := by
  obtain ⟨a1, a2⟩ := pst2 (q % 2 ^ 2) (Nat.mod_lt _ (by decide)) r hr
  unfold w2 g2
  rw [shr_split q r 2 (by decide) hr, mk5, and_split a2 (by decide), a1, and_split hr (by decide)]
  omega
theorem pst4 : ∀ w, w ≤ 4 → ∀ a, a ≤ 4 → ∀ b, b ≤ 4 → ((16 * b + a + (w * 2 ^ (8 - 4) + (16 * b + a) >>> 4)) &&& 0x0f = (16 * b + a + (16 * b + a) >>> 4) &&& 0x0f) ∧ 16 * b + a + (w * 2 ^ (8 - 4) + (16 * b + a) >>> 4) < 256 := by decide +kernel
theorem w3_s (k q r : Nat) (hr : r < 256) (h4 : r % 16 ≤ 4) (h5 : r / 16 ≤ 4) (hq : q % 16 ≤ 4) : w3 (k + 1) (256 * q + r) = 256 * w3 k q + g3 r := by
  obtain ⟨a1, a2⟩ := pst4 (q % 2 ^ 4) hq (r % 16) h4 (r / 16) h5
  rw [show 16 * (r / 16) + r % 16 = r by omega] at a1 a2
  unfold w3 g3
  rw [shr_split q r 4 (by decide) hr, mk5, show 256 * q + r + (256 * q >>> 4 + (q % 2 ^ 4 * 2 ^ (8 - 4) + r >>> 4)) = 256 * (q + q >>> 4) + (r + (q % 2 ^ 4 * 2 ^ (8 - 4) + r >>> 4)) by omega, and_split a2 (by decide), a1]
/-- the bytes' counts as one word -/
def pw : Nat → Nat → Nat
  | 0, _ => 0
  | k + 1, m => 256 * pw k (m / 256) + pcn 8 (m % 256)
theorem w12_low (k x : Nat) : k ≠ 0 ∨ x = 0 → w2 k (w1 k x) % 16 ≤ 4 := by
  intro h
  cases k with
  | zero =>
    have : x = 0 := by omega
    subst this
    decide
  | succ k =>
    have hr : x % 256 < 256 := Nat.mod_lt _ (by decide)
    obtain ⟨b1, b2, b3, b4, b5, b6⟩ := pst3 (x % 256) hr
    rw [show x = 256 * (x / 256) + x % 256 by omega, w1_s k _ _ hr, w2_s k _ _ b2]
    omega
theorem w123 : ∀ k x, x < 256 ^ k → w3 k (w2 k (w1 k x)) = pw k x
  | 0, x, h => by
    have : x = 0 := by simp at h; exact h
    subst this
    decide
  | k + 1, x, h => by
    have hr : x % 256 < 256 := Nat.mod_lt _ (by decide)
    have hq : x / 256 < 256 ^ k := by
      rw [Nat.pow_succ] at h
      exact Nat.div_lt_of_lt_mul (by rw [Nat.mul_comm]; exact h)
    obtain ⟨c1, c2, c3, c4, c5, c6⟩ := pst3 (x % 256) hr
    have ih := w123 k (x / 256) hq
    have hl9 : w2 k (w1 k (x / 256)) % 16 ≤ 4 := w12_low k _ (by
      rcases Nat.eq_zero_or_pos k with h0 | h0
      · subst h0; right; simp at hq; omega
      · left; omega)
    rw [pw, ← ih, ← c1]
    conv => lhs; rw [show x = 256 * (x / 256) + x % 256 by omega]
    rw [w1_s k _ _ hr, w2_s k _ _ c2, w3_s k _ _ c3 c5 c6 hl9]
theorem pcn_split (k : Nat) : ∀ a m, pcn (a + k) m = pcn a (m % 2 ^ a) + pcn k (m / 2 ^ a)
  | 0, m => by simp [pcn]
  | a + 1, m => by
    rw [show a + 1 + k = a + k + 1 by omega, pcn, pcn, pcn_split k a (m / 2)]
    have h1 : m % 2 ^ (a + 1) % 2 = m % 2 := Nat.mod_mod_of_dvd m (Nat.dvd_of_mod_eq_zero (by rw [Nat.pow_succ]; simp))
    have h2 : m % 2 ^ (a + 1) / 2 = m / 2 % 2 ^ a := by rw [Nat.pow_succ, Nat.mul_comm]; exact Nat.mod_mul_right_div_self ..
    have h3 : m / 2 ^ (a + 1) = m / 2 / 2 ^ a := by rw [Nat.pow_succ, Nat.mul_comm, Nat.div_div_eq_div_mul]
    rw [h1, h2, h3]; omega
theorem pcn_le : ∀ k m, pcn k m ≤ k
  | 0, m => by simp [pcn]
  | k + 1, m => by have := pcn_le k (m / 2); rw [pcn]; omega
theorem pst6 {a b c d z y : Nat} (ha : a ≤ 8) (hb9 : b ≤ 8) (hc : c ≤ 8) (hd : d ≤ 8) (hz : z = 256 * (256 * (256 * (256 * 0 + d) + c) + b) + a) (hy : y = z + z >>> 8) : (y + y >>> 16) &&& 63 = a + b + c + d ∧ y + y >>> 16 < 4294967296 := by
  have e1 : z >>> 8 = z / 256 := Nat.shiftRight_eq_div_pow z 8
  have e2 : y >>> 16 = y / 65536 := Nat.shiftRight_eq_div_pow y 16
  have e3 : (y + y / 65536) &&& 63 = (y + y / 65536) % 64 := Nat.and_two_pow_sub_one_eq_mod _ 6
  rw [e2, e3]
  rw [e1] at hy
  clear e1 e2 e3
  have f1 : z / 256 = 256 * (256 * d + c) + b := by omega
  have f2 : y = 16777216 * d + 65536 * (c + d) + 256 * (b + c) + (a + b) := by omega
  have f3 : y / 65536 = 256 * d + (c + d) := by omega
  have f4 : y + y / 65536 = 64 * (262144 * d + 1024 * (c + d) + 4 * (b + c) + 4 * d) + (a + b + c + d) := by omega
  rw [f4]
  clear f1 f2 f3 f4 hy hz
  omega
theorem pst5 : ∀ a, a ≤ 8 → ∀ b, b ≤ 8 → ∀ c, c ≤ 8 → ∀ d, d ≤ 8 → (let z := 256 * (256 * (256 * (256 * 0 + d) + c) + b) + a; let y := z + z >>> 8; (y + y >>> 16) &&& 63 = a + b + c + d ∧ y + y >>> 16 < 4294967296) := fun a ha b hb9 c hc d hd => pst6 ha hb9 hc hd rfl rfl
/-- the ones of a row -/
def pcN (x : Int32) : Nat := pcn 32 x.toBitVec.toNat
theorem pcN_le (x : Int32) : pcN x ≤ 32 := pcn_le 32 _
theorem us_nat (x : Int32) {c : Nat} (h : c < 32) : (us x (nI c)).toBitVec.toNat = x.toBitVec.toNat >>> c := by
  show ((x.toUInt32 >>> ((nI c).toUInt32 &&& Int32.toUInt32 31)).toInt32).toBitVec.toNat = _
  rw [ush32 x h, BitVec.toNat_ushiftRight]
theorem and_nat (x y : Int32) : (x &&& y).toBitVec.toNat = x.toBitVec.toNat &&& y.toBitVec.toNat := by rw [Int32.toBitVec_and, BitVec.toNat_and]
theorem add_nat {x y : Int32} (h : x.toBitVec.toNat + y.toBitVec.toNat < 4294967296) : (x + y).toBitVec.toNat = x.toBitVec.toNat + y.toBitVec.toNat := by
  rw [Int32.toBitVec_add, BitVec.toNat_add]; exact Nat.mod_eq_of_lt h
theorem sub_nat {x y : Int32} (h : y.toBitVec.toNat ≤ x.toBitVec.toNat) : (x - y).toBitVec.toNat = x.toBitVec.toNat - y.toBitVec.toNat := by
  have h1 := x.toBitVec.isLt
  have h2 := y.toBitVec.isLt
  rw [Int32.toBitVec_sub, BitVec.toNat_sub]
  omega
theorem pw4 (x : Nat) : pw 4 x = 256 * (256 * (256 * (256 * 0 + pcn 8 (x / 256 / 256 / 256 % 256)) + pcn 8 (x / 256 / 256 % 256)) + pcn 8 (x / 256 % 256)) + pcn 8 (x % 256) := rfl
theorem pcn32 (x : Nat) (h : x < 4294967296) : pcn 32 x = pcn 8 (x % 256) + pcn 8 (x / 256 % 256) + pcn 8 (x / 256 / 256 % 256) + pcn 8 (x / 256 / 256 / 256 % 256) := by
  rw [show (32 : Nat) = 8 + (8 + (8 + (8 + 0))) from rfl, pcn_split, pcn_split, pcn_split, pcn_split]
  simp only [pcn]
  omega
theorem le_and {a b : Nat} : a &&& b ≤ b := Nat.and_le_right
theorem bcJ_n (x : Int32) : bcJ x = nI (pcN x) := by
  have hx : x.toBitVec.toNat < 256 ^ 4 := x.toBitVec.isLt
  have e0 := w123 4 _ hx
  have hx' : x.toBitVec.toNat < 4294967296 := x.toBitVec.isLt
  have e1 := pcn32 _ hx'
  obtain ⟨f1, f2⟩ := pst5 _ (pcn_le 8 (x.toBitVec.toNat % 256)) _ (pcn_le 8 (x.toBitVec.toNat / 256 % 256)) _ (pcn_le 8 (x.toBitVec.toNat / 256 / 256 % 256)) _ (pcn_le 8 (x.toBitVec.toNat / 256 / 256 / 256 % 256))
  rw [← pw4] at f1 f2
  rw [← e1] at f1
  have hle : x.toBitVec.toNat >>> 1 &&& 1431655765 ≤ x.toBitVec.toNat := Nat.le_trans Nat.and_le_left (by rw [Nat.shiftRight_eq_div_pow]; omega)
  have s1 : (x - (us x 1 &&& 1431655765)).toBitVec.toNat = w1 4 x.toBitVec.toNat := by
    rw [sub_nat (by rw [and_nat, show (us x 1) = us x (nI 1) from rfl, us_nat x (by decide)]; exact hle), and_nat, show (us x 1) = us x (nI 1) from rfl, us_nat x (by decide)]
    rfl
  unfold bcJ
  simp only
  generalize x - (us x 1 &&& 1431655765) = a at *
  have q2 : a.toBitVec.toNat &&& 858993459 ≤ 858993459 := le_and
  have q3 : a.toBitVec.toNat >>> 2 &&& 858993459 ≤ 858993459 := le_and
  have s2 : ((a &&& 858993459) + (us a 2 &&& 858993459)).toBitVec.toNat = w2 4 a.toBitVec.toNat := by
    have h1 : (a &&& 858993459).toBitVec.toNat = a.toBitVec.toNat &&& 858993459 := and_nat _ _
    have h2 : (us a 2 &&& 858993459).toBitVec.toNat = a.toBitVec.toNat >>> 2 &&& 858993459 := by rw [and_nat, show (us a 2) = us a (nI 2) from rfl, us_nat a (by decide)]; rfl
    rw [add_nat (by omega), h1, h2]
    rfl
  have b2 : ((a &&& 858993459) + (us a 2 &&& 858993459)).toBitVec.toNat ≤ 1717986918 := by
    rw [s2]; show (_ &&& 858993459) + (_ &&& 858993459) ≤ _; omega
  generalize (a &&& 858993459) + (us a 2 &&& 858993459) = b at *
  have s3 : ((b + us b 4) &&& 252645135).toBitVec.toNat = w3 4 b.toBitVec.toNat := by
    have h1 : (us b 4).toBitVec.toNat = b.toBitVec.toNat >>> 4 := us_nat b (c := 4) (by decide)
    have h2 : b.toBitVec.toNat >>> 4 ≤ b.toBitVec.toNat := by rw [Nat.shiftRight_eq_div_pow]; omega
    have h3 : b.toBitVec.toNat >>> 4 ≤ 1717986918 / 16 := by rw [Nat.shiftRight_eq_div_pow]; omega
    rw [and_nat, add_nat (by omega), h1]
    rfl
  rw [s2, s1, e0] at s3
  generalize (b + us b 4) &&& 252645135 = c at *
  rw [← s3] at f1 f2
  have hc : c.toBitVec.toNat ≤ 134744072 := by
    have p1 := pcn_le 8 (x.toBitVec.toNat % 256)
    have p2 := pcn_le 8 (x.toBitVec.toNat / 256 % 256)
    have p3 := pcn_le 8 (x.toBitVec.toNat / 256 / 256 % 256)
    have p4 := pcn_le 8 (x.toBitVec.toNat / 256 / 256 / 256 % 256)
    rw [s3, pw4]; omega
  have s4 : (c + us c 8).toBitVec.toNat = c.toBitVec.toNat + c.toBitVec.toNat >>> 8 := by
    have h1 : (us c 8).toBitVec.toNat = c.toBitVec.toNat >>> 8 := us_nat c (c := 8) (by decide)
    have h2 : c.toBitVec.toNat >>> 8 ≤ c.toBitVec.toNat := by rw [Nat.shiftRight_eq_div_pow]; omega
    rw [add_nat (by omega), h1]
  rw [← s4] at f1 f2
  have hd : (c + us c 8).toBitVec.toNat ≤ 269488144 := by
    have h2 : c.toBitVec.toNat >>> 8 ≤ c.toBitVec.toNat := by rw [Nat.shiftRight_eq_div_pow]; omega
    omega
  generalize c + us c 8 = d at *
  have s5 : (d + us d 16).toBitVec.toNat = d.toBitVec.toNat + d.toBitVec.toNat >>> 16 := by
    have h1 : (us d 16).toBitVec.toNat = d.toBitVec.toNat >>> 16 := us_nat d (c := 16) (by decide)
    have h2 : d.toBitVec.toNat >>> 16 ≤ d.toBitVec.toNat := by rw [Nat.shiftRight_eq_div_pow]; omega
    rw [add_nat (by omega), h1]
  apply Int32.toBitVec_inj.mp
  apply BitVec.eq_of_toNat_eq
  rw [and_nat, s5]
  have h9 : (63 : Int32).toBitVec.toNat = 63 := rfl
  rw [h9, f1]
  have h8 := pcN_le x
  show _ = (BitVec.ofInt 32 ((pcN x : Nat) : Int)).toNat
  unfold pcN at *
  simp
  omega
/-- the ones, bit by bit -/
def pcb (f : Nat → Bool) : Nat → Nat
  | 0 => 0
  | k + 1 => pcb f k + (f k).toNat
theorem pcb_s (f : Nat → Bool) : ∀ k, pcb f (k + 1) = (f 0).toNat + pcb (fun i => f (i + 1)) k
  | 0 => by simp [pcb]
  | k + 1 => by rw [pcb, pcb_s f k, pcb]; omega
theorem pcn_b : ∀ k m, pcn k m = pcb (fun i => m.testBit i) k
  | 0, m => rfl
  | k + 1, m => by
    rw [pcb_s, pcn, pcn_b k (m / 2)]
    congr 1
    · rw [Nat.testBit_zero]; rcases Nat.mod_two_eq_zero_or_one m with h | h <;> simp [h]
    · congr 1; funext i; rw [Nat.testBit_succ]
theorem pcN_b (x : Int32) : pcN x = pcb (hb x) 32 := pcn_b 32 _
theorem pcb_congr {f g : Nat → Bool} : ∀ k, (∀ i, i < k → f i = g i) → pcb f k = pcb g k
  | 0, _ => rfl
  | k + 1, h => by rw [pcb, pcb, pcb_congr k (fun i hi => h i (by omega)), h k (by omega)]
theorem pcb_clear (f : Nat → Bool) (t : Nat) (ht : f t = true) : ∀ k, pcb (fun i => f i && !decide (i = t)) k + (if t < k then 1 else 0) = pcb f k
  | 0 => by simp [pcb]
  | k + 1 => by
    have ih := pcb_clear f t ht k
    simp only [pcb]
    by_cases h : k = t
    · subst h
      rw [if_neg (by omega)] at ih
      rw [if_pos (by omega)]
      simp [ht]
      omega
    · by_cases h2 : t < k
      · rw [if_pos h2] at ih
        rw [if_pos (by omega)]
        simp [h]; omega
      · rw [if_neg h2] at ih
        rw [if_neg (by omega)]
        simp [h]; omega
theorem pcb_0 {f : Nat → Bool} : ∀ k, pcb f k = 0 → ∀ i, i < k → f i = false
  | 0, _, i, hi => by omega
  | k + 1, h, i, hi => by
    rw [pcb] at h
    by_cases e : i = k
    · subst e; cases hf : f i
      · rfl
      · rw [hf] at h; simp at h
    · exact pcb_0 k (by omega) i (by omega)
end
-- 24.ref
section
/-! the reference: its leaves -/
section
variable {l : Launch} {M : Mem} {n : Nat} {A : Nat → Nat → Int32}
theorem lN_nI {k : Nat} (h : k < 2147483648) : (nI k).toInt64 = lN k := nI_l h
/-- the reference's object, its size, its rows -/
def Rr (M : Mem) (n : Nat) (A : Nat → Nat → Int32) : Prop := Shp M ∧ mL M 199 0 = lN n ∧ 1 ≤ n ∧ n ≤ 32 ∧ ∀ s r, s < 6 → r < n → mL M 199 (28 + 32 * s + r) = uL (A s r)
/-- what was thrown -/
def thr (M : Mem) (x : Int32) : Mem := pI M 198 6 x
theorem Rr.thr {x : Int32} (h : Rr M n A) : Rr (thr M x) n A := h
theorem thr_2 {x y : Int32} : thr (thr M x) y = thr M y := sI_st (fs_twice _ _ _ _)
theorem r_in_t {x a b : Int64} (h1 : a ≤ x) (h2 : x ≤ b) : EvR l jX7_in 0 0 0 0 [.long x, .long a, .long b] M (.inl (some (.int 1))) M := by
  refine ev_intro rfl (nb rfl) rfl ?_
  refine g_lload_n (pc := 0) dX7_in_0 rfl ?_
  refine g_lload_n (pc := 1) dX7_in_1 rfl ?_
  refine g_lcmp (pc := 2) dX7_in_2 ?_
  refine g_if_lt (pc := 3) (tgt := 17) dX7_in_3 rfl (fun h3 => absurd h3 ((fun h => Int64.not_lt.mpr h1 ((lg_cmp_lt _ _).mp h)))) (fun _ => ?_)
  refine g_lload_n (pc := 6) dX7_in_6 rfl ?_
  refine g_lload (pc := 7) dX7_in_7 rfl ?_
  refine g_lcmp (pc := 9) dX7_in_9 ?_
  refine g_if_gt (pc := 10) (tgt := 17) dX7_in_10 rfl (fun h10 => absurd h10 ((fun h => Int64.not_lt.mpr h2 ((lg_cmp_gt _ _).mp h)))) (fun _ => ?_)
  refine g_iconst (pc := 13) (v := 1) dX7_in_13 rfl ?_
  refine g_goto (pc := 14) (tgt := 18) dX7_in_14 rfl ?_
  refine g_ireturn (pc := 18) dX7_in_18 rfl rfl ?_
  exact ⟨rfl, rfl⟩
theorem r_in_f {x a b : Int64} (h : ¬ (a ≤ x ∧ x ≤ b)) : EvR l jX7_in 0 0 0 0 [.long x, .long a, .long b] M (.inl (some (.int 0))) M := by
  refine ev_intro rfl (nb rfl) rfl ?_
  by_cases h1 : a ≤ x
  · refine g_lload_n (pc := 0) dX7_in_0 rfl ?_
    refine g_lload_n (pc := 1) dX7_in_1 rfl ?_
    refine g_lcmp (pc := 2) dX7_in_2 ?_
    refine g_if_lt (pc := 3) (tgt := 17) dX7_in_3 rfl (fun h3 => absurd h3 ((fun h => Int64.not_lt.mpr h1 ((lg_cmp_lt _ _).mp h)))) (fun _ => ?_)
    refine g_lload_n (pc := 6) dX7_in_6 rfl ?_
    refine g_lload (pc := 7) dX7_in_7 rfl ?_
    refine g_lcmp (pc := 9) dX7_in_9 ?_
    refine g_if_gt (pc := 10) (tgt := 17) dX7_in_10 rfl (fun _ => ?_) (fun h10 => absurd ((lg_cmp_gt _ _).mpr (Int64.not_le.mp (fun h2 => h ⟨h1, h2⟩))) h10)
    refine g_iconst (pc := 17) (v := 0) dX7_in_17 rfl ?_
    refine g_ireturn (pc := 18) dX7_in_18 rfl rfl ?_
    exact ⟨rfl, rfl⟩
  · refine g_lload_n (pc := 0) dX7_in_0 rfl ?_
    refine g_lload_n (pc := 1) dX7_in_1 rfl ?_
    refine g_lcmp (pc := 2) dX7_in_2 ?_
    refine g_if_lt (pc := 3) (tgt := 17) dX7_in_3 rfl (fun _ => ?_) (fun h3 => absurd ((lg_cmp_lt _ _).mpr (Int64.not_le.mp h1)) h3)
    refine g_iconst (pc := 17) (v := 0) dX7_in_17 rfl ?_
    refine g_ireturn (pc := 18) dX7_in_18 rfl rfl ?_
    exact ⟨rfl, rfl⟩
theorem inR_int {v : Int32} {k : Nat} (hk : k < 2147483648) : inR v k ↔ 0 ≤ v.toInt ∧ v.toInt < k := by
  unfold inR
  rw [Int32.not_lt, Int32.le_iff_toInt_le, Int32.lt_iff_toInt_lt, nI_toInt (by omega)]
  rfl
theorem inR_long {v : Int32} {k : Nat} (hk : k < 2147483647) : (0 ≤ v.toInt64 ∧ v.toInt64 ≤ lN k) ↔ inR v (k + 1) := by
  rw [inR_int (by omega), Int64.le_iff_toInt_le, Int64.le_iff_toInt_le, Int32.toInt_toInt64, lN_toInt (by omega), show (0 : Int64).toInt = 0 from rfl]
  omega
theorem r_isSlot_t {v : Int32} (h : inR v 6) : EvR l jX7_isSlot 1 30 0 0 [.int v] M (.inl (some (.int 1))) M := by
  obtain ⟨h1, h2⟩ := (inR_long (k := 5) (by decide)).mpr h
  refine ev_intro rfl (nb rfl) rfl ?_
  refine g_iload_n (pc := 0) dX7_isSlot_0 rfl ?_
  refine g_i2l (pc := 1) dX7_isSlot_1 rfl ?_
  refine g_lconst (pc := 2) (v := 0) dX7_isSlot_2 rfl ?_
  refine g_ldc2 (pc := 3) dX7_isSlot_3 wd_1444 ?_
  refine g_invS_r (pc := 6) (As := [_, _, _]) dX7_isSlot_6 rfl (r_in_t h1 h2) rfl rfl lk_X7_67 rfl (nb rfl) ⟨nb rfl, nb rfl⟩ rfl ?_
  refine g_ireturn (pc := 9) dX7_isSlot_9 rfl rfl ?_
  exact ⟨rfl, rfl⟩
theorem r_isSlot_f {v : Int32} (h : ¬ inR v 6) : EvR l jX7_isSlot 1 30 0 0 [.int v] M (.inl (some (.int 0))) M := by
  refine ev_intro rfl (nb rfl) rfl ?_
  refine g_iload_n (pc := 0) dX7_isSlot_0 rfl ?_
  refine g_i2l (pc := 1) dX7_isSlot_1 rfl ?_
  refine g_lconst (pc := 2) (v := 0) dX7_isSlot_2 rfl ?_
  refine g_ldc2 (pc := 3) dX7_isSlot_3 wd_1444 ?_
  refine g_invS_r (pc := 6) (As := [_, _, _]) dX7_isSlot_6 rfl (r_in_f (fun q => h ((inR_long (k := 5) (by decide)).mp q))) rfl rfl lk_X7_67 rfl (nb rfl) ⟨nb rfl, nb rfl⟩ rfl ?_
  refine g_ireturn (pc := 9) dX7_isSlot_9 rfl rfl ?_
  exact ⟨rfl, rfl⟩
theorem lN_32 {k : Nat} (h : k < 2147483648) : (lN k).toInt32 = nI k := by
  rw [← lN_nI h]
  exact Int32.toInt32_toInt64 _
theorem r_size (h : Rr M n A) : EvR l jX7_size 0 0 0 0 [.ref 198] M (.inl (some (.int (nI n)))) M := by
  have h1 := lN_32 (k := n) (by have := h.2.2.2.1; omega)
  rw [← h1, ← h.2.1]
  have hS := h.1
  refine ev_intro rfl (nb rfl) rfl ?_
  refine g_aload_n (pc := 0) dX7_size_0 rfl trivial ?_
  refine g_getf (pc := 1) dX7_size_1 fk_X7_9 (shK hS rfl) (fv_arr (shR hS rfl)) ?_
  refine g_iconst (pc := 4) (v := 0) dX7_size_4 rfl ?_
  refine g_laload (pc := 5) dX7_size_5 (shK hS rfl) rfl (by decide) (nl rfl) ?_
  refine g_l2i (pc := 6) dX7_size_6 rfl ?_
  refine g_ireturn (pc := 7) dX7_size_7 rfl rfl ?_
  exact ⟨rfl, rfl⟩
theorem n_l (h : Rr M n A) : (nI n - 1).toInt64 = lN (n - 1) := by
  rw [nI_m1 h.2.2.1]
  exact lN_nI (by have := h.2.2.2.1; omega)
theorem r_isNode_t {v : Int32} (h : Rr M n A) (hv : inR v n) : EvR l jX7_isNode 1 30 0 0 [.ref 198, .int v] M (.inl (some (.int 1))) M := by
  have hn := h.2.2.2.1
  have h0 := h.2.2.1
  obtain ⟨h1, h2⟩ := (inR_long (k := n - 1) (by omega)).mpr (by rw [show n - 1 + 1 = n by omega]; exact hv)
  rw [← n_l h] at h2
  have hS := h.1
  refine ev_intro rfl (nb rfl) rfl ?_
  refine g_iload_n (pc := 0) dX7_isNode_0 rfl ?_
  refine g_i2l (pc := 1) dX7_isNode_1 rfl ?_
  refine g_lconst (pc := 2) (v := 0) dX7_isNode_2 rfl ?_
  refine g_aload_n (pc := 3) dX7_isNode_3 rfl trivial ?_
  refine g_invV_r (pc := 4) (As := []) dX7_isNode_4 rfl (r_size h) rfl rfl (shK hS rfl) rfl rfl lk_X7_71 rfl (nb rfl) ⟨nb rfl, nb rfl⟩ rfl ?_
  refine g_iconst (pc := 7) (v := 1) dX7_isNode_7 rfl ?_
  refine g_isub (pc := 8) dX7_isNode_8 ?_
  refine g_i2l (pc := 9) dX7_isNode_9 rfl ?_
  refine g_invS_r (pc := 10) (As := [_, _, _]) dX7_isNode_10 rfl (r_in_t h1 h2) rfl rfl lk_X7_67 rfl (nb rfl) ⟨nb rfl, nb rfl⟩ rfl ?_
  refine g_ireturn (pc := 13) dX7_isNode_13 rfl rfl ?_
  exact ⟨rfl, rfl⟩
theorem r_isNode_f {v : Int32} (h : Rr M n A) (hv : ¬ inR v n) : EvR l jX7_isNode 1 30 0 0 [.ref 198, .int v] M (.inl (some (.int 0))) M := by
  have hn := h.2.2.2.1
  have h0 := h.2.2.1
  have h2 := not_congr (inR_long (v := v) (k := n - 1) (by omega))
  rw [show n - 1 + 1 = n by omega, ← n_l h] at h2
  have hS := h.1
  refine ev_intro rfl (nb rfl) rfl ?_
  refine g_iload_n (pc := 0) dX7_isNode_0 rfl ?_
  refine g_i2l (pc := 1) dX7_isNode_1 rfl ?_
  refine g_lconst (pc := 2) (v := 0) dX7_isNode_2 rfl ?_
  refine g_aload_n (pc := 3) dX7_isNode_3 rfl trivial ?_
  refine g_invV_r (pc := 4) (As := []) dX7_isNode_4 rfl (r_size h) rfl rfl (shK hS rfl) rfl rfl lk_X7_71 rfl (nb rfl) ⟨nb rfl, nb rfl⟩ rfl ?_
  refine g_iconst (pc := 7) (v := 1) dX7_isNode_7 rfl ?_
  refine g_isub (pc := 8) dX7_isNode_8 ?_
  refine g_i2l (pc := 9) dX7_isNode_9 rfl ?_
  refine g_invS_r (pc := 10) (As := [_, _, _]) dX7_isNode_10 rfl (r_in_f (h2.mpr hv)) rfl rfl lk_X7_67 rfl (nb rfl) ⟨nb rfl, nb rfl⟩ rfl ?_
  refine g_ireturn (pc := 13) dX7_isNode_13 rfl rfl ?_
  exact ⟨rfl, rfl⟩
theorem r_areIn_t {v w : Int32} (h : Rr M n A) (hv : inR v 6) (hw : inR w n) : EvR l jX7_areIn 2 60 0 0 [.ref 198, .int v, .int w] M (.inl (some (.int 1))) M := by
  have hS := h.1
  refine ev_intro rfl (nb rfl) rfl ?_
  refine g_iload_n (pc := 0) dX7_areIn_0 rfl ?_
  refine g_invS_r (pc := 1) (As := [_]) dX7_areIn_1 rfl (r_isSlot_t hv) rfl rfl lk_X7_216 rfl (nb rfl) ⟨nb rfl, nb rfl⟩ rfl ?_
  refine g_if_eq (pc := 4) (tgt := 19) dX7_areIn_4 rfl (fun h4 => absurd h4 ((by decide))) (fun _ => ?_)
  refine g_aload_n (pc := 7) dX7_areIn_7 rfl trivial ?_
  refine g_iload_n (pc := 8) dX7_areIn_8 rfl ?_
  refine g_invV_r (pc := 9) (As := [_]) dX7_areIn_9 rfl (r_isNode_t h hw) rfl rfl (shK hS rfl) rfl rfl lk_X7_220 rfl (nb rfl) ⟨nb rfl, nb rfl⟩ rfl ?_
  refine g_if_eq (pc := 12) (tgt := 19) dX7_areIn_12 rfl (fun h12 => absurd h12 ((by decide))) (fun _ => ?_)
  refine g_iconst (pc := 15) (v := 1) dX7_areIn_15 rfl ?_
  refine g_goto (pc := 16) (tgt := 20) dX7_areIn_16 rfl ?_
  refine g_ireturn (pc := 20) dX7_areIn_20 rfl rfl ?_
  exact ⟨rfl, rfl⟩
theorem r_areIn_f {v w : Int32} (h : Rr M n A) (hv : ¬ (inR v 6 ∧ inR w n)) : EvR l jX7_areIn 2 60 0 0 [.ref 198, .int v, .int w] M (.inl (some (.int 0))) M := by
  have hS := h.1
  refine ev_intro rfl (nb rfl) rfl ?_
  by_cases h1 : inR v 6
  · refine g_iload_n (pc := 0) dX7_areIn_0 rfl ?_
    refine g_invS_r (pc := 1) (As := [_]) dX7_areIn_1 rfl (r_isSlot_t h1) rfl rfl lk_X7_216 rfl (nb rfl) ⟨nb rfl, nb rfl⟩ rfl ?_
    refine g_if_eq (pc := 4) (tgt := 19) dX7_areIn_4 rfl (fun h4 => absurd h4 ((by decide))) (fun _ => ?_)
    refine g_aload_n (pc := 7) dX7_areIn_7 rfl trivial ?_
    refine g_iload_n (pc := 8) dX7_areIn_8 rfl ?_
    refine g_invV_r (pc := 9) (As := [_]) dX7_areIn_9 rfl (r_isNode_f h (fun q => hv ⟨h1, q⟩)) rfl rfl (shK hS rfl) rfl rfl lk_X7_220 rfl (nb rfl) ⟨nb rfl, nb rfl⟩ rfl ?_
    refine g_if_eq (pc := 12) (tgt := 19) dX7_areIn_12 rfl (fun _ => ?_) (fun h12 => absurd (rfl) h12)
    refine g_iconst (pc := 19) (v := 0) dX7_areIn_19 rfl ?_
    refine g_ireturn (pc := 20) dX7_areIn_20 rfl rfl ?_
    exact ⟨rfl, rfl⟩
  · refine g_iload_n (pc := 0) dX7_areIn_0 rfl ?_
    refine g_invS_r (pc := 1) (As := [_]) dX7_areIn_1 rfl (r_isSlot_f h1) rfl rfl lk_X7_216 rfl (nb rfl) ⟨nb rfl, nb rfl⟩ rfl ?_
    refine g_if_eq (pc := 4) (tgt := 19) dX7_areIn_4 rfl (fun _ => ?_) (fun h4 => absurd (rfl) h4)
    refine g_iconst (pc := 19) (v := 0) dX7_areIn_19 rfl ?_
    refine g_ireturn (pc := 20) dX7_areIn_20 rfl rfl ?_
    exact ⟨rfl, rfl⟩
theorem r_isThrown_0 {x : Int32} (hS : Shp M) : EvR l jX7_isThrown 0 0 0 0 [.ref 198, .int 1, .int x] M (.inl (some (.int 0))) (thr M 0) := by
  refine ev_intro rfl (nb rfl) rfl ?_
  refine g_aload_n (pc := 0) dX7_isThrown_0 rfl trivial ?_
  refine g_iload_n (pc := 1) dX7_isThrown_1 rfl ?_
  refine g_if_eq (pc := 2) (tgt := 9) dX7_isThrown_2 rfl (fun h2 => absurd h2 ((by decide))) (fun _ => ?_)
  refine g_iconst (pc := 5) (v := 0) dX7_isThrown_5 rfl ?_
  refine g_goto (pc := 6) (tgt := 10) dX7_isThrown_6 rfl ?_
  refine g_putI (pc := 10) dX7_isThrown_10 fp_X7_60 (shK hS rfl) ⟨rfl, rfl⟩ (fun _ _ _ _ => rfl) ?_
  refine g_iload_n (pc := 13) dX7_isThrown_13 rfl ?_
  refine g_if_ne (pc := 14) (tgt := 21) dX7_isThrown_14 rfl (fun _ => ?_) (fun h14 => absurd ((by decide)) h14)
  refine g_iconst (pc := 21) (v := 0) dX7_isThrown_21 rfl ?_
  refine g_ireturn (pc := 22) dX7_isThrown_22 rfl rfl ?_
  exact ⟨rfl, rfl⟩
theorem r_isThrown_1 {x : Int32} (hS : Shp M) : EvR l jX7_isThrown 0 0 0 0 [.ref 198, .int 0, .int x] M (.inl (some (.int 1))) (thr M x) := by
  refine ev_intro rfl (nb rfl) rfl ?_
  refine g_aload_n (pc := 0) dX7_isThrown_0 rfl trivial ?_
  refine g_iload_n (pc := 1) dX7_isThrown_1 rfl ?_
  refine g_if_eq (pc := 2) (tgt := 9) dX7_isThrown_2 rfl (fun _ => ?_) (fun h2 => absurd (rfl) h2)
  refine g_iload_n (pc := 9) dX7_isThrown_9 rfl ?_
  refine g_putI (pc := 10) dX7_isThrown_10 fp_X7_60 (shK hS rfl) ⟨rfl, rfl⟩ (fun _ _ _ _ => rfl) ?_
  refine g_iload_n (pc := 13) dX7_isThrown_13 rfl ?_
  refine g_if_ne (pc := 14) (tgt := 21) dX7_isThrown_14 rfl (fun h14 => absurd h14 ((fun q => q rfl))) (fun _ => ?_)
  refine g_iconst (pc := 17) (v := 1) dX7_isThrown_17 rfl ?_
  refine g_goto (pc := 18) (tgt := 22) dX7_isThrown_18 rfl ?_
  refine g_ireturn (pc := 22) dX7_isThrown_22 rfl rfl ?_
  exact ⟨rfl, rfl⟩
theorem nI_mul (a b : Nat) : nI a * nI b = nI (a * b) := (Int32.ofNat_mul a b).symm
theorem ixR (s r : Nat) : 28 + 32 * nI s + nI r = nI (28 + 32 * s + r) := by
  rw [show (28 : Int32) = nI 28 from rfl, show (32 : Int32) = nI 32 from rfl, nI_mul, nI_add, nI_add]
theorem ixR' (s r : Nat) : nI 28 + nI 32 * nI s + nI r = nI (28 + 32 * s + r) := by rw [nI_mul, nI_add, nI_add]
theorem r_rowOf {s r : Nat} (h : Rr M n A) (hs : s < 6) (hr : r < n) : EvR l jX7_rowOf 0 0 0 0 [.ref 198, .int (nI s), .int (nI r)] M (.inl (some (.long (uL (A s r))))) M := by
  have hS := h.1
  have hn := h.2.2.2.1
  have e := h.2.2.2.2 s r hs hr
  rw [← e]
  refine ev_intro rfl (nb rfl) rfl ?_
  refine g_aload_n (pc := 0) dX7_rowOf_0 rfl trivial ?_
  refine g_getf (pc := 1) dX7_rowOf_1 fk_X7_9 (shK hS rfl) (fv_arr (shR hS rfl)) ?_
  refine g_bipush (pc := 4) (v := 28) dX7_rowOf_4 rfl ?_
  refine g_bipush (pc := 6) (v := 32) dX7_rowOf_6 rfl ?_
  refine g_iload_n (pc := 8) dX7_rowOf_8 rfl ?_
  refine g_imul (pc := 9) dX7_rowOf_9 ?_
  refine g_iadd (pc := 10) dX7_rowOf_10 ?_
  refine g_iload_n (pc := 11) dX7_rowOf_11 rfl ?_
  refine g_iadd (pc := 12) dX7_rowOf_12 ?_
  refine g_laload (pc := 13) dX7_rowOf_13 (shK hS rfl) (ixR s r) (show 28 + 32 * s + r < 220 by omega) (nl rfl) ?_
  refine g_lreturn (pc := 14) dX7_rowOf_14 rfl ?_
  exact ⟨rfl, rfl⟩
theorem r_one {x : Int32} {c : Nat} (hc : c < 32) : EvR l jX7_one 0 0 0 0 [.long (uL x), .int (nI c)] M (.inl (some (.int (b1 (hb x c))))) M := by
  refine ev_intro rfl (nb rfl) rfl ?_
  refine g_lload_n (pc := 0) dX7_one_0 rfl ?_
  refine g_iload_n (pc := 1) dX7_one_1 rfl ?_
  refine g_lshr (pc := 2) dX7_one_2 rfl ?_
  refine g_lconst (pc := 3) (v := 1) dX7_one_3 rfl ?_
  refine g_land (pc := 4) dX7_one_4 ?_
  rw [uL_one x hc]
  refine g_l2i (pc := 5) dX7_one_5 (uL_b1 _) ?_
  refine g_ireturn (pc := 6) dX7_one_6 rfl rfl ?_
  exact ⟨rfl, rfl⟩
theorem r_all (h : Rr M n A) : EvR l jX7_all 1 20 0 0 [.ref 198] M (.inl (some (.long (uL (lowM n))))) M := by
  rw [← sh_low n h.2.2.2.1]
  have hS := h.1
  refine ev_intro rfl (nb rfl) rfl ?_
  refine g_lconst (pc := 0) (v := 1) dX7_all_0 rfl ?_
  refine g_aload_n (pc := 1) dX7_all_1 rfl trivial ?_
  refine g_invV_r (pc := 2) (As := []) dX7_all_2 rfl (r_size h) rfl rfl (shK hS rfl) rfl rfl lk_X7_71 rfl (nb rfl) ⟨nb rfl, nb rfl⟩ rfl ?_
  refine g_lshl (pc := 5) dX7_all_5 rfl ?_
  refine g_lconst (pc := 6) (v := 1) dX7_all_6 rfl ?_
  refine g_lsub (pc := 7) dX7_all_7 ?_
  refine g_lreturn (pc := 8) dX7_all_8 rfl ?_
  exact ⟨rfl, rfl⟩
/-- the lowest one goes -/
theorem low_clear : ∀ (k : Nat) (m : Nat), 0 < m → m < 2 ^ k → ∃ t, t < k ∧ m.testBit t = true ∧ ∀ i, (m &&& (m - 1)).testBit i = (m.testBit i && !decide (i = t))
  | 0, m, h, h2 => by simp at h2; omega
  | k + 1, m, h, h2 => by
    by_cases ho : m % 2 = 1
    · refine ⟨0, by omega, by rw [Nat.testBit_zero]; simp [ho], fun i => ?_⟩
      rw [Nat.testBit_and]
      cases i with
      | zero => rw [Nat.testBit_zero, Nat.testBit_zero]; simp [show (m - 1) % 2 = 0 by omega]
      | succ i => rw [Nat.testBit_succ, Nat.testBit_succ, show (m - 1) / 2 = m / 2 by omega]; simp
    · rw [Nat.pow_succ] at h2
      obtain ⟨t, a1, a2, a3⟩ := low_clear k (m / 2) (by omega) (by omega)
      refine ⟨t + 1, by omega, by rw [Nat.testBit_succ]; exact a2, fun i => ?_⟩
      cases i with
      | zero => rw [Nat.testBit_and, Nat.testBit_zero, Nat.testBit_zero]; simp [show m % 2 = 0 by omega]
      | succ i =>
        have := a3 i
        rw [Nat.testBit_and] at this ⊢
        rw [Nat.testBit_succ, Nat.testBit_succ, show (m - 1) / 2 = m / 2 - 1 by omega, this]
        simp
theorem uL_nat (x : Int32) : (uL x).toBitVec.toNat = x.toBitVec.toNat := by
  apply Nat.eq_of_testBit_eq
  intro i
  have h := hl_uL x i
  unfold hl hb at h
  rw [← BitVec.testBit_toNat, ← BitVec.testBit_toNat] at h
  rw [h]
  by_cases h2 : i < 32
  · simp [h2]
  · simp only [h2, decide_false, Bool.false_and]
    exact (Nat.testBit_lt_two_pow (Nat.lt_of_lt_of_le x.toBitVec.isLt (Nat.pow_le_pow_right (by decide) (by omega)))).symm
theorem pop_step {y : Int32} (h : y ≠ 0) : ∃ z : Int32, uL y &&& (uL y - 1) = uL z ∧ pcN z + 1 = pcN y := by
  have h0 : 0 < y.toBitVec.toNat := Nat.pos_of_ne_zero (fun q => h (Int32.toBitVec_inj.mp (BitVec.eq_of_toNat_eq q)))
  obtain ⟨t, a1, a2, a3⟩ := low_clear 32 y.toBitVec.toNat h0 y.toBitVec.isLt
  have e : (uL y - 1).toBitVec.toNat = y.toBitVec.toNat - 1 := by
    rw [Int64.toBitVec_sub, BitVec.toNat_sub, uL_nat]
    have := y.toBitVec.isLt
    show (18446744073709551616 - 1 + y.toBitVec.toNat) % 18446744073709551616 = _
    omega
  refine ⟨y &&& (y ^^^ bitI t), hl_ext fun i hi => ?_, ?_⟩
  · have h3 := a3 i
    have h4 : hl (uL y &&& (uL y - 1)) i = (y.toBitVec.toNat &&& (y.toBitVec.toNat - 1)).testBit i := by
      unfold hl
      rw [← BitVec.testBit_toNat, Int64.toBitVec_and, BitVec.toNat_and, e, uL_nat]
    rw [h4, h3, hl_uL, hb_and, hb_xor, hb_bitI a1]
    have h5 : y.toBitVec.toNat.testBit i = hb y i := BitVec.testBit_toNat y.toBitVec
    rw [h5]
    by_cases h6 : i < 32
    · by_cases h7 : i = t
      · subst h7; cases hb y i <;> simp [h6]
      · cases hb y i <;> simp [h6, h7]
    · rw [hb_ge (by omega)]; simp
  · rw [pcN_b, pcN_b]
    have h5 : hb y t = true := (BitVec.testBit_toNat y.toBitVec).symm.trans a2
    have h6 := pcb_clear (hb y) t h5 32
    rw [if_pos a1] at h6
    rw [← h6]
    congr 1
    apply pcb_congr
    intro i hi
    rw [hb_and, hb_xor, hb_bitI a1]
    by_cases h7 : i = t
    · subst h7; cases hb y i <;> simp
    · cases hb y i <;> simp [h7]
theorem r_bitsOf {x : Int32} : EvR l jX7_bitsOf 0 0 0 0 [.long (uL x)] M (.inl (some (.int (bcJ x)))) M := by
  rw [bcJ_n]
  obtain ⟨P, hP⟩ : ∃ P, P = pcN x := ⟨_, rfl⟩
  rw [← hP]
  refine ev_intro rfl (nb rfl) rfl ?_
  refine g_iconst (pc := 0) (v := 0) dX7_bitsOf_0 rfl ?_
  refine g_istore_n (pc := 1) (lv' := [(0, _), (2, _)]) dX7_bitsOf_1 (nl rfl) rfl ?_
  refine g_lload_n (pc := 2) dX7_bitsOf_2 rfl ?_
  refine g_lstore_n (pc := 3) (lv' := [(0, _), (2, _), (3, _)]) dX7_bitsOf_3 (nl rfl) rfl ?_
  refine go_while (pc := 4) (σ := Nat × Int32) (fun s => s.1 + pcN s.2 = P) (fun s => pcN s.2) (fun s => [(2, .int (nI s.1)), (3, .long (uL s.2))]) (fun _ => M) (0, x) ⟨rfl, rfl, trivial⟩ rfl (by simp only; omega) ?_
  rintro ⟨m, y⟩ h1 ih
  simp only at h1 ih
  by_cases h : y = 0
  · have h2 : pcN y = 0 := by rw [h]; decide +kernel
    have h3 : m = P := by omega
    subst h3
    refine g_lload_n (pc := 4) dX7_bitsOf_4 rfl ?_
    refine g_lconst (pc := 5) (v := 0) dX7_bitsOf_5 rfl ?_
    refine g_lcmp (pc := 6) dX7_bitsOf_6 ?_
    refine g_if_eq (pc := 7) (tgt := 22) dX7_bitsOf_7 rfl (fun _ => ?_) (fun h7 => absurd ((lg_cmp_eq _ _).mpr (uL_eq0.mpr h)) h7)
    refine g_iload_n (pc := 22) dX7_bitsOf_22 rfl ?_
    refine g_ireturn (pc := 23) dX7_bitsOf_23 rfl rfl ?_
    exact ⟨rfl, rfl⟩
  · obtain ⟨z, e1, e2⟩ := pop_step h
    refine g_lload_n (pc := 4) dX7_bitsOf_4 rfl ?_
    refine g_lconst (pc := 5) (v := 0) dX7_bitsOf_5 rfl ?_
    refine g_lcmp (pc := 6) dX7_bitsOf_6 ?_
    refine g_if_eq (pc := 7) (tgt := 22) dX7_bitsOf_7 rfl (fun h7 => absurd h7 ((fun q => h (uL_eq0.mp ((lg_cmp_eq _ _).mp q))))) (fun _ => ?_)
    refine g_iinc (pc := 10) (lv' := [(2, _), (3, _)]) dX7_bitsOf_10 rfl (nI_1 _) (nl rfl) rfl ?_
    refine g_lload_n (pc := 13) dX7_bitsOf_13 rfl ?_
    refine g_lload_n (pc := 14) dX7_bitsOf_14 rfl ?_
    refine g_lconst (pc := 15) (v := 1) dX7_bitsOf_15 rfl ?_
    refine g_lsub (pc := 16) dX7_bitsOf_16 ?_
    refine g_land (pc := 17) dX7_bitsOf_17 ?_
    rw [e1]
    refine g_lstore_n (pc := 18) (lv' := [(2, _), (3, _)]) dX7_bitsOf_18 (nl rfl) rfl ?_
    refine g_goto (pc := 19) (tgt := 4) dX7_bitsOf_19 rfl ?_
    exact ih (m + 1, z) (by simp only; omega) (by simp only; omega)
end
end
-- 25.rq
section
/-! the reference: queries on rows -/
section
variable {l : Launch} {M : Mem} {n : Nat} {A : Nat → Nat → Int32}
/-- rows hold no one beyond the size -/
def wfA (n : Nat) (A : Nat → Nat → Int32) : Prop := ∀ s r, s < 6 → r < n → ∀ c, n ≤ c → hb (A s r) c = false
theorem n_bit {s r c : Nat} (h : Rr M n A) (hs : s < 6) (hr : r < n) (hc : c < n) : EvR l jX7_bit 4 160 0 0 [.ref 198, .int (nI s), .int (nI r), .int (nI c)] M (.inl (some (.int (b1 (hb (A s r) c))))) (thr M 0) := by
  have hn := h.2.2.2.1
  have hS := h.1
  refine ev_intro rfl (nb rfl) rfl ?_
  refine g_aload_n (pc := 0) dX7_bit_0 rfl trivial ?_
  refine g_aload_n (pc := 1) dX7_bit_1 rfl trivial ?_
  refine g_iload_n (pc := 2) dX7_bit_2 rfl ?_
  refine g_iload_n (pc := 3) dX7_bit_3 rfl ?_
  refine g_invV_r (pc := 4) (As := [_, _]) dX7_bit_4 rfl (r_areIn_t h (in6 hs) (inR_nI hr (by omega))) rfl rfl (shK hS rfl) rfl rfl lk_X7_223 rfl (nb rfl) ⟨nb rfl, nb rfl⟩ rfl ?_
  refine g_if_eq (pc := 7) (tgt := 22) dX7_bit_7 rfl (fun h7 => absurd h7 ((by decide))) (fun _ => ?_)
  refine g_aload_n (pc := 10) dX7_bit_10 rfl trivial ?_
  refine g_iload_n (pc := 11) dX7_bit_11 rfl ?_
  refine g_invV_r (pc := 12) (As := [_]) dX7_bit_12 rfl (r_isNode_t h (inR_nI hc (by omega))) rfl rfl (shK hS rfl) rfl rfl lk_X7_220 rfl (nb rfl) ⟨nb rfl, nb rfl⟩ rfl ?_
  refine g_if_eq (pc := 15) (tgt := 22) dX7_bit_15 rfl (fun h15 => absurd h15 ((by decide))) (fun _ => ?_)
  refine g_iconst (pc := 18) (v := 1) dX7_bit_18 rfl ?_
  refine g_goto (pc := 19) (tgt := 23) dX7_bit_19 rfl ?_
  refine g_iconst (pc := 23) (v := 1) dX7_bit_23 rfl ?_
  refine g_invV_r (pc := 24) (As := [_, _]) dX7_bit_24 rfl (r_isThrown_0 hS) rfl rfl (shK hS rfl) rfl rfl lk_X7_209 rfl (nb rfl) ⟨nb rfl, nb rfl⟩ rfl ?_
  refine g_if_eq (pc := 27) (tgt := 34) dX7_bit_27 rfl (fun _ => ?_) (fun h27 => absurd (rfl) h27)
  refine g_aload_n (pc := 34) dX7_bit_34 rfl trivial ?_
  refine g_iload_n (pc := 35) dX7_bit_35 rfl ?_
  refine g_iload_n (pc := 36) dX7_bit_36 rfl ?_
  refine g_invV_r (pc := 37) (As := [_, _]) dX7_bit_37 rfl (r_rowOf h.thr hs hr) rfl rfl (shK hS rfl) rfl rfl lk_X7_227 rfl (nb rfl) ⟨nb rfl, nb rfl⟩ rfl ?_
  refine g_iload_n (pc := 40) dX7_bit_40 rfl ?_
  refine g_invS_r (pc := 41) (As := [_, _]) dX7_bit_41 rfl (r_one (by omega)) rfl rfl lk_X7_231 rfl (nb rfl) ⟨nb rfl, nb rfl⟩ rfl ?_
  refine g_ireturn (pc := 44) dX7_bit_44 rfl rfl ?_
  exact ⟨rfl, rfl⟩
theorem t_bit {v w u : Int32} (h : Rr M n A) (hx : ¬ (inR v 6 ∧ inR w n ∧ inR u n)) : EvR l jX7_bit 4 160 0 0 [.ref 198, .int v, .int w, .int u] M (.inl (some (.int 0))) (thr M 1) := by
  have hS := h.1
  refine ev_intro rfl (nb rfl) rfl ?_
  by_cases h1 : inR v 6 ∧ inR w n
  · refine g_aload_n (pc := 0) dX7_bit_0 rfl trivial ?_
    refine g_aload_n (pc := 1) dX7_bit_1 rfl trivial ?_
    refine g_iload_n (pc := 2) dX7_bit_2 rfl ?_
    refine g_iload_n (pc := 3) dX7_bit_3 rfl ?_
    refine g_invV_r (pc := 4) (As := [_, _]) dX7_bit_4 rfl (r_areIn_t h h1.1 h1.2) rfl rfl (shK hS rfl) rfl rfl lk_X7_223 rfl (nb rfl) ⟨nb rfl, nb rfl⟩ rfl ?_
    refine g_if_eq (pc := 7) (tgt := 22) dX7_bit_7 rfl (fun h7 => absurd h7 ((by decide))) (fun _ => ?_)
    refine g_aload_n (pc := 10) dX7_bit_10 rfl trivial ?_
    refine g_iload_n (pc := 11) dX7_bit_11 rfl ?_
    refine g_invV_r (pc := 12) (As := [_]) dX7_bit_12 rfl (r_isNode_f h (fun q => hx ⟨h1.1, h1.2, q⟩)) rfl rfl (shK hS rfl) rfl rfl lk_X7_220 rfl (nb rfl) ⟨nb rfl, nb rfl⟩ rfl ?_
    refine g_if_eq (pc := 15) (tgt := 22) dX7_bit_15 rfl (fun _ => ?_) (fun h15 => absurd (rfl) h15)
    refine g_iconst (pc := 22) (v := 0) dX7_bit_22 rfl ?_
    refine g_iconst (pc := 23) (v := 1) dX7_bit_23 rfl ?_
    refine g_invV_r (pc := 24) (As := [_, _]) dX7_bit_24 rfl (r_isThrown_1 hS) rfl rfl (shK hS rfl) rfl rfl lk_X7_209 rfl (nb rfl) ⟨nb rfl, nb rfl⟩ rfl ?_
    refine g_if_eq (pc := 27) (tgt := 34) dX7_bit_27 rfl (fun h27 => absurd h27 ((by decide))) (fun _ => ?_)
    refine g_iconst (pc := 30) (v := 0) dX7_bit_30 rfl ?_
    refine g_goto (pc := 31) (tgt := 44) dX7_bit_31 rfl ?_
    refine g_ireturn (pc := 44) dX7_bit_44 rfl rfl ?_
    exact ⟨rfl, rfl⟩
  · refine g_aload_n (pc := 0) dX7_bit_0 rfl trivial ?_
    refine g_aload_n (pc := 1) dX7_bit_1 rfl trivial ?_
    refine g_iload_n (pc := 2) dX7_bit_2 rfl ?_
    refine g_iload_n (pc := 3) dX7_bit_3 rfl ?_
    refine g_invV_r (pc := 4) (As := [_, _]) dX7_bit_4 rfl (r_areIn_f h h1) rfl rfl (shK hS rfl) rfl rfl lk_X7_223 rfl (nb rfl) ⟨nb rfl, nb rfl⟩ rfl ?_
    refine g_if_eq (pc := 7) (tgt := 22) dX7_bit_7 rfl (fun _ => ?_) (fun h7 => absurd (rfl) h7)
    refine g_iconst (pc := 22) (v := 0) dX7_bit_22 rfl ?_
    refine g_iconst (pc := 23) (v := 1) dX7_bit_23 rfl ?_
    refine g_invV_r (pc := 24) (As := [_, _]) dX7_bit_24 rfl (r_isThrown_1 hS) rfl rfl (shK hS rfl) rfl rfl lk_X7_209 rfl (nb rfl) ⟨nb rfl, nb rfl⟩ rfl ?_
    refine g_if_eq (pc := 27) (tgt := 34) dX7_bit_27 rfl (fun h27 => absurd h27 ((by decide))) (fun _ => ?_)
    refine g_iconst (pc := 30) (v := 0) dX7_bit_30 rfl ?_
    refine g_goto (pc := 31) (tgt := 44) dX7_bit_31 rfl ?_
    refine g_ireturn (pc := 44) dX7_bit_44 rfl rfl ?_
    exact ⟨rfl, rfl⟩
theorem n_row {s r : Nat} (h : Rr M n A) (hs : s < 6) (hr : r < n) : EvR l jX7_row 4 160 0 0 [.ref 198, .int (nI s), .int (nI r)] M (.inl (some (.long (uL (A s r))))) (thr M 0) := by
  have hn := h.2.2.2.1
  have hS := h.1
  refine ev_intro rfl (nb rfl) rfl ?_
  refine g_aload_n (pc := 0) dX7_row_0 rfl trivial ?_
  refine g_aload_n (pc := 1) dX7_row_1 rfl trivial ?_
  refine g_iload_n (pc := 2) dX7_row_2 rfl ?_
  refine g_iload_n (pc := 3) dX7_row_3 rfl ?_
  refine g_invV_r (pc := 4) (As := [_, _]) dX7_row_4 rfl (r_areIn_t h (in6 hs) (inR_nI hr (by omega))) rfl rfl (shK hS rfl) rfl rfl lk_X7_223 rfl (nb rfl) ⟨nb rfl, nb rfl⟩ rfl ?_
  refine g_iconst (pc := 7) (v := 1) dX7_row_7 rfl ?_
  refine g_invV_r (pc := 8) (As := [_, _]) dX7_row_8 rfl (r_isThrown_0 hS) rfl rfl (shK hS rfl) rfl rfl lk_X7_209 rfl (nb rfl) ⟨nb rfl, nb rfl⟩ rfl ?_
  refine g_if_eq (pc := 11) (tgt := 18) dX7_row_11 rfl (fun _ => ?_) (fun h11 => absurd (rfl) h11)
  refine g_aload_n (pc := 18) dX7_row_18 rfl trivial ?_
  refine g_iload_n (pc := 19) dX7_row_19 rfl ?_
  refine g_iload_n (pc := 20) dX7_row_20 rfl ?_
  refine g_invV_r (pc := 21) (As := [_, _]) dX7_row_21 rfl (r_rowOf h.thr hs hr) rfl rfl (shK hS rfl) rfl rfl lk_X7_227 rfl (nb rfl) ⟨nb rfl, nb rfl⟩ rfl ?_
  refine g_lreturn (pc := 24) dX7_row_24 rfl ?_
  exact ⟨rfl, rfl⟩
theorem t_row {v w : Int32} (h : Rr M n A) (hx : ¬ (inR v 6 ∧ inR w n)) : EvR l jX7_row 4 160 0 0 [.ref 198, .int v, .int w] M (.inl (some (.long 0))) (thr M 1) := by
  have hS := h.1
  refine ev_intro rfl (nb rfl) rfl ?_
  refine g_aload_n (pc := 0) dX7_row_0 rfl trivial ?_
  refine g_aload_n (pc := 1) dX7_row_1 rfl trivial ?_
  refine g_iload_n (pc := 2) dX7_row_2 rfl ?_
  refine g_iload_n (pc := 3) dX7_row_3 rfl ?_
  refine g_invV_r (pc := 4) (As := [_, _]) dX7_row_4 rfl (r_areIn_f h hx) rfl rfl (shK hS rfl) rfl rfl lk_X7_223 rfl (nb rfl) ⟨nb rfl, nb rfl⟩ rfl ?_
  refine g_iconst (pc := 7) (v := 1) dX7_row_7 rfl ?_
  refine g_invV_r (pc := 8) (As := [_, _]) dX7_row_8 rfl (r_isThrown_1 hS) rfl rfl (shK hS rfl) rfl rfl lk_X7_209 rfl (nb rfl) ⟨nb rfl, nb rfl⟩ rfl ?_
  refine g_if_eq (pc := 11) (tgt := 18) dX7_row_11 rfl (fun h11 => absurd h11 ((by decide))) (fun _ => ?_)
  refine g_lconst (pc := 14) (v := 0) dX7_row_14 rfl ?_
  refine g_goto (pc := 15) (tgt := 24) dX7_row_15 rfl ?_
  refine g_lreturn (pc := 24) dX7_row_24 rfl ?_
  exact ⟨rfl, rfl⟩
theorem inR_le {u : Int32} {k : Nat} (hk : k < 2147483647) : (¬ u < 0 ∧ u ≤ nI k) ↔ inR u (k + 1) := by
  rw [inR_int (by omega), Int32.not_lt, Int32.le_iff_toInt_le, Int32.le_iff_toInt_le, nI_toInt (by omega), show (0 : Int32).toInt = 0 from rfl]
  omega
theorem n_rank {s r c : Nat} (h : Rr M n A) (hs : s < 6) (hr : r < n) (hc : c ≤ n) : EvR l jX7_rank 4 160 0 0 [.ref 198, .int (nI s), .int (nI r), .int (nI c)] M (.inl (some (.int (bcJ (A s r &&& lowM c))))) (thr M 0) := by
  have hn := h.2.2.2.1
  have hS := h.1
  obtain ⟨h1, h2⟩ := (inR_long (v := nI c) (k := n) (by omega)).mpr (inR_nI (by omega) (by omega))
  rw [← lN_nI (by omega)] at h2
  refine ev_intro rfl (nb rfl) rfl ?_
  refine g_aload_n (pc := 0) dX7_rank_0 rfl trivial ?_
  refine g_aload_n (pc := 1) dX7_rank_1 rfl trivial ?_
  refine g_iload_n (pc := 2) dX7_rank_2 rfl ?_
  refine g_iload_n (pc := 3) dX7_rank_3 rfl ?_
  refine g_invV_r (pc := 4) (As := [_, _]) dX7_rank_4 rfl (r_areIn_t h (in6 hs) (inR_nI hr (by omega))) rfl rfl (shK hS rfl) rfl rfl lk_X7_223 rfl (nb rfl) ⟨nb rfl, nb rfl⟩ rfl ?_
  refine g_iconst (pc := 7) (v := 1) dX7_rank_7 rfl ?_
  refine g_invV_r (pc := 8) (As := [_, _]) dX7_rank_8 rfl (r_isThrown_0 hS) rfl rfl (shK hS rfl) rfl rfl lk_X7_209 rfl (nb rfl) ⟨nb rfl, nb rfl⟩ rfl ?_
  refine g_if_ne (pc := 11) (tgt := 33) dX7_rank_11 rfl (fun h11 => absurd h11 ((fun q => q rfl))) (fun _ => ?_)
  refine g_aload_n (pc := 14) dX7_rank_14 rfl trivial ?_
  refine g_iload_n (pc := 15) dX7_rank_15 rfl ?_
  refine g_i2l (pc := 16) dX7_rank_16 rfl ?_
  refine g_lconst (pc := 17) (v := 0) dX7_rank_17 rfl ?_
  refine g_aload_n (pc := 18) dX7_rank_18 rfl trivial ?_
  refine g_invV_r (pc := 19) (As := []) dX7_rank_19 rfl (r_size h.thr) rfl rfl (shK hS rfl) rfl rfl lk_X7_71 rfl (nb rfl) ⟨nb rfl, nb rfl⟩ rfl ?_
  refine g_i2l (pc := 22) dX7_rank_22 rfl ?_
  refine g_invS_r (pc := 23) (As := [_, _, _]) dX7_rank_23 rfl (r_in_t h1 h2) rfl rfl lk_X7_67 rfl (nb rfl) ⟨nb rfl, nb rfl⟩ rfl ?_
  refine g_iconst (pc := 26) (v := 2) dX7_rank_26 rfl ?_
  refine g_invV_r (pc := 27) (As := [_, _]) dX7_rank_27 rfl (r_isThrown_0 (M := thr M 0) hS) rfl rfl (shK hS rfl) rfl rfl lk_X7_209 rfl (nb rfl) ⟨nb rfl, nb rfl⟩ rfl ?_
  refine g_if_eq (pc := 30) (tgt := 35) dX7_rank_30 rfl (fun _ => ?_) (fun h30 => absurd (rfl) h30)
  refine g_aload_n (pc := 35) dX7_rank_35 rfl trivial ?_
  refine g_iload_n (pc := 36) dX7_rank_36 rfl ?_
  refine g_iload_n (pc := 37) dX7_rank_37 rfl ?_
  refine g_invV_r (pc := 38) (As := [_, _]) dX7_rank_38 rfl (r_rowOf h.thr.thr hs hr) rfl rfl (shK hS rfl) rfl rfl lk_X7_227 rfl (nb rfl) ⟨nb rfl, nb rfl⟩ rfl ?_
  refine g_lconst (pc := 41) (v := 1) dX7_rank_41 rfl ?_
  refine g_iload_n (pc := 42) dX7_rank_42 rfl ?_
  refine g_lshl (pc := 43) dX7_rank_43 rfl ?_
  refine g_lconst (pc := 44) (v := 1) dX7_rank_44 rfl ?_
  refine g_lsub (pc := 45) dX7_rank_45 ?_
  rw [sh_low c (by omega)]
  refine g_land (pc := 46) dX7_rank_46 ?_
  rw [uL_and]
  refine g_invS_r (pc := 47) (As := [_]) dX7_rank_47 rfl (r_bitsOf) rfl rfl lk_X7_234 rfl (nb rfl) ⟨nb rfl, nb rfl⟩ rfl ?_
  refine g_ireturn (pc := 50) dX7_rank_50 rfl rfl ?_
  exact ⟨rfl, thr_2⟩
theorem t_rank {v w u : Int32} (h : Rr M n A) (hx : ¬ (inR v 6 ∧ inR w n)) : EvR l jX7_rank 4 160 0 0 [.ref 198, .int v, .int w, .int u] M (.inl (some (.int 0))) (thr M 1) := by
  have hS := h.1
  refine ev_intro rfl (nb rfl) rfl ?_
  refine g_aload_n (pc := 0) dX7_rank_0 rfl trivial ?_
  refine g_aload_n (pc := 1) dX7_rank_1 rfl trivial ?_
  refine g_iload_n (pc := 2) dX7_rank_2 rfl ?_
  refine g_iload_n (pc := 3) dX7_rank_3 rfl ?_
  refine g_invV_r (pc := 4) (As := [_, _]) dX7_rank_4 rfl (r_areIn_f h hx) rfl rfl (shK hS rfl) rfl rfl lk_X7_223 rfl (nb rfl) ⟨nb rfl, nb rfl⟩ rfl ?_
  refine g_iconst (pc := 7) (v := 1) dX7_rank_7 rfl ?_
  refine g_invV_r (pc := 8) (As := [_, _]) dX7_rank_8 rfl (r_isThrown_1 hS) rfl rfl (shK hS rfl) rfl rfl lk_X7_209 rfl (nb rfl) ⟨nb rfl, nb rfl⟩ rfl ?_
  refine g_if_ne (pc := 11) (tgt := 33) dX7_rank_11 rfl (fun _ => ?_) (fun h11 => absurd ((by decide)) h11)
  refine g_iconst (pc := 33) (v := 0) dX7_rank_33 rfl ?_
  refine g_ireturn (pc := 34) dX7_rank_34 rfl rfl ?_
  exact ⟨rfl, rfl⟩
theorem u_rank {v w u : Int32} (h : Rr M n A) (h1 : inR v 6) (h2 : inR w n) (hx : ¬ (¬ u < 0 ∧ u ≤ nI n)) : EvR l jX7_rank 4 160 0 0 [.ref 198, .int v, .int w, .int u] M (.inl (some (.int 0))) (thr M 2) := by
  have hn := h.2.2.2.1
  have hS := h.1
  have h3 : ¬ (0 ≤ u.toInt64 ∧ u.toInt64 ≤ lN n) := fun q => hx ((inR_le (by omega)).mpr ((inR_long (by omega)).mp q))
  rw [← lN_nI (by omega)] at h3
  refine ev_intro rfl (nb rfl) rfl ?_
  refine g_aload_n (pc := 0) dX7_rank_0 rfl trivial ?_
  refine g_aload_n (pc := 1) dX7_rank_1 rfl trivial ?_
  refine g_iload_n (pc := 2) dX7_rank_2 rfl ?_
  refine g_iload_n (pc := 3) dX7_rank_3 rfl ?_
  refine g_invV_r (pc := 4) (As := [_, _]) dX7_rank_4 rfl (r_areIn_t h h1 h2) rfl rfl (shK hS rfl) rfl rfl lk_X7_223 rfl (nb rfl) ⟨nb rfl, nb rfl⟩ rfl ?_
  refine g_iconst (pc := 7) (v := 1) dX7_rank_7 rfl ?_
  refine g_invV_r (pc := 8) (As := [_, _]) dX7_rank_8 rfl (r_isThrown_0 hS) rfl rfl (shK hS rfl) rfl rfl lk_X7_209 rfl (nb rfl) ⟨nb rfl, nb rfl⟩ rfl ?_
  refine g_if_ne (pc := 11) (tgt := 33) dX7_rank_11 rfl (fun h11 => absurd h11 ((fun q => q rfl))) (fun _ => ?_)
  refine g_aload_n (pc := 14) dX7_rank_14 rfl trivial ?_
  refine g_iload_n (pc := 15) dX7_rank_15 rfl ?_
  refine g_i2l (pc := 16) dX7_rank_16 rfl ?_
  refine g_lconst (pc := 17) (v := 0) dX7_rank_17 rfl ?_
  refine g_aload_n (pc := 18) dX7_rank_18 rfl trivial ?_
  refine g_invV_r (pc := 19) (As := []) dX7_rank_19 rfl (r_size h.thr) rfl rfl (shK hS rfl) rfl rfl lk_X7_71 rfl (nb rfl) ⟨nb rfl, nb rfl⟩ rfl ?_
  refine g_i2l (pc := 22) dX7_rank_22 rfl ?_
  refine g_invS_r (pc := 23) (As := [_, _, _]) dX7_rank_23 rfl (r_in_f h3) rfl rfl lk_X7_67 rfl (nb rfl) ⟨nb rfl, nb rfl⟩ rfl ?_
  refine g_iconst (pc := 26) (v := 2) dX7_rank_26 rfl ?_
  refine g_invV_r (pc := 27) (As := [_, _]) dX7_rank_27 rfl (r_isThrown_1 (M := thr M 0) hS) rfl rfl (shK hS rfl) rfl rfl lk_X7_209 rfl (nb rfl) ⟨nb rfl, nb rfl⟩ rfl ?_
  refine g_if_eq (pc := 30) (tgt := 35) dX7_rank_30 rfl (fun h30 => absurd h30 ((by decide))) (fun _ => ?_)
  refine g_iconst (pc := 33) (v := 0) dX7_rank_33 rfl ?_
  refine g_ireturn (pc := 34) dX7_rank_34 rfl rfl ?_
  exact ⟨rfl, thr_2⟩
end
end
-- 251.rq
section
/-! the reference: more queries on rows -/
section
variable {l : Launch} {M : Mem} {n : Nat} {A : Nat → Nat → Int32}
theorem selG_none {x idx : Int32} : ∀ (d c : Nat) (b : Int32), (∀ j, c ≤ j → j < c + d → hb x j = false) → selG x idx d c b = -1
  | 0, _, _, _ => rfl
  | d + 1, c, b, h => by
    rw [selG, if_neg (by rw [h c (Nat.le_refl _) (by omega)]; decide)]
    exact selG_none d (c + 1) b (fun j h1 h2 => h j (by omega) (by omega))
theorem selG_neg {x idx : Int32} (hi : idx < 0) : ∀ (d c b : Nat), b + d < 2147483648 → selG x idx d c (nI b) = -1
  | 0, _, _, _ => rfl
  | d + 1, c, b, h => by
    have hne : ¬ nI b = idx := fun q => nI_pos (n := b) (by omega) (by rw [q]; exact hi)
    rw [selG]
    by_cases h9 : hb x c = true
    · rw [if_pos h9, if_neg hne, nI_1]; exact selG_neg hi d (c + 1) (b + 1) (by omega)
    · rw [if_neg h9]; exact selG_neg hi d (c + 1) b (by omega)
theorem n_select {s r : Nat} {x : Int32} (h : Rr M n A) (hw : wfA n A) (hs : s < 6) (hr : r < n) : EvR l jX7_select 4 160 0 0 [.ref 198, .int (nI s), .int (nI r), .int x] M (.inl (some (.int (selG (A s r) x 32 0 0)))) (thr M 0) := by
  have hn := h.2.2.2.1
  have hS := h.1
  have h' := h.thr (x := 0)
  by_cases hx : x < 0
  · have e0 : selG (A s r) x 32 0 0 = -1 := selG_neg hx 32 0 0 (by decide)
    rw [e0]
    refine ev_intro rfl (nb rfl) rfl ?_
    refine g_aload_n (pc := 0) dX7_select_0 rfl trivial ?_
    refine g_aload_n (pc := 1) dX7_select_1 rfl trivial ?_
    refine g_iload_n (pc := 2) dX7_select_2 rfl ?_
    refine g_iload_n (pc := 3) dX7_select_3 rfl ?_
    refine g_invV_r (pc := 4) (As := [_, _]) dX7_select_4 rfl (r_areIn_t h (in6 hs) (inR_nI hr (by omega))) rfl rfl (shK hS rfl) rfl rfl lk_X7_223 rfl (nb rfl) ⟨nb rfl, nb rfl⟩ rfl ?_
    refine g_iconst (pc := 7) (v := 1) dX7_select_7 rfl ?_
    refine g_invV_r (pc := 8) (As := [_, _]) dX7_select_8 rfl (r_isThrown_0 hS) rfl rfl (shK hS rfl) rfl rfl lk_X7_209 rfl (nb rfl) ⟨nb rfl, nb rfl⟩ rfl ?_
    refine g_if_eq (pc := 11) (tgt := 16) dX7_select_11 rfl (fun _ => ?_) (fun h11 => absurd (rfl) h11)
    refine g_iload_n (pc := 16) dX7_select_16 rfl ?_
    refine g_istore (pc := 17) (lv' := [(0, _), (1, _), (2, _), (3, _), (4, _)]) dX7_select_17 (nl rfl) rfl ?_
    refine g_iconst (pc := 19) (v := 0) dX7_select_19 rfl ?_
    refine g_istore (pc := 20) (lv' := [(0, _), (1, _), (2, _), (3, _), (4, _), (5, _)]) dX7_select_20 (nl rfl) rfl ?_
    refine g_iload (pc := 22) dX7_select_22 rfl ?_
    refine g_aload_n (pc := 24) dX7_select_24 rfl trivial ?_
    refine g_invV_r (pc := 25) (As := []) dX7_select_25 rfl (r_size h') rfl rfl (shK hS rfl) rfl rfl lk_X7_71 rfl (nb rfl) ⟨nb rfl, nb rfl⟩ rfl ?_
    refine g_icmp_ge (pc := 28) (tgt := 68) dX7_select_28 rfl (fun h28 => absurd h28 (nI_ge h.2.2.1 (by omega))) (fun _ => ?_)
    refine g_iload (pc := 31) dX7_select_31 rfl ?_
    refine g_if_lt (pc := 33) (tgt := 68) dX7_select_33 rfl (fun _ => ?_) (fun h33 => absurd (hx) h33)
    refine g_iconst (pc := 68) (v := (-1)) dX7_select_68 rfl ?_
    refine g_ireturn (pc := 69) dX7_select_69 rfl rfl ?_
    exact ⟨rfl, rfl⟩
  · obtain ⟨i, hi, rfl⟩ := nI_of hx
    obtain ⟨S, hS9⟩ : ∃ S, S = selG (A s r) (nI i) 32 0 0 := ⟨_, rfl⟩
    rw [← hS9]
    refine ev_intro rfl (nb rfl) rfl ?_
    refine g_aload_n (pc := 0) dX7_select_0 rfl trivial ?_
    refine g_aload_n (pc := 1) dX7_select_1 rfl trivial ?_
    refine g_iload_n (pc := 2) dX7_select_2 rfl ?_
    refine g_iload_n (pc := 3) dX7_select_3 rfl ?_
    refine g_invV_r (pc := 4) (As := [_, _]) dX7_select_4 rfl (r_areIn_t h (in6 hs) (inR_nI hr (by omega))) rfl rfl (shK hS rfl) rfl rfl lk_X7_223 rfl (nb rfl) ⟨nb rfl, nb rfl⟩ rfl ?_
    refine g_iconst (pc := 7) (v := 1) dX7_select_7 rfl ?_
    refine g_invV_r (pc := 8) (As := [_, _]) dX7_select_8 rfl (r_isThrown_0 hS) rfl rfl (shK hS rfl) rfl rfl lk_X7_209 rfl (nb rfl) ⟨nb rfl, nb rfl⟩ rfl ?_
    refine g_if_eq (pc := 11) (tgt := 16) dX7_select_11 rfl (fun _ => ?_) (fun h11 => absurd (rfl) h11)
    refine g_iload_n (pc := 16) dX7_select_16 rfl ?_
    refine g_istore (pc := 17) (lv' := [(0, _), (1, _), (2, _), (3, _), (4, _)]) dX7_select_17 (nl rfl) rfl ?_
    refine g_iconst (pc := 19) (v := 0) dX7_select_19 rfl ?_
    refine g_istore (pc := 20) (lv' := [(0, _), (1, _), (2, _), (3, _), (4, _), (5, _)]) dX7_select_20 (nl rfl) rfl ?_
    refine go_while (pc := 22) (σ := Nat × Nat) (fun q => q.1 ≤ n ∧ q.2 ≤ i ∧ selG (A s r) (nI i) (32 - q.1) q.1 (nI q.2) = S) (fun q => n - q.1) (fun q => [(0, .ref 198), (1, .int (nI s)), (2, .int (nI r)), (4, .int (nI (i - q.2))), (5, .int (nI q.1))]) (fun _ => thr M 0) (0, 0) ⟨rfl, rfl, rfl, rfl, rfl, trivial⟩ rfl ⟨by simp only; omega, by simp only; omega, hS9.symm⟩ ?_
    rintro ⟨c, b⟩ ⟨h1, h2, h3⟩ ih
    simp only at h1 h2 h3 ih
    by_cases hc : c < n
    · obtain ⟨d, hd⟩ : ∃ d, 32 - c = d + 1 := ⟨31 - c, by omega⟩
      have hd' : 32 - (c + 1) = d := by omega
      rw [hd, selG] at h3
      cases hb9 : hb (A s r) c with
      | false =>
        rw [hb9, if_neg (by decide)] at h3
        refine g_iload (pc := 22) dX7_select_22 rfl ?_
        refine g_aload_n (pc := 24) dX7_select_24 rfl trivial ?_
        refine g_invV_r (pc := 25) (As := []) dX7_select_25 rfl (r_size h') rfl rfl (shK hS rfl) rfl rfl lk_X7_71 rfl (nb rfl) ⟨nb rfl, nb rfl⟩ rfl ?_
        refine g_icmp_ge (pc := 28) (tgt := 68) dX7_select_28 rfl (fun h28 => absurd h28 (nI_ge hc (by omega))) (fun _ => ?_)
        refine g_iload (pc := 31) dX7_select_31 rfl ?_
        refine g_if_lt (pc := 33) (tgt := 68) dX7_select_33 rfl (fun h33 => absurd h33 (nI_pos (by omega))) (fun _ => ?_)
        refine g_aload_n (pc := 36) dX7_select_36 rfl trivial ?_
        refine g_iload_n (pc := 37) dX7_select_37 rfl ?_
        refine g_iload_n (pc := 38) dX7_select_38 rfl ?_
        refine g_invV_r (pc := 39) (As := [_, _]) dX7_select_39 rfl (r_rowOf h' hs hr) rfl rfl (shK hS rfl) rfl rfl lk_X7_227 rfl (nb rfl) ⟨nb rfl, nb rfl⟩ rfl ?_
        refine g_iload (pc := 42) dX7_select_42 rfl ?_
        refine g_invS_r (pc := 44) (As := [_, _]) dX7_select_44 rfl (r_one (by omega)) rfl rfl lk_X7_231 rfl (nb rfl) ⟨nb rfl, nb rfl⟩ rfl ?_
        rw [hb9]
        refine g_iconst (pc := 47) (v := 1) dX7_select_47 rfl ?_
        refine g_icmp_ne (pc := 48) (tgt := 62) dX7_select_48 rfl (fun _ => ?_) (fun h48 => absurd ((by decide)) h48)
        refine g_iinc (pc := 62) (lv' := [(0, _), (1, _), (2, _), (4, _), (5, _)]) dX7_select_62 rfl (nI_1 _) (nl rfl) rfl ?_
        refine g_goto (pc := 65) (tgt := 22) dX7_select_65 rfl ?_
        exact ih (c + 1, b) ⟨hc, h2, by simp only; rw [hd']; exact h3⟩ (by simp only; omega)
      | true =>
        rw [hb9, if_pos rfl] at h3
        by_cases hbi : b = i
        · rw [hbi, if_pos rfl] at h3
          subst hbi
          refine g_iload (pc := 22) dX7_select_22 rfl ?_
          refine g_aload_n (pc := 24) dX7_select_24 rfl trivial ?_
          refine g_invV_r (pc := 25) (As := []) dX7_select_25 rfl (r_size h') rfl rfl (shK hS rfl) rfl rfl lk_X7_71 rfl (nb rfl) ⟨nb rfl, nb rfl⟩ rfl ?_
          refine g_icmp_ge (pc := 28) (tgt := 68) dX7_select_28 rfl (fun h28 => absurd h28 (nI_ge hc (by omega))) (fun _ => ?_)
          refine g_iload (pc := 31) dX7_select_31 rfl ?_
          refine g_if_lt (pc := 33) (tgt := 68) dX7_select_33 rfl (fun h33 => absurd h33 (nI_pos (by omega))) (fun _ => ?_)
          refine g_aload_n (pc := 36) dX7_select_36 rfl trivial ?_
          refine g_iload_n (pc := 37) dX7_select_37 rfl ?_
          refine g_iload_n (pc := 38) dX7_select_38 rfl ?_
          refine g_invV_r (pc := 39) (As := [_, _]) dX7_select_39 rfl (r_rowOf h' hs hr) rfl rfl (shK hS rfl) rfl rfl lk_X7_227 rfl (nb rfl) ⟨nb rfl, nb rfl⟩ rfl ?_
          refine g_iload (pc := 42) dX7_select_42 rfl ?_
          refine g_invS_r (pc := 44) (As := [_, _]) dX7_select_44 rfl (r_one (by omega)) rfl rfl lk_X7_231 rfl (nb rfl) ⟨nb rfl, nb rfl⟩ rfl ?_
          rw [hb9]
          refine g_iconst (pc := 47) (v := 1) dX7_select_47 rfl ?_
          refine g_icmp_ne (pc := 48) (tgt := 62) dX7_select_48 rfl (fun h48 => absurd h48 ((fun q => q rfl))) (fun _ => ?_)
          refine g_iload (pc := 51) dX7_select_51 rfl ?_
          refine g_if_ne (pc := 53) (tgt := 59) dX7_select_53 rfl (fun h53 => absurd h53 ((fun q => q (by rw [Nat.sub_self]; rfl)))) (fun _ => ?_)
          refine g_iload (pc := 56) dX7_select_56 rfl ?_
          refine g_ireturn (pc := 58) dX7_select_58 rfl rfl ?_
          exact ⟨by rw [h3], rfl⟩
        · rw [if_neg (fun q => hbi ((nI_eq (by omega) (by omega)).mp q)), nI_1] at h3
          refine g_iload (pc := 22) dX7_select_22 rfl ?_
          refine g_aload_n (pc := 24) dX7_select_24 rfl trivial ?_
          refine g_invV_r (pc := 25) (As := []) dX7_select_25 rfl (r_size h') rfl rfl (shK hS rfl) rfl rfl lk_X7_71 rfl (nb rfl) ⟨nb rfl, nb rfl⟩ rfl ?_
          refine g_icmp_ge (pc := 28) (tgt := 68) dX7_select_28 rfl (fun h28 => absurd h28 (nI_ge hc (by omega))) (fun _ => ?_)
          refine g_iload (pc := 31) dX7_select_31 rfl ?_
          refine g_if_lt (pc := 33) (tgt := 68) dX7_select_33 rfl (fun h33 => absurd h33 (nI_pos (by omega))) (fun _ => ?_)
          refine g_aload_n (pc := 36) dX7_select_36 rfl trivial ?_
          refine g_iload_n (pc := 37) dX7_select_37 rfl ?_
          refine g_iload_n (pc := 38) dX7_select_38 rfl ?_
          refine g_invV_r (pc := 39) (As := [_, _]) dX7_select_39 rfl (r_rowOf h' hs hr) rfl rfl (shK hS rfl) rfl rfl lk_X7_227 rfl (nb rfl) ⟨nb rfl, nb rfl⟩ rfl ?_
          refine g_iload (pc := 42) dX7_select_42 rfl ?_
          refine g_invS_r (pc := 44) (As := [_, _]) dX7_select_44 rfl (r_one (by omega)) rfl rfl lk_X7_231 rfl (nb rfl) ⟨nb rfl, nb rfl⟩ rfl ?_
          rw [hb9]
          refine g_iconst (pc := 47) (v := 1) dX7_select_47 rfl ?_
          refine g_icmp_ne (pc := 48) (tgt := 62) dX7_select_48 rfl (fun h48 => absurd h48 ((fun q => q rfl))) (fun _ => ?_)
          refine g_iload (pc := 51) dX7_select_51 rfl ?_
          refine g_if_ne (pc := 53) (tgt := 59) dX7_select_53 rfl (fun _ => ?_) (fun h53 => absurd (nI_ne0 (by omega) (by omega)) h53)
          refine g_iinc (pc := 59) (lv' := [(0, _), (1, _), (2, _), (4, _), (5, _)]) dX7_select_59 rfl (show nI (i - b) + -1 = nI (i - (b + 1)) by rw [← Int32.sub_eq_add_neg, nI_m1 (by omega)]; congr 1) (nl rfl) rfl ?_
          refine g_iinc (pc := 62) (lv' := [(0, _), (1, _), (2, _), (4, _), (5, _)]) dX7_select_62 rfl (nI_1 _) (nl rfl) rfl ?_
          refine g_goto (pc := 65) (tgt := 22) dX7_select_65 rfl ?_
          exact ih (c + 1, b + 1) ⟨hc, by simp only; omega, by simp only; rw [hd']; exact h3⟩ (by simp only; omega)
    · have hc' : c = n := by omega
      subst hc'
      have e0 := selG_none (x := A s r) (idx := nI i) (32 - c) c (nI b) (fun j h1 _ => hw s r hs hr j h1)
      rw [e0] at h3
      refine g_iload (pc := 22) dX7_select_22 rfl ?_
      refine g_aload_n (pc := 24) dX7_select_24 rfl trivial ?_
      refine g_invV_r (pc := 25) (As := []) dX7_select_25 rfl (r_size h') rfl rfl (shK hS rfl) rfl rfl lk_X7_71 rfl (nb rfl) ⟨nb rfl, nb rfl⟩ rfl ?_
      refine g_icmp_ge (pc := 28) (tgt := 68) dX7_select_28 rfl (fun _ => ?_) (fun h28 => absurd (nI_le (Nat.le_refl _) (by omega)) h28)
      refine g_iconst (pc := 68) (v := (-1)) dX7_select_68 rfl ?_
      refine g_ireturn (pc := 69) dX7_select_69 rfl rfl ?_
      exact ⟨by rw [← h3], rfl⟩
theorem t_select {v w x : Int32} (h : Rr M n A) (hx : ¬ (inR v 6 ∧ inR w n)) : EvR l jX7_select 4 160 0 0 [.ref 198, .int v, .int w, .int x] M (.inl (some (.int 0))) (thr M 1) := by
  have hS := h.1
  refine ev_intro rfl (nb rfl) rfl ?_
  refine g_aload_n (pc := 0) dX7_select_0 rfl trivial ?_
  refine g_aload_n (pc := 1) dX7_select_1 rfl trivial ?_
  refine g_iload_n (pc := 2) dX7_select_2 rfl ?_
  refine g_iload_n (pc := 3) dX7_select_3 rfl ?_
  refine g_invV_r (pc := 4) (As := [_, _]) dX7_select_4 rfl (r_areIn_f h hx) rfl rfl (shK hS rfl) rfl rfl lk_X7_223 rfl (nb rfl) ⟨nb rfl, nb rfl⟩ rfl ?_
  refine g_iconst (pc := 7) (v := 1) dX7_select_7 rfl ?_
  refine g_invV_r (pc := 8) (As := [_, _]) dX7_select_8 rfl (r_isThrown_1 hS) rfl rfl (shK hS rfl) rfl rfl lk_X7_209 rfl (nb rfl) ⟨nb rfl, nb rfl⟩ rfl ?_
  refine g_if_eq (pc := 11) (tgt := 16) dX7_select_11 rfl (fun h11 => absurd h11 ((by decide))) (fun _ => ?_)
  refine g_iconst (pc := 14) (v := 0) dX7_select_14 rfl ?_
  refine g_ireturn (pc := 15) dX7_select_15 rfl rfl ?_
  exact ⟨rfl, rfl⟩
theorem r_onesOf {s : Nat} (h : Rr M n A) (hs : s < 6) : EvR l jX7_onesOf 1 30 0 0 [.ref 198, .int (nI s)] M (.inl (some (.int (onesF (A s) n)))) M := by
  have hn := h.2.2.2.1
  have hS := h.1
  refine ev_intro rfl (nb rfl) rfl ?_
  refine g_iconst (pc := 0) (v := 0) dX7_onesOf_0 rfl ?_
  refine g_istore_n (pc := 1) (lv' := [(0, _), (1, _), (2, _)]) dX7_onesOf_1 (nl rfl) rfl ?_
  refine g_iconst (pc := 2) (v := 0) dX7_onesOf_2 rfl ?_
  refine g_istore_n (pc := 3) (lv' := [(0, _), (1, _), (2, _), (3, _)]) dX7_onesOf_3 (nl rfl) rfl ?_
  refine go_loop (pc := 4) n (fun i => [(0, .ref 198), (1, .int (nI s)), (2, .int (onesF (A s) i)), (3, .int (nI i))]) (fun _ => M) ⟨rfl, rfl, rfl, rfl, trivial⟩ rfl ?_ ?_
  · intro i hi ih
    refine g_iload_n (pc := 4) dX7_onesOf_4 rfl ?_
    refine g_aload_n (pc := 5) dX7_onesOf_5 rfl trivial ?_
    refine g_invV_r (pc := 6) (As := []) dX7_onesOf_6 rfl (r_size h) rfl rfl (shK hS rfl) rfl rfl lk_X7_71 rfl (nb rfl) ⟨nb rfl, nb rfl⟩ rfl ?_
    refine g_icmp_ge (pc := 9) (tgt := 30) dX7_onesOf_9 rfl (fun h9 => absurd h9 (nI_ge hi (by omega))) (fun _ => ?_)
    refine g_iload_n (pc := 12) dX7_onesOf_12 rfl ?_
    refine g_aload_n (pc := 13) dX7_onesOf_13 rfl trivial ?_
    refine g_iload_n (pc := 14) dX7_onesOf_14 rfl ?_
    refine g_iload_n (pc := 15) dX7_onesOf_15 rfl ?_
    refine g_invV_r (pc := 16) (As := [_, _]) dX7_onesOf_16 rfl (r_rowOf h hs hi) rfl rfl (shK hS rfl) rfl rfl lk_X7_227 rfl (nb rfl) ⟨nb rfl, nb rfl⟩ rfl ?_
    refine g_invS_r (pc := 19) (As := [_]) dX7_onesOf_19 rfl (r_bitsOf) rfl rfl lk_X7_234 rfl (nb rfl) ⟨nb rfl, nb rfl⟩ rfl ?_
    refine g_iadd (pc := 22) dX7_onesOf_22 ?_
    refine g_istore_n (pc := 23) (lv' := [(0, _), (1, _), (2, _), (3, _)]) dX7_onesOf_23 (nl rfl) rfl ?_
    refine g_iinc (pc := 24) (lv' := [(0, _), (1, _), (2, _), (3, _)]) dX7_onesOf_24 rfl (nI_1 _) (nl rfl) rfl ?_
    refine g_goto (pc := 27) (tgt := 4) dX7_onesOf_27 rfl ?_
    exact ih
  · refine g_iload_n (pc := 4) dX7_onesOf_4 rfl ?_
    refine g_aload_n (pc := 5) dX7_onesOf_5 rfl trivial ?_
    refine g_invV_r (pc := 6) (As := []) dX7_onesOf_6 rfl (r_size h) rfl rfl (shK hS rfl) rfl rfl lk_X7_71 rfl (nb rfl) ⟨nb rfl, nb rfl⟩ rfl ?_
    refine g_icmp_ge (pc := 9) (tgt := 30) dX7_onesOf_9 rfl (fun _ => ?_) (fun h9 => absurd (nI_le (Nat.le_refl _) (by omega)) h9)
    refine g_iload_n (pc := 30) dX7_onesOf_30 rfl ?_
    refine g_ireturn (pc := 31) dX7_onesOf_31 rfl rfl ?_
    exact ⟨rfl, rfl⟩
theorem n_ones {s : Nat} (h : Rr M n A) (hs : s < 6) : EvR l jX7_ones 4 160 0 0 [.ref 198, .int (nI s)] M (.inl (some (.int (onesF (A s) n)))) (thr M 0) := by
  have hS := h.1
  refine ev_intro rfl (nb rfl) rfl ?_
  refine g_aload_n (pc := 0) dX7_ones_0 rfl trivial ?_
  refine g_iload_n (pc := 1) dX7_ones_1 rfl ?_
  refine g_invS_r (pc := 2) (As := [_]) dX7_ones_2 rfl (r_isSlot_t (in6 hs)) rfl rfl lk_X7_216 rfl (nb rfl) ⟨nb rfl, nb rfl⟩ rfl ?_
  refine g_iconst (pc := 5) (v := 1) dX7_ones_5 rfl ?_
  refine g_invV_r (pc := 6) (As := [_, _]) dX7_ones_6 rfl (r_isThrown_0 hS) rfl rfl (shK hS rfl) rfl rfl lk_X7_209 rfl (nb rfl) ⟨nb rfl, nb rfl⟩ rfl ?_
  refine g_if_eq (pc := 9) (tgt := 16) dX7_ones_9 rfl (fun _ => ?_) (fun h9 => absurd (rfl) h9)
  refine g_aload_n (pc := 16) dX7_ones_16 rfl trivial ?_
  refine g_iload_n (pc := 17) dX7_ones_17 rfl ?_
  refine g_invV_r (pc := 18) (As := [_]) dX7_ones_18 rfl (r_onesOf h.thr hs) rfl rfl (shK hS rfl) rfl rfl lk_X7_238 rfl (nb rfl) ⟨nb rfl, nb rfl⟩ rfl ?_
  refine g_ireturn (pc := 21) dX7_ones_21 rfl rfl ?_
  exact ⟨rfl, rfl⟩
theorem t_ones {v : Int32} (h : Rr M n A) (hx : ¬ inR v 6) : EvR l jX7_ones 4 160 0 0 [.ref 198, .int v] M (.inl (some (.int 0))) (thr M 1) := by
  have hS := h.1
  refine ev_intro rfl (nb rfl) rfl ?_
  refine g_aload_n (pc := 0) dX7_ones_0 rfl trivial ?_
  refine g_iload_n (pc := 1) dX7_ones_1 rfl ?_
  refine g_invS_r (pc := 2) (As := [_]) dX7_ones_2 rfl (r_isSlot_f hx) rfl rfl lk_X7_216 rfl (nb rfl) ⟨nb rfl, nb rfl⟩ rfl ?_
  refine g_iconst (pc := 5) (v := 1) dX7_ones_5 rfl ?_
  refine g_invV_r (pc := 6) (As := [_, _]) dX7_ones_6 rfl (r_isThrown_1 hS) rfl rfl (shK hS rfl) rfl rfl lk_X7_209 rfl (nb rfl) ⟨nb rfl, nb rfl⟩ rfl ?_
  refine g_if_eq (pc := 9) (tgt := 16) dX7_ones_9 rfl (fun h9 => absurd h9 ((by decide))) (fun _ => ?_)
  refine g_iconst (pc := 12) (v := 0) dX7_ones_12 rfl ?_
  refine g_goto (pc := 13) (tgt := 21) dX7_ones_13 rfl ?_
  refine g_ireturn (pc := 21) dX7_ones_21 rfl rfl ?_
  exact ⟨rfl, rfl⟩
def cnF (f : Nat → Int32) (c : Nat) : Nat → Int32
  | 0 => 0
  | k + 1 => cnF f c k + b1 (hb (f k) c)
theorem n_columnOnes {s c : Nat} (h : Rr M n A) (hs : s < 6) (hc : c < n) : EvR l jX7_columnOnes 4 160 0 0 [.ref 198, .int (nI s), .int (nI c)] M (.inl (some (.int (cnF (A s) c n)))) (thr M 0) := by
  have hn := h.2.2.2.1
  have hS := h.1
  have h' := h.thr (x := 0)
  refine ev_intro rfl (nb rfl) rfl ?_
  refine g_aload_n (pc := 0) dX7_columnOnes_0 rfl trivial ?_
  refine g_aload_n (pc := 1) dX7_columnOnes_1 rfl trivial ?_
  refine g_iload_n (pc := 2) dX7_columnOnes_2 rfl ?_
  refine g_iload_n (pc := 3) dX7_columnOnes_3 rfl ?_
  refine g_invV_r (pc := 4) (As := [_, _]) dX7_columnOnes_4 rfl (r_areIn_t h (in6 hs) (inR_nI hc (by omega))) rfl rfl (shK hS rfl) rfl rfl lk_X7_223 rfl (nb rfl) ⟨nb rfl, nb rfl⟩ rfl ?_
  refine g_iconst (pc := 7) (v := 1) dX7_columnOnes_7 rfl ?_
  refine g_invV_r (pc := 8) (As := [_, _]) dX7_columnOnes_8 rfl (r_isThrown_0 hS) rfl rfl (shK hS rfl) rfl rfl lk_X7_209 rfl (nb rfl) ⟨nb rfl, nb rfl⟩ rfl ?_
  refine g_if_eq (pc := 11) (tgt := 16) dX7_columnOnes_11 rfl (fun _ => ?_) (fun h11 => absurd (rfl) h11)
  refine g_iconst (pc := 16) (v := 0) dX7_columnOnes_16 rfl ?_
  refine g_istore_n (pc := 17) (lv' := [(0, _), (1, _), (2, _), (3, _)]) dX7_columnOnes_17 (nl rfl) rfl ?_
  refine g_iconst (pc := 18) (v := 0) dX7_columnOnes_18 rfl ?_
  refine g_istore (pc := 19) (lv' := [(0, _), (1, _), (2, _), (3, _), (4, _)]) dX7_columnOnes_19 (nl rfl) rfl ?_
  refine go_loop (pc := 21) n (fun i => [(0, .ref 198), (1, .int (nI s)), (2, .int (nI c)), (3, .int (cnF (A s) c i)), (4, .int (nI i))]) (fun _ => thr M 0) ⟨rfl, rfl, rfl, rfl, rfl, trivial⟩ rfl ?_ ?_
  · intro i hi ih
    refine g_iload (pc := 21) dX7_columnOnes_21 rfl ?_
    refine g_aload_n (pc := 23) dX7_columnOnes_23 rfl trivial ?_
    refine g_invV_r (pc := 24) (As := []) dX7_columnOnes_24 rfl (r_size h') rfl rfl (shK hS rfl) rfl rfl lk_X7_71 rfl (nb rfl) ⟨nb rfl, nb rfl⟩ rfl ?_
    refine g_icmp_ge (pc := 27) (tgt := 50) dX7_columnOnes_27 rfl (fun h27 => absurd h27 (nI_ge hi (by omega))) (fun _ => ?_)
    refine g_iload_n (pc := 30) dX7_columnOnes_30 rfl ?_
    refine g_aload_n (pc := 31) dX7_columnOnes_31 rfl trivial ?_
    refine g_iload_n (pc := 32) dX7_columnOnes_32 rfl ?_
    refine g_iload (pc := 33) dX7_columnOnes_33 rfl ?_
    refine g_invV_r (pc := 35) (As := [_, _]) dX7_columnOnes_35 rfl (r_rowOf h' hs hi) rfl rfl (shK hS rfl) rfl rfl lk_X7_227 rfl (nb rfl) ⟨nb rfl, nb rfl⟩ rfl ?_
    refine g_iload_n (pc := 38) dX7_columnOnes_38 rfl ?_
    refine g_invS_r (pc := 39) (As := [_, _]) dX7_columnOnes_39 rfl (r_one (by omega)) rfl rfl lk_X7_231 rfl (nb rfl) ⟨nb rfl, nb rfl⟩ rfl ?_
    refine g_iadd (pc := 42) dX7_columnOnes_42 ?_
    refine g_istore_n (pc := 43) (lv' := [(0, _), (1, _), (2, _), (3, _), (4, _)]) dX7_columnOnes_43 (nl rfl) rfl ?_
    refine g_iinc (pc := 44) (lv' := [(0, _), (1, _), (2, _), (3, _), (4, _)]) dX7_columnOnes_44 rfl (nI_1 _) (nl rfl) rfl ?_
    refine g_goto (pc := 47) (tgt := 21) dX7_columnOnes_47 rfl ?_
    exact ih
  · refine g_iload (pc := 21) dX7_columnOnes_21 rfl ?_
    refine g_aload_n (pc := 23) dX7_columnOnes_23 rfl trivial ?_
    refine g_invV_r (pc := 24) (As := []) dX7_columnOnes_24 rfl (r_size h') rfl rfl (shK hS rfl) rfl rfl lk_X7_71 rfl (nb rfl) ⟨nb rfl, nb rfl⟩ rfl ?_
    refine g_icmp_ge (pc := 27) (tgt := 50) dX7_columnOnes_27 rfl (fun _ => ?_) (fun h27 => absurd (nI_le (Nat.le_refl _) (by omega)) h27)
    refine g_iload_n (pc := 50) dX7_columnOnes_50 rfl ?_
    refine g_ireturn (pc := 51) dX7_columnOnes_51 rfl rfl ?_
    exact ⟨rfl, rfl⟩
theorem t_columnOnes {v w : Int32} (h : Rr M n A) (hx : ¬ (inR v 6 ∧ inR w n)) : EvR l jX7_columnOnes 4 160 0 0 [.ref 198, .int v, .int w] M (.inl (some (.int 0))) (thr M 1) := by
  have hS := h.1
  refine ev_intro rfl (nb rfl) rfl ?_
  refine g_aload_n (pc := 0) dX7_columnOnes_0 rfl trivial ?_
  refine g_aload_n (pc := 1) dX7_columnOnes_1 rfl trivial ?_
  refine g_iload_n (pc := 2) dX7_columnOnes_2 rfl ?_
  refine g_iload_n (pc := 3) dX7_columnOnes_3 rfl ?_
  refine g_invV_r (pc := 4) (As := [_, _]) dX7_columnOnes_4 rfl (r_areIn_f h hx) rfl rfl (shK hS rfl) rfl rfl lk_X7_223 rfl (nb rfl) ⟨nb rfl, nb rfl⟩ rfl ?_
  refine g_iconst (pc := 7) (v := 1) dX7_columnOnes_7 rfl ?_
  refine g_invV_r (pc := 8) (As := [_, _]) dX7_columnOnes_8 rfl (r_isThrown_1 hS) rfl rfl (shK hS rfl) rfl rfl lk_X7_209 rfl (nb rfl) ⟨nb rfl, nb rfl⟩ rfl ?_
  refine g_if_eq (pc := 11) (tgt := 16) dX7_columnOnes_11 rfl (fun h11 => absurd h11 ((by decide))) (fun _ => ?_)
  refine g_iconst (pc := 14) (v := 0) dX7_columnOnes_14 rfl ?_
  refine g_ireturn (pc := 15) dX7_columnOnes_15 rfl rfl ?_
  exact ⟨rfl, rfl⟩
end
end
-- 252.rq
section
/-! the reference: equal rows, unlike rows, symmetry -/
section
variable {l : Launch} {M : Mem} {n : Nat} {A : Nat → Nat → Int32}
theorem r_firstAs {s r : Nat} (h : Rr M n A) (hs : s < 6) (hr : r < n) : EvR l jX7_firstAs 1 30 0 0 [.ref 198, .int (nI s), .int (nI r)] M (.inl (some (.int (firstEq (A s) (A s r) n 0)))) M := by
  have hn := h.2.2.2.1
  have hS := h.1
  obtain ⟨S, hS9⟩ : ∃ S, S = firstEq (A s) (A s r) n 0 := ⟨_, rfl⟩
  rw [← hS9]
  refine ev_intro rfl (nb rfl) rfl ?_
  refine g_iconst (pc := 0) (v := 0) dX7_firstAs_0 rfl ?_
  refine g_istore_n (pc := 1) (lv' := [(0, _), (1, _), (2, _), (3, _)]) dX7_firstAs_1 (nl rfl) rfl ?_
  refine go_while (pc := 2) (σ := Nat) (fun q => q ≤ r ∧ firstEq (A s) (A s r) (n - q) q = S) (fun q => r - q) (fun q => [(0, .ref 198), (1, .int (nI s)), (2, .int (nI r)), (3, .int (nI q))]) (fun _ => M) 0 ⟨rfl, rfl, rfl, rfl, trivial⟩ rfl ⟨by omega, hS9.symm⟩ ?_
  rintro q ⟨h1, h3⟩ ih
  obtain ⟨d, hd⟩ : ∃ d, n - q = d + 1 := ⟨n - q - 1, by omega⟩
  have hd' : n - (q + 1) = d := by omega
  rw [hd, firstEq] at h3
  by_cases he : A s q = A s r
  · rw [if_pos he] at h3
    refine g_aload_n (pc := 2) dX7_firstAs_2 rfl trivial ?_
    refine g_iload_n (pc := 3) dX7_firstAs_3 rfl ?_
    refine g_iload_n (pc := 4) dX7_firstAs_4 rfl ?_
    refine g_invV_r (pc := 5) (As := [_, _]) dX7_firstAs_5 rfl (r_rowOf h hs (show q < n by omega)) rfl rfl (shK hS rfl) rfl rfl lk_X7_227 rfl (nb rfl) ⟨nb rfl, nb rfl⟩ rfl ?_
    refine g_aload_n (pc := 8) dX7_firstAs_8 rfl trivial ?_
    refine g_iload_n (pc := 9) dX7_firstAs_9 rfl ?_
    refine g_iload_n (pc := 10) dX7_firstAs_10 rfl ?_
    refine g_invV_r (pc := 11) (As := [_, _]) dX7_firstAs_11 rfl (r_rowOf h hs hr) rfl rfl (shK hS rfl) rfl rfl lk_X7_227 rfl (nb rfl) ⟨nb rfl, nb rfl⟩ rfl ?_
    refine g_lcmp (pc := 14) dX7_firstAs_14 ?_
    refine g_if_eq (pc := 15) (tgt := 24) dX7_firstAs_15 rfl (fun _ => ?_) (fun h15 => absurd ((lg_cmp_eq _ _).mpr (by rw [he])) h15)
    refine g_iload_n (pc := 24) dX7_firstAs_24 rfl ?_
    refine g_ireturn (pc := 25) dX7_firstAs_25 rfl rfl ?_
    exact ⟨by rw [← h3], rfl⟩
  · rw [if_neg he] at h3
    have hqr : q ≠ r := fun z => he (by rw [z])
    refine g_aload_n (pc := 2) dX7_firstAs_2 rfl trivial ?_
    refine g_iload_n (pc := 3) dX7_firstAs_3 rfl ?_
    refine g_iload_n (pc := 4) dX7_firstAs_4 rfl ?_
    refine g_invV_r (pc := 5) (As := [_, _]) dX7_firstAs_5 rfl (r_rowOf h hs (show q < n by omega)) rfl rfl (shK hS rfl) rfl rfl lk_X7_227 rfl (nb rfl) ⟨nb rfl, nb rfl⟩ rfl ?_
    refine g_aload_n (pc := 8) dX7_firstAs_8 rfl trivial ?_
    refine g_iload_n (pc := 9) dX7_firstAs_9 rfl ?_
    refine g_iload_n (pc := 10) dX7_firstAs_10 rfl ?_
    refine g_invV_r (pc := 11) (As := [_, _]) dX7_firstAs_11 rfl (r_rowOf h hs hr) rfl rfl (shK hS rfl) rfl rfl lk_X7_227 rfl (nb rfl) ⟨nb rfl, nb rfl⟩ rfl ?_
    refine g_lcmp (pc := 14) dX7_firstAs_14 ?_
    refine g_if_eq (pc := 15) (tgt := 24) dX7_firstAs_15 rfl (fun h15 => absurd h15 ((fun z => he (uL_inj.mp ((lg_cmp_eq _ _).mp z))))) (fun _ => ?_)
    refine g_iinc (pc := 18) (lv' := [(0, _), (1, _), (2, _), (3, _)]) dX7_firstAs_18 rfl (nI_1 _) (nl rfl) rfl ?_
    refine g_goto (pc := 21) (tgt := 2) dX7_firstAs_21 rfl ?_
    exact ih (q + 1) ⟨by omega, by rw [hd']; exact h3⟩ (by omega)
theorem n_sameAs {s r : Nat} (h : Rr M n A) (hs : s < 6) (hr : r < n) : EvR l jX7_sameAs 4 160 0 0 [.ref 198, .int (nI s), .int (nI r)] M (.inl (some (.int (firstEq (A s) (A s r) n 0)))) (thr M 0) := by
  have hn := h.2.2.2.1
  have hS := h.1
  refine ev_intro rfl (nb rfl) rfl ?_
  refine g_aload_n (pc := 0) dX7_sameAs_0 rfl trivial ?_
  refine g_aload_n (pc := 1) dX7_sameAs_1 rfl trivial ?_
  refine g_iload_n (pc := 2) dX7_sameAs_2 rfl ?_
  refine g_iload_n (pc := 3) dX7_sameAs_3 rfl ?_
  refine g_invV_r (pc := 4) (As := [_, _]) dX7_sameAs_4 rfl (r_areIn_t h (in6 hs) (inR_nI hr (by omega))) rfl rfl (shK hS rfl) rfl rfl lk_X7_223 rfl (nb rfl) ⟨nb rfl, nb rfl⟩ rfl ?_
  refine g_iconst (pc := 7) (v := 1) dX7_sameAs_7 rfl ?_
  refine g_invV_r (pc := 8) (As := [_, _]) dX7_sameAs_8 rfl (r_isThrown_0 hS) rfl rfl (shK hS rfl) rfl rfl lk_X7_209 rfl (nb rfl) ⟨nb rfl, nb rfl⟩ rfl ?_
  refine g_if_eq (pc := 11) (tgt := 18) dX7_sameAs_11 rfl (fun _ => ?_) (fun h11 => absurd (rfl) h11)
  refine g_aload_n (pc := 18) dX7_sameAs_18 rfl trivial ?_
  refine g_iload_n (pc := 19) dX7_sameAs_19 rfl ?_
  refine g_iload_n (pc := 20) dX7_sameAs_20 rfl ?_
  refine g_invV_r (pc := 21) (As := [_, _]) dX7_sameAs_21 rfl (r_firstAs h.thr hs hr) rfl rfl (shK hS rfl) rfl rfl lk_X7_242 rfl (nb rfl) ⟨nb rfl, nb rfl⟩ rfl ?_
  refine g_ireturn (pc := 24) dX7_sameAs_24 rfl rfl ?_
  exact ⟨rfl, rfl⟩
theorem t_sameAs {v w : Int32} (h : Rr M n A) (hx : ¬ (inR v 6 ∧ inR w n)) : EvR l jX7_sameAs 4 160 0 0 [.ref 198, .int v, .int w] M (.inl (some (.int 0))) (thr M 1) := by
  have hS := h.1
  refine ev_intro rfl (nb rfl) rfl ?_
  refine g_aload_n (pc := 0) dX7_sameAs_0 rfl trivial ?_
  refine g_aload_n (pc := 1) dX7_sameAs_1 rfl trivial ?_
  refine g_iload_n (pc := 2) dX7_sameAs_2 rfl ?_
  refine g_iload_n (pc := 3) dX7_sameAs_3 rfl ?_
  refine g_invV_r (pc := 4) (As := [_, _]) dX7_sameAs_4 rfl (r_areIn_f h hx) rfl rfl (shK hS rfl) rfl rfl lk_X7_223 rfl (nb rfl) ⟨nb rfl, nb rfl⟩ rfl ?_
  refine g_iconst (pc := 7) (v := 1) dX7_sameAs_7 rfl ?_
  refine g_invV_r (pc := 8) (As := [_, _]) dX7_sameAs_8 rfl (r_isThrown_1 hS) rfl rfl (shK hS rfl) rfl rfl lk_X7_209 rfl (nb rfl) ⟨nb rfl, nb rfl⟩ rfl ?_
  refine g_if_eq (pc := 11) (tgt := 18) dX7_sameAs_11 rfl (fun h11 => absurd h11 ((by decide))) (fun _ => ?_)
  refine g_iconst (pc := 14) (v := 0) dX7_sameAs_14 rfl ?_
  refine g_goto (pc := 15) (tgt := 24) dX7_sameAs_15 rfl ?_
  refine g_ireturn (pc := 24) dX7_sameAs_24 rfl rfl ?_
  exact ⟨rfl, rfl⟩
theorem n_find {s : Nat} {x : Int64} (h : Rr M n A) (hs : s < 6) : EvR l jX7_find 4 160 0 0 [.ref 198, .int (nI s), .long x] M (.inl (some (.int (firstEq (A s) (x.toInt32 &&& lowM n) n 0)))) (thr M 0) := by
  have hn := h.2.2.2.1
  have hS := h.1
  have h' := h.thr (x := 0)
  obtain ⟨S, hS9⟩ : ∃ S, S = firstEq (A s) (x.toInt32 &&& lowM n) n 0 := ⟨_, rfl⟩
  rw [← hS9]
  refine ev_intro rfl (nb rfl) rfl ?_
  refine g_aload_n (pc := 0) dX7_find_0 rfl trivial ?_
  refine g_iload_n (pc := 1) dX7_find_1 rfl ?_
  refine g_invS_r (pc := 2) (As := [_]) dX7_find_2 rfl (r_isSlot_t (in6 hs)) rfl rfl lk_X7_216 rfl (nb rfl) ⟨nb rfl, nb rfl⟩ rfl ?_
  refine g_iconst (pc := 5) (v := 1) dX7_find_5 rfl ?_
  refine g_invV_r (pc := 6) (As := [_, _]) dX7_find_6 rfl (r_isThrown_0 hS) rfl rfl (shK hS rfl) rfl rfl lk_X7_209 rfl (nb rfl) ⟨nb rfl, nb rfl⟩ rfl ?_
  refine g_if_eq (pc := 9) (tgt := 14) dX7_find_9 rfl (fun _ => ?_) (fun h9 => absurd (rfl) h9)
  refine g_iconst (pc := 14) (v := 0) dX7_find_14 rfl ?_
  refine g_istore (pc := 15) (lv' := [(0, _), (1, _), (2, _), (4, _)]) dX7_find_15 (nl rfl) rfl ?_
  refine go_while (pc := 17) (σ := Nat) (fun q => q ≤ n ∧ firstEq (A s) (x.toInt32 &&& lowM n) (n - q) q = S) (fun q => n - q) (fun q => [(0, .ref 198), (1, .int (nI s)), (2, .long x), (4, .int (nI q))]) (fun _ => thr M 0) 0 ⟨rfl, rfl, rfl, rfl, trivial⟩ rfl ⟨by omega, hS9.symm⟩ ?_
  rintro q ⟨h1, h3⟩ ih
  by_cases hq : q < n
  · obtain ⟨d, hd⟩ : ∃ d, n - q = d + 1 := ⟨n - q - 1, by omega⟩
    have hd' : n - (q + 1) = d := by omega
    rw [hd, firstEq] at h3
    by_cases he : A s q = x.toInt32 &&& lowM n
    · rw [if_pos he] at h3
      refine g_iload (pc := 17) dX7_find_17 rfl ?_
      refine g_aload_n (pc := 19) dX7_find_19 rfl trivial ?_
      refine g_invV_r (pc := 20) (As := []) dX7_find_20 rfl (r_size h') rfl rfl (shK hS rfl) rfl rfl lk_X7_71 rfl (nb rfl) ⟨nb rfl, nb rfl⟩ rfl ?_
      refine g_icmp_ge (pc := 23) (tgt := 52) dX7_find_23 rfl (fun h23 => absurd h23 (nI_ge hq (by omega))) (fun _ => ?_)
      refine g_aload_n (pc := 26) dX7_find_26 rfl trivial ?_
      refine g_iload_n (pc := 27) dX7_find_27 rfl ?_
      refine g_iload (pc := 28) dX7_find_28 rfl ?_
      refine g_invV_r (pc := 30) (As := [_, _]) dX7_find_30 rfl (r_rowOf h' hs hq) rfl rfl (shK hS rfl) rfl rfl lk_X7_227 rfl (nb rfl) ⟨nb rfl, nb rfl⟩ rfl ?_
      refine g_lload_n (pc := 33) dX7_find_33 rfl ?_
      refine g_aload_n (pc := 34) dX7_find_34 rfl trivial ?_
      refine g_invV_r (pc := 35) (As := []) dX7_find_35 rfl (r_all h') rfl rfl (shK hS rfl) rfl rfl lk_X7_245 rfl (nb rfl) ⟨nb rfl, nb rfl⟩ rfl ?_
      refine g_land (pc := 38) dX7_find_38 ?_
      rw [uL_low]
      refine g_lcmp (pc := 39) dX7_find_39 ?_
      refine g_if_ne (pc := 40) (tgt := 46) dX7_find_40 rfl (fun h40 => absurd h40 ((fun z => z ((lg_cmp_eq _ _).mpr (by rw [he]))))) (fun _ => ?_)
      refine g_iload (pc := 43) dX7_find_43 rfl ?_
      refine g_ireturn (pc := 45) dX7_find_45 rfl rfl ?_
      exact ⟨by rw [← h3], rfl⟩
    · rw [if_neg he] at h3
      refine g_iload (pc := 17) dX7_find_17 rfl ?_
      refine g_aload_n (pc := 19) dX7_find_19 rfl trivial ?_
      refine g_invV_r (pc := 20) (As := []) dX7_find_20 rfl (r_size h') rfl rfl (shK hS rfl) rfl rfl lk_X7_71 rfl (nb rfl) ⟨nb rfl, nb rfl⟩ rfl ?_
      refine g_icmp_ge (pc := 23) (tgt := 52) dX7_find_23 rfl (fun h23 => absurd h23 (nI_ge hq (by omega))) (fun _ => ?_)
      refine g_aload_n (pc := 26) dX7_find_26 rfl trivial ?_
      refine g_iload_n (pc := 27) dX7_find_27 rfl ?_
      refine g_iload (pc := 28) dX7_find_28 rfl ?_
      refine g_invV_r (pc := 30) (As := [_, _]) dX7_find_30 rfl (r_rowOf h' hs hq) rfl rfl (shK hS rfl) rfl rfl lk_X7_227 rfl (nb rfl) ⟨nb rfl, nb rfl⟩ rfl ?_
      refine g_lload_n (pc := 33) dX7_find_33 rfl ?_
      refine g_aload_n (pc := 34) dX7_find_34 rfl trivial ?_
      refine g_invV_r (pc := 35) (As := []) dX7_find_35 rfl (r_all h') rfl rfl (shK hS rfl) rfl rfl lk_X7_245 rfl (nb rfl) ⟨nb rfl, nb rfl⟩ rfl ?_
      refine g_land (pc := 38) dX7_find_38 ?_
      rw [uL_low]
      refine g_lcmp (pc := 39) dX7_find_39 ?_
      refine g_if_ne (pc := 40) (tgt := 46) dX7_find_40 rfl (fun _ => ?_) (fun h40 => absurd ((fun z => he (uL_inj.mp ((lg_cmp_eq _ _).mp z)))) h40)
      refine g_iinc (pc := 46) (lv' := [(0, _), (1, _), (2, _), (4, _)]) dX7_find_46 rfl (nI_1 _) (nl rfl) rfl ?_
      refine g_goto (pc := 49) (tgt := 17) dX7_find_49 rfl ?_
      exact ih (q + 1) ⟨by omega, by rw [hd']; exact h3⟩ (by omega)
  · have hq' : q = n := by omega
    subst hq'
    rw [Nat.sub_self, firstEq] at h3
    refine g_iload (pc := 17) dX7_find_17 rfl ?_
    refine g_aload_n (pc := 19) dX7_find_19 rfl trivial ?_
    refine g_invV_r (pc := 20) (As := []) dX7_find_20 rfl (r_size h') rfl rfl (shK hS rfl) rfl rfl lk_X7_71 rfl (nb rfl) ⟨nb rfl, nb rfl⟩ rfl ?_
    refine g_icmp_ge (pc := 23) (tgt := 52) dX7_find_23 rfl (fun _ => ?_) (fun h23 => absurd (nI_le (Nat.le_refl _) (by omega)) h23)
    refine g_iconst (pc := 52) (v := (-1)) dX7_find_52 rfl ?_
    refine g_ireturn (pc := 53) dX7_find_53 rfl rfl ?_
    exact ⟨by rw [← h3], rfl⟩
theorem t_find {v : Int32} {x : Int64} (h : Rr M n A) (hx : ¬ inR v 6) : EvR l jX7_find 4 160 0 0 [.ref 198, .int v, .long x] M (.inl (some (.int 0))) (thr M 1) := by
  have hS := h.1
  refine ev_intro rfl (nb rfl) rfl ?_
  refine g_aload_n (pc := 0) dX7_find_0 rfl trivial ?_
  refine g_iload_n (pc := 1) dX7_find_1 rfl ?_
  refine g_invS_r (pc := 2) (As := [_]) dX7_find_2 rfl (r_isSlot_f hx) rfl rfl lk_X7_216 rfl (nb rfl) ⟨nb rfl, nb rfl⟩ rfl ?_
  refine g_iconst (pc := 5) (v := 1) dX7_find_5 rfl ?_
  refine g_invV_r (pc := 6) (As := [_, _]) dX7_find_6 rfl (r_isThrown_1 hS) rfl rfl (shK hS rfl) rfl rfl lk_X7_209 rfl (nb rfl) ⟨nb rfl, nb rfl⟩ rfl ?_
  refine g_if_eq (pc := 9) (tgt := 14) dX7_find_9 rfl (fun h9 => absurd h9 ((by decide))) (fun _ => ?_)
  refine g_iconst (pc := 12) (v := 0) dX7_find_12 rfl ?_
  refine g_ireturn (pc := 13) dX7_find_13 rfl rfl ?_
  exact ⟨rfl, rfl⟩
theorem r_classesAhead {s m : Nat} (h : Rr M n A) (hs : s < 6) (hm : m ≤ n) : EvR l jX7_classesAhead 2 60 0 0 [.ref 198, .int (nI s), .int (nI m)] M (.inl (some (.int (frN (A s) n m)))) M := by
  have hn := h.2.2.2.1
  have hS := h.1
  refine ev_intro rfl (nb rfl) rfl ?_
  refine g_iconst (pc := 0) (v := 0) dX7_classesAhead_0 rfl ?_
  refine g_istore_n (pc := 1) (lv' := [(0, _), (1, _), (2, _), (3, _)]) dX7_classesAhead_1 (nl rfl) rfl ?_
  refine g_iconst (pc := 2) (v := 0) dX7_classesAhead_2 rfl ?_
  refine g_istore (pc := 3) (lv' := [(0, _), (1, _), (2, _), (3, _), (4, _)]) dX7_classesAhead_3 (nl rfl) rfl ?_
  refine go_loop (pc := 5) m (fun i => [(0, .ref 198), (1, .int (nI s)), (2, .int (nI m)), (3, .int (frN (A s) n i)), (4, .int (nI i))]) (fun _ => M) ⟨rfl, rfl, rfl, rfl, rfl, trivial⟩ rfl ?_ ?_
  · intro i hi ih
    rw [frN] at ih
    by_cases he : firstEq (A s) (A s i) n 0 = nI i
    · rw [if_pos he] at ih
      refine g_iload (pc := 5) dX7_classesAhead_5 rfl ?_
      refine g_iload_n (pc := 7) dX7_classesAhead_7 rfl ?_
      refine g_icmp_ge (pc := 8) (tgt := 37) dX7_classesAhead_8 rfl (fun h8 => absurd h8 (nI_ge hi (by omega))) (fun _ => ?_)
      refine g_iload_n (pc := 11) dX7_classesAhead_11 rfl ?_
      refine g_aload_n (pc := 12) dX7_classesAhead_12 rfl trivial ?_
      refine g_iload_n (pc := 13) dX7_classesAhead_13 rfl ?_
      refine g_iload (pc := 14) dX7_classesAhead_14 rfl ?_
      refine g_invV_r (pc := 16) (As := [_, _]) dX7_classesAhead_16 rfl (r_firstAs h hs (show i < n by omega)) rfl rfl (shK hS rfl) rfl rfl lk_X7_242 rfl (nb rfl) ⟨nb rfl, nb rfl⟩ rfl ?_
      refine g_iload (pc := 19) dX7_classesAhead_19 rfl ?_
      refine g_icmp_ne (pc := 21) (tgt := 28) dX7_classesAhead_21 rfl (fun h21 => absurd h21 ((fun z => z he))) (fun _ => ?_)
      refine g_iconst (pc := 24) (v := 1) dX7_classesAhead_24 rfl ?_
      refine g_goto (pc := 25) (tgt := 29) dX7_classesAhead_25 rfl ?_
      refine g_iadd (pc := 29) dX7_classesAhead_29 ?_
      refine g_istore_n (pc := 30) (lv' := [(0, _), (1, _), (2, _), (3, _), (4, _)]) dX7_classesAhead_30 (nl rfl) rfl ?_
      refine g_iinc (pc := 31) (lv' := [(0, _), (1, _), (2, _), (3, _), (4, _)]) dX7_classesAhead_31 rfl (nI_1 _) (nl rfl) rfl ?_
      refine g_goto (pc := 34) (tgt := 5) dX7_classesAhead_34 rfl ?_
      exact ih
    · rw [if_neg he] at ih
      refine g_iload (pc := 5) dX7_classesAhead_5 rfl ?_
      refine g_iload_n (pc := 7) dX7_classesAhead_7 rfl ?_
      refine g_icmp_ge (pc := 8) (tgt := 37) dX7_classesAhead_8 rfl (fun h8 => absurd h8 (nI_ge hi (by omega))) (fun _ => ?_)
      refine g_iload_n (pc := 11) dX7_classesAhead_11 rfl ?_
      refine g_aload_n (pc := 12) dX7_classesAhead_12 rfl trivial ?_
      refine g_iload_n (pc := 13) dX7_classesAhead_13 rfl ?_
      refine g_iload (pc := 14) dX7_classesAhead_14 rfl ?_
      refine g_invV_r (pc := 16) (As := [_, _]) dX7_classesAhead_16 rfl (r_firstAs h hs (show i < n by omega)) rfl rfl (shK hS rfl) rfl rfl lk_X7_242 rfl (nb rfl) ⟨nb rfl, nb rfl⟩ rfl ?_
      refine g_iload (pc := 19) dX7_classesAhead_19 rfl ?_
      refine g_icmp_ne (pc := 21) (tgt := 28) dX7_classesAhead_21 rfl (fun _ => ?_) (fun h21 => absurd (he) h21)
      refine g_iconst (pc := 28) (v := 0) dX7_classesAhead_28 rfl ?_
      refine g_iadd (pc := 29) dX7_classesAhead_29 ?_
      rw [Int32.add_zero]
      refine g_istore_n (pc := 30) (lv' := [(0, _), (1, _), (2, _), (3, _), (4, _)]) dX7_classesAhead_30 (nl rfl) rfl ?_
      refine g_iinc (pc := 31) (lv' := [(0, _), (1, _), (2, _), (3, _), (4, _)]) dX7_classesAhead_31 rfl (nI_1 _) (nl rfl) rfl ?_
      refine g_goto (pc := 34) (tgt := 5) dX7_classesAhead_34 rfl ?_
      exact ih
  · refine g_iload (pc := 5) dX7_classesAhead_5 rfl ?_
    refine g_iload_n (pc := 7) dX7_classesAhead_7 rfl ?_
    refine g_icmp_ge (pc := 8) (tgt := 37) dX7_classesAhead_8 rfl (fun _ => ?_) (fun h8 => absurd (nI_le (Nat.le_refl _) (by omega)) h8)
    refine g_iload_n (pc := 37) dX7_classesAhead_37 rfl ?_
    refine g_ireturn (pc := 38) dX7_classesAhead_38 rfl rfl ?_
    exact ⟨rfl, rfl⟩
theorem n_classes {s : Nat} (h : Rr M n A) (hs : s < 6) : EvR l jX7_classes 4 160 0 0 [.ref 198, .int (nI s)] M (.inl (some (.int (frN (A s) n n)))) (thr M 0) := by
  have hS := h.1
  refine ev_intro rfl (nb rfl) rfl ?_
  refine g_aload_n (pc := 0) dX7_classes_0 rfl trivial ?_
  refine g_iload_n (pc := 1) dX7_classes_1 rfl ?_
  refine g_invS_r (pc := 2) (As := [_]) dX7_classes_2 rfl (r_isSlot_t (in6 hs)) rfl rfl lk_X7_216 rfl (nb rfl) ⟨nb rfl, nb rfl⟩ rfl ?_
  refine g_iconst (pc := 5) (v := 1) dX7_classes_5 rfl ?_
  refine g_invV_r (pc := 6) (As := [_, _]) dX7_classes_6 rfl (r_isThrown_0 hS) rfl rfl (shK hS rfl) rfl rfl lk_X7_209 rfl (nb rfl) ⟨nb rfl, nb rfl⟩ rfl ?_
  refine g_if_eq (pc := 9) (tgt := 16) dX7_classes_9 rfl (fun _ => ?_) (fun h9 => absurd (rfl) h9)
  refine g_aload_n (pc := 16) dX7_classes_16 rfl trivial ?_
  refine g_iload_n (pc := 17) dX7_classes_17 rfl ?_
  refine g_aload_n (pc := 18) dX7_classes_18 rfl trivial ?_
  refine g_invV_r (pc := 19) (As := []) dX7_classes_19 rfl (r_size h.thr) rfl rfl (shK hS rfl) rfl rfl lk_X7_71 rfl (nb rfl) ⟨nb rfl, nb rfl⟩ rfl ?_
  refine g_invV_r (pc := 22) (As := [_, _]) dX7_classes_22 rfl (r_classesAhead h.thr hs (Nat.le_refl _)) rfl rfl (shK hS rfl) rfl rfl lk_X7_249 rfl (nb rfl) ⟨nb rfl, nb rfl⟩ rfl ?_
  refine g_ireturn (pc := 25) dX7_classes_25 rfl rfl ?_
  exact ⟨rfl, rfl⟩
theorem t_classes {v : Int32} (h : Rr M n A) (hx : ¬ inR v 6) : EvR l jX7_classes 4 160 0 0 [.ref 198, .int v] M (.inl (some (.int 0))) (thr M 1) := by
  have hS := h.1
  refine ev_intro rfl (nb rfl) rfl ?_
  refine g_aload_n (pc := 0) dX7_classes_0 rfl trivial ?_
  refine g_iload_n (pc := 1) dX7_classes_1 rfl ?_
  refine g_invS_r (pc := 2) (As := [_]) dX7_classes_2 rfl (r_isSlot_f hx) rfl rfl lk_X7_216 rfl (nb rfl) ⟨nb rfl, nb rfl⟩ rfl ?_
  refine g_iconst (pc := 5) (v := 1) dX7_classes_5 rfl ?_
  refine g_invV_r (pc := 6) (As := [_, _]) dX7_classes_6 rfl (r_isThrown_1 hS) rfl rfl (shK hS rfl) rfl rfl lk_X7_209 rfl (nb rfl) ⟨nb rfl, nb rfl⟩ rfl ?_
  refine g_if_eq (pc := 9) (tgt := 16) dX7_classes_9 rfl (fun h9 => absurd h9 ((by decide))) (fun _ => ?_)
  refine g_iconst (pc := 12) (v := 0) dX7_classes_12 rfl ?_
  refine g_goto (pc := 13) (tgt := 25) dX7_classes_13 rfl ?_
  refine g_ireturn (pc := 25) dX7_classes_25 rfl rfl ?_
  exact ⟨rfl, rfl⟩
theorem n_classOf {s r : Nat} (h : Rr M n A) (hs : s < 6) (hr : r < n) : EvR l jX7_classOf 4 160 0 0 [.ref 198, .int (nI s), .int (nI r)] M (.inl (some (.int (frN (A s) n (firstN (A s) r n))))) (thr M 0) := by
  have hn := h.2.2.2.1
  have hS := h.1
  obtain ⟨f1, f2⟩ := firstN_ok (f := A s) hr hn
  refine ev_intro rfl (nb rfl) rfl ?_
  refine g_aload_n (pc := 0) dX7_classOf_0 rfl trivial ?_
  refine g_aload_n (pc := 1) dX7_classOf_1 rfl trivial ?_
  refine g_iload_n (pc := 2) dX7_classOf_2 rfl ?_
  refine g_iload_n (pc := 3) dX7_classOf_3 rfl ?_
  refine g_invV_r (pc := 4) (As := [_, _]) dX7_classOf_4 rfl (r_areIn_t h (in6 hs) (inR_nI hr (by omega))) rfl rfl (shK hS rfl) rfl rfl lk_X7_223 rfl (nb rfl) ⟨nb rfl, nb rfl⟩ rfl ?_
  refine g_iconst (pc := 7) (v := 1) dX7_classOf_7 rfl ?_
  refine g_invV_r (pc := 8) (As := [_, _]) dX7_classOf_8 rfl (r_isThrown_0 hS) rfl rfl (shK hS rfl) rfl rfl lk_X7_209 rfl (nb rfl) ⟨nb rfl, nb rfl⟩ rfl ?_
  refine g_if_eq (pc := 11) (tgt := 18) dX7_classOf_11 rfl (fun _ => ?_) (fun h11 => absurd (rfl) h11)
  refine g_aload_n (pc := 18) dX7_classOf_18 rfl trivial ?_
  refine g_iload_n (pc := 19) dX7_classOf_19 rfl ?_
  refine g_aload_n (pc := 20) dX7_classOf_20 rfl trivial ?_
  refine g_iload_n (pc := 21) dX7_classOf_21 rfl ?_
  refine g_iload_n (pc := 22) dX7_classOf_22 rfl ?_
  refine g_invV_r (pc := 23) (As := [_, _]) dX7_classOf_23 rfl (r_firstAs h.thr hs hr) rfl rfl (shK hS rfl) rfl rfl lk_X7_242 rfl (nb rfl) ⟨nb rfl, nb rfl⟩ rfl ?_
  rw [f1]
  refine g_invV_r (pc := 26) (As := [_, _]) dX7_classOf_26 rfl (r_classesAhead h.thr hs (show firstN (A s) r n ≤ n by omega)) rfl rfl (shK hS rfl) rfl rfl lk_X7_249 rfl (nb rfl) ⟨nb rfl, nb rfl⟩ rfl ?_
  refine g_ireturn (pc := 29) dX7_classOf_29 rfl rfl ?_
  exact ⟨rfl, rfl⟩
theorem t_classOf {v w : Int32} (h : Rr M n A) (hx : ¬ (inR v 6 ∧ inR w n)) : EvR l jX7_classOf 4 160 0 0 [.ref 198, .int v, .int w] M (.inl (some (.int 0))) (thr M 1) := by
  have hS := h.1
  refine ev_intro rfl (nb rfl) rfl ?_
  refine g_aload_n (pc := 0) dX7_classOf_0 rfl trivial ?_
  refine g_aload_n (pc := 1) dX7_classOf_1 rfl trivial ?_
  refine g_iload_n (pc := 2) dX7_classOf_2 rfl ?_
  refine g_iload_n (pc := 3) dX7_classOf_3 rfl ?_
  refine g_invV_r (pc := 4) (As := [_, _]) dX7_classOf_4 rfl (r_areIn_f h hx) rfl rfl (shK hS rfl) rfl rfl lk_X7_223 rfl (nb rfl) ⟨nb rfl, nb rfl⟩ rfl ?_
  refine g_iconst (pc := 7) (v := 1) dX7_classOf_7 rfl ?_
  refine g_invV_r (pc := 8) (As := [_, _]) dX7_classOf_8 rfl (r_isThrown_1 hS) rfl rfl (shK hS rfl) rfl rfl lk_X7_209 rfl (nb rfl) ⟨nb rfl, nb rfl⟩ rfl ?_
  refine g_if_eq (pc := 11) (tgt := 18) dX7_classOf_11 rfl (fun h11 => absurd h11 ((by decide))) (fun _ => ?_)
  refine g_iconst (pc := 14) (v := 0) dX7_classOf_14 rfl ?_
  refine g_goto (pc := 15) (tgt := 29) dX7_classOf_15 rfl ?_
  refine g_ireturn (pc := 29) dX7_classOf_29 rfl rfl ?_
  exact ⟨rfl, rfl⟩
theorem n_nearest {s r : Nat} (h : Rr M n A) (hs : s < 6) (hr : r < n) : EvR l jX7_nearest 4 160 0 0 [.ref 198, .int (nI s), .int (nI r)] M (.inl (some (.int (nrF (A s) r n).1))) (thr M 0) := by
  have hn := h.2.2.2.1
  have hS := h.1
  have h' := h.thr (x := 0)
  refine ev_intro rfl (nb rfl) rfl ?_
  refine g_aload_n (pc := 0) dX7_nearest_0 rfl trivial ?_
  refine g_aload_n (pc := 1) dX7_nearest_1 rfl trivial ?_
  refine g_iload_n (pc := 2) dX7_nearest_2 rfl ?_
  refine g_iload_n (pc := 3) dX7_nearest_3 rfl ?_
  refine g_invV_r (pc := 4) (As := [_, _]) dX7_nearest_4 rfl (r_areIn_t h (in6 hs) (inR_nI hr (by omega))) rfl rfl (shK hS rfl) rfl rfl lk_X7_223 rfl (nb rfl) ⟨nb rfl, nb rfl⟩ rfl ?_
  refine g_iconst (pc := 7) (v := 1) dX7_nearest_7 rfl ?_
  refine g_invV_r (pc := 8) (As := [_, _]) dX7_nearest_8 rfl (r_isThrown_0 hS) rfl rfl (shK hS rfl) rfl rfl lk_X7_209 rfl (nb rfl) ⟨nb rfl, nb rfl⟩ rfl ?_
  refine g_if_eq (pc := 11) (tgt := 16) dX7_nearest_11 rfl (fun _ => ?_) (fun h11 => absurd (rfl) h11)
  refine g_iconst (pc := 16) (v := (-1)) dX7_nearest_16 rfl ?_
  refine g_istore_n (pc := 17) (lv' := [(0, _), (1, _), (2, _), (3, _)]) dX7_nearest_17 (nl rfl) rfl ?_
  refine g_bipush (pc := 18) (v := 33) dX7_nearest_18 rfl ?_
  refine g_istore (pc := 20) (lv' := [(0, _), (1, _), (2, _), (3, _), (4, _)]) dX7_nearest_20 (nl rfl) rfl ?_
  refine g_iconst (pc := 22) (v := 0) dX7_nearest_22 rfl ?_
  refine g_istore (pc := 23) (lv' := [(0, _), (1, _), (2, _), (3, _), (4, _), (5, _)]) dX7_nearest_23 (nl rfl) rfl ?_
  refine go_loop (pc := 25) n (fun i => [(0, .ref 198), (1, .int (nI s)), (2, .int (nI r)), (3, .int (nrF (A s) r i).1), (4, .int (nrF (A s) r i).2), (5, .int (nI i))]) (fun _ => thr M 0) ⟨rfl, rfl, rfl, rfl, rfl, rfl, trivial⟩ rfl ?_ ?_
  · intro i hi ih
    generalize nrF (A s) r n = X at ih ⊢
    rw [nrF] at ih
    refine g_iload (pc := 25) dX7_nearest_25 rfl ?_
    refine g_aload_n (pc := 27) dX7_nearest_27 rfl trivial ?_
    refine g_invV_r (pc := 28) (As := []) dX7_nearest_28 rfl (r_size h') rfl rfl (shK hS rfl) rfl rfl lk_X7_71 rfl (nb rfl) ⟨nb rfl, nb rfl⟩ rfl ?_
    refine g_icmp_ge (pc := 31) (tgt := 79) dX7_nearest_31 rfl (fun h31 => absurd h31 (nI_ge hi (by omega))) (fun _ => ?_)
    refine g_aload_n (pc := 34) dX7_nearest_34 rfl trivial ?_
    refine g_iload_n (pc := 35) dX7_nearest_35 rfl ?_
    refine g_iload (pc := 36) dX7_nearest_36 rfl ?_
    refine g_invV_r (pc := 38) (As := [_, _]) dX7_nearest_38 rfl (r_rowOf h' hs hi) rfl rfl (shK hS rfl) rfl rfl lk_X7_227 rfl (nb rfl) ⟨nb rfl, nb rfl⟩ rfl ?_
    refine g_aload_n (pc := 41) dX7_nearest_41 rfl trivial ?_
    refine g_iload_n (pc := 42) dX7_nearest_42 rfl ?_
    refine g_iload_n (pc := 43) dX7_nearest_43 rfl ?_
    refine g_invV_r (pc := 44) (As := [_, _]) dX7_nearest_44 rfl (r_rowOf h' hs hr) rfl rfl (shK hS rfl) rfl rfl lk_X7_227 rfl (nb rfl) ⟨nb rfl, nb rfl⟩ rfl ?_
    refine g_lxor (pc := 47) dX7_nearest_47 ?_
    rw [uL_xor]
    refine g_invS_r (pc := 48) (As := [_]) dX7_nearest_48 rfl (r_bitsOf) rfl rfl lk_X7_234 rfl (nb rfl) ⟨nb rfl, nb rfl⟩ rfl ?_
    refine g_istore (pc := 51) (lv' := [(0, _), (1, _), (2, _), (3, _), (4, _), (5, _), (6, _)]) dX7_nearest_51 (nl rfl) rfl ?_
    refine g_iload (pc := 53) dX7_nearest_53 rfl ?_
    refine g_iload_n (pc := 55) dX7_nearest_55 rfl ?_
    refine g_icmp_eq (pc := 56) (tgt := 73) dX7_nearest_56 rfl (fun h56 => ?_) (fun h56 => ?_)
    · rw [if_pos ((nI_eq (by omega) (by omega)).mp h56)] at ih
      refine g_iinc (pc := 73) (lv' := [(0, _), (1, _), (2, _), (3, _), (4, _), (5, _), (6, _)]) dX7_nearest_73 rfl (nI_1 _) (nl rfl) rfl ?_
      refine g_goto (pc := 76) (tgt := 25) dX7_nearest_76 rfl ?_
      exact g_sub (lv' := [(0, _), (1, _), (2, _), (3, _), (4, _), (5, _)]) ⟨rfl, rfl, rfl, rfl, rfl, rfl, trivial⟩ ih
    · rw [if_neg (fun h => h56 (by rw [h]))] at ih
      refine g_iload (pc := 59) dX7_nearest_59 rfl ?_
      refine g_iload (pc := 61) dX7_nearest_61 rfl ?_
      refine g_icmp_ge (pc := 63) (tgt := 73) dX7_nearest_63 rfl (fun h63 => ?_) (fun h63 => ?_)
      · rw [if_neg (Int32.not_lt.mpr h63)] at ih
        refine g_iinc (pc := 73) (lv' := [(0, _), (1, _), (2, _), (3, _), (4, _), (5, _), (6, _)]) dX7_nearest_73 rfl (nI_1 _) (nl rfl) rfl ?_
        refine g_goto (pc := 76) (tgt := 25) dX7_nearest_76 rfl ?_
        exact g_sub (lv' := [(0, _), (1, _), (2, _), (3, _), (4, _), (5, _)]) ⟨rfl, rfl, rfl, rfl, rfl, rfl, trivial⟩ ih
      · rw [if_pos (Int32.not_le.mp h63)] at ih
        refine g_iload (pc := 66) dX7_nearest_66 rfl ?_
        refine g_istore_n (pc := 68) (lv' := [(0, _), (1, _), (2, _), (3, _), (4, _), (5, _), (6, _)]) dX7_nearest_68 (nl rfl) rfl ?_
        refine g_iload (pc := 69) dX7_nearest_69 rfl ?_
        refine g_istore (pc := 71) (lv' := [(0, _), (1, _), (2, _), (3, _), (4, _), (5, _), (6, _)]) dX7_nearest_71 (nl rfl) rfl ?_
        refine g_iinc (pc := 73) (lv' := [(0, _), (1, _), (2, _), (3, _), (4, _), (5, _), (6, _)]) dX7_nearest_73 rfl (nI_1 _) (nl rfl) rfl ?_
        refine g_goto (pc := 76) (tgt := 25) dX7_nearest_76 rfl ?_
        exact g_sub (lv' := [(0, _), (1, _), (2, _), (3, _), (4, _), (5, _)]) ⟨rfl, rfl, rfl, rfl, rfl, rfl, trivial⟩ ih
  · refine g_iload (pc := 25) dX7_nearest_25 rfl ?_
    refine g_aload_n (pc := 27) dX7_nearest_27 rfl trivial ?_
    refine g_invV_r (pc := 28) (As := []) dX7_nearest_28 rfl (r_size h') rfl rfl (shK hS rfl) rfl rfl lk_X7_71 rfl (nb rfl) ⟨nb rfl, nb rfl⟩ rfl ?_
    refine g_icmp_ge (pc := 31) (tgt := 79) dX7_nearest_31 rfl (fun _ => ?_) (fun h31 => absurd (nI_le (Nat.le_refl _) (by omega)) h31)
    refine g_iload_n (pc := 79) dX7_nearest_79 rfl ?_
    refine g_ireturn (pc := 80) dX7_nearest_80 rfl rfl ?_
    exact ⟨rfl, rfl⟩
theorem t_nearest {v w : Int32} (h : Rr M n A) (hx : ¬ (inR v 6 ∧ inR w n)) : EvR l jX7_nearest 4 160 0 0 [.ref 198, .int v, .int w] M (.inl (some (.int 0))) (thr M 1) := by
  have hS := h.1
  refine ev_intro rfl (nb rfl) rfl ?_
  refine g_aload_n (pc := 0) dX7_nearest_0 rfl trivial ?_
  refine g_aload_n (pc := 1) dX7_nearest_1 rfl trivial ?_
  refine g_iload_n (pc := 2) dX7_nearest_2 rfl ?_
  refine g_iload_n (pc := 3) dX7_nearest_3 rfl ?_
  refine g_invV_r (pc := 4) (As := [_, _]) dX7_nearest_4 rfl (r_areIn_f h hx) rfl rfl (shK hS rfl) rfl rfl lk_X7_223 rfl (nb rfl) ⟨nb rfl, nb rfl⟩ rfl ?_
  refine g_iconst (pc := 7) (v := 1) dX7_nearest_7 rfl ?_
  refine g_invV_r (pc := 8) (As := [_, _]) dX7_nearest_8 rfl (r_isThrown_1 hS) rfl rfl (shK hS rfl) rfl rfl lk_X7_209 rfl (nb rfl) ⟨nb rfl, nb rfl⟩ rfl ?_
  refine g_if_eq (pc := 11) (tgt := 16) dX7_nearest_11 rfl (fun h11 => absurd h11 ((by decide))) (fun _ => ?_)
  refine g_iconst (pc := 14) (v := 0) dX7_nearest_14 rfl ?_
  refine g_ireturn (pc := 15) dX7_nearest_15 rfl rfl ?_
  exact ⟨rfl, rfl⟩
end
end
-- 253.rq
section
/-! the reference: symmetry, closures -/
section
variable {l : Launch} {M : Mem} {n : Nat} {A : Nat → Nat → Int32}
def syP (f : Nat → Int32) (n : Nat) : Prop := ∀ r, r < n → ∀ c, c < r → hb (f r) c = hb (f c) r
theorem b1_inj {a b : Bool} : b1 a = b1 b ↔ a = b := by cases a <;> cases b <;> decide
theorem n_isSymmetric {s : Nat} {b : Bool} (h : Rr M n A) (hs : s < 6) (hb9 : b = true ↔ syP (A s) n) : EvR l jX7_isSymmetric 4 160 0 0 [.ref 198, .int (nI s)] M (.inl (some (.int (b1 b)))) (thr M 0) := by
  have hn := h.2.2.2.1
  have hS := h.1
  have h' := h.thr (x := 0)
  refine ev_intro rfl (nb rfl) rfl ?_
  refine g_aload_n (pc := 0) dX7_isSymmetric_0 rfl trivial ?_
  refine g_iload_n (pc := 1) dX7_isSymmetric_1 rfl ?_
  refine g_invS_r (pc := 2) (As := [_]) dX7_isSymmetric_2 rfl (r_isSlot_t (in6 hs)) rfl rfl lk_X7_216 rfl (nb rfl) ⟨nb rfl, nb rfl⟩ rfl ?_
  refine g_iconst (pc := 5) (v := 1) dX7_isSymmetric_5 rfl ?_
  refine g_invV_r (pc := 6) (As := [_, _]) dX7_isSymmetric_6 rfl (r_isThrown_0 hS) rfl rfl (shK hS rfl) rfl rfl lk_X7_209 rfl (nb rfl) ⟨nb rfl, nb rfl⟩ rfl ?_
  refine g_if_eq (pc := 9) (tgt := 14) dX7_isSymmetric_9 rfl (fun _ => ?_) (fun h9 => absurd (rfl) h9)
  refine g_iconst (pc := 14) (v := 0) dX7_isSymmetric_14 rfl ?_
  refine g_istore_n (pc := 15) (lv' := [(0, _), (1, _), (2, _)]) dX7_isSymmetric_15 (nl rfl) rfl ?_
  refine go_while (pc := 16) (σ := Nat) (fun q => q ≤ n ∧ ∀ r, r < q → ∀ c, c < r → hb (A s r) c = hb (A s c) r) (fun q => n - q) (fun q => [(0, .ref 198), (1, .int (nI s)), (2, .int (nI q))]) (fun _ => thr M 0) 0 ⟨rfl, rfl, rfl, trivial⟩ rfl ⟨by omega, fun r hr => by omega⟩ ?_
  rintro q ⟨h1, h3⟩ ih
  by_cases hq : q < n
  · refine g_iload_n (pc := 16) dX7_isSymmetric_16 rfl ?_
    refine g_aload_n (pc := 17) dX7_isSymmetric_17 rfl trivial ?_
    refine g_invV_r (pc := 18) (As := []) dX7_isSymmetric_18 rfl (r_size h') rfl rfl (shK hS rfl) rfl rfl lk_X7_71 rfl (nb rfl) ⟨nb rfl, nb rfl⟩ rfl ?_
    refine g_icmp_ge (pc := 21) (tgt := 68) dX7_isSymmetric_21 rfl (fun h21 => absurd h21 (nI_ge hq (by omega))) (fun _ => ?_)
    refine g_iconst (pc := 24) (v := 0) dX7_isSymmetric_24 rfl ?_
    refine g_istore_n (pc := 25) (lv' := [(0, _), (1, _), (2, _), (3, _)]) dX7_isSymmetric_25 (nl rfl) rfl ?_
    refine go_while (pc := 26) (σ := Nat) (fun z => z ≤ q ∧ ∀ c, c < z → hb (A s q) c = hb (A s c) q) (fun z => q - z) (fun z => [(0, .ref 198), (1, .int (nI s)), (2, .int (nI q)), (3, .int (nI z))]) (fun _ => thr M 0) 0 ⟨rfl, rfl, rfl, rfl, trivial⟩ rfl ⟨by omega, fun r hr => by omega⟩ ?_
    rintro z ⟨k1, k3⟩ ih2
    by_cases hz : z < q
    · by_cases he : hb (A s q) z = hb (A s z) q
      · refine g_iload_n (pc := 26) dX7_isSymmetric_26 rfl ?_
        refine g_iload_n (pc := 27) dX7_isSymmetric_27 rfl ?_
        refine g_icmp_ge (pc := 28) (tgt := 62) dX7_isSymmetric_28 rfl (fun h28 => absurd h28 (nI_ge hz (by omega))) (fun _ => ?_)
        refine g_aload_n (pc := 31) dX7_isSymmetric_31 rfl trivial ?_
        refine g_iload_n (pc := 32) dX7_isSymmetric_32 rfl ?_
        refine g_iload_n (pc := 33) dX7_isSymmetric_33 rfl ?_
        refine g_invV_r (pc := 34) (As := [_, _]) dX7_isSymmetric_34 rfl (r_rowOf h' hs hq) rfl rfl (shK hS rfl) rfl rfl lk_X7_227 rfl (nb rfl) ⟨nb rfl, nb rfl⟩ rfl ?_
        refine g_iload_n (pc := 37) dX7_isSymmetric_37 rfl ?_
        refine g_invS_r (pc := 38) (As := [_, _]) dX7_isSymmetric_38 rfl (r_one (show z < 32 by omega)) rfl rfl lk_X7_231 rfl (nb rfl) ⟨nb rfl, nb rfl⟩ rfl ?_
        refine g_aload_n (pc := 41) dX7_isSymmetric_41 rfl trivial ?_
        refine g_iload_n (pc := 42) dX7_isSymmetric_42 rfl ?_
        refine g_iload_n (pc := 43) dX7_isSymmetric_43 rfl ?_
        refine g_invV_r (pc := 44) (As := [_, _]) dX7_isSymmetric_44 rfl (r_rowOf h' hs (show z < n by omega)) rfl rfl (shK hS rfl) rfl rfl lk_X7_227 rfl (nb rfl) ⟨nb rfl, nb rfl⟩ rfl ?_
        refine g_iload_n (pc := 47) dX7_isSymmetric_47 rfl ?_
        refine g_invS_r (pc := 48) (As := [_, _]) dX7_isSymmetric_48 rfl (r_one (show q < 32 by omega)) rfl rfl lk_X7_231 rfl (nb rfl) ⟨nb rfl, nb rfl⟩ rfl ?_
        refine g_icmp_eq (pc := 51) (tgt := 56) dX7_isSymmetric_51 rfl (fun _ => ?_) (fun h51 => absurd ((by rw [he])) h51)
        refine g_iinc (pc := 56) (lv' := [(0, _), (1, _), (2, _), (3, _)]) dX7_isSymmetric_56 rfl (nI_1 _) (nl rfl) rfl ?_
        refine g_goto (pc := 59) (tgt := 26) dX7_isSymmetric_59 rfl ?_
        exact ih2 (z + 1) ⟨hz, fun c hc => (by omega : c < z ∨ c = z).elim (k3 c) (fun e => e ▸ he)⟩ (by omega)
      · have hf : b = false := by
          cases b with
          | false => rfl
          | true => exact absurd (hb9.mp rfl q hq z hz) he
        subst hf
        refine g_iload_n (pc := 26) dX7_isSymmetric_26 rfl ?_
        refine g_iload_n (pc := 27) dX7_isSymmetric_27 rfl ?_
        refine g_icmp_ge (pc := 28) (tgt := 62) dX7_isSymmetric_28 rfl (fun h28 => absurd h28 (nI_ge hz (by omega))) (fun _ => ?_)
        refine g_aload_n (pc := 31) dX7_isSymmetric_31 rfl trivial ?_
        refine g_iload_n (pc := 32) dX7_isSymmetric_32 rfl ?_
        refine g_iload_n (pc := 33) dX7_isSymmetric_33 rfl ?_
        refine g_invV_r (pc := 34) (As := [_, _]) dX7_isSymmetric_34 rfl (r_rowOf h' hs hq) rfl rfl (shK hS rfl) rfl rfl lk_X7_227 rfl (nb rfl) ⟨nb rfl, nb rfl⟩ rfl ?_
        refine g_iload_n (pc := 37) dX7_isSymmetric_37 rfl ?_
        refine g_invS_r (pc := 38) (As := [_, _]) dX7_isSymmetric_38 rfl (r_one (show z < 32 by omega)) rfl rfl lk_X7_231 rfl (nb rfl) ⟨nb rfl, nb rfl⟩ rfl ?_
        refine g_aload_n (pc := 41) dX7_isSymmetric_41 rfl trivial ?_
        refine g_iload_n (pc := 42) dX7_isSymmetric_42 rfl ?_
        refine g_iload_n (pc := 43) dX7_isSymmetric_43 rfl ?_
        refine g_invV_r (pc := 44) (As := [_, _]) dX7_isSymmetric_44 rfl (r_rowOf h' hs (show z < n by omega)) rfl rfl (shK hS rfl) rfl rfl lk_X7_227 rfl (nb rfl) ⟨nb rfl, nb rfl⟩ rfl ?_
        refine g_iload_n (pc := 47) dX7_isSymmetric_47 rfl ?_
        refine g_invS_r (pc := 48) (As := [_, _]) dX7_isSymmetric_48 rfl (r_one (show q < 32 by omega)) rfl rfl lk_X7_231 rfl (nb rfl) ⟨nb rfl, nb rfl⟩ rfl ?_
        refine g_icmp_eq (pc := 51) (tgt := 56) dX7_isSymmetric_51 rfl (fun h51 => absurd h51 ((fun e => he (b1_inj.mp e)))) (fun _ => ?_)
        refine g_iconst (pc := 54) (v := 0) dX7_isSymmetric_54 rfl ?_
        refine g_ireturn (pc := 55) dX7_isSymmetric_55 rfl rfl ?_
        exact ⟨rfl, rfl⟩
    · have hz' : z = q := by omega
      subst hz'
      refine g_iload_n (pc := 26) dX7_isSymmetric_26 rfl ?_
      refine g_iload_n (pc := 27) dX7_isSymmetric_27 rfl ?_
      refine g_icmp_ge (pc := 28) (tgt := 62) dX7_isSymmetric_28 rfl (fun _ => ?_) (fun h28 => absurd (nI_le (Nat.le_refl _) (by omega)) h28)
      refine g_iinc (pc := 62) (lv' := [(0, _), (1, _), (2, _), (3, _)]) dX7_isSymmetric_62 rfl (nI_1 _) (nl rfl) rfl ?_
      refine g_goto (pc := 65) (tgt := 16) dX7_isSymmetric_65 rfl ?_
      exact g_sub (lv' := [(0, _), (1, _), (2, _)]) ⟨rfl, rfl, rfl, trivial⟩ (ih (z + 1) ⟨hq, fun r hr => (by omega : r < z ∨ r = z).elim (h3 r) (fun e => e ▸ k3)⟩ (by omega))
  · have hq' : q = n := by omega
    subst hq'
    have ht : b = true := hb9.mpr h3
    subst ht
    refine g_iload_n (pc := 16) dX7_isSymmetric_16 rfl ?_
    refine g_aload_n (pc := 17) dX7_isSymmetric_17 rfl trivial ?_
    refine g_invV_r (pc := 18) (As := []) dX7_isSymmetric_18 rfl (r_size h') rfl rfl (shK hS rfl) rfl rfl lk_X7_71 rfl (nb rfl) ⟨nb rfl, nb rfl⟩ rfl ?_
    refine g_icmp_ge (pc := 21) (tgt := 68) dX7_isSymmetric_21 rfl (fun _ => ?_) (fun h21 => absurd (nI_le (Nat.le_refl _) (by omega)) h21)
    refine g_iconst (pc := 68) (v := 1) dX7_isSymmetric_68 rfl ?_
    refine g_ireturn (pc := 69) dX7_isSymmetric_69 rfl rfl ?_
    exact ⟨rfl, rfl⟩
theorem t_isSymmetric {v : Int32} (h : Rr M n A) (hx : ¬ inR v 6) : EvR l jX7_isSymmetric 4 160 0 0 [.ref 198, .int v] M (.inl (some (.int 0))) (thr M 1) := by
  have hS := h.1
  refine ev_intro rfl (nb rfl) rfl ?_
  refine g_aload_n (pc := 0) dX7_isSymmetric_0 rfl trivial ?_
  refine g_iload_n (pc := 1) dX7_isSymmetric_1 rfl ?_
  refine g_invS_r (pc := 2) (As := [_]) dX7_isSymmetric_2 rfl (r_isSlot_f hx) rfl rfl lk_X7_216 rfl (nb rfl) ⟨nb rfl, nb rfl⟩ rfl ?_
  refine g_iconst (pc := 5) (v := 1) dX7_isSymmetric_5 rfl ?_
  refine g_invV_r (pc := 6) (As := [_, _]) dX7_isSymmetric_6 rfl (r_isThrown_1 hS) rfl rfl (shK hS rfl) rfl rfl lk_X7_209 rfl (nb rfl) ⟨nb rfl, nb rfl⟩ rfl ?_
  refine g_if_eq (pc := 9) (tgt := 14) dX7_isSymmetric_9 rfl (fun h9 => absurd h9 ((by decide))) (fun _ => ?_)
  refine g_iconst (pc := 12) (v := 0) dX7_isSymmetric_12 rfl ?_
  refine g_ireturn (pc := 13) dX7_isSymmetric_13 rfl rfl ?_
  exact ⟨rfl, rfl⟩
/-- rows of ints as longs -/
def uR (f : Nat → Int32) : Nat → Int64 := fun i => uL (f i)
theorem Rr.sL {x : Nat} {g : Nat → Int64} (h : Rr M n A) (hx : x ≠ 199) : Rr (sL M x g) n A := ⟨h.1, by rw [sL_ne (Ne.symm hx)]; exact h.2.1, h.2.2.1, h.2.2.2.1, fun s r hs hr => by rw [sL_ne (Ne.symm hx)]; exact h.2.2.2.2 s r hs hr⟩
theorem wr_wr {α : Type} (f x y : Nat → α) (i : Nat) : wr (wr f x i) y i = wr f y i := by funext k; simp only [wr]; split <;> rfl
theorem wr_set {g : Nat → Int64} {F : Nat → Int32} {i : Nat} {v : Int32} (hi : i < n) : fun_set (wr g (uR F) n) i (uL v) = wr g (uR (fun_set F i v)) n := by
  funext k
  simp only [fun_set, wr, uR]
  by_cases h : k = i
  · subst h; simp [hi]
  · simp [h]
/-- one of the arrays at hand -/
def isH (x : Nat) : Prop := x = 205 ∨ x = 206 ∨ x = 207
theorem isH.ne {x : Nat} (h : isH x) : x ≠ 199 := by rcases h with rfl | rfl | rfl <;> decide
theorem isH.k {x : Nat} (h : isH x) : LAY[x]? = some (kL 32) := by rcases h with rfl | rfl | rfl <;> rfl
/-- array x holds rows -/
def hdM (M : Mem) (x n : Nat) (f : Nat → Int32) : Mem := sL M x (wr (mL M x) (uR f) n)
theorem hdM_2 {x : Nat} {f g : Nat → Int32} : hdM (hdM M x n f) x n g = hdM M x n g := by unfold hdM; rw [sL_self, sL_2, wr_wr]
theorem hdM_at {x i : Nat} {f : Nat → Int32} (hi : i < n) : mL (hdM M x n f) x i = uL (f i) := by unfold hdM; rw [sL_self, wr_lt hi]; rfl
theorem hdM_ne {x y : Nat} {f : Nat → Int32} (h : y ≠ x) : mL (hdM M x n f) y = mL M y := by unfold hdM; rw [sL_ne h]
theorem hdM_st {x i : Nat} {f : Nat → Int32} {v : Int32} (hi : i < n) : pL (hdM M x n f) x i (uL v) = hdM M x n (fun_set f i v) := by
  unfold hdM
  exact sL_st (wr_set hi)
theorem hdM_eq {x : Nat} {f : Nat → Int32} (h : ∀ i, i < n → mL M x i = uL (f i)) : M = hdM M x n f := by
  unfold hdM
  refine sL_eq ?_
  funext k
  simp only [wr, uR]
  split
  · rw [h k (by assumption)]
  · rfl
theorem Rr.hd {x : Nat} {f : Nat → Int32} (h : Rr M n A) (hx : isH x) : Rr (hdM M x n f) n A := h.sL hx.ne
theorem r_takes {s x : Nat} (h : Rr M n A) (hs : s < 6) (hx : isH x) : EvR l jX7_takes 1 30 0 0 [.ref 198, .int (nI s), .ref x] M (.inl none) (hdM M x n (A s)) := by
  have hn := h.2.2.2.1
  have hS := h.1
  refine ev_intro rfl (nb rfl) rfl ?_
  refine g_iconst (pc := 0) (v := 0) dX7_takes_0 rfl ?_
  refine g_istore_n (pc := 1) (lv' := [(0, _), (1, _), (2, _), (3, _)]) dX7_takes_1 (nl rfl) rfl ?_
  refine go_loop (pc := 2) n (fun i => [(0, .ref 198), (1, .int (nI s)), (2, .ref x), (3, .int (nI i))]) (fun i => sL M x (wr (mL M x) (uR (A s)) i)) ⟨rfl, rfl, rfl, rfl, trivial⟩ (sL_eq (wr_0 _ _)) ?_ ?_
  · intro i hi ih
    have h' := h.sL (g := wr (mL M x) (uR (A s)) i) hx.ne
    refine g_iload_n (pc := 2) dX7_takes_2 rfl ?_
    refine g_aload_n (pc := 3) dX7_takes_3 rfl trivial ?_
    refine g_invV_r (pc := 4) (As := []) dX7_takes_4 rfl (r_size h') rfl rfl (shK hS rfl) rfl rfl lk_X7_71 rfl (nb rfl) ⟨nb rfl, nb rfl⟩ rfl ?_
    refine g_icmp_ge (pc := 7) (tgt := 25) dX7_takes_7 rfl (fun h7 => absurd h7 (nI_ge hi (by omega))) (fun _ => ?_)
    refine g_aload_n (pc := 10) dX7_takes_10 rfl trivial ?_
    refine g_iload_n (pc := 11) dX7_takes_11 rfl ?_
    refine g_aload_n (pc := 12) dX7_takes_12 rfl trivial ?_
    refine g_iload_n (pc := 13) dX7_takes_13 rfl ?_
    refine g_iload_n (pc := 14) dX7_takes_14 rfl ?_
    refine g_invV_r (pc := 15) (As := [_, _]) dX7_takes_15 rfl (r_rowOf h' hs hi) rfl rfl (shK hS rfl) rfl rfl lk_X7_227 rfl (nb rfl) ⟨nb rfl, nb rfl⟩ rfl ?_
    refine g_lastore (pc := 18) dX7_takes_18 (shK hS hx.k) rfl (by omega) (nl rfl) ?_
    refine g_iinc (pc := 19) (lv' := [(0, _), (1, _), (2, _), (3, _)]) dX7_takes_19 rfl (nI_1 _) (nl rfl) rfl ?_
    refine g_goto (pc := 22) (tgt := 2) dX7_takes_22 rfl ?_
    exact go_cast (sL_st (wr_s _ (uR (A s)) i)) ih
  · have h' := h.sL (g := wr (mL M x) (uR (A s)) n) hx.ne
    refine g_iload_n (pc := 2) dX7_takes_2 rfl ?_
    refine g_aload_n (pc := 3) dX7_takes_3 rfl trivial ?_
    refine g_invV_r (pc := 4) (As := []) dX7_takes_4 rfl (r_size h') rfl rfl (shK hS rfl) rfl rfl lk_X7_71 rfl (nb rfl) ⟨nb rfl, nb rfl⟩ rfl ?_
    refine g_icmp_ge (pc := 7) (tgt := 25) dX7_takes_7 rfl (fun _ => ?_) (fun h7 => absurd (nI_le (Nat.le_refl _) (by omega)) h7)
    refine g_return (pc := 25) dX7_takes_25 rfl ?_
    exact ⟨rfl, rfl⟩
theorem fs_or0 (F : Nat → Int32) (i : Nat) : fun_set F i (F i ||| 0) = F := by
  have : F i ||| 0 = F i := hb_ext fun j _ => by rw [hb_or, hb_0, Bool.or_false]
  rw [this, fs_same]
theorem r_closes {x : Nat} {f : Nat → Int32} (h : Rr M n A) (hx : isH x) (hf : ∀ i, i < n → mL M x i = uL (f i)) : EvR l jX7_closes 1 30 0 0 [.ref 198, .ref x] M (.inl none) (hdM M x n (wOut f n n)) := by
  have hn := h.2.2.2.1
  have hS := h.1
  refine ev_intro rfl (nb rfl) rfl ?_
  refine g_iconst (pc := 0) (v := 0) dX7_closes_0 rfl ?_
  refine g_istore_n (pc := 1) (lv' := [(0, _), (1, _), (2, _)]) dX7_closes_1 (nl rfl) rfl ?_
  refine go_loop (pc := 2) n (fun m => [(0, .ref 198), (1, .ref x), (2, .int (nI m))]) (fun m => hdM M x n (wOut f n m)) ⟨rfl, rfl, rfl, trivial⟩ (hdM_eq hf) ?_ ?_
  · intro m hm ihm
    rw [wOut] at ihm
    generalize wOut f n m = g0 at ihm ⊢
    have h0 : Rr (hdM M x n g0) n A := h.hd hx
    refine g_iload_n (pc := 2) dX7_closes_2 rfl ?_
    refine g_aload_n (pc := 3) dX7_closes_3 rfl trivial ?_
    refine g_invV_r (pc := 4) (As := []) dX7_closes_4 rfl (r_size h0) rfl rfl (shK hS rfl) rfl rfl lk_X7_71 rfl (nb rfl) ⟨nb rfl, nb rfl⟩ rfl ?_
    refine g_icmp_ge (pc := 7) (tgt := 56) dX7_closes_7 rfl (fun h7 => absurd h7 (nI_ge hm (by omega))) (fun _ => ?_)
    refine g_iconst (pc := 10) (v := 0) dX7_closes_10 rfl ?_
    refine g_istore_n (pc := 11) (lv' := [(0, _), (1, _), (2, _), (3, _)]) dX7_closes_11 (nl rfl) rfl ?_
    refine go_loop (pc := 12) n (fun i => [(0, .ref 198), (1, .ref x), (2, .int (nI m)), (3, .int (nI i))]) (fun i => hdM M x n (wIn g0 m i)) ⟨rfl, rfl, rfl, rfl, trivial⟩ rfl ?_ ?_
    · intro i hi ih
      rw [wIn] at ih
      have h1 : Rr (hdM M x n (wIn g0 m i)) n A := h.hd hx
      have e1 := hdM_at (M := M) (x := x) (f := wIn g0 m i) hi
      have e2 := hdM_at (M := M) (x := x) (f := wIn g0 m i) hm
      have est := fun v => hdM_st (M := M) (x := x) (f := wIn g0 m i) (v := v) hi
      generalize wIn g0 m i = F at *
      cases hb9 : hb (F i) m with
      | true =>
        rw [hb9, if_pos rfl] at ih
        refine g_iload_n (pc := 12) dX7_closes_12 rfl ?_
        refine g_aload_n (pc := 13) dX7_closes_13 rfl trivial ?_
        refine g_invV_r (pc := 14) (As := []) dX7_closes_14 rfl (r_size h1) rfl rfl (shK hS rfl) rfl rfl lk_X7_71 rfl (nb rfl) ⟨nb rfl, nb rfl⟩ rfl ?_
        refine g_icmp_ge (pc := 17) (tgt := 50) dX7_closes_17 rfl (fun h17 => absurd h17 (nI_ge hi (by omega))) (fun _ => ?_)
        refine g_aload_n (pc := 20) dX7_closes_20 rfl trivial ?_
        refine g_iload_n (pc := 21) dX7_closes_21 rfl ?_
        refine g_dup2_11 (pc := 22) dX7_closes_22 rfl rfl ?_
        refine g_laload (pc := 23) dX7_closes_23 (shK h1.1 hx.k) rfl (by omega) (nl rfl) ?_
        rw [e1]
        refine g_aload_n (pc := 24) dX7_closes_24 rfl trivial ?_
        refine g_iload_n (pc := 25) dX7_closes_25 rfl ?_
        refine g_laload (pc := 26) dX7_closes_26 (shK h1.1 hx.k) rfl (by omega) (nl rfl) ?_
        rw [e1]
        refine g_iload_n (pc := 27) dX7_closes_27 rfl ?_
        refine g_invS_r (pc := 28) (As := [_, _]) dX7_closes_28 rfl (r_one (by omega)) rfl rfl lk_X7_231 rfl (nb rfl) ⟨nb rfl, nb rfl⟩ rfl ?_
        rw [hb9]
        refine g_iconst (pc := 31) (v := 1) dX7_closes_31 rfl ?_
        refine g_icmp_ne (pc := 32) (tgt := 41) dX7_closes_32 rfl (fun h32 => absurd h32 ((fun q => q rfl))) (fun _ => ?_)
        refine g_aload_n (pc := 35) dX7_closes_35 rfl trivial ?_
        refine g_iload_n (pc := 36) dX7_closes_36 rfl ?_
        refine g_laload (pc := 37) dX7_closes_37 (shK h1.1 hx.k) rfl (by omega) (nl rfl) ?_
        rw [e2]
        refine g_goto (pc := 38) (tgt := 42) dX7_closes_38 rfl ?_
        refine g_lor (pc := 42) dX7_closes_42 ?_
        rw [uL_or]
        refine g_lastore (pc := 43) dX7_closes_43 (shK h1.1 hx.k) rfl (by omega) (nl rfl) ?_
        refine go_cast (est _) ?_
        refine g_iinc (pc := 44) (lv' := [(0, _), (1, _), (2, _), (3, _)]) dX7_closes_44 rfl (nI_1 _) (nl rfl) rfl ?_
        refine g_goto (pc := 47) (tgt := 12) dX7_closes_47 rfl ?_
        exact ih
      | false =>
        rw [hb9, if_neg (by decide)] at ih
        refine g_iload_n (pc := 12) dX7_closes_12 rfl ?_
        refine g_aload_n (pc := 13) dX7_closes_13 rfl trivial ?_
        refine g_invV_r (pc := 14) (As := []) dX7_closes_14 rfl (r_size h1) rfl rfl (shK hS rfl) rfl rfl lk_X7_71 rfl (nb rfl) ⟨nb rfl, nb rfl⟩ rfl ?_
        refine g_icmp_ge (pc := 17) (tgt := 50) dX7_closes_17 rfl (fun h17 => absurd h17 (nI_ge hi (by omega))) (fun _ => ?_)
        refine g_aload_n (pc := 20) dX7_closes_20 rfl trivial ?_
        refine g_iload_n (pc := 21) dX7_closes_21 rfl ?_
        refine g_dup2_11 (pc := 22) dX7_closes_22 rfl rfl ?_
        refine g_laload (pc := 23) dX7_closes_23 (shK h1.1 hx.k) rfl (by omega) (nl rfl) ?_
        rw [e1]
        refine g_aload_n (pc := 24) dX7_closes_24 rfl trivial ?_
        refine g_iload_n (pc := 25) dX7_closes_25 rfl ?_
        refine g_laload (pc := 26) dX7_closes_26 (shK h1.1 hx.k) rfl (by omega) (nl rfl) ?_
        rw [e1]
        refine g_iload_n (pc := 27) dX7_closes_27 rfl ?_
        refine g_invS_r (pc := 28) (As := [_, _]) dX7_closes_28 rfl (r_one (by omega)) rfl rfl lk_X7_231 rfl (nb rfl) ⟨nb rfl, nb rfl⟩ rfl ?_
        rw [hb9]
        refine g_iconst (pc := 31) (v := 1) dX7_closes_31 rfl ?_
        refine g_icmp_ne (pc := 32) (tgt := 41) dX7_closes_32 rfl (fun _ => ?_) (fun h32 => absurd ((by decide)) h32)
        refine g_lconst (pc := 41) (v := 0) dX7_closes_41 rfl ?_
        refine g_lor (pc := 42) dX7_closes_42 ?_
        rw [← uL_0, uL_or]
        refine g_lastore (pc := 43) dX7_closes_43 (shK h1.1 hx.k) rfl (by omega) (nl rfl) ?_
        refine go_cast (est _) ?_
        rw [fs_or0]
        refine g_iinc (pc := 44) (lv' := [(0, _), (1, _), (2, _), (3, _)]) dX7_closes_44 rfl (nI_1 _) (nl rfl) rfl ?_
        refine g_goto (pc := 47) (tgt := 12) dX7_closes_47 rfl ?_
        exact ih
    · have h1 : Rr (hdM M x n (wIn g0 m n)) n A := h.hd hx
      refine g_iload_n (pc := 12) dX7_closes_12 rfl ?_
      refine g_aload_n (pc := 13) dX7_closes_13 rfl trivial ?_
      refine g_invV_r (pc := 14) (As := []) dX7_closes_14 rfl (r_size h1) rfl rfl (shK hS rfl) rfl rfl lk_X7_71 rfl (nb rfl) ⟨nb rfl, nb rfl⟩ rfl ?_
      refine g_icmp_ge (pc := 17) (tgt := 50) dX7_closes_17 rfl (fun _ => ?_) (fun h17 => absurd (nI_le (Nat.le_refl _) (by omega)) h17)
      refine g_iinc (pc := 50) (lv' := [(0, _), (1, _), (2, _), (3, _)]) dX7_closes_50 rfl (nI_1 _) (nl rfl) rfl ?_
      refine g_goto (pc := 53) (tgt := 2) dX7_closes_53 rfl ?_
      exact g_sub (lv' := [(0, _), (1, _), (2, _)]) ⟨rfl, rfl, rfl, trivial⟩ ihm
  · have h0 : Rr (hdM M x n (wOut f n n)) n A := h.hd hx
    refine g_iload_n (pc := 2) dX7_closes_2 rfl ?_
    refine g_aload_n (pc := 3) dX7_closes_3 rfl trivial ?_
    refine g_invV_r (pc := 4) (As := []) dX7_closes_4 rfl (r_size h0) rfl rfl (shK hS rfl) rfl rfl lk_X7_71 rfl (nb rfl) ⟨nb rfl, nb rfl⟩ rfl ?_
    refine g_icmp_ge (pc := 7) (tgt := 56) dX7_closes_7 rfl (fun _ => ?_) (fun h7 => absurd (nI_le (Nat.le_refl _) (by omega)) h7)
    refine g_return (pc := 56) dX7_closes_56 rfl ?_
    exact ⟨rfl, rfl⟩
theorem r_closure {s : Nat} (h : Rr M n A) (hs : s < 6) : EvR l jX7_closure 2 60 0 0 [.ref 198, .int (nI s)] M (.inl none) (hdM M 205 n (wOut (A s) n n)) := by
  have hS := h.1
  have h1 : Rr (hdM M 205 n (A s)) n A := h.hd (Or.inl rfl)
  rw [← hdM_2 (f := A s)]
  refine ev_intro rfl (nb rfl) rfl ?_
  refine g_aload_n (pc := 0) dX7_closure_0 rfl trivial ?_
  refine g_iload_n (pc := 1) dX7_closure_1 rfl ?_
  refine g_aload_n (pc := 2) dX7_closure_2 rfl trivial ?_
  refine g_getf (pc := 3) dX7_closure_3 fk_X7_34 (shK hS rfl) (fv_arr (shR hS rfl)) ?_
  refine g_invV_r (pc := 6) (As := [_, _]) dX7_closure_6 rfl (r_takes h hs (Or.inl rfl)) rfl rfl (shK hS rfl) rfl rfl lk_X7_252 rfl (nb rfl) ⟨nb rfl, nb rfl⟩ rfl ?_
  refine g_aload_n (pc := 9) dX7_closure_9 rfl trivial ?_
  refine g_aload_n (pc := 10) dX7_closure_10 rfl trivial ?_
  refine g_getf (pc := 11) dX7_closure_11 fk_X7_34 (shK h1.1 rfl) (fv_arr (shR h1.1 rfl)) ?_
  refine g_invV_r (pc := 14) (As := [_]) dX7_closure_14 rfl (r_closes h1 (Or.inl rfl) (fun i hi => hdM_at hi)) rfl rfl (shK h1.1 rfl) rfl rfl lk_X7_256 rfl (nb rfl) ⟨nb rfl, nb rfl⟩ rfl ?_
  refine g_return (pc := 17) dX7_closure_17 rfl ?_
  exact ⟨rfl, rfl⟩
theorem r_sumOf {x : Nat} {f : Nat → Int32} (h : Rr M n A) (hx : isH x) (hf : ∀ i, i < n → mL M x i = uL (f i)) : EvR l jX7_sumOf 1 30 0 0 [.ref 198, .ref x] M (.inl (some (.int (onesF f n)))) M := by
  have hn := h.2.2.2.1
  have hS := h.1
  refine ev_intro rfl (nb rfl) rfl ?_
  refine g_iconst (pc := 0) (v := 0) dX7_sumOf_0 rfl ?_
  refine g_istore_n (pc := 1) (lv' := [(0, _), (1, _), (2, _)]) dX7_sumOf_1 (nl rfl) rfl ?_
  refine g_iconst (pc := 2) (v := 0) dX7_sumOf_2 rfl ?_
  refine g_istore_n (pc := 3) (lv' := [(0, _), (1, _), (2, _), (3, _)]) dX7_sumOf_3 (nl rfl) rfl ?_
  refine go_loop (pc := 4) n (fun i => [(0, .ref 198), (1, .ref x), (2, .int (onesF f i)), (3, .int (nI i))]) (fun _ => M) ⟨rfl, rfl, rfl, rfl, trivial⟩ rfl ?_ ?_
  · intro i hi ih
    refine g_iload_n (pc := 4) dX7_sumOf_4 rfl ?_
    refine g_aload_n (pc := 5) dX7_sumOf_5 rfl trivial ?_
    refine g_invV_r (pc := 6) (As := []) dX7_sumOf_6 rfl (r_size h) rfl rfl (shK hS rfl) rfl rfl lk_X7_71 rfl (nb rfl) ⟨nb rfl, nb rfl⟩ rfl ?_
    refine g_icmp_ge (pc := 9) (tgt := 27) dX7_sumOf_9 rfl (fun h9 => absurd h9 (nI_ge hi (by omega))) (fun _ => ?_)
    refine g_iload_n (pc := 12) dX7_sumOf_12 rfl ?_
    refine g_aload_n (pc := 13) dX7_sumOf_13 rfl trivial ?_
    refine g_iload_n (pc := 14) dX7_sumOf_14 rfl ?_
    refine g_laload (pc := 15) dX7_sumOf_15 (shK hS hx.k) rfl (by omega) (nl rfl) ?_
    rw [hf i hi]
    refine g_invS_r (pc := 16) (As := [_]) dX7_sumOf_16 rfl (r_bitsOf) rfl rfl lk_X7_234 rfl (nb rfl) ⟨nb rfl, nb rfl⟩ rfl ?_
    refine g_iadd (pc := 19) dX7_sumOf_19 ?_
    refine g_istore_n (pc := 20) (lv' := [(0, _), (1, _), (2, _), (3, _)]) dX7_sumOf_20 (nl rfl) rfl ?_
    refine g_iinc (pc := 21) (lv' := [(0, _), (1, _), (2, _), (3, _)]) dX7_sumOf_21 rfl (nI_1 _) (nl rfl) rfl ?_
    refine g_goto (pc := 24) (tgt := 4) dX7_sumOf_24 rfl ?_
    exact ih
  · refine g_iload_n (pc := 4) dX7_sumOf_4 rfl ?_
    refine g_aload_n (pc := 5) dX7_sumOf_5 rfl trivial ?_
    refine g_invV_r (pc := 6) (As := []) dX7_sumOf_6 rfl (r_size h) rfl rfl (shK hS rfl) rfl rfl lk_X7_71 rfl (nb rfl) ⟨nb rfl, nb rfl⟩ rfl ?_
    refine g_icmp_ge (pc := 9) (tgt := 27) dX7_sumOf_9 rfl (fun _ => ?_) (fun h9 => absurd (nI_le (Nat.le_refl _) (by omega)) h9)
    refine g_iload_n (pc := 27) dX7_sumOf_27 rfl ?_
    refine g_ireturn (pc := 28) dX7_sumOf_28 rfl rfl ?_
    exact ⟨rfl, rfl⟩
end
end
-- 254.fp
section
/-! quotients of small whole numbers are no NaN -/
def fnD : FP.Core.Datum → Bool
  | .fin false _ _ => true
  | _ => false
def fnZ : FP.Core.Datum → Bool
  | .fin false c _ => !Nat.beq c 0
  | _ => false
theorem enc64 (c : Nat) (q : Int) (hq : -1074 ≤ q) : FP.Core.encode FP.Core.b64 (FP.Core.settle FP.Core.b64 false c q) ≤ 9218868437227405312 := by
  have e1 : FP.Core.Fmt.tails FP.Core.b64 = 4503599627370496 := rfl
  have e2 : FP.Core.Fmt.exps FP.Core.b64 = 2048 := rfl
  have e3 : FP.Core.Fmt.qmin FP.Core.b64 = -1074 := rfl
  have e4 : FP.Core.Fmt.qmax FP.Core.b64 = 971 := rfl
  have e5 : 2 ^ FP.Core.Fmt.p FP.Core.b64 = 9007199254740992 := rfl
  unfold FP.Core.settle FP.Core.bound
  rw [e1, e4, e5]
  by_cases h1 : c < 9007199254740992
  · rw [if_pos h1]
    by_cases h2 : q ≤ 971
    · rw [if_pos h2]
      unfold FP.Core.encode FP.Core.assemble
      simp only [e1, e2, e3, Bool.toNat_false]
      by_cases h3 : c < 4503599627370496
      · rw [if_pos h3]; omega
      · rw [if_neg h3]; omega
    · rw [if_neg h2]
      unfold FP.Core.encode FP.Core.assemble
      simp only [e1, e2, Bool.toNat_false]
      omega
  · rw [if_neg h1]
    by_cases h2 : q + 1 ≤ 971
    · rw [if_pos h2]
      unfold FP.Core.encode FP.Core.assemble
      simp only [e1, e2, e3, Bool.toNat_false]
      rw [if_neg (by omega)]; omega
    · rw [if_neg h2]
      unfold FP.Core.encode FP.Core.assemble
      simp only [e1, e2, Bool.toNat_false]
      omega
theorem enc32 (c : Nat) (q : Int) (hq : -149 ≤ q) : FP.Core.encode FP.Core.b32 (FP.Core.settle FP.Core.b32 false c q) ≤ 2139095040 := by
  have e1 : FP.Core.Fmt.tails FP.Core.b32 = 8388608 := rfl
  have e2 : FP.Core.Fmt.exps FP.Core.b32 = 256 := rfl
  have e3 : FP.Core.Fmt.qmin FP.Core.b32 = -149 := rfl
  have e4 : FP.Core.Fmt.qmax FP.Core.b32 = 104 := rfl
  have e5 : 2 ^ FP.Core.Fmt.p FP.Core.b32 = 16777216 := rfl
  unfold FP.Core.settle FP.Core.bound
  rw [e1, e4, e5]
  by_cases h1 : c < 16777216
  · rw [if_pos h1]
    by_cases h2 : q ≤ 104
    · rw [if_pos h2]
      unfold FP.Core.encode FP.Core.assemble
      simp only [e1, e2, e3, Bool.toNat_false]
      by_cases h3 : c < 8388608
      · rw [if_pos h3]; omega
      · rw [if_neg h3]; omega
    · rw [if_neg h2]
      unfold FP.Core.encode FP.Core.assemble
      simp only [e1, e2, Bool.toNat_false]
      omega
  · rw [if_neg h1]
    by_cases h2 : q + 1 ≤ 104
    · rw [if_pos h2]
      unfold FP.Core.encode FP.Core.assemble
      simp only [e1, e2, e3, Bool.toNat_false]
      rw [if_neg (by omega)]; omega
    · rw [if_neg h2]
      unfold FP.Core.encode FP.Core.assemble
      simp only [e1, e2, Bool.toNat_false]
      omega
theorem quo64 {x y : FP.Core.Datum} (hx : fnD x = true) (hy : fnZ y = true) : FP.Core.encode FP.Core.b64 (FP.Core.quotient FP.Core.b64 x y) ≤ 9218868437227405312 := by
  match x, y, hx, hy with
  | .fin false c q, .fin false d r, _, hy =>
    have hd : d ≠ 0 := fun h => by rw [h] at hy; exact absurd (show false = true from hy) (by decide)
    show FP.Core.encode _ (if d = 0 then _ else FP.Core.roundRatio FP.Core.b64 (false != false) c d (q - r)) ≤ _
    rw [if_neg hd]
    unfold FP.Core.roundRatio
    by_cases hc : c = 0
    · rw [if_pos hc]; decide +kernel
    · rw [if_neg hc]
      exact enc64 _ _ (Int.le_max_left ..)
theorem quo32 {x y : FP.Core.Datum} (hx : fnD x = true) (hy : fnZ y = true) : FP.Core.encode FP.Core.b32 (FP.Core.quotient FP.Core.b32 x y) ≤ 2139095040 := by
  match x, y, hx, hy with
  | .fin false c q, .fin false d r, _, hy =>
    have hd : d ≠ 0 := fun h => by rw [h] at hy; exact absurd (show false = true from hy) (by decide)
    show FP.Core.encode _ (if d = 0 then _ else FP.Core.roundRatio FP.Core.b32 (false != false) c d (q - r)) ≤ _
    rw [if_neg hd]
    unfold FP.Core.roundRatio
    by_cases hc : c = 0
    · rw [if_pos hc]; decide +kernel
    · rw [if_neg hc]
      exact enc32 _ _ (Int.le_max_left ..)
theorem d_num : ∀ k, k < 1025 → fnD (FP.Core.decode FP.Core.b64 (FP.i2d (nI k)).toNat) = true := by decide +kernel
theorem d_den : ∀ k, k < 33 → k ≠ 0 → fnZ (FP.Core.decode FP.Core.b64 (FP.i2d (nI k * nI k)).toNat) = true := by decide +kernel
theorem f_num : ∀ k, k < 1025 → fnD (FP.Core.decode FP.Core.b32 (FP.i2f (nI k)).toNat) = true := by decide +kernel
theorem f_den : ∀ k, k < 33 → k ≠ 0 → fnZ (FP.Core.decode FP.Core.b32 (FP.i2f (nI k)).toNat) = true := by decide +kernel
theorem dns_n {k n : Nat} (hk : k ≤ 1024) (h0 : 1 ≤ n) (hn : n ≤ 32) : vf_n64 (FP.ddiv (FP.i2d (nI k)) (FP.i2d (nI n * nI n))) := by
  have h := quo64 (d_num k (by omega)) (d_den n (by omega) (by omega))
  unfold vf_n64
  rw [UInt64.le_iff_toNat_le, UInt64.toNat_and]
  refine Nat.le_trans Nat.and_le_left ?_
  show (UInt64.ofNat (FP.Core.encode FP.Core.b64 (FP.Core.quotient FP.Core.b64 _ _))).toNat ≤ 9218868437227405312
  rw [UInt64.toNat_ofNat']
  exact Nat.le_trans (Nat.mod_le _ _) h
theorem mrc_n {k n : Nat} (hk : k ≤ 1024) (h0 : 1 ≤ n) (hn : n ≤ 32) : vf_n32 (FP.fdiv (FP.i2f (nI k)) (FP.i2f (nI n))) := by
  have h := quo32 (f_num k (by omega)) (f_den n (by omega) (by omega))
  unfold vf_n32
  rw [UInt32.le_iff_toNat_le, UInt32.toNat_and]
  refine Nat.le_trans Nat.and_le_left ?_
  show (UInt32.ofNat (FP.Core.encode FP.Core.b32 (FP.Core.quotient FP.Core.b32 _ _))).toNat ≤ 2139095040
  rw [UInt32.toNat_ofNat']
  exact Nat.le_trans (Nat.mod_le _ _) h
def onesN (f : Nat → Int32) : Nat → Nat
  | 0 => 0
  | k + 1 => onesN f k + pcN (f k)
theorem onesF_n (f : Nat → Int32) : ∀ k, onesF f k = nI (onesN f k)
  | 0 => rfl
  | k + 1 => by rw [onesF, onesF_n f k, bcJ_n, nI_add, onesN]
theorem onesN_le (f : Nat → Int32) : ∀ k, onesN f k ≤ 32 * k
  | 0 => Nat.le_refl 0
  | k + 1 => by have := onesN_le f k; have := pcN_le (f k); rw [onesN]; omega
theorem dns_f {f : Nat → Int32} {n : Nat} (h0 : 1 ≤ n) (hn : n ≤ 32) : vf_n64 (FP.ddiv (FP.i2d (onesF f n)) (FP.i2d (nI n * nI n))) := by
  rw [onesF_n]; exact dns_n (by have := onesN_le f n; omega) h0 hn
theorem mrc_f {f : Nat → Int32} {n : Nat} (h0 : 1 ≤ n) (hn : n ≤ 32) : vf_n32 (FP.fdiv (FP.i2f (onesF f n)) (FP.i2f (nI n))) := by
  rw [onesF_n]; exact mrc_n (by have := onesN_le f n; omega) h0 hn
section
variable {l : Launch} {J : Jm} {F L MC MS : Nat} {Q : Res → Mem → Prop} {pc : Nat} {lv : List (Nat × Value)} {st : List Value} {k n : Nat} {M : Mem}
theorem g_dconst0 (hd : decode J.2.1 pc = .ok (.dconst 0, 1)) (kk : Go l J F L MC MS Q (pc + 1) lv (.double 0 :: st) k n M) : Go l J F L MC MS Q pc lv st k n M := by
  intro p e s m args below meth c G H locs cells slots ls hX hC hR hS hl hc hs
  exact lv_dconst0 hX.1.1 hX.1.2.1 hd (kk p e s m args below meth c G H locs cells slots ls hX hC hR hS hl hc hs)
theorem g_fconst0 (hd : decode J.2.1 pc = .ok (.fconst 0, 1)) (kk : Go l J F L MC MS Q (pc + 1) lv (.float 0 :: st) k n M) : Go l J F L MC MS Q pc lv st k n M := by
  intro p e s m args below meth c G H locs cells slots ls hX hC hR hS hl hc hs
  exact lv_fconst0 hX.1.1 hX.1.2.1 hd (kk p e s m args below meth c G H locs cells slots ls hX hC hR hS hl hc hs)
end
section
variable {l : Launch} {M : Mem} {n : Nat} {A : Nat → Nat → Int32}
theorem n_density {s : Nat} (h : Rr M n A) (hs : s < 6) : EvR l jX7_density 4 160 0 0 [.ref 198, .int (nI s)] M (.inl (some (.double (FP.ddiv (FP.i2d (onesF (A s) n)) (FP.i2d (nI n * nI n)))))) (thr M 0) := by
  have hS := h.1
  refine ev_intro rfl (nb rfl) rfl ?_
  refine g_aload_n (pc := 0) dX7_density_0 rfl trivial ?_
  refine g_iload_n (pc := 1) dX7_density_1 rfl ?_
  refine g_invS_r (pc := 2) (As := [_]) dX7_density_2 rfl (r_isSlot_t (in6 hs)) rfl rfl lk_X7_216 rfl (nb rfl) ⟨nb rfl, nb rfl⟩ rfl ?_
  refine g_iconst (pc := 5) (v := 1) dX7_density_5 rfl ?_
  refine g_invV_r (pc := 6) (As := [_, _]) dX7_density_6 rfl (r_isThrown_0 hS) rfl rfl (shK hS rfl) rfl rfl lk_X7_209 rfl (nb rfl) ⟨nb rfl, nb rfl⟩ rfl ?_
  refine g_if_eq (pc := 9) (tgt := 16) dX7_density_9 rfl (fun _ => ?_) (fun h9 => absurd (rfl) h9)
  refine g_aload_n (pc := 16) dX7_density_16 rfl trivial ?_
  refine g_iload_n (pc := 17) dX7_density_17 rfl ?_
  refine g_invV_r (pc := 18) (As := [_]) dX7_density_18 rfl (r_onesOf h.thr hs) rfl rfl (shK hS rfl) rfl rfl lk_X7_238 rfl (nb rfl) ⟨nb rfl, nb rfl⟩ rfl ?_
  refine g_i2d (pc := 21) dX7_density_21 ?_
  refine g_aload_n (pc := 22) dX7_density_22 rfl trivial ?_
  refine g_invV_r (pc := 23) (As := []) dX7_density_23 rfl (r_size h.thr) rfl rfl (shK hS rfl) rfl rfl lk_X7_71 rfl (nb rfl) ⟨nb rfl, nb rfl⟩ rfl ?_
  refine g_aload_n (pc := 26) dX7_density_26 rfl trivial ?_
  refine g_invV_r (pc := 27) (As := []) dX7_density_27 rfl (r_size h.thr) rfl rfl (shK hS rfl) rfl rfl lk_X7_71 rfl (nb rfl) ⟨nb rfl, nb rfl⟩ rfl ?_
  refine g_imul (pc := 30) dX7_density_30 ?_
  refine g_i2d (pc := 31) dX7_density_31 ?_
  refine g_ddiv (pc := 32) dX7_density_32 (dns_f h.2.2.1 h.2.2.2.1) ?_
  refine g_dreturn (pc := 33) dX7_density_33 rfl ?_
  exact ⟨rfl, rfl⟩
theorem t_density {v : Int32} (h : Rr M n A) (hx : ¬ inR v 6) : EvR l jX7_density 4 160 0 0 [.ref 198, .int v] M (.inl (some (.double 0))) (thr M 1) := by
  have hS := h.1
  refine ev_intro rfl (nb rfl) rfl ?_
  refine g_aload_n (pc := 0) dX7_density_0 rfl trivial ?_
  refine g_iload_n (pc := 1) dX7_density_1 rfl ?_
  refine g_invS_r (pc := 2) (As := [_]) dX7_density_2 rfl (r_isSlot_f hx) rfl rfl lk_X7_216 rfl (nb rfl) ⟨nb rfl, nb rfl⟩ rfl ?_
  refine g_iconst (pc := 5) (v := 1) dX7_density_5 rfl ?_
  refine g_invV_r (pc := 6) (As := [_, _]) dX7_density_6 rfl (r_isThrown_1 hS) rfl rfl (shK hS rfl) rfl rfl lk_X7_209 rfl (nb rfl) ⟨nb rfl, nb rfl⟩ rfl ?_
  refine g_if_eq (pc := 9) (tgt := 16) dX7_density_9 rfl (fun h9 => absurd h9 ((by decide))) (fun _ => ?_)
  refine g_dconst0 (pc := 12) dX7_density_12 ?_
  refine g_goto (pc := 13) (tgt := 33) dX7_density_13 rfl ?_
  refine g_dreturn (pc := 33) dX7_density_33 rfl ?_
  exact ⟨rfl, rfl⟩
theorem q_density {s : Nat} (hS : Shp M) (hz : mI M 3 1 = nI n) (h0 : 1 ≤ n) (hn : n ≤ 32) (hs : s < 6) : EvR l jX6_density 8 150 1 6 [.ref 0, .int (nI s)] M (.inl (some (.double (FP.ddiv (FP.i2d (onesF (mI M (6 + 2 * s)) n)) (FP.i2d (nI n * nI n)))))) M := by
  refine ev_intro rfl (nb rfl) rfl ?_
  refine g_aload_n (pc := 0) dX6_density_0 rfl trivial ?_
  refine g_iload_n (pc := 1) dX6_density_1 rfl ?_
  refine g_invV_r (pc := 2) (As := [_]) dX6_density_2 rfl (q_ones hS hz hn hs) rfl rfl (shK hS rfl) rfl rfl lk_X6_159 rfl (nb rfl) ⟨nb rfl, nb rfl⟩ rfl ?_
  refine g_i2d (pc := 5) dX6_density_5 ?_
  refine g_aload_n (pc := 6) dX6_density_6 rfl trivial ?_
  refine g_getf (pc := 7) dX6_density_7 fk_X6_19 (shK hS rfl) (fv_obj (shR hS rfl)) ?_
  refine g_getf (pc := 10) (v := .int _) dX6_density_10 fk_X6_89 (shK hS rfl) (fun _ => congrArg Value.int (hz)) ?_
  refine g_aload_n (pc := 13) dX6_density_13 rfl trivial ?_
  refine g_getf (pc := 14) dX6_density_14 fk_X6_19 (shK hS rfl) (fv_obj (shR hS rfl)) ?_
  refine g_getf (pc := 17) (v := .int _) dX6_density_17 fk_X6_89 (shK hS rfl) (fun _ => congrArg Value.int (hz)) ?_
  refine g_imul (pc := 20) dX6_density_20 ?_
  refine g_i2d (pc := 21) dX6_density_21 ?_
  refine g_ddiv (pc := 22) dX6_density_22 (dns_f h0 hn) ?_
  refine g_dreturn (pc := 23) dX6_density_23 rfl ?_
  exact ⟨rfl, rfl⟩
theorem x_density {v : Int32} (hS : Shp M) (h : ¬ inR v 6) : EvR l jX6_density 8 150 1 6 [.ref 0, .int v] M (.inr xIO) M := by
  refine ev_intro rfl (nb rfl) rfl ?_
  refine g_aload_n (pc := 0) dX6_density_0 rfl trivial ?_
  refine g_iload_n (pc := 1) dX6_density_1 rfl ?_
  refine g_invV_x (pc := 2) (As := [_]) dX6_density_2 rfl (x_ones hS h) rfl rfl (shK hS rfl) rfl rfl lk_X6_159 rfl (nb rfl) ⟨nb rfl, nb rfl⟩ rfl ?_
  exact ⟨rfl, rfl⟩
theorem q_meanReach {s : Nat} (hS : Shp M) (hz : mI M 3 1 = nI n) (h0 : 1 ≤ n) (hn : n ≤ 32) (hs : s < 6) : EvR l jX6_meanReach 8 150 1 6 [.ref 0, .int (nI s)] M (.inl (some (.float (FP.fdiv (FP.i2f (onesF (mI (clOf M s n) (175 + 2 * s + 1)) n)) (FP.i2f (nI n)))))) (clOf M s n) := by
  have hS1 := clOf_S hS s n
  have hz1 := clOf_z hz hs
  have q1 := q_pairs (l := l) hS hz hn hs
  generalize clOf M s n = M1 at *
  refine ev_intro rfl (nb rfl) rfl ?_
  refine g_aload_n (pc := 0) dX6_meanReach_0 rfl trivial ?_
  refine g_iload_n (pc := 1) dX6_meanReach_1 rfl ?_
  refine g_invV_r (pc := 2) (As := [_]) dX6_meanReach_2 rfl (q1) rfl rfl (shK hS rfl) rfl rfl lk_X6_169 rfl (nb rfl) ⟨nb rfl, nb rfl⟩ rfl ?_
  refine g_i2f (pc := 5) dX6_meanReach_5 ?_
  refine g_aload_n (pc := 6) dX6_meanReach_6 rfl trivial ?_
  refine g_getf (pc := 7) dX6_meanReach_7 fk_X6_19 (shK hS1 rfl) (fv_obj (shR hS1 rfl)) ?_
  refine g_getf (pc := 10) (v := .int _) dX6_meanReach_10 fk_X6_89 (shK hS1 rfl) (fun _ => congrArg Value.int (hz1)) ?_
  refine g_i2f (pc := 13) dX6_meanReach_13 ?_
  refine g_fdiv (pc := 14) dX6_meanReach_14 (mrc_f h0 hn) ?_
  refine g_freturn (pc := 15) dX6_meanReach_15 rfl ?_
  exact ⟨rfl, rfl⟩
theorem x_meanReach {v : Int32} (hS : Shp M) (h : ¬ inR v 6) : EvR l jX6_meanReach 8 150 1 6 [.ref 0, .int v] M (.inr xIO) M := by
  refine ev_intro rfl (nb rfl) rfl ?_
  refine g_aload_n (pc := 0) dX6_meanReach_0 rfl trivial ?_
  refine g_iload_n (pc := 1) dX6_meanReach_1 rfl ?_
  refine g_invV_x (pc := 2) (As := [_]) dX6_meanReach_2 rfl (x_pairs hS h) rfl rfl (shK hS rfl) rfl rfl lk_X6_169 rfl (nb rfl) ⟨nb rfl, nb rfl⟩ rfl ?_
  exact ⟨rfl, rfl⟩
end
end
