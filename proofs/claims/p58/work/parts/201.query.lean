section
variable {l : Launch} {M : Mem}
theorem clOf_z {s n : Nat} (hz : mI M 3 1 = nI n) (hs : s < 6) : mI (clOf M s n) 3 1 = nI n := by rw [clOf_ne (by omega) hs]; exact hz
theorem q_reaches {s a b n : Nat} (hS : Shp M) (hz : mI M 3 1 = nI n) (hn : n ≤ 32) (hs : s < 6) (ha : a < n) (hb9 : b < n) : EvR l jX6_reaches 9 160 3 18 [.ref 0, .int (nI s), .int (nI a), .int (nI b)] M (.inl (some (.int (b1 (hb (mI (clOf M s n) (175 + 2 * s + 1) a) b))))) (clOf M s n) := by
  have hS1 := clOf_S hS s n
  have hc := cl_ok' s hs
  refine ev_intro rfl (nb rfl) rfl ?_
  refine g_aload_n (pc := 0) dX6_reaches_0 rfl trivial ?_
  refine g_iload_n (pc := 1) dX6_reaches_1 rfl ?_
  refine g_iload_n (pc := 2) dX6_reaches_2 rfl ?_
  refine g_iload_n (pc := 3) dX6_reaches_3 rfl ?_
  refine g_invV_r (pc := 4) (As := [_, _, _]) dX6_reaches_4 rfl (s_needCell hS hz (in6 hs) (inR_nI ha (by omega)) (inR_nI hb9 (by omega))) rfl rfl (shK hS rfl) rfl rfl lk_X6_109 rfl (nb rfl) ⟨nb rfl, nb rfl⟩ rfl ?_
  refine g_aload_n (pc := 7) dX6_reaches_7 rfl trivial ?_
  refine g_iload_n (pc := 8) dX6_reaches_8 rfl ?_
  refine g_invV_r (pc := 9) (As := [_]) dX6_reaches_9 rfl (s_closureOf hS hs hz hn) rfl rfl (shK hS rfl) rfl rfl lk_X6_162 rfl (nb rfl) ⟨nb rfl, nb rfl⟩ rfl ?_
  refine g_getf (pc := 12) dX6_reaches_12 fk_X6_166 (shK hS1 hc.1) (fv_arr (shR hS1 hc.2.2)) ?_
  refine g_iload_n (pc := 15) dX6_reaches_15 rfl ?_
  refine g_iaload (pc := 16) dX6_reaches_16 (shK hS1 hc.2.1) rfl (by omega) (nl rfl) ?_
  refine g_iload_n (pc := 17) dX6_reaches_17 rfl ?_
  refine g_invS_r (pc := 18) (As := [_, _]) dX6_reaches_18 rfl (s_hasOne (by omega)) rfl rfl lk_X6_116 rfl (nb rfl) ⟨nb rfl, nb rfl⟩ rfl ?_
  refine g_if_eq (pc := 21) (tgt := 28) dX6_reaches_21 rfl (fun h21 => ?_) (fun h21 => ?_)
  · rw [b1_0] at h21
    refine g_iconst (pc := 28) (v := 0) dX6_reaches_28 rfl ?_
    refine g_ireturn (pc := 29) dX6_reaches_29 rfl rfl ?_
    exact ⟨by rw [h21]; rfl, rfl⟩
  · rw [b1_0, Bool.not_eq_false] at h21
    refine g_iconst (pc := 24) (v := 1) dX6_reaches_24 rfl ?_
    refine g_goto (pc := 25) (tgt := 29) dX6_reaches_25 rfl ?_
    refine g_ireturn (pc := 29) dX6_reaches_29 rfl rfl ?_
    exact ⟨by rw [h21]; rfl, rfl⟩
theorem x_reaches {v w u : Int32} {n : Nat} (hS : Shp M) (hz : mI M 3 1 = nI n) (h : ¬ (inR v 6 ∧ inR w n ∧ inR u n)) : EvR l jX6_reaches 9 160 3 18 [.ref 0, .int v, .int w, .int u] M (.inr xIO) M := by
  refine ev_intro rfl (nb rfl) rfl ?_
  refine g_aload_n (pc := 0) dX6_reaches_0 rfl trivial ?_
  refine g_iload_n (pc := 1) dX6_reaches_1 rfl ?_
  refine g_iload_n (pc := 2) dX6_reaches_2 rfl ?_
  refine g_iload_n (pc := 3) dX6_reaches_3 rfl ?_
  refine g_invV_x (pc := 4) (As := [_, _, _]) dX6_reaches_4 rfl (x_needCell hS hz h) rfl rfl (shK hS rfl) rfl rfl lk_X6_109 rfl (nb rfl) ⟨nb rfl, nb rfl⟩ rfl ?_
  exact ⟨rfl, rfl⟩
theorem q_reached {s a n : Nat} (hS : Shp M) (hz : mI M 3 1 = nI n) (hn : n ≤ 32) (hs : s < 6) (ha : a < n) : EvR l jX6_reached 8 140 2 12 [.ref 0, .int (nI s), .int (nI a)] M (.inl (some (.int (bcJ (mI (clOf M s n) (175 + 2 * s + 1) a))))) (clOf M s n) := by
  have hS1 := clOf_S hS s n
  have hc := cl_ok' s hs
  refine ev_intro rfl (nb rfl) rfl ?_
  refine g_aload_n (pc := 0) dX6_reached_0 rfl trivial ?_
  refine g_iload_n (pc := 1) dX6_reached_1 rfl ?_
  refine g_iload_n (pc := 2) dX6_reached_2 rfl ?_
  refine g_invV_r (pc := 3) (As := [_, _]) dX6_reached_3 rfl (s_needRow hS hz (in6 hs) (inR_nI ha (by omega))) rfl rfl (shK hS rfl) rfl rfl lk_X6_120 rfl (nb rfl) ⟨nb rfl, nb rfl⟩ rfl ?_
  refine g_aload_n (pc := 6) dX6_reached_6 rfl trivial ?_
  refine g_iload_n (pc := 7) dX6_reached_7 rfl ?_
  refine g_invV_r (pc := 8) (As := [_]) dX6_reached_8 rfl (s_closureOf hS hs hz hn) rfl rfl (shK hS rfl) rfl rfl lk_X6_162 rfl (nb rfl) ⟨nb rfl, nb rfl⟩ rfl ?_
  refine g_getf (pc := 11) dX6_reached_11 fk_X6_166 (shK hS1 hc.1) (fv_arr (shR hS1 hc.2.2)) ?_
  refine g_iload_n (pc := 14) dX6_reached_14 rfl ?_
  refine g_iaload (pc := 15) dX6_reached_15 (shK hS1 hc.2.1) rfl (by omega) (nl rfl) ?_
  refine g_invS_r (pc := 16) (As := [_]) dX6_reached_16 rfl (s_bitCount) rfl rfl lk_X6_132 rfl (nb rfl) ⟨nb rfl, nb rfl⟩ rfl ?_
  refine g_ireturn (pc := 19) dX6_reached_19 rfl rfl ?_
  exact ⟨rfl, rfl⟩
theorem x_reached {v w : Int32} {n : Nat} (hS : Shp M) (hz : mI M 3 1 = nI n) (h : ¬ (inR v 6 ∧ inR w n)) : EvR l jX6_reached 8 140 2 12 [.ref 0, .int v, .int w] M (.inr xIO) M := by
  refine ev_intro rfl (nb rfl) rfl ?_
  refine g_aload_n (pc := 0) dX6_reached_0 rfl trivial ?_
  refine g_iload_n (pc := 1) dX6_reached_1 rfl ?_
  refine g_iload_n (pc := 2) dX6_reached_2 rfl ?_
  refine g_invV_x (pc := 3) (As := [_, _]) dX6_reached_3 rfl (x_needRow hS hz h) rfl rfl (shK hS rfl) rfl rfl lk_X6_120 rfl (nb rfl) ⟨nb rfl, nb rfl⟩ rfl ?_
  exact ⟨rfl, rfl⟩
theorem q_pairs {s n : Nat} (hS : Shp M) (hz : mI M 3 1 = nI n) (hn : n ≤ 32) (hs : s < 6) : EvR l jX6_pairs 7 120 1 6 [.ref 0, .int (nI s)] M (.inl (some (.int (onesF (mI (clOf M s n) (175 + 2 * s + 1)) n)))) (clOf M s n) := by
  have hS1 := clOf_S hS s n
  have hc := cl_ok' s hs
  have hz1 := clOf_z hz hs
  refine ev_intro rfl (nb rfl) rfl ?_
  refine g_aload_n (pc := 0) dX6_pairs_0 rfl trivial ?_
  refine g_iload_n (pc := 1) dX6_pairs_1 rfl ?_
  refine g_invV_r (pc := 2) (As := [_]) dX6_pairs_2 rfl (s_needSlot (in6 hs)) rfl rfl (shK hS rfl) rfl rfl lk_X6_141 rfl (nb rfl) ⟨nb rfl, nb rfl⟩ rfl ?_
  refine g_aload_n (pc := 5) dX6_pairs_5 rfl trivial ?_
  refine g_iload_n (pc := 6) dX6_pairs_6 rfl ?_
  refine g_invV_r (pc := 7) (As := [_]) dX6_pairs_7 rfl (s_closureOf hS hs hz hn) rfl rfl (shK hS rfl) rfl rfl lk_X6_162 rfl (nb rfl) ⟨nb rfl, nb rfl⟩ rfl ?_
  refine g_getf (pc := 10) dX6_pairs_10 fk_X6_166 (shK hS1 hc.1) (fv_arr (shR hS1 hc.2.2)) ?_
  refine g_aload_n (pc := 13) dX6_pairs_13 rfl trivial ?_
  refine g_getf (pc := 14) dX6_pairs_14 fk_X6_19 (shK hS1 rfl) (fv_obj (shR hS1 rfl)) ?_
  refine g_getf (pc := 17) (v := .int _) dX6_pairs_17 fk_X6_89 (shK hS1 rfl) (fun _ => congrArg Value.int (hz1)) ?_
  refine g_invS_r (pc := 20) (As := [_, _]) dX6_pairs_20 rfl (s_onesOf (shK hS1 hc.2.1) hn) rfl rfl lk_X6_145 rfl (nb rfl) ⟨nb rfl, nb rfl⟩ rfl ?_
  refine g_ireturn (pc := 23) dX6_pairs_23 rfl rfl ?_
  exact ⟨rfl, rfl⟩
theorem x_pairs {v : Int32} (hS : Shp M) (h : ¬ inR v 6) : EvR l jX6_pairs 7 120 1 6 [.ref 0, .int v] M (.inr xIO) M := by
  refine ev_intro rfl (nb rfl) rfl ?_
  refine g_aload_n (pc := 0) dX6_pairs_0 rfl trivial ?_
  refine g_iload_n (pc := 1) dX6_pairs_1 rfl ?_
  refine g_invV_x (pc := 2) (As := [_]) dX6_pairs_2 rfl (x_needSlot hS h) rfl rfl (shK hS rfl) rfl rfl lk_X6_141 rfl (nb rfl) ⟨nb rfl, nb rfl⟩ rfl ?_
  exact ⟨rfl, rfl⟩
theorem q_component {s a n : Nat} (hS : Shp M) (hz : mI M 3 1 = nI n) (hn : n ≤ 32) (hs : s < 6) (ha : a < n) : EvR l jX6_component 8 140 2 12 [.ref 0, .int (nI s), .int (nI a)] M (.inl (some (.int (nI (lowMut (mI (clOf M s n) (175 + 2 * s + 1)) a n))))) (clOf M s n) := by
  have hS1 := clOf_S hS s n
  have hc := cl_ok' s hs
  have hz1 := clOf_z hz hs
  refine ev_intro rfl (nb rfl) rfl ?_
  refine g_aload_n (pc := 0) dX6_component_0 rfl trivial ?_
  refine g_iload_n (pc := 1) dX6_component_1 rfl ?_
  refine g_iload_n (pc := 2) dX6_component_2 rfl ?_
  refine g_invV_r (pc := 3) (As := [_, _]) dX6_component_3 rfl (s_needRow hS hz (in6 hs) (inR_nI ha (by omega))) rfl rfl (shK hS rfl) rfl rfl lk_X6_120 rfl (nb rfl) ⟨nb rfl, nb rfl⟩ rfl ?_
  refine g_aload_n (pc := 6) dX6_component_6 rfl trivial ?_
  refine g_iload_n (pc := 7) dX6_component_7 rfl ?_
  refine g_invV_r (pc := 8) (As := [_]) dX6_component_8 rfl (s_closureOf hS hs hz hn) rfl rfl (shK hS rfl) rfl rfl lk_X6_162 rfl (nb rfl) ⟨nb rfl, nb rfl⟩ rfl ?_
  refine g_iload_n (pc := 11) dX6_component_11 rfl ?_
  refine g_aload_n (pc := 12) dX6_component_12 rfl trivial ?_
  refine g_getf (pc := 13) dX6_component_13 fk_X6_19 (shK hS1 rfl) (fv_obj (shR hS1 rfl)) ?_
  refine g_getf (pc := 16) (v := .int _) dX6_component_16 fk_X6_89 (shK hS1 rfl) (fun _ => congrArg Value.int (hz1)) ?_
  refine g_invV_r (pc := 19) (As := [_, _]) dX6_component_19 rfl (s_lowestMutual hS1 hc (by omega) hn) rfl rfl (shK hS1 hc.1) rfl rfl lk_X6_172 rfl (nb rfl) ⟨nb rfl, nb rfl⟩ rfl ?_
  refine g_ireturn (pc := 22) dX6_component_22 rfl rfl ?_
  exact ⟨rfl, rfl⟩
theorem x_component {v w : Int32} {n : Nat} (hS : Shp M) (hz : mI M 3 1 = nI n) (h : ¬ (inR v 6 ∧ inR w n)) : EvR l jX6_component 8 140 2 12 [.ref 0, .int v, .int w] M (.inr xIO) M := by
  refine ev_intro rfl (nb rfl) rfl ?_
  refine g_aload_n (pc := 0) dX6_component_0 rfl trivial ?_
  refine g_iload_n (pc := 1) dX6_component_1 rfl ?_
  refine g_iload_n (pc := 2) dX6_component_2 rfl ?_
  refine g_invV_x (pc := 3) (As := [_, _]) dX6_component_3 rfl (x_needRow hS hz h) rfl rfl (shK hS rfl) rfl rfl lk_X6_120 rfl (nb rfl) ⟨nb rfl, nb rfl⟩ rfl ?_
  exact ⟨rfl, rfl⟩
def cmN (g : Nat → Int32) (n : Nat) : Nat → Int32
  | 0 => 0
  | k + 1 => if lowMut g k n = k then cmN g n k + 1 else cmN g n k
theorem lowMut_lt (g : Nat → Int32) (a n : Nat) : lowMut g a n < 32 := lowN_lt _
theorem q_components {s n : Nat} (hS : Shp M) (hz : mI M 3 1 = nI n) (hn : n ≤ 32) (hs : s < 6) : EvR l jX6_components 7 120 1 6 [.ref 0, .int (nI s)] M (.inl (some (.int (cmN (mI (clOf M s n) (175 + 2 * s + 1)) n n)))) (clOf M s n) := by
  have hS1 := clOf_S hS s n
  have hc := cl_ok' s hs
  have hz1 := clOf_z hz hs
  refine ev_intro rfl (nb rfl) rfl ?_
  refine g_aload_n (pc := 0) dX6_components_0 rfl trivial ?_
  refine g_iload_n (pc := 1) dX6_components_1 rfl ?_
  refine g_invV_r (pc := 2) (As := [_]) dX6_components_2 rfl (s_needSlot (in6 hs)) rfl rfl (shK hS rfl) rfl rfl lk_X6_141 rfl (nb rfl) ⟨nb rfl, nb rfl⟩ rfl ?_
  refine g_aload_n (pc := 5) dX6_components_5 rfl trivial ?_
  refine g_iload_n (pc := 6) dX6_components_6 rfl ?_
  refine g_invV_r (pc := 7) (As := [_]) dX6_components_7 rfl (s_closureOf hS hs hz hn) rfl rfl (shK hS rfl) rfl rfl lk_X6_162 rfl (nb rfl) ⟨nb rfl, nb rfl⟩ rfl ?_
  refine g_astore_n (pc := 10) (lv' := [(0, _), (1, _), (2, _)]) dX6_components_10 trivial (nl rfl) rfl ?_
  refine g_iconst (pc := 11) (v := 0) dX6_components_11 rfl ?_
  refine g_istore_n (pc := 12) (lv' := [(0, _), (1, _), (2, _), (3, _)]) dX6_components_12 (nl rfl) rfl ?_
  refine g_iconst (pc := 13) (v := 0) dX6_components_13 rfl ?_
  refine g_istore (pc := 14) (lv' := [(0, _), (1, _), (2, _), (3, _), (4, _)]) dX6_components_14 (nl rfl) rfl ?_
  refine go_loop (pc := 16) n (fun i => [(0, .ref 0), (1, .int (nI s)), (2, .ref (175 + 2 * s)), (3, .int (cmN (mI (clOf M s n) (175 + 2 * s + 1)) n i)), (4, .int (nI i))]) (fun i => clOf M s n) ⟨rfl, rfl, rfl, rfl, rfl, trivial⟩ rfl ?_ ?_
  · intro i hi ih
    generalize clOf M s n = M1 at *
    generalize cmN (mI M1 (175 + 2 * s + 1)) n n = X at ih ⊢
    rw [cmN] at ih
    refine g_iload (pc := 16) dX6_components_16 rfl ?_
    refine g_aload_n (pc := 18) dX6_components_18 rfl trivial ?_
    refine g_getf (pc := 19) dX6_components_19 fk_X6_19 (shK hS1 rfl) (fv_obj (shR hS1 rfl)) ?_
    refine g_getf (pc := 22) (v := .int _) dX6_components_22 fk_X6_89 (shK hS1 rfl) (fun _ => congrArg Value.int (hz1)) ?_
    refine g_icmp_ge (pc := 25) (tgt := 55) dX6_components_25 rfl (fun h25 => absurd h25 (nI_ge hi (by omega))) (fun _ => ?_)
    refine g_aload_n (pc := 28) dX6_components_28 rfl trivial ?_
    refine g_iload (pc := 29) dX6_components_29 rfl ?_
    refine g_aload_n (pc := 31) dX6_components_31 rfl trivial ?_
    refine g_getf (pc := 32) dX6_components_32 fk_X6_19 (shK hS1 rfl) (fv_obj (shR hS1 rfl)) ?_
    refine g_getf (pc := 35) (v := .int _) dX6_components_35 fk_X6_89 (shK hS1 rfl) (fun _ => congrArg Value.int (hz1)) ?_
    refine g_invV_r (pc := 38) (As := [_, _]) dX6_components_38 rfl (s_lowestMutual hS1 hc (by omega) hn) rfl rfl (shK hS1 hc.1) rfl rfl lk_X6_172 rfl (nb rfl) ⟨nb rfl, nb rfl⟩ rfl ?_
    refine g_iload (pc := 41) dX6_components_41 rfl ?_
    refine g_icmp_ne (pc := 43) (tgt := 49) dX6_components_43 rfl (fun h43 => ?_) (fun h43 => ?_)
    · rw [if_neg (fun h => h43 (by rw [h]))] at ih
      refine g_iinc (pc := 49) (lv' := [(0, _), (1, _), (2, _), (3, _), (4, _)]) dX6_components_49 rfl (nI_1 _) (nl rfl) rfl ?_
      refine g_goto (pc := 52) (tgt := 16) dX6_components_52 rfl ?_
      exact ih
    · rw [if_pos ((nI_eq (by have := lowMut_lt (mI M1 (175 + 2 * s + 1)) i n; omega) (by omega)).mp (Decidable.not_not.mp h43))] at ih
      refine g_iinc (pc := 46) (lv' := [(0, _), (1, _), (2, _), (3, _), (4, _)]) dX6_components_46 rfl rfl (nl rfl) rfl ?_
      refine g_iinc (pc := 49) (lv' := [(0, _), (1, _), (2, _), (3, _), (4, _)]) dX6_components_49 rfl (nI_1 _) (nl rfl) rfl ?_
      refine g_goto (pc := 52) (tgt := 16) dX6_components_52 rfl ?_
      exact ih
  · refine g_iload (pc := 16) dX6_components_16 rfl ?_
    refine g_aload_n (pc := 18) dX6_components_18 rfl trivial ?_
    refine g_getf (pc := 19) dX6_components_19 fk_X6_19 (shK hS1 rfl) (fv_obj (shR hS1 rfl)) ?_
    refine g_getf (pc := 22) (v := .int _) dX6_components_22 fk_X6_89 (shK hS1 rfl) (fun _ => congrArg Value.int (hz1)) ?_
    refine g_icmp_ge (pc := 25) (tgt := 55) dX6_components_25 rfl (fun _ => ?_) (fun h25 => absurd (nI_le (Nat.le_refl _) (by omega)) h25)
    refine g_iload_n (pc := 55) dX6_components_55 rfl ?_
    refine g_ireturn (pc := 56) dX6_components_56 rfl rfl ?_
    exact ⟨rfl, rfl⟩
theorem x_components {v : Int32} (hS : Shp M) (h : ¬ inR v 6) : EvR l jX6_components 7 120 1 6 [.ref 0, .int v] M (.inr xIO) M := by
  refine ev_intro rfl (nb rfl) rfl ?_
  refine g_aload_n (pc := 0) dX6_components_0 rfl trivial ?_
  refine g_iload_n (pc := 1) dX6_components_1 rfl ?_
  refine g_invV_x (pc := 2) (As := [_]) dX6_components_2 rfl (x_needSlot hS h) rfl rfl (shK hS rfl) rfl rfl lk_X6_141 rfl (nb rfl) ⟨nb rfl, nb rfl⟩ rfl ?_
  exact ⟨rfl, rfl⟩
def dsV (f : Nat → Int32) (a b n : Nat) : Int32 := if a = b then 0 else feF f b n n 1 (f a)
theorem q_distance {s a b n : Nat} (hS : Shp M) (hz : mI M 3 1 = nI n) (hn : n ≤ 32) (hs : s < 6) (ha : a < n) (hb9 : b < n) : EvR l jX6_distance 9 160 3 18 [.ref 0, .int (nI s), .int (nI a), .int (nI b)] M (.inl (some (.int (dsV (mI M (6 + 2 * s)) a b n)))) M := by
  refine ev_intro rfl (nb rfl) rfl ?_
  unfold dsV
  refine g_aload_n (pc := 0) dX6_distance_0 rfl trivial ?_
  refine g_iload_n (pc := 1) dX6_distance_1 rfl ?_
  refine g_iload_n (pc := 2) dX6_distance_2 rfl ?_
  refine g_iload_n (pc := 3) dX6_distance_3 rfl ?_
  refine g_invV_r (pc := 4) (As := [_, _, _]) dX6_distance_4 rfl (s_needCell hS hz (in6 hs) (inR_nI ha (by omega)) (inR_nI hb9 (by omega))) rfl rfl (shK hS rfl) rfl rfl lk_X6_109 rfl (nb rfl) ⟨nb rfl, nb rfl⟩ rfl ?_
  refine g_iload_n (pc := 7) dX6_distance_7 rfl ?_
  refine g_iload_n (pc := 8) dX6_distance_8 rfl ?_
  refine g_icmp_ne (pc := 9) (tgt := 16) dX6_distance_9 rfl (fun h9 => ?_) (fun h9 => ?_)
  · rw [if_neg (fun h => h9 (by rw [h]))]
    refine g_aload_n (pc := 16) dX6_distance_16 rfl trivial ?_
    refine g_aload_n (pc := 17) dX6_distance_17 rfl trivial ?_
    refine g_iload_n (pc := 18) dX6_distance_18 rfl ?_
    refine g_invV_r (pc := 19) (As := [_]) dX6_distance_19 rfl (s_rowsOf hS hs) rfl rfl (shK hS rfl) rfl rfl lk_X6_112 rfl (nb rfl) ⟨nb rfl, nb rfl⟩ rfl ?_
    refine g_iload_n (pc := 22) dX6_distance_22 rfl ?_
    refine g_iload_n (pc := 23) dX6_distance_23 rfl ?_
    refine g_invV_r (pc := 24) (As := [_, _, _]) dX6_distance_24 rfl (s_fewestEdges hS (shK hS (rows_lay hs)) hz hn (by omega) (by omega)) rfl rfl (shK hS rfl) rfl rfl lk_X6_175 rfl (nb rfl) ⟨nb rfl, nb rfl⟩ rfl ?_
    refine g_ireturn (pc := 27) dX6_distance_27 rfl rfl ?_
    exact ⟨rfl, rfl⟩
  · rw [if_pos ((nI_eq (by omega) (by omega)).mp (Decidable.not_not.mp h9))]
    refine g_iconst (pc := 12) (v := 0) dX6_distance_12 rfl ?_
    refine g_goto (pc := 13) (tgt := 27) dX6_distance_13 rfl ?_
    refine g_ireturn (pc := 27) dX6_distance_27 rfl rfl ?_
    exact ⟨rfl, rfl⟩
theorem x_distance {v w u : Int32} {n : Nat} (hS : Shp M) (hz : mI M 3 1 = nI n) (h : ¬ (inR v 6 ∧ inR w n ∧ inR u n)) : EvR l jX6_distance 9 160 3 18 [.ref 0, .int v, .int w, .int u] M (.inr xIO) M := by
  refine ev_intro rfl (nb rfl) rfl ?_
  refine g_aload_n (pc := 0) dX6_distance_0 rfl trivial ?_
  refine g_iload_n (pc := 1) dX6_distance_1 rfl ?_
  refine g_iload_n (pc := 2) dX6_distance_2 rfl ?_
  refine g_iload_n (pc := 3) dX6_distance_3 rfl ?_
  refine g_invV_x (pc := 4) (As := [_, _, _]) dX6_distance_4 rfl (x_needCell hS hz h) rfl rfl (shK hS rfl) rfl rfl lk_X6_109 rfl (nb rfl) ⟨nb rfl, nb rfl⟩ rfl ?_
  exact ⟨rfl, rfl⟩
theorem q_around {s a n : Nat} (hS : Shp M) (hz : mI M 3 1 = nI n) (hn : n ≤ 32) (hs : s < 6) (ha : a < n) : EvR l jX6_around 8 140 2 12 [.ref 0, .int (nI s), .int (nI a)] M (.inl (some (.int (feF (mI M (6 + 2 * s)) a n n 1 (mI M (6 + 2 * s) a))))) M := by
  refine ev_intro rfl (nb rfl) rfl ?_
  refine g_aload_n (pc := 0) dX6_around_0 rfl trivial ?_
  refine g_iload_n (pc := 1) dX6_around_1 rfl ?_
  refine g_iload_n (pc := 2) dX6_around_2 rfl ?_
  refine g_invV_r (pc := 3) (As := [_, _]) dX6_around_3 rfl (s_needRow hS hz (in6 hs) (inR_nI ha (by omega))) rfl rfl (shK hS rfl) rfl rfl lk_X6_120 rfl (nb rfl) ⟨nb rfl, nb rfl⟩ rfl ?_
  refine g_aload_n (pc := 6) dX6_around_6 rfl trivial ?_
  refine g_aload_n (pc := 7) dX6_around_7 rfl trivial ?_
  refine g_iload_n (pc := 8) dX6_around_8 rfl ?_
  refine g_invV_r (pc := 9) (As := [_]) dX6_around_9 rfl (s_rowsOf hS hs) rfl rfl (shK hS rfl) rfl rfl lk_X6_112 rfl (nb rfl) ⟨nb rfl, nb rfl⟩ rfl ?_
  refine g_iload_n (pc := 12) dX6_around_12 rfl ?_
  refine g_iload_n (pc := 13) dX6_around_13 rfl ?_
  refine g_invV_r (pc := 14) (As := [_, _, _]) dX6_around_14 rfl (s_fewestEdges hS (shK hS (rows_lay hs)) hz hn (by omega) (by omega)) rfl rfl (shK hS rfl) rfl rfl lk_X6_175 rfl (nb rfl) ⟨nb rfl, nb rfl⟩ rfl ?_
  refine g_ireturn (pc := 17) dX6_around_17 rfl rfl ?_
  exact ⟨rfl, rfl⟩
theorem x_around {v w : Int32} {n : Nat} (hS : Shp M) (hz : mI M 3 1 = nI n) (h : ¬ (inR v 6 ∧ inR w n)) : EvR l jX6_around 8 140 2 12 [.ref 0, .int v, .int w] M (.inr xIO) M := by
  refine ev_intro rfl (nb rfl) rfl ?_
  refine g_aload_n (pc := 0) dX6_around_0 rfl trivial ?_
  refine g_iload_n (pc := 1) dX6_around_1 rfl ?_
  refine g_iload_n (pc := 2) dX6_around_2 rfl ?_
  refine g_invV_x (pc := 3) (As := [_, _]) dX6_around_3 rfl (x_needRow hS hz h) rfl rfl (shK hS rfl) rfl rfl lk_X6_120 rfl (nb rfl) ⟨nb rfl, nb rfl⟩ rfl ?_
  exact ⟨rfl, rfl⟩
def giV (f : Nat → Int32) (n : Nat) : Nat → Int32
  | 0 => -1
  | k + 1 => if feF f k n n 1 (f k) = -1 then giV f n k else if giV f n k = -1 then feF f k n n 1 (f k) else if giV f n k ≤ feF f k n n 1 (f k) then giV f n k else feF f k n n 1 (f k)
theorem q_girth {s n : Nat} (hS : Shp M) (hz : mI M 3 1 = nI n) (hn : n ≤ 32) (hs : s < 6) : EvR l jX6_girth 7 120 1 6 [.ref 0, .int (nI s)] M (.inl (some (.int (giV (mI M (6 + 2 * s)) n n)))) M := by
  refine ev_intro rfl (nb rfl) rfl ?_
  refine g_aload_n (pc := 0) dX6_girth_0 rfl trivial ?_
  refine g_iload_n (pc := 1) dX6_girth_1 rfl ?_
  refine g_invV_r (pc := 2) (As := [_]) dX6_girth_2 rfl (s_needSlot (in6 hs)) rfl rfl (shK hS rfl) rfl rfl lk_X6_141 rfl (nb rfl) ⟨nb rfl, nb rfl⟩ rfl ?_
  refine g_iconst (pc := 5) (v := (-1)) dX6_girth_5 rfl ?_
  refine g_istore_n (pc := 6) (lv' := [(0, _), (1, _), (2, _)]) dX6_girth_6 (nl rfl) rfl ?_
  refine g_iconst (pc := 7) (v := 0) dX6_girth_7 rfl ?_
  refine g_istore_n (pc := 8) (lv' := [(0, _), (1, _), (2, _), (3, _)]) dX6_girth_8 (nl rfl) rfl ?_
  refine go_loop (pc := 9) n (fun i => [(0, .ref 0), (1, .int (nI s)), (2, .int (giV (mI M (6 + 2 * s)) n i)), (3, .int (nI i))]) (fun i => M) ⟨rfl, rfl, rfl, rfl, trivial⟩ rfl ?_ ?_
  · intro i hi ih
    generalize giV (mI M (6 + 2 * s)) n n = X at ih ⊢
    rw [giV] at ih
    refine g_iload_n (pc := 9) dX6_girth_9 rfl ?_
    refine g_aload_n (pc := 10) dX6_girth_10 rfl trivial ?_
    refine g_getf (pc := 11) dX6_girth_11 fk_X6_19 (shK hS rfl) (fv_obj (shR hS rfl)) ?_
    refine g_getf (pc := 14) (v := .int _) dX6_girth_14 fk_X6_89 (shK hS rfl) (fun _ => congrArg Value.int (hz)) ?_
    refine g_icmp_ge (pc := 17) (tgt := 59) dX6_girth_17 rfl (fun h17 => absurd h17 (nI_ge hi (by omega))) (fun _ => ?_)
    refine g_aload_n (pc := 20) dX6_girth_20 rfl trivial ?_
    refine g_aload_n (pc := 21) dX6_girth_21 rfl trivial ?_
    refine g_iload_n (pc := 22) dX6_girth_22 rfl ?_
    refine g_invV_r (pc := 23) (As := [_]) dX6_girth_23 rfl (s_rowsOf hS hs) rfl rfl (shK hS rfl) rfl rfl lk_X6_112 rfl (nb rfl) ⟨nb rfl, nb rfl⟩ rfl ?_
    refine g_iload_n (pc := 26) dX6_girth_26 rfl ?_
    refine g_iload_n (pc := 27) dX6_girth_27 rfl ?_
    refine g_invV_r (pc := 28) (As := [_, _, _]) dX6_girth_28 rfl (s_fewestEdges hS (shK hS (rows_lay hs)) hz hn (by omega) (by omega)) rfl rfl (shK hS rfl) rfl rfl lk_X6_175 rfl (nb rfl) ⟨nb rfl, nb rfl⟩ rfl ?_
    refine g_istore (pc := 31) (lv' := [(0, _), (1, _), (2, _), (3, _), (4, _)]) dX6_girth_31 (nl rfl) rfl ?_
    refine g_iload (pc := 33) dX6_girth_33 rfl ?_
    refine g_iconst (pc := 35) (v := (-1)) dX6_girth_35 rfl ?_
    refine g_icmp_eq (pc := 36) (tgt := 53) dX6_girth_36 rfl (fun h36 => ?_) (fun h36 => ?_)
    · rw [if_pos h36] at ih
      refine g_iinc (pc := 53) (lv' := [(0, _), (1, _), (2, _), (3, _), (4, _)]) dX6_girth_53 rfl (nI_1 _) (nl rfl) rfl ?_
      refine g_goto (pc := 56) (tgt := 9) dX6_girth_56 rfl ?_
      exact g_sub (lv' := [(0, _), (1, _), (2, _), (3, _)]) ⟨rfl, rfl, rfl, rfl, trivial⟩ ih
    · rw [if_neg h36] at ih
      refine g_iload_n (pc := 39) dX6_girth_39 rfl ?_
      refine g_iconst (pc := 40) (v := (-1)) dX6_girth_40 rfl ?_
      refine g_icmp_eq (pc := 41) (tgt := 50) dX6_girth_41 rfl (fun h41 => ?_) (fun h41 => ?_)
      · rw [if_pos h41] at ih
        refine g_iload (pc := 50) dX6_girth_50 rfl ?_
        refine g_istore_n (pc := 52) (lv' := [(0, _), (1, _), (2, _), (3, _), (4, _)]) dX6_girth_52 (nl rfl) rfl ?_
        refine g_iinc (pc := 53) (lv' := [(0, _), (1, _), (2, _), (3, _), (4, _)]) dX6_girth_53 rfl (nI_1 _) (nl rfl) rfl ?_
        refine g_goto (pc := 56) (tgt := 9) dX6_girth_56 rfl ?_
        exact g_sub (lv' := [(0, _), (1, _), (2, _), (3, _)]) ⟨rfl, rfl, rfl, rfl, trivial⟩ ih
      · rw [if_neg h41] at ih
        refine g_iload (pc := 44) dX6_girth_44 rfl ?_
        refine g_iload_n (pc := 46) dX6_girth_46 rfl ?_
        refine g_icmp_ge (pc := 47) (tgt := 53) dX6_girth_47 rfl (fun h47 => ?_) (fun h47 => ?_)
        · rw [if_pos h47] at ih
          refine g_iinc (pc := 53) (lv' := [(0, _), (1, _), (2, _), (3, _), (4, _)]) dX6_girth_53 rfl (nI_1 _) (nl rfl) rfl ?_
          refine g_goto (pc := 56) (tgt := 9) dX6_girth_56 rfl ?_
          exact g_sub (lv' := [(0, _), (1, _), (2, _), (3, _)]) ⟨rfl, rfl, rfl, rfl, trivial⟩ ih
        · rw [if_neg h47] at ih
          refine g_iload (pc := 50) dX6_girth_50 rfl ?_
          refine g_istore_n (pc := 52) (lv' := [(0, _), (1, _), (2, _), (3, _), (4, _)]) dX6_girth_52 (nl rfl) rfl ?_
          refine g_iinc (pc := 53) (lv' := [(0, _), (1, _), (2, _), (3, _), (4, _)]) dX6_girth_53 rfl (nI_1 _) (nl rfl) rfl ?_
          refine g_goto (pc := 56) (tgt := 9) dX6_girth_56 rfl ?_
          exact g_sub (lv' := [(0, _), (1, _), (2, _), (3, _)]) ⟨rfl, rfl, rfl, rfl, trivial⟩ ih
  · refine g_iload_n (pc := 9) dX6_girth_9 rfl ?_
    refine g_aload_n (pc := 10) dX6_girth_10 rfl trivial ?_
    refine g_getf (pc := 11) dX6_girth_11 fk_X6_19 (shK hS rfl) (fv_obj (shR hS rfl)) ?_
    refine g_getf (pc := 14) (v := .int _) dX6_girth_14 fk_X6_89 (shK hS rfl) (fun _ => congrArg Value.int (hz)) ?_
    refine g_icmp_ge (pc := 17) (tgt := 59) dX6_girth_17 rfl (fun _ => ?_) (fun h17 => absurd (nI_le (Nat.le_refl _) (by omega)) h17)
    refine g_iload_n (pc := 59) dX6_girth_59 rfl ?_
    refine g_ireturn (pc := 60) dX6_girth_60 rfl rfl ?_
    exact ⟨rfl, rfl⟩
theorem x_girth {v : Int32} (hS : Shp M) (h : ¬ inR v 6) : EvR l jX6_girth 7 120 1 6 [.ref 0, .int v] M (.inr xIO) M := by
  refine ev_intro rfl (nb rfl) rfl ?_
  refine g_aload_n (pc := 0) dX6_girth_0 rfl trivial ?_
  refine g_iload_n (pc := 1) dX6_girth_1 rfl ?_
  refine g_invV_x (pc := 2) (As := [_]) dX6_girth_2 rfl (x_needSlot hS h) rfl rfl (shK hS rfl) rfl rfl lk_X6_141 rfl (nb rfl) ⟨nb rfl, nb rfl⟩ rfl ?_
  exact ⟨rfl, rfl⟩
theorem q_loadErr (hS : Shp M) : EvR l jX6_loadError 0 0 0 0 [.ref 0] M (.inl (some (.int (mI M 1 5)))) M := by
  refine ev_intro rfl (nb rfl) rfl ?_
  refine g_aload_n (pc := 0) dX6_loadError_0 rfl trivial ?_
  refine g_getf (pc := 1) dX6_loadError_1 fk_X6_10 (shK hS rfl) (fv_obj (shR hS rfl)) ?_
  refine g_getf (pc := 4) (v := .int (mI _ _ _)) dX6_loadError_4 fk_X6_76 (shK hS rfl) (fun _ => rfl) ?_
  refine g_ireturn (pc := 7) dX6_loadError_7 rfl rfl ?_
  exact ⟨rfl, rfl⟩
theorem q_loadStatement (hS : Shp M) : EvR l jX6_loadStatement 0 0 0 0 [.ref 0] M (.inl (some (.int (if mI M 1 5 = 0 then -1 else mI M 1 4)))) M := by
  refine ev_intro rfl (nb rfl) rfl ?_
  refine g_aload_n (pc := 0) dX6_loadStatement_0 rfl trivial ?_
  refine g_getf (pc := 1) dX6_loadStatement_1 fk_X6_10 (shK hS rfl) (fv_obj (shR hS rfl)) ?_
  refine g_getf (pc := 4) (v := .int (mI _ _ _)) dX6_loadStatement_4 fk_X6_76 (shK hS rfl) (fun _ => rfl) ?_
  refine g_if_ne (pc := 7) (tgt := 14) dX6_loadStatement_7 rfl (fun h7 => ?_) (fun h7 => ?_)
  · rw [if_neg h7]
    refine g_aload_n (pc := 14) dX6_loadStatement_14 rfl trivial ?_
    refine g_getf (pc := 15) dX6_loadStatement_15 fk_X6_10 (shK hS rfl) (fv_obj (shR hS rfl)) ?_
    refine g_getf (pc := 18) (v := .int (mI _ _ _)) dX6_loadStatement_18 fk_X6_92 (shK hS rfl) (fun _ => rfl) ?_
    refine g_ireturn (pc := 21) dX6_loadStatement_21 rfl rfl ?_
    exact ⟨rfl, rfl⟩
  · rw [if_pos (Decidable.not_not.mp h7)]
    refine g_iconst (pc := 10) (v := (-1)) dX6_loadStatement_10 rfl ?_
    refine g_goto (pc := 11) (tgt := 21) dX6_loadStatement_11 rfl ?_
    refine g_ireturn (pc := 21) dX6_loadStatement_21 rfl rfl ?_
    exact ⟨rfl, rfl⟩
theorem q_append {x : Int64} {len : Nat} (hS : Shp M) (hl : mI M 1 1 = nI len) (hL : len ≤ 600) : EvR l jX6_append 1 30 0 0 [.ref 0, .long x] M (.inl (some (.int (apV M len x)))) (apM M len x) := by
  refine ev_intro rfl (nb rfl) rfl ?_
  refine g_aload_n (pc := 0) dX6_append_0 rfl trivial ?_
  refine g_getf (pc := 1) dX6_append_1 fk_X6_10 (shK hS rfl) (fv_obj (shR hS rfl)) ?_
  refine g_lload_n (pc := 4) dX6_append_4 rfl ?_
  refine g_invV_r (pc := 5) (As := [_]) dX6_append_5 rfl (r_addBytes hS hl hL) rfl rfl (shK hS rfl) rfl rfl lk_X6_68 rfl (nb rfl) ⟨nb rfl, nb rfl⟩ rfl ?_
  refine g_ireturn (pc := 8) dX6_append_8 rfl rfl ?_
  exact ⟨rfl, rfl⟩
end

