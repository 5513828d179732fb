/-! the law: a step, the loop, the start -/
theorem and63 (x : Int32) : ∃ j, j < 64 ∧ x &&& 63 = nI j := by
  refine ⟨(x &&& 63).toBitVec.toNat, ?_, ?_⟩
  · rw [Int32.toBitVec_and, BitVec.toNat_and]
    exact Nat.lt_of_le_of_lt Nat.and_le_right (by decide)
  · apply Int32.toBitVec_inj.mp
    show _ = BitVec.ofNat 32 _
    refine BitVec.eq_of_toNat_eq ?_
    rw [BitVec.toNat_ofNat, Nat.mod_eq_of_lt (BitVec.isLt _)]
theorem bz (x : Int32) : b1 (!decide (x = 0)) = if x = 0 then 0 else 1 := by
  by_cases h : x = 0
  · rw [decide_eq_true h, if_pos h]
    rfl
  · rw [decide_eq_false h, if_neg h]
    rfl
section
variable {l : Launch} {Q : Res → Mem → Prop} {k n : Nat} {M : Mem} {S : Nat × (Nat → Int32)} {o : Nat}
theorem g_sX {J : Jm} {F L MC MS pc : Nat} {lv : List (Nat × Value)} {st : List Value} (kk : Go l J F L MC MS Q pc lv st k n (sX M)) : Go l J F L MC MS Q pc lv st k n M := by
  intro p e s m args below meth c G H locs cells slots ls hX hC hR hS hl hc hs
  have e1 : wl G (sX M) = wl G M := by
    unfold wl
    have e2 : ∀ i y, ent G (sX M) i y = ent G M i y := fun i y => ent_of (M := M) (M' := sX M) rfl rfl rfl rfl y
    show (mK M).mapIdx (fun i k => (gB G + i, ent G (sX M) i k)) = _
    simp only [e2]
  exact kk p e s m args below meth c G H locs cells slots ls hX hC ⟨by rw [e1]; exact hR.1, fun h => absurd (show false = true from h) (by decide), hR.2.2.1, hR.2.2.2⟩ hS hl hc hs
set_option maxRecDepth 20000 in
theorem law_step (hI : Inv M) (hSh : Shp M) (hs : mS M = S) (ho : o + 5 ≤ S.1) (hS9 : S.1 < 2147483648) (kont : ∀ M2, Shp M2 → Inv M2 → mS M2 = S → Go l jL_law 14 538 601024 7293034 Q 2752 (AL o) [] k n M2) (kend : Go l jL_law 14 538 601024 7293034 Q 2752 (AL o) [] k n M) : Go l jL_law 14 538 601024 7293034 Q 44 (AL o) [.int (S.2 o &&& 63)] (k + 4) (n + 24) M := by
  obtain ⟨n9, p9, c9, hI⟩ := hI
  obtain ⟨j, hj, e⟩ := and63 (S.2 o)
  rw [e]
  match j, hj with
  | 0, _ =>
    refine g_tableIn (pc := 44) (tgt := 292) (off := 248) dL_law_44 (by decide) (by decide) (by decide) (by decide) ?_
    obtain ⟨a9, b, M1, M2, h1, h2, s1, s2, hq, hP⟩ := sm_append (l := l) hI (l2 (S.2 (o + 1)) (S.2 (o + 2)))
    exact g_less (by omega) (by omega) (lc_0 hs ho hS9 hSh s1 s2 h1 h2 (fun e9 => kont M2 s2 hP e9))
  | 1, _ =>
    refine g_tableIn (pc := 44) (tgt := 349) (off := 305) dL_law_44 (by decide) (by decide) (by decide) (by decide) ?_
    obtain ⟨a9, b, M1, M2, h1, h2, s1, s2, hq, hP⟩ := sm_load (l := l) hI 
    exact g_less (by omega) (by omega) (lc_1 hs ho hS9 hSh s1 s2 h1 h2 (fun e9 => kont M2 s2 hP e9))
  | 2, _ =>
    refine g_tableIn (pc := 44) (tgt := 362) (off := 318) dL_law_44 (by decide) (by decide) (by decide) (by decide) ?_
    obtain ⟨a9, b, M1, M2, h1, h2, s1, s2, hq, hP⟩ := sm_loadError (l := l) hI 
    exact g_less (by omega) (by omega) (lc_2 hs ho hS9 hSh s1 s2 h1 h2 (fun e9 => kont M2 s2 hP e9))
  | 3, _ =>
    refine g_tableIn (pc := 44) (tgt := 375) (off := 331) dL_law_44 (by decide) (by decide) (by decide) (by decide) ?_
    obtain ⟨a9, b, M1, M2, h1, h2, s1, s2, hq, hP⟩ := sm_loadStatement (l := l) hI 
    exact g_less (by omega) (by omega) (lc_3 hs ho hS9 hSh s1 s2 h1 h2 (fun e9 => kont M2 s2 hP e9))
  | 4, _ =>
    refine g_tableIn (pc := 44) (tgt := 388) (off := 344) dL_law_44 (by decide) (by decide) (by decide) (by decide) ?_
    obtain ⟨kk, b, M1, M2, h1, h2, s1, s2, ht, hq, hP⟩ := sm_count (l := l) hI (S.2 (o + 1))
    exact g_less (by omega) (by omega) (lc_4 hs ho hS9 hSh s1 s2 h1 h2 (fun e9 => kont M2 s2 hP e9))
  | 5, _ =>
    refine g_tableIn (pc := 44) (tgt := 416) (off := 372) dL_law_44 (by decide) (by decide) (by decide) (by decide) ?_
    obtain ⟨kk, b, M1, M2, h1, h2, s1, s2, ht, hq, hP⟩ := sm_bit (l := l) hI (S.2 (o + 1)) (S.2 (o + 2)) (S.2 (o + 3))
    exact g_less (by omega) (by omega) (lc_5 hs ho hS9 hSh s1 s2 h1 h2 (fun e9 => kont M2 s2 hP e9))
  | 6, _ =>
    refine g_tableIn (pc := 44) (tgt := 468) (off := 424) dL_law_44 (by decide) (by decide) (by decide) (by decide) ?_
    obtain ⟨kk, b, M1, M2, h1, h2, s1, s2, ht, hq, hP⟩ := sm_row (l := l) hI (S.2 (o + 1)) (S.2 (o + 2))
    exact g_less (by omega) (by omega) (lc_6 hs ho hS9 hSh s1 s2 h1 h2 (fun e9 => kont M2 s2 hP e9))
  | 7, _ =>
    refine g_tableIn (pc := 44) (tgt := 508) (off := 464) dL_law_44 (by decide) (by decide) (by decide) (by decide) ?_
    obtain ⟨kk, b, M1, M2, h1, h2, s1, s2, ht, hq, hP⟩ := sm_rank (l := l) hI (S.2 (o + 1)) (S.2 (o + 2)) (S.2 (o + 3))
    exact g_less (by omega) (by omega) (lc_7 hs ho hS9 hSh s1 s2 h1 h2 (fun e9 => kont M2 s2 hP e9))
  | 8, _ =>
    refine g_tableIn (pc := 44) (tgt := 560) (off := 516) dL_law_44 (by decide) (by decide) (by decide) (by decide) ?_
    obtain ⟨kk, b, M1, M2, h1, h2, s1, s2, ht, hq, hP⟩ := sm_select (l := l) hI (S.2 (o + 1)) (S.2 (o + 2)) (S.2 (o + 3))
    exact g_less (by omega) (by omega) (lc_8 hs ho hS9 hSh s1 s2 h1 h2 (fun e9 => kont M2 s2 hP e9))
  | 9, _ =>
    refine g_tableIn (pc := 44) (tgt := 612) (off := 568) dL_law_44 (by decide) (by decide) (by decide) (by decide) ?_
    obtain ⟨kk, b, M1, M2, h1, h2, s1, s2, ht, hq, hP⟩ := sm_ones (l := l) hI (S.2 (o + 1))
    exact g_less (by omega) (by omega) (lc_9 hs ho hS9 hSh s1 s2 h1 h2 (fun e9 => kont M2 s2 hP e9))
  | 10, _ =>
    refine g_tableIn (pc := 44) (tgt := 640) (off := 596) dL_law_44 (by decide) (by decide) (by decide) (by decide) ?_
    obtain ⟨kk, b, M1, M2, h1, h2, s1, s2, ht, hq, hP⟩ := sm_columnOnes (l := l) hI (S.2 (o + 1)) (S.2 (o + 2))
    exact g_less (by omega) (by omega) (lc_10 hs ho hS9 hSh s1 s2 h1 h2 (fun e9 => kont M2 s2 hP e9))
  | 11, _ =>
    refine g_tableIn (pc := 44) (tgt := 680) (off := 636) dL_law_44 (by decide) (by decide) (by decide) (by decide) ?_
    obtain ⟨kk, b, M1, M2, h1, h2, s1, s2, ht, hq, hP⟩ := sm_sameAs (l := l) hI (S.2 (o + 1)) (S.2 (o + 2))
    exact g_less (by omega) (by omega) (lc_11 hs ho hS9 hSh s1 s2 h1 h2 (fun e9 => kont M2 s2 hP e9))
  | 12, _ =>
    refine g_tableIn (pc := 44) (tgt := 720) (off := 676) dL_law_44 (by decide) (by decide) (by decide) (by decide) ?_
    obtain ⟨kk, b, M1, M2, h1, h2, s1, s2, ht, hq, hP⟩ := sm_classes (l := l) hI (S.2 (o + 1))
    exact g_less (by omega) (by omega) (lc_12 hs ho hS9 hSh s1 s2 h1 h2 (fun e9 => kont M2 s2 hP e9))
  | 13, _ =>
    refine g_tableIn (pc := 44) (tgt := 748) (off := 704) dL_law_44 (by decide) (by decide) (by decide) (by decide) ?_
    obtain ⟨kk, b, M1, M2, h1, h2, s1, s2, ht, hq, hP⟩ := sm_classOf (l := l) hI (S.2 (o + 1)) (S.2 (o + 2))
    exact g_less (by omega) (by omega) (lc_13 hs ho hS9 hSh s1 s2 h1 h2 (fun e9 => kont M2 s2 hP e9))
  | 14, _ =>
    refine g_tableIn (pc := 44) (tgt := 788) (off := 744) dL_law_44 (by decide) (by decide) (by decide) (by decide) ?_
    obtain ⟨kk, b, M1, M2, h1, h2, s1, s2, ht, hq, hP⟩ := sm_find (l := l) hI (S.2 (o + 1)) (l2 (S.2 (o + 2)) (S.2 (o + 3)))
    exact g_less (by omega) (by omega) (lc_14 hs ho hS9 hSh s1 s2 h1 h2 (fun e9 => kont M2 s2 hP e9))
  | 15, _ =>
    refine g_tableIn (pc := 44) (tgt := 860) (off := 816) dL_law_44 (by decide) (by decide) (by decide) (by decide) ?_
    obtain ⟨kk, b, M1, M2, h1, h2, s1, s2, ht, hq, hP⟩ := sm_nearest (l := l) hI (S.2 (o + 1)) (S.2 (o + 2))
    exact g_less (by omega) (by omega) (lc_15 hs ho hS9 hSh s1 s2 h1 h2 (fun e9 => kont M2 s2 hP e9))
  | 16, _ =>
    refine g_tableIn (pc := 44) (tgt := 900) (off := 856) dL_law_44 (by decide) (by decide) (by decide) (by decide) ?_
    obtain ⟨kk, b, M1, M2, h1, h2, s1, s2, ht, hq, hP⟩ := sm_density (l := l) hI (S.2 (o + 1))
    exact g_less (by omega) (by omega) (lc_16 hs ho hS9 hSh s1 s2 h1 h2 (fun e9 => kont M2 s2 hP e9))
  | 17, _ =>
    refine g_tableIn (pc := 44) (tgt := 929) (off := 885) dL_law_44 (by decide) (by decide) (by decide) (by decide) ?_
    obtain ⟨kk, b, M1, M2, h1, h2, s1, s2, ht, hq, hP⟩ := sm_isSymmetric (l := l) hI (S.2 (o + 1))
    exact g_less (by omega) (by omega) (lc_17 hs ho hS9 hSh s1 s2 h1 h2 (fun e9 => kont M2 s2 hP e9))
  | 18, _ =>
    refine g_tableIn (pc := 44) (tgt := 957) (off := 913) dL_law_44 (by decide) (by decide) (by decide) (by decide) ?_
    obtain ⟨kk, b, M1, M2, h1, h2, s1, s2, ht, hq, hP⟩ := sm_reaches (l := l) hI (S.2 (o + 1)) (S.2 (o + 2)) (S.2 (o + 3))
    exact g_less (by omega) (by omega) (lc_18 hs ho hS9 hSh s1 s2 h1 h2 (fun e9 => kont M2 s2 hP e9))
  | 19, _ =>
    refine g_tableIn (pc := 44) (tgt := 1009) (off := 965) dL_law_44 (by decide) (by decide) (by decide) (by decide) ?_
    obtain ⟨kk, b, M1, M2, h1, h2, s1, s2, ht, hq, hP⟩ := sm_reached (l := l) hI (S.2 (o + 1)) (S.2 (o + 2))
    exact g_less (by omega) (by omega) (lc_19 hs ho hS9 hSh s1 s2 h1 h2 (fun e9 => kont M2 s2 hP e9))
  | 20, _ =>
    refine g_tableIn (pc := 44) (tgt := 1049) (off := 1005) dL_law_44 (by decide) (by decide) (by decide) (by decide) ?_
    obtain ⟨kk, b, M1, M2, h1, h2, s1, s2, ht, hq, hP⟩ := sm_pairs (l := l) hI (S.2 (o + 1))
    exact g_less (by omega) (by omega) (lc_20 hs ho hS9 hSh s1 s2 h1 h2 (fun e9 => kont M2 s2 hP e9))
  | 21, _ =>
    refine g_tableIn (pc := 44) (tgt := 1077) (off := 1033) dL_law_44 (by decide) (by decide) (by decide) (by decide) ?_
    obtain ⟨kk, b, M1, M2, h1, h2, s1, s2, ht, hq, hP⟩ := sm_meanReach (l := l) hI (S.2 (o + 1))
    exact g_less (by omega) (by omega) (lc_21 hs ho hS9 hSh s1 s2 h1 h2 (fun e9 => kont M2 s2 hP e9))
  | 22, _ =>
    refine g_tableIn (pc := 44) (tgt := 1106) (off := 1062) dL_law_44 (by decide) (by decide) (by decide) (by decide) ?_
    obtain ⟨kk, b, M1, M2, h1, h2, s1, s2, ht, hq, hP⟩ := sm_component (l := l) hI (S.2 (o + 1)) (S.2 (o + 2))
    exact g_less (by omega) (by omega) (lc_22 hs ho hS9 hSh s1 s2 h1 h2 (fun e9 => kont M2 s2 hP e9))
  | 23, _ =>
    refine g_tableIn (pc := 44) (tgt := 1146) (off := 1102) dL_law_44 (by decide) (by decide) (by decide) (by decide) ?_
    obtain ⟨kk, b, M1, M2, h1, h2, s1, s2, ht, hq, hP⟩ := sm_components (l := l) hI (S.2 (o + 1))
    exact g_less (by omega) (by omega) (lc_23 hs ho hS9 hSh s1 s2 h1 h2 (fun e9 => kont M2 s2 hP e9))
  | 24, _ =>
    refine g_tableIn (pc := 44) (tgt := 1174) (off := 1130) dL_law_44 (by decide) (by decide) (by decide) (by decide) ?_
    obtain ⟨kk, b, M1, M2, h1, h2, s1, s2, ht, hq, hP⟩ := sm_distance (l := l) hI (S.2 (o + 1)) (S.2 (o + 2)) (S.2 (o + 3))
    exact g_less (by omega) (by omega) (lc_24 hs ho hS9 hSh s1 s2 h1 h2 (fun e9 => kont M2 s2 hP e9))
  | 25, _ =>
    refine g_tableIn (pc := 44) (tgt := 1226) (off := 1182) dL_law_44 (by decide) (by decide) (by decide) (by decide) ?_
    obtain ⟨kk, b, M1, M2, h1, h2, s1, s2, ht, hq, hP⟩ := sm_stepAt (l := l) hI (S.2 (o + 1)) (S.2 (o + 2)) (S.2 (o + 3)) (S.2 (o + 4))
    exact g_less (by omega) (by omega) (lc_25 hs ho hS9 hSh s1 s2 h1 h2 (fun e9 => kont M2 s2 hP e9))
  | 26, _ =>
    refine g_tableIn (pc := 44) (tgt := 1290) (off := 1246) dL_law_44 (by decide) (by decide) (by decide) (by decide) ?_
    obtain ⟨kk, b, M1, M2, h1, h2, s1, s2, ht, hq, hP⟩ := sm_around (l := l) hI (S.2 (o + 1)) (S.2 (o + 2))
    exact g_less (by omega) (by omega) (lc_26 hs ho hS9 hSh s1 s2 h1 h2 (fun e9 => kont M2 s2 hP e9))
  | 27, _ =>
    refine g_tableIn (pc := 44) (tgt := 1330) (off := 1286) dL_law_44 (by decide) (by decide) (by decide) (by decide) ?_
    obtain ⟨kk, b, M1, M2, h1, h2, s1, s2, ht, hq, hP⟩ := sm_girth (l := l) hI (S.2 (o + 1))
    exact g_less (by omega) (by omega) (lc_27 hs ho hS9 hSh s1 s2 h1 h2 (fun e9 => kont M2 s2 hP e9))
  | 28, _ =>
    refine g_tableIn (pc := 44) (tgt := 1358) (off := 1314) dL_law_44 (by decide) (by decide) (by decide) (by decide) ?_
    obtain ⟨kk, b, M1, M2, h1, h2, s1, s2, ht, hq, hP⟩ := sm_order (l := l) hI (S.2 (o + 1)) (S.2 (o + 2))
    exact g_less (by omega) (by omega) (lc_28 hs ho hS9 hSh s1 s2 h1 h2 (fun e9 => kont M2 s2 hP e9))
  | 29, _ =>
    refine g_tableIn (pc := 44) (tgt := 1398) (off := 1354) dL_law_44 (by decide) (by decide) (by decide) (by decide) ?_
    obtain ⟨kk, b, M1, M2, h1, h2, s1, s2, ht, hq, hP⟩ := sm_gained (l := l) hI (S.2 (o + 1)) (S.2 (o + 2)) (S.2 (o + 3))
    exact g_less (by omega) (by omega) (lc_29 hs ho hS9 hSh s1 s2 h1 h2 (fun e9 => kont M2 s2 hP e9))
  | 30, _ =>
    refine g_tableIn (pc := 44) (tgt := 1450) (off := 1406) dL_law_44 (by decide) (by decide) (by decide) (by decide) ?_
    obtain ⟨kk, b, M1, M2, h1, h2, s1, s2, ht, hq, hP⟩ := sm_lost (l := l) hI (S.2 (o + 1)) (S.2 (o + 2)) (S.2 (o + 3))
    exact g_less (by omega) (by omega) (lc_30 hs ho hS9 hSh s1 s2 h1 h2 (fun e9 => kont M2 s2 hP e9))
  | 31, _ =>
    refine g_tableIn (pc := 44) (tgt := 1502) (off := 1458) dL_law_44 (by decide) (by decide) (by decide) (by decide) ?_
    obtain ⟨kk, b, M1, M2, h1, h2, s1, s2, ht, hq, hP⟩ := sm_bestEdge (l := l) hI (S.2 (o + 1))
    exact g_less (by omega) (by omega) (lc_31 hs ho hS9 hSh s1 s2 h1 h2 (fun e9 => kont M2 s2 hP e9))
  | 32, _ =>
    refine g_tableIn (pc := 44) (tgt := 1530) (off := 1486) dL_law_44 (by decide) (by decide) (by decide) (by decide) ?_
    obtain ⟨kk, b, M1, M2, h1, h2, s1, s2, ht, hq, hP⟩ := sm_weakest (l := l) hI (S.2 (o + 1))
    exact g_less (by omega) (by omega) (lc_32 hs ho hS9 hSh s1 s2 h1 h2 (fun e9 => kont M2 s2 hP e9))
  | 33, _ =>
    refine g_tableIn (pc := 44) (tgt := 1558) (off := 1514) dL_law_44 (by decide) (by decide) (by decide) (by decide) ?_
    obtain ⟨kk, b, M1, M2, h1, h2, s1, s2, ht, hq, hP⟩ := sm_triangles (l := l) hI (S.2 (o + 1))
    exact g_less (by omega) (by omega) (lc_33 hs ho hS9 hSh s1 s2 h1 h2 (fun e9 => kont M2 s2 hP e9))
  | 34, _ =>
    refine g_tableIn (pc := 44) (tgt := 1586) (off := 1542) dL_law_44 (by decide) (by decide) (by decide) (by decide) ?_
    obtain ⟨kk, b, M1, M2, h1, h2, s1, s2, ht, hq, hP⟩ := sm_fieldRank (l := l) hI (S.2 (o + 1))
    exact g_less (by omega) (by omega) (lc_34 hs ho hS9 hSh s1 s2 h1 h2 (fun e9 => kont M2 s2 hP e9))
  | 35, _ =>
    refine g_tableIn (pc := 44) (tgt := 1614) (off := 1570) dL_law_44 (by decide) (by decide) (by decide) (by decide) ?_
    obtain ⟨kk, b, M1, M2, h1, h2, s1, s2, ht, hq, hP⟩ := sm_solve (l := l) hI (S.2 (o + 1)) (l2 (S.2 (o + 2)) (S.2 (o + 3)))
    exact g_less (by omega) (by omega) (lc_35 hs ho hS9 hSh s1 s2 h1 h2 (fun e9 => kont M2 s2 hP e9))
  | 36, _ =>
    refine g_tableIn (pc := 44) (tgt := 1686) (off := 1642) dL_law_44 (by decide) (by decide) (by decide) (by decide) ?_
    obtain ⟨kk, b, M1, M2, h1, h2, s1, s2, ht, hq, hP⟩ := sm_freedom (l := l) hI (S.2 (o + 1)) (l2 (S.2 (o + 2)) (S.2 (o + 3)))
    exact g_less (by omega) (by omega) (lc_36 hs ho hS9 hSh s1 s2 h1 h2 (fun e9 => kont M2 s2 hP e9))
  | 37, _ =>
    refine g_tableIn (pc := 44) (tgt := 1758) (off := 1714) dL_law_44 (by decide) (by decide) (by decide) (by decide) ?_
    obtain ⟨kk, b, M1, M2, h1, h2, s1, s2, ht, hq, hP⟩ := sm_pivot (l := l) hI (S.2 (o + 1)) (S.2 (o + 2))
    exact g_less (by omega) (by omega) (lc_37 hs ho hS9 hSh s1 s2 h1 h2 (fun e9 => kont M2 s2 hP e9))
  | 38, _ =>
    refine g_tableIn (pc := 44) (tgt := 1798) (off := 1754) dL_law_44 (by decide) (by decide) (by decide) (by decide) ?_
    obtain ⟨kk, b, M1, M2, h1, h2, s1, s2, ht, hq, hP⟩ := sm_put (l := l) hI (S.2 (o + 1)) (S.2 (o + 2)) (S.2 (o + 3)) (!decide (S.2 (o + 4) = 0))
    exact g_less (by omega) (by omega) (lc_38 (bz _) hs ho hS9 hSh s1 s2 h1 h2 (fun e9 => kont M2 s2 hP e9))
  | 39, _ =>
    refine g_tableIn (pc := 44) (tgt := 1878) (off := 1834) dL_law_44 (by decide) (by decide) (by decide) (by decide) ?_
    obtain ⟨kk, b, M1, M2, h1, h2, s1, s2, ht, hq, hP⟩ := sm_setRow (l := l) hI (S.2 (o + 1)) (S.2 (o + 2)) (l2 (S.2 (o + 3)) (S.2 (o + 4)))
    exact g_less (by omega) (by omega) (lc_39 hs ho hS9 hSh s1 s2 h1 h2 (fun e9 => kont M2 s2 hP e9))
  | 40, _ =>
    refine g_tableIn (pc := 44) (tgt := 1962) (off := 1918) dL_law_44 (by decide) (by decide) (by decide) (by decide) ?_
    obtain ⟨kk, b, M1, M2, h1, h2, s1, s2, ht, hq, hP⟩ := sm_copy (l := l) hI (S.2 (o + 1)) (S.2 (o + 2))
    exact g_less (by omega) (by omega) (lc_40 hs ho hS9 hSh s1 s2 h1 h2 (fun e9 => kont M2 s2 hP e9))
  | 41, _ =>
    refine g_tableIn (pc := 44) (tgt := 2002) (off := 1958) dL_law_44 (by decide) (by decide) (by decide) (by decide) ?_
    obtain ⟨kk, b, M1, M2, h1, h2, s1, s2, ht, hq, hP⟩ := sm_transpose (l := l) hI (S.2 (o + 1)) (S.2 (o + 2))
    exact g_less (by omega) (by omega) (lc_41 hs ho hS9 hSh s1 s2 h1 h2 (fun e9 => kont M2 s2 hP e9))
  | 42, _ =>
    refine g_tableIn (pc := 44) (tgt := 2042) (off := 1998) dL_law_44 (by decide) (by decide) (by decide) (by decide) ?_
    obtain ⟨kk, b, M1, M2, h1, h2, s1, s2, ht, hq, hP⟩ := sm_combine (l := l) hI (S.2 (o + 1)) (S.2 (o + 2)) (S.2 (o + 3)) (S.2 (o + 4))
    exact g_less (by omega) (by omega) (lc_42 hs ho hS9 hSh s1 s2 h1 h2 (fun e9 => kont M2 s2 hP e9))
  | 43, _ =>
    refine g_tableIn (pc := 44) (tgt := 2106) (off := 2062) dL_law_44 (by decide) (by decide) (by decide) (by decide) ?_
    obtain ⟨kk, b, M1, M2, h1, h2, s1, s2, ht, hq, hP⟩ := sm_product (l := l) hI (S.2 (o + 1)) (S.2 (o + 2)) (S.2 (o + 3)) (!decide (S.2 (o + 4) = 0))
    exact g_less (by omega) (by omega) (lc_43 (bz _) hs ho hS9 hSh s1 s2 h1 h2 (fun e9 => kont M2 s2 hP e9))
  | 44, _ =>
    refine g_tableIn (pc := 44) (tgt := 2186) (off := 2142) dL_law_44 (by decide) (by decide) (by decide) (by decide) ?_
    obtain ⟨kk, b, M1, M2, h1, h2, s1, s2, ht, hq, hP⟩ := sm_power (l := l) hI (S.2 (o + 1)) (S.2 (o + 2)) (S.2 (o + 3)) (!decide (S.2 (o + 4) = 0))
    exact g_less (by omega) (by omega) (lc_44 (bz _) hs ho hS9 hSh s1 s2 h1 h2 (fun e9 => kont M2 s2 hP e9))
  | 45, _ =>
    refine g_tableIn (pc := 44) (tgt := 2266) (off := 2222) dL_law_44 (by decide) (by decide) (by decide) (by decide) ?_
    obtain ⟨kk, b, M1, M2, h1, h2, s1, s2, ht, hq, hP⟩ := sm_invert (l := l) hI (S.2 (o + 1)) (S.2 (o + 2))
    exact g_less (by omega) (by omega) (lc_45 hs ho hS9 hSh s1 s2 h1 h2 (fun e9 => kont M2 s2 hP e9))
  | 46, _ =>
    refine g_tableIn (pc := 44) (tgt := 2306) (off := 2262) dL_law_44 (by decide) (by decide) (by decide) (by decide) ?_
    obtain ⟨kk, b, M1, M2, h1, h2, s1, s2, ht, hq, hP⟩ := sm_close (l := l) hI (S.2 (o + 1)) (S.2 (o + 2))
    exact g_less (by omega) (by omega) (lc_46 hs ho hS9 hSh s1 s2 h1 h2 (fun e9 => kont M2 s2 hP e9))
  | 47, _ =>
    refine g_tableIn (pc := 44) (tgt := 2346) (off := 2302) dL_law_44 (by decide) (by decide) (by decide) (by decide) ?_
    obtain ⟨kk, b, M1, M2, h1, h2, s1, s2, ht, hq, hP⟩ := sm_reduce (l := l) hI (S.2 (o + 1)) (S.2 (o + 2))
    exact g_less (by omega) (by omega) (lc_47 hs ho hS9 hSh s1 s2 h1 h2 (fun e9 => kont M2 s2 hP e9))
  | 48, _ =>
    refine g_tableIn (pc := 44) (tgt := 2386) (off := 2342) dL_law_44 (by decide) (by decide) (by decide) (by decide) ?_
    obtain ⟨kk, b, M1, M2, h1, h2, s1, s2, ht, hq, hP⟩ := sm_exchange (l := l) hI (S.2 (o + 1)) (S.2 (o + 2)) (S.2 (o + 3))
    exact g_less (by omega) (by omega) (lc_48 hs ho hS9 hSh s1 s2 h1 h2 (fun e9 => kont M2 s2 hP e9))
  | 49, _ =>
    refine g_tableIn (pc := 44) (tgt := 2438) (off := 2394) dL_law_44 (by decide) (by decide) (by decide) (by decide) ?_
    obtain ⟨kk, b, M1, M2, h1, h2, s1, s2, ht, hq, hP⟩ := sm_keep (l := l) hI (S.2 (o + 1)) (!decide (S.2 (o + 2) = 0))
    exact g_less (by omega) (by omega) (lc_49 (bz _) hs ho hS9 hSh s1 s2 h1 h2 (fun e9 => kont M2 s2 hP e9))
  | 50, _ =>
    refine g_tableIn (pc := 44) (tgt := 2494) (off := 2450) dL_law_44 (by decide) (by decide) (by decide) (by decide) ?_
    obtain ⟨kk, b, M1, M2, h1, h2, s1, s2, ht, hq, hP⟩ := sm_setBlock (l := l) hI (S.2 (o + 1))
    exact g_less (by omega) (by omega) (lc_50 hs ho hS9 hSh s1 s2 h1 h2 (fun e9 => kont M2 s2 hP e9))
  | 51, _ =>
    refine g_tableIn (pc := 44) (tgt := 2522) (off := 2478) dL_law_44 (by decide) (by decide) (by decide) (by decide) ?_
    obtain ⟨kk, b, M1, M2, h1, h2, s1, s2, ht, hq, hP⟩ := sm_kept (l := l) hI (S.2 (o + 1)) (S.2 (o + 2))
    exact g_less (by omega) (by omega) (lc_51 hs ho hS9 hSh s1 s2 h1 h2 (fun e9 => kont M2 s2 hP e9))
  | 52, _ =>
    refine g_tableIn (pc := 44) (tgt := 2562) (off := 2518) dL_law_44 (by decide) (by decide) (by decide) (by decide) ?_
    obtain ⟨kk, b, M1, M2, h1, h2, s1, s2, ht, hq, hP⟩ := sm_work (l := l) hI (S.2 (o + 1))
    exact g_less (by omega) (by omega) (lc_52 hs ho hS9 hSh s1 s2 h1 h2 (fun e9 => kont M2 s2 hP e9))
  | 53, _ =>
    refine g_tableIn (pc := 44) (tgt := 2590) (off := 2546) dL_law_44 (by decide) (by decide) (by decide) (by decide) ?_
    obtain ⟨kk, b, M1, M2, h1, h2, s1, s2, ht, hq, hP⟩ := sm_writeRow (l := l) hI (S.2 (o + 1)) (S.2 (o + 2))
    exact g_less (by omega) (by omega) (lc_53 hs ho hS9 hSh s1 s2 h1 h2 (fun e9 => kont M2 s2 hP e9))
  | 54, _ =>
    refine g_tableIn (pc := 44) (tgt := 2630) (off := 2586) dL_law_44 (by decide) (by decide) (by decide) (by decide) ?_
    obtain ⟨a9, b, M1, M2, h1, h2, s1, s2, hq, hP⟩ := sm_outputByte (l := l) hI (S.2 (o + 1))
    exact g_less (by omega) (by omega) (lc_54 hs ho hS9 hSh s1 s2 h1 h2 (fun e9 => kont M2 s2 hP e9))
  | 55, _ =>
    refine g_tableIn (pc := 44) (tgt := 2655) (off := 2611) dL_law_44 (by decide) (by decide) (by decide) (by decide) ?_
    obtain ⟨a9, b, M1, M2, h1, h2, s1, s2, hq, hP⟩ := sm_undo (l := l) hI 
    exact g_less (by omega) (by omega) (lc_55 hs ho hS9 hSh s1 s2 h1 h2 (fun e9 => kont M2 s2 hP e9))
  | 56, _ =>
    refine g_tableIn (pc := 44) (tgt := 2668) (off := 2624) dL_law_44 (by decide) (by decide) (by decide) (by decide) ?_
    obtain ⟨kk, b, M1, M2, h1, h2, s1, s2, ht, hq, hP⟩ := sm_saveSnapshot (l := l) hI (S.2 (o + 1))
    exact g_less (by omega) (by omega) (lc_56 hs ho hS9 hSh s1 s2 h1 h2 ht (hq trivial) (fun e9 => kont M2 s2 hP e9))
  | 57, _ =>
    refine g_tableIn (pc := 44) (tgt := 2724) (off := 2680) dL_law_44 (by decide) (by decide) (by decide) (by decide) ?_
    obtain ⟨kk, b, M1, M2, h1, h2, s1, s2, ht, hq, hP⟩ := sm_restoreSnapshot (l := l) hI (S.2 (o + 1))
    exact g_less (by omega) (by omega) (lc_57 hs ho hS9 hSh s1 s2 h1 h2 (fun e9 => kont M2 s2 hP e9))
  | 58, _ =>
    refine g_tableOut (pc := 44) (tgt := 2752) dL_law_44 (by decide) (by decide) ?_
    exact g_less (by omega) (by omega) kend
  | 59, _ =>
    refine g_tableOut (pc := 44) (tgt := 2752) dL_law_44 (by decide) (by decide) ?_
    exact g_less (by omega) (by omega) kend
  | 60, _ =>
    refine g_tableOut (pc := 44) (tgt := 2752) dL_law_44 (by decide) (by decide) ?_
    exact g_less (by omega) (by omega) kend
  | 61, _ =>
    refine g_tableOut (pc := 44) (tgt := 2752) dL_law_44 (by decide) (by decide) ?_
    exact g_less (by omega) (by omega) kend
  | 62, _ =>
    refine g_tableOut (pc := 44) (tgt := 2752) dL_law_44 (by decide) (by decide) ?_
    exact g_less (by omega) (by omega) kend
  | 63, _ =>
    refine g_tableOut (pc := 44) (tgt := 2752) dL_law_44 (by decide) (by decide) ?_
    exact g_less (by omega) (by omega) kend
  | j + 64, hj => exact absurd hj (by omega)
theorem len5 {L o : Nat} (hL : L < 1073741824) (ho : o < 1073741824) : nI L - 5 < nI o ↔ L < o + 5 := by
  by_cases h : 5 ≤ L
  · rw [show nI L - 5 = nI (L - 5) from nI_sub' h, nI_ltI (by omega) (by omega)]
    omega
  · have h2 : ∀ L, L < 5 → nI L - 5 < 0 := by decide +kernel
    constructor
    · intro _
      omega
    · intro _
      exact Int32.lt_of_lt_of_le (h2 L (by omega)) (Int32.not_lt.mp (nI_pos (by omega)))
/-- no more calls: true -/
theorem law_out (hs : mS M = S) (hL : S.1 < 1073741824) (ho : o < 1073741824) (h : S.1 < o + 5) (hQ : Q (.inl (some (.int 1))) M) : Go l jL_law 14 538 601024 7293034 Q 28 (AL o) [] k n M := by
  refine g_iload (pc := 28) dL_law_28 rfl ?_
  refine g_aload_n (pc := 30) dL_law_30 rfl isA_0 ?_
  refine g_scriptLenS (pc := 31) dL_law_31 hs ?_
  refine g_iconst (pc := 32) (v := 5) dL_law_32 rfl ?_
  refine g_isub (pc := 33) dL_law_33 ?_
  refine g_icmp_gt (pc := 34) (tgt := 2758) dL_law_34 rfl (fun _ => ?_) (fun h34 => absurd (((len5 hL ho).mpr h)) h34)
  refine g_iconst (pc := 2758) (v := 1) dL_law_2758 rfl ?_
  refine g_ireturn (pc := 2759) dL_law_2759 rfl rfl ?_
  exact hQ
/-- one more call -/
theorem law_in (hs : mS M = S) (hL : S.1 < 1073741824) (ho : o < 1073741824) (h : o + 5 ≤ S.1) (kk : Go l jL_law 14 538 601024 7293034 Q 44 (AL o) [.int (S.2 o &&& 63)] k n M) : Go l jL_law 14 538 601024 7293034 Q 28 (AL o) [] k n M := by
  refine g_iload (pc := 28) dL_law_28 rfl ?_
  refine g_aload_n (pc := 30) dL_law_30 rfl isA_0 ?_
  refine g_scriptLenS (pc := 31) dL_law_31 hs ?_
  refine g_iconst (pc := 32) (v := 5) dL_law_32 rfl ?_
  refine g_isub (pc := 33) dL_law_33 ?_
  refine g_icmp_gt (pc := 34) (tgt := 2758) dL_law_34 rfl (fun h34 => absurd h34 ((fun q => by have := (len5 hL ho).mp q; omega))) (fun _ => ?_)
  refine g_aload_n (pc := 37) dL_law_37 rfl isA_0 ?_
  refine g_iload (pc := 38) dL_law_38 rfl ?_
  refine g_scriptLoadS (pc := 40) dL_law_40 rfl hs (by omega) (by omega) ?_
  refine g_bipush (pc := 41) (v := 63) dL_law_41 rfl ?_
  refine g_iand (pc := 43) dL_law_43 ?_
  exact kk
/-- on to the next call -/
theorem law_nx (kk : Go l jL_law 14 538 601024 7293034 Q 28 (AL (o + 5)) [] k n M) : Go l jL_law 14 538 601024 7293034 Q 2752 (AL o) [] k n M := by
  refine g_iinc (pc := 2752) (lv' := [(0, _), (1, _), (2, _), (3, _), (4, _), (5, _)]) dL_law_2752 rfl (nI_o5 _) (nl rfl) rfl ?_
  refine g_goto (pc := 2755) (tgt := 28) dL_law_2755 rfl ?_
  exact g_sub (lv' := AL (o + 5)) ⟨rfl, rfl, rfl, rfl, rfl, rfl, trivial⟩ kk
end

