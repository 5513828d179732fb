/-! the law: a step, the loop, the start -/
theorem and63 (x : Int32) : ∃ j, j < 64 ∧ x &&& 63 = nI j := by
  refine ⟨(x &&& 63).toBitVec.toNat, ?_, ?_⟩
  · rw [Int32.toBitVec_and, BitVec.toNat_and]
    exact Nat.lt_of_le_of_lt Nat.and_le_right (by decide)
  · apply Int32.toBitVec_inj.mp
    show _ = BitVec.ofNat 32 _
    refine BitVec.eq_of_toNat_eq ?_
    rw [BitVec.toNat_ofNat, Nat.mod_eq_of_lt (BitVec.isLt _)]
theorem bz (x : Int32) : b1 (!decide (x = 0)) = if x = 0 then 0 else 1 := by
  by_cases h : x = 0
  · rw [decide_eq_true h, if_pos h]
    rfl
  · rw [decide_eq_false h, if_neg h]
    rfl
section
variable {l : Launch} {Q : Res → Mem → Prop} {k n : Nat} {M : Mem} {S : Nat × (Nat → Int32)} {o : Nat}
theorem g_sX {J : Jm} {F L MC MS pc : Nat} {lv : List (Nat × Value)} {st : List Value} (kk : Go l J F L MC MS Q pc lv st k n (sX M)) : Go l J F L MC MS Q pc lv st k n M := by
  intro p e s m args below meth c G H locs cells slots ls hX hC hR hS hl hc hs
  have e1 : wl G (sX M) = wl G M := by
    unfold wl
    have e2 : ∀ i y, ent G (sX M) i y = ent G M i y := fun i y => ent_of (M := M) (M' := sX M) rfl rfl rfl rfl y
    show (mK M).mapIdx (fun i k => (gB G + i, ent G (sX M) i k)) = _
    simp only [e2]
  exact kk p e s m args below meth c G H locs cells slots ls hX hC ⟨by rw [e1]; exact hR.1, fun h => absurd (show false = true from h) (by decide), hR.2.2.1, hR.2.2.2⟩ hS hl hc hs
set_option maxRecDepth 20000 in
theorem law_step (hI : Frs M) (hSh : Shp M) (hs : mS M = S) (ho : o + 5 ≤ S.1) (hS9 : S.1 < 2147483648) (kont : ∀ M2, Shp M2 → (fun _ => True) M2 → mS M2 = S → Go l jL_law 14 538 600002 7302232 Q 4226 (AL o) [] k n M2) (kend : Go l jL_law 14 538 600002 7302232 Q 4226 (AL o) [] k n M) : Go l jL_law 14 538 600002 7302232 Q 44 (AL o) [.int (S.2 o &&& 63)] (k + 4) (n + 24) M := by
  obtain ⟨j, hj, e⟩ := and63 (S.2 o)
  rw [e]
  match j, hj with
  | 0, _ =>
    refine g_tableIn (pc := 44) (tgt := 292) (off := 248) dL_law_44 (by decide) (by decide) (by decide) (by decide) ?_
    obtain ⟨b, M1, M2, h1, h2, s1, s2, hP⟩ := sm_append (l := l) hI (l2 (S.2 (o + 1)) (S.2 (o + 2)))
    exact g_less (by omega) (by omega) (lc_0 hs ho hS9 hSh s1 s2 h1 h2 rfl (fun e9 => kont M2 s2 hP e9))
  | 1, _ =>
    refine g_tableIn (pc := 44) (tgt := 349) (off := 305) dL_law_44 (by decide) (by decide) (by decide) (by decide) ?_
    obtain ⟨b, M1, M2, h1, h2, s1, s2, hP⟩ := sm_load (l := l) hI 
    exact g_less (by omega) (by omega) (lc_1 hs ho hS9 hSh s1 s2 h1 h2 rfl (fun e9 => kont M2 s2 hP e9))
  | 2, _ =>
    refine g_tableIn (pc := 44) (tgt := 362) (off := 318) dL_law_44 (by decide) (by decide) (by decide) (by decide) ?_
    obtain ⟨b, M1, M2, h1, h2, s1, s2, hP⟩ := sm_loadError (l := l) hI 
    exact g_less (by omega) (by omega) (lc_2 hs ho hS9 hSh s1 s2 h1 h2 rfl (fun e9 => kont M2 s2 hP e9))
  | 3, _ =>
    refine g_tableIn (pc := 44) (tgt := 375) (off := 331) dL_law_44 (by decide) (by decide) (by decide) (by decide) ?_
    obtain ⟨b, M1, M2, h1, h2, s1, s2, hP⟩ := sm_loadStatement (l := l) hI 
    exact g_less (by omega) (by omega) (lc_3 hs ho hS9 hSh s1 s2 h1 h2 rfl (fun e9 => kont M2 s2 hP e9))
  | 4, _ =>
    refine g_tableIn (pc := 44) (tgt := 388) (off := 344) dL_law_44 (by decide) (by decide) (by decide) (by decide) ?_
    obtain ⟨kk, b, M1, M2, h1, h2, s1, s2, ht, hq, hP⟩ := sm_count (l := l) hI (S.2 (o + 1))
    exact g_less (by omega) (by omega) (lc_4 hs ho hS9 hSh s1 s2 h1 h2 ht hq (fun e9 => kont M2 s2 hP e9))
  | 5, _ =>
    refine g_tableIn (pc := 44) (tgt := 444) (off := 400) dL_law_44 (by decide) (by decide) (by decide) (by decide) ?_
    obtain ⟨kk, b, M1, M2, h1, h2, s1, s2, ht, hq, hP⟩ := sm_bit (l := l) hI (S.2 (o + 1)) (S.2 (o + 2)) (S.2 (o + 3))
    exact g_less (by omega) (by omega) (lc_5 hs ho hS9 hSh s1 s2 h1 h2 ht hq (fun e9 => kont M2 s2 hP e9))
  | 6, _ =>
    refine g_tableIn (pc := 44) (tgt := 524) (off := 480) dL_law_44 (by decide) (by decide) (by decide) (by decide) ?_
    obtain ⟨kk, b, M1, M2, h1, h2, s1, s2, ht, hq, hP⟩ := sm_row (l := l) hI (S.2 (o + 1)) (S.2 (o + 2))
    exact g_less (by omega) (by omega) (lc_6 hs ho hS9 hSh s1 s2 h1 h2 ht hq (fun e9 => kont M2 s2 hP e9))
  | 7, _ =>
    refine g_tableIn (pc := 44) (tgt := 591) (off := 547) dL_law_44 (by decide) (by decide) (by decide) (by decide) ?_
    obtain ⟨kk, b, M1, M2, h1, h2, s1, s2, ht, hq, hP⟩ := sm_rank (l := l) hI (S.2 (o + 1)) (S.2 (o + 2)) (S.2 (o + 3))
    exact g_less (by omega) (by omega) (lc_7 hs ho hS9 hSh s1 s2 h1 h2 ht hq (fun e9 => kont M2 s2 hP e9))
  | 8, _ =>
    refine g_tableIn (pc := 44) (tgt := 671) (off := 627) dL_law_44 (by decide) (by decide) (by decide) (by decide) ?_
    obtain ⟨kk, b, M1, M2, h1, h2, s1, s2, ht, hq, hP⟩ := sm_select (l := l) hI (S.2 (o + 1)) (S.2 (o + 2)) (S.2 (o + 3))
    exact g_less (by omega) (by omega) (lc_8 hs ho hS9 hSh s1 s2 h1 h2 ht hq (fun e9 => kont M2 s2 hP e9))
  | 9, _ =>
    refine g_tableIn (pc := 44) (tgt := 751) (off := 707) dL_law_44 (by decide) (by decide) (by decide) (by decide) ?_
    obtain ⟨kk, b, M1, M2, h1, h2, s1, s2, ht, hq, hP⟩ := sm_ones (l := l) hI (S.2 (o + 1))
    exact g_less (by omega) (by omega) (lc_9 hs ho hS9 hSh s1 s2 h1 h2 ht hq (fun e9 => kont M2 s2 hP e9))
  | 10, _ =>
    refine g_tableIn (pc := 44) (tgt := 807) (off := 763) dL_law_44 (by decide) (by decide) (by decide) (by decide) ?_
    obtain ⟨kk, b, M1, M2, h1, h2, s1, s2, ht, hq, hP⟩ := sm_columnOnes (l := l) hI (S.2 (o + 1)) (S.2 (o + 2))
    exact g_less (by omega) (by omega) (lc_10 hs ho hS9 hSh s1 s2 h1 h2 ht hq (fun e9 => kont M2 s2 hP e9))
  | 11, _ =>
    refine g_tableIn (pc := 44) (tgt := 875) (off := 831) dL_law_44 (by decide) (by decide) (by decide) (by decide) ?_
    obtain ⟨kk, b, M1, M2, h1, h2, s1, s2, ht, hq, hP⟩ := sm_sameAs (l := l) hI (S.2 (o + 1)) (S.2 (o + 2))
    exact g_less (by omega) (by omega) (lc_11 hs ho hS9 hSh s1 s2 h1 h2 ht hq (fun e9 => kont M2 s2 hP e9))
  | 12, _ =>
    refine g_tableIn (pc := 44) (tgt := 943) (off := 899) dL_law_44 (by decide) (by decide) (by decide) (by decide) ?_
    obtain ⟨kk, b, M1, M2, h1, h2, s1, s2, ht, hq, hP⟩ := sm_classes (l := l) hI (S.2 (o + 1))
    exact g_less (by omega) (by omega) (lc_12 hs ho hS9 hSh s1 s2 h1 h2 ht hq (fun e9 => kont M2 s2 hP e9))
  | 13, _ =>
    refine g_tableIn (pc := 44) (tgt := 999) (off := 955) dL_law_44 (by decide) (by decide) (by decide) (by decide) ?_
    obtain ⟨kk, b, M1, M2, h1, h2, s1, s2, ht, hq, hP⟩ := sm_classOf (l := l) hI (S.2 (o + 1)) (S.2 (o + 2))
    exact g_less (by omega) (by omega) (lc_13 hs ho hS9 hSh s1 s2 h1 h2 ht hq (fun e9 => kont M2 s2 hP e9))
  | 14, _ =>
    refine g_tableIn (pc := 44) (tgt := 1067) (off := 1023) dL_law_44 (by decide) (by decide) (by decide) (by decide) ?_
    obtain ⟨kk, b, M1, M2, h1, h2, s1, s2, ht, hq, hP⟩ := sm_find (l := l) hI (S.2 (o + 1)) (l2 (S.2 (o + 2)) (S.2 (o + 3)))
    exact g_less (by omega) (by omega) (lc_14 hs ho hS9 hSh s1 s2 h1 h2 ht hq (fun e9 => kont M2 s2 hP e9))
  | 15, _ =>
    refine g_tableIn (pc := 44) (tgt := 1167) (off := 1123) dL_law_44 (by decide) (by decide) (by decide) (by decide) ?_
    obtain ⟨kk, b, M1, M2, h1, h2, s1, s2, ht, hq, hP⟩ := sm_nearest (l := l) hI (S.2 (o + 1)) (S.2 (o + 2))
    exact g_less (by omega) (by omega) (lc_15 hs ho hS9 hSh s1 s2 h1 h2 ht hq (fun e9 => kont M2 s2 hP e9))
  | 16, _ =>
    refine g_tableIn (pc := 44) (tgt := 1235) (off := 1191) dL_law_44 (by decide) (by decide) (by decide) (by decide) ?_
    obtain ⟨kk, b, M1, M2, h1, h2, s1, s2, ht, hq, hP⟩ := sm_density (l := l) hI (S.2 (o + 1))
    exact g_less (by omega) (by omega) (lc_16 hs ho hS9 hSh s1 s2 h1 h2 ht hq (fun e9 => kont M2 s2 hP e9))
  | 17, _ =>
    refine g_tableIn (pc := 44) (tgt := 1312) (off := 1268) dL_law_44 (by decide) (by decide) (by decide) (by decide) ?_
    obtain ⟨kk, b, M1, M2, h1, h2, s1, s2, ht, hq, hP⟩ := sm_isSymmetric (l := l) hI (S.2 (o + 1))
    exact g_less (by omega) (by omega) (lc_17 hs ho hS9 hSh s1 s2 h1 h2 ht hq (fun e9 => kont M2 s2 hP e9))
  | 18, _ =>
    refine g_tableIn (pc := 44) (tgt := 1375) (off := 1331) dL_law_44 (by decide) (by decide) (by decide) (by decide) ?_
    obtain ⟨kk, b, M1, M2, h1, h2, s1, s2, ht, hq, hP⟩ := sm_reaches (l := l) hI (S.2 (o + 1)) (S.2 (o + 2)) (S.2 (o + 3))
    exact g_less (by omega) (by omega) (lc_18 hs ho hS9 hSh s1 s2 h1 h2 ht hq (fun e9 => kont M2 s2 hP e9))
  | 19, _ =>
    refine g_tableIn (pc := 44) (tgt := 1455) (off := 1411) dL_law_44 (by decide) (by decide) (by decide) (by decide) ?_
    obtain ⟨kk, b, M1, M2, h1, h2, s1, s2, ht, hq, hP⟩ := sm_reached (l := l) hI (S.2 (o + 1)) (S.2 (o + 2))
    exact g_less (by omega) (by omega) (lc_19 hs ho hS9 hSh s1 s2 h1 h2 ht hq (fun e9 => kont M2 s2 hP e9))
  | 20, _ =>
    refine g_tableIn (pc := 44) (tgt := 1523) (off := 1479) dL_law_44 (by decide) (by decide) (by decide) (by decide) ?_
    obtain ⟨kk, b, M1, M2, h1, h2, s1, s2, ht, hq, hP⟩ := sm_pairs (l := l) hI (S.2 (o + 1))
    exact g_less (by omega) (by omega) (lc_20 hs ho hS9 hSh s1 s2 h1 h2 ht hq (fun e9 => kont M2 s2 hP e9))
  | 21, _ =>
    refine g_tableIn (pc := 44) (tgt := 1579) (off := 1535) dL_law_44 (by decide) (by decide) (by decide) (by decide) ?_
    obtain ⟨kk, b, M1, M2, h1, h2, s1, s2, ht, hq, hP⟩ := sm_meanReach (l := l) hI (S.2 (o + 1))
    exact g_less (by omega) (by omega) (lc_21 hs ho hS9 hSh s1 s2 h1 h2 ht hq (fun e9 => kont M2 s2 hP e9))
  | 22, _ =>
    refine g_tableIn (pc := 44) (tgt := 1657) (off := 1613) dL_law_44 (by decide) (by decide) (by decide) (by decide) ?_
    obtain ⟨kk, b, M1, M2, h1, h2, s1, s2, ht, hq, hP⟩ := sm_component (l := l) hI (S.2 (o + 1)) (S.2 (o + 2))
    exact g_less (by omega) (by omega) (lc_22 hs ho hS9 hSh s1 s2 h1 h2 ht hq (fun e9 => kont M2 s2 hP e9))
  | 23, _ =>
    refine g_tableIn (pc := 44) (tgt := 1725) (off := 1681) dL_law_44 (by decide) (by decide) (by decide) (by decide) ?_
    obtain ⟨kk, b, M1, M2, h1, h2, s1, s2, ht, hq, hP⟩ := sm_components (l := l) hI (S.2 (o + 1))
    exact g_less (by omega) (by omega) (lc_23 hs ho hS9 hSh s1 s2 h1 h2 ht hq (fun e9 => kont M2 s2 hP e9))
  | 24, _ =>
    refine g_tableIn (pc := 44) (tgt := 1781) (off := 1737) dL_law_44 (by decide) (by decide) (by decide) (by decide) ?_
    obtain ⟨kk, b, M1, M2, h1, h2, s1, s2, ht, hq, hP⟩ := sm_distance (l := l) hI (S.2 (o + 1)) (S.2 (o + 2)) (S.2 (o + 3))
    exact g_less (by omega) (by omega) (lc_24 hs ho hS9 hSh s1 s2 h1 h2 ht hq (fun e9 => kont M2 s2 hP e9))
  | 25, _ =>
    refine g_tableIn (pc := 44) (tgt := 1861) (off := 1817) dL_law_44 (by decide) (by decide) (by decide) (by decide) ?_
    obtain ⟨kk, b, M1, M2, h1, h2, s1, s2, ht, hq, hP⟩ := sm_stepAt (l := l) hI (S.2 (o + 1)) (S.2 (o + 2)) (S.2 (o + 3)) (S.2 (o + 4))
    exact g_less (by omega) (by omega) (lc_25 hs ho hS9 hSh s1 s2 h1 h2 ht hq (fun e9 => kont M2 s2 hP e9))
  | 26, _ =>
    refine g_tableIn (pc := 44) (tgt := 1953) (off := 1909) dL_law_44 (by decide) (by decide) (by decide) (by decide) ?_
    obtain ⟨kk, b, M1, M2, h1, h2, s1, s2, ht, hq, hP⟩ := sm_around (l := l) hI (S.2 (o + 1)) (S.2 (o + 2))
    exact g_less (by omega) (by omega) (lc_26 hs ho hS9 hSh s1 s2 h1 h2 ht hq (fun e9 => kont M2 s2 hP e9))
  | 27, _ =>
    refine g_tableIn (pc := 44) (tgt := 2021) (off := 1977) dL_law_44 (by decide) (by decide) (by decide) (by decide) ?_
    obtain ⟨kk, b, M1, M2, h1, h2, s1, s2, ht, hq, hP⟩ := sm_girth (l := l) hI (S.2 (o + 1))
    exact g_less (by omega) (by omega) (lc_27 hs ho hS9 hSh s1 s2 h1 h2 ht hq (fun e9 => kont M2 s2 hP e9))
  | 28, _ =>
    refine g_tableIn (pc := 44) (tgt := 2077) (off := 2033) dL_law_44 (by decide) (by decide) (by decide) (by decide) ?_
    obtain ⟨kk, b, M1, M2, h1, h2, s1, s2, ht, hq, hP⟩ := sm_order (l := l) hI (S.2 (o + 1)) (S.2 (o + 2))
    exact g_less (by omega) (by omega) (lc_28 hs ho hS9 hSh s1 s2 h1 h2 ht hq (fun e9 => kont M2 s2 hP e9))
  | 29, _ =>
    refine g_tableIn (pc := 44) (tgt := 2145) (off := 2101) dL_law_44 (by decide) (by decide) (by decide) (by decide) ?_
    obtain ⟨kk, b, M1, M2, h1, h2, s1, s2, ht, hq, hP⟩ := sm_gained (l := l) hI (S.2 (o + 1)) (S.2 (o + 2)) (S.2 (o + 3))
    exact g_less (by omega) (by omega) (lc_29 hs ho hS9 hSh s1 s2 h1 h2 ht hq (fun e9 => kont M2 s2 hP e9))
  | 30, _ =>
    refine g_tableIn (pc := 44) (tgt := 2225) (off := 2181) dL_law_44 (by decide) (by decide) (by decide) (by decide) ?_
    obtain ⟨kk, b, M1, M2, h1, h2, s1, s2, ht, hq, hP⟩ := sm_lost (l := l) hI (S.2 (o + 1)) (S.2 (o + 2)) (S.2 (o + 3))
    exact g_less (by omega) (by omega) (lc_30 hs ho hS9 hSh s1 s2 h1 h2 ht hq (fun e9 => kont M2 s2 hP e9))
  | 31, _ =>
    refine g_tableIn (pc := 44) (tgt := 2305) (off := 2261) dL_law_44 (by decide) (by decide) (by decide) (by decide) ?_
    obtain ⟨kk, b, M1, M2, h1, h2, s1, s2, ht, hq, hP⟩ := sm_bestEdge (l := l) hI (S.2 (o + 1))
    exact g_less (by omega) (by omega) (lc_31 hs ho hS9 hSh s1 s2 h1 h2 ht hq (fun e9 => kont M2 s2 hP e9))
  | 32, _ =>
    refine g_tableIn (pc := 44) (tgt := 2361) (off := 2317) dL_law_44 (by decide) (by decide) (by decide) (by decide) ?_
    obtain ⟨kk, b, M1, M2, h1, h2, s1, s2, ht, hq, hP⟩ := sm_weakest (l := l) hI (S.2 (o + 1))
    exact g_less (by omega) (by omega) (lc_32 hs ho hS9 hSh s1 s2 h1 h2 ht hq (fun e9 => kont M2 s2 hP e9))
  | 33, _ =>
    refine g_tableIn (pc := 44) (tgt := 2417) (off := 2373) dL_law_44 (by decide) (by decide) (by decide) (by decide) ?_
    obtain ⟨kk, b, M1, M2, h1, h2, s1, s2, ht, hq, hP⟩ := sm_triangles (l := l) hI (S.2 (o + 1))
    exact g_less (by omega) (by omega) (lc_33 hs ho hS9 hSh s1 s2 h1 h2 ht hq (fun e9 => kont M2 s2 hP e9))
  | 34, _ =>
    refine g_tableIn (pc := 44) (tgt := 2473) (off := 2429) dL_law_44 (by decide) (by decide) (by decide) (by decide) ?_
    obtain ⟨kk, b, M1, M2, h1, h2, s1, s2, ht, hq, hP⟩ := sm_fieldRank (l := l) hI (S.2 (o + 1))
    exact g_less (by omega) (by omega) (lc_34 hs ho hS9 hSh s1 s2 h1 h2 ht hq (fun e9 => kont M2 s2 hP e9))
  | 35, _ =>
    refine g_tableIn (pc := 44) (tgt := 2529) (off := 2485) dL_law_44 (by decide) (by decide) (by decide) (by decide) ?_
    obtain ⟨kk, b, M1, M2, h1, h2, s1, s2, ht, hq, hP⟩ := sm_solve (l := l) hI (S.2 (o + 1)) (l2 (S.2 (o + 2)) (S.2 (o + 3)))
    exact g_less (by omega) (by omega) (lc_35 hs ho hS9 hSh s1 s2 h1 h2 ht hq (fun e9 => kont M2 s2 hP e9))
  | 36, _ =>
    refine g_tableIn (pc := 44) (tgt := 2628) (off := 2584) dL_law_44 (by decide) (by decide) (by decide) (by decide) ?_
    obtain ⟨kk, b, M1, M2, h1, h2, s1, s2, ht, hq, hP⟩ := sm_freedom (l := l) hI (S.2 (o + 1)) (l2 (S.2 (o + 2)) (S.2 (o + 3)))
    exact g_less (by omega) (by omega) (lc_36 hs ho hS9 hSh s1 s2 h1 h2 ht hq (fun e9 => kont M2 s2 hP e9))
  | 37, _ =>
    refine g_tableIn (pc := 44) (tgt := 2728) (off := 2684) dL_law_44 (by decide) (by decide) (by decide) (by decide) ?_
    obtain ⟨kk, b, M1, M2, h1, h2, s1, s2, ht, hq, hP⟩ := sm_pivot (l := l) hI (S.2 (o + 1)) (S.2 (o + 2))
    exact g_less (by omega) (by omega) (lc_37 hs ho hS9 hSh s1 s2 h1 h2 ht hq (fun e9 => kont M2 s2 hP e9))
  | 38, _ =>
    refine g_tableIn (pc := 44) (tgt := 2796) (off := 2752) dL_law_44 (by decide) (by decide) (by decide) (by decide) ?_
    obtain ⟨kk, b, M1, M2, h1, h2, s1, s2, ht, hq, hP⟩ := sm_put (l := l) hI (S.2 (o + 1)) (S.2 (o + 2)) (S.2 (o + 3)) (!decide (S.2 (o + 4) = 0))
    exact g_less (by omega) (by omega) (lc_38 (bz _) hs ho hS9 hSh s1 s2 h1 h2 ht hq (fun e9 => kont M2 s2 hP e9))
  | 39, _ =>
    refine g_tableIn (pc := 44) (tgt := 2904) (off := 2860) dL_law_44 (by decide) (by decide) (by decide) (by decide) ?_
    obtain ⟨kk, b, M1, M2, h1, h2, s1, s2, ht, hq, hP⟩ := sm_setRow (l := l) hI (S.2 (o + 1)) (S.2 (o + 2)) (l2 (S.2 (o + 3)) (S.2 (o + 4)))
    exact g_less (by omega) (by omega) (lc_39 hs ho hS9 hSh s1 s2 h1 h2 ht hq (fun e9 => kont M2 s2 hP e9))
  | 40, _ =>
    refine g_tableIn (pc := 44) (tgt := 3016) (off := 2972) dL_law_44 (by decide) (by decide) (by decide) (by decide) ?_
    obtain ⟨kk, b, M1, M2, h1, h2, s1, s2, ht, hq, hP⟩ := sm_copy (l := l) hI (S.2 (o + 1)) (S.2 (o + 2))
    exact g_less (by omega) (by omega) (lc_40 hs ho hS9 hSh s1 s2 h1 h2 ht hq (fun e9 => kont M2 s2 hP e9))
  | 41, _ =>
    refine g_tableIn (pc := 44) (tgt := 3084) (off := 3040) dL_law_44 (by decide) (by decide) (by decide) (by decide) ?_
    obtain ⟨kk, b, M1, M2, h1, h2, s1, s2, ht, hq, hP⟩ := sm_transpose (l := l) hI (S.2 (o + 1)) (S.2 (o + 2))
    exact g_less (by omega) (by omega) (lc_41 hs ho hS9 hSh s1 s2 h1 h2 ht hq (fun e9 => kont M2 s2 hP e9))
  | 42, _ =>
    refine g_tableIn (pc := 44) (tgt := 3152) (off := 3108) dL_law_44 (by decide) (by decide) (by decide) (by decide) ?_
    obtain ⟨kk, b, M1, M2, h1, h2, s1, s2, ht, hq, hP⟩ := sm_combine (l := l) hI (S.2 (o + 1)) (S.2 (o + 2)) (S.2 (o + 3)) (S.2 (o + 4))
    exact g_less (by omega) (by omega) (lc_42 hs ho hS9 hSh s1 s2 h1 h2 ht hq (fun e9 => kont M2 s2 hP e9))
  | 43, _ =>
    refine g_tableIn (pc := 44) (tgt := 3244) (off := 3200) dL_law_44 (by decide) (by decide) (by decide) (by decide) ?_
    obtain ⟨kk, b, M1, M2, h1, h2, s1, s2, ht, hq, hP⟩ := sm_product (l := l) hI (S.2 (o + 1)) (S.2 (o + 2)) (S.2 (o + 3)) (!decide (S.2 (o + 4) = 0))
    exact g_less (by omega) (by omega) (lc_43 (bz _) hs ho hS9 hSh s1 s2 h1 h2 ht hq (fun e9 => kont M2 s2 hP e9))
  | 44, _ =>
    refine g_tableIn (pc := 44) (tgt := 3352) (off := 3308) dL_law_44 (by decide) (by decide) (by decide) (by decide) ?_
    obtain ⟨kk, b, M1, M2, h1, h2, s1, s2, ht, hq, hP⟩ := sm_power (l := l) hI (S.2 (o + 1)) (S.2 (o + 2)) (S.2 (o + 3)) (!decide (S.2 (o + 4) = 0))
    exact g_less (by omega) (by omega) (lc_44 (bz _) hs ho hS9 hSh s1 s2 h1 h2 ht hq (fun e9 => kont M2 s2 hP e9))
  | 45, _ =>
    refine g_tableIn (pc := 44) (tgt := 3460) (off := 3416) dL_law_44 (by decide) (by decide) (by decide) (by decide) ?_
    obtain ⟨kk, b, M1, M2, h1, h2, s1, s2, ht, hq, hP⟩ := sm_invert (l := l) hI (S.2 (o + 1)) (S.2 (o + 2))
    exact g_less (by omega) (by omega) (lc_45 hs ho hS9 hSh s1 s2 h1 h2 ht hq (fun e9 => kont M2 s2 hP e9))
  | 46, _ =>
    refine g_tableIn (pc := 44) (tgt := 3528) (off := 3484) dL_law_44 (by decide) (by decide) (by decide) (by decide) ?_
    obtain ⟨kk, b, M1, M2, h1, h2, s1, s2, ht, hq, hP⟩ := sm_close (l := l) hI (S.2 (o + 1)) (S.2 (o + 2))
    exact g_less (by omega) (by omega) (lc_46 hs ho hS9 hSh s1 s2 h1 h2 ht hq (fun e9 => kont M2 s2 hP e9))
  | 47, _ =>
    refine g_tableIn (pc := 44) (tgt := 3596) (off := 3552) dL_law_44 (by decide) (by decide) (by decide) (by decide) ?_
    obtain ⟨kk, b, M1, M2, h1, h2, s1, s2, ht, hq, hP⟩ := sm_reduce (l := l) hI (S.2 (o + 1)) (S.2 (o + 2))
    exact g_less (by omega) (by omega) (lc_47 hs ho hS9 hSh s1 s2 h1 h2 ht hq (fun e9 => kont M2 s2 hP e9))
  | 48, _ =>
    refine g_tableIn (pc := 44) (tgt := 3664) (off := 3620) dL_law_44 (by decide) (by decide) (by decide) (by decide) ?_
    obtain ⟨kk, b, M1, M2, h1, h2, s1, s2, ht, hq, hP⟩ := sm_exchange (l := l) hI (S.2 (o + 1)) (S.2 (o + 2)) (S.2 (o + 3))
    exact g_less (by omega) (by omega) (lc_48 hs ho hS9 hSh s1 s2 h1 h2 ht hq (fun e9 => kont M2 s2 hP e9))
  | 49, _ =>
    refine g_tableIn (pc := 44) (tgt := 3744) (off := 3700) dL_law_44 (by decide) (by decide) (by decide) (by decide) ?_
    obtain ⟨kk, b, M1, M2, h1, h2, s1, s2, ht, hq, hP⟩ := sm_keep (l := l) hI (S.2 (o + 1)) (!decide (S.2 (o + 2) = 0))
    exact g_less (by omega) (by omega) (lc_49 (bz _) hs ho hS9 hSh s1 s2 h1 h2 ht hq (fun e9 => kont M2 s2 hP e9))
  | 50, _ =>
    refine g_tableIn (pc := 44) (tgt := 3828) (off := 3784) dL_law_44 (by decide) (by decide) (by decide) (by decide) ?_
    obtain ⟨kk, b, M1, M2, h1, h2, s1, s2, ht, hq, hP⟩ := sm_setBlock (l := l) hI (S.2 (o + 1))
    exact g_less (by omega) (by omega) (lc_50 hs ho hS9 hSh s1 s2 h1 h2 ht hq (fun e9 => kont M2 s2 hP e9))
  | 51, _ =>
    refine g_tableIn (pc := 44) (tgt := 3884) (off := 3840) dL_law_44 (by decide) (by decide) (by decide) (by decide) ?_
    obtain ⟨kk, b, M1, M2, h1, h2, s1, s2, ht, hq, hP⟩ := sm_kept (l := l) hI (S.2 (o + 1)) (S.2 (o + 2))
    exact g_less (by omega) (by omega) (lc_51 hs ho hS9 hSh s1 s2 h1 h2 ht hq (fun e9 => kont M2 s2 hP e9))
  | 52, _ =>
    refine g_tableIn (pc := 44) (tgt := 3952) (off := 3908) dL_law_44 (by decide) (by decide) (by decide) (by decide) ?_
    obtain ⟨kk, b, M1, M2, h1, h2, s1, s2, ht, hq, hP⟩ := sm_work (l := l) hI (S.2 (o + 1))
    exact g_less (by omega) (by omega) (lc_52 hs ho hS9 hSh s1 s2 h1 h2 ht hq (fun e9 => kont M2 s2 hP e9))
  | 53, _ =>
    refine g_tableIn (pc := 44) (tgt := 4008) (off := 3964) dL_law_44 (by decide) (by decide) (by decide) (by decide) ?_
    obtain ⟨kk, b, M1, M2, h1, h2, s1, s2, ht, hq, hP⟩ := sm_writeRow (l := l) hI (S.2 (o + 1)) (S.2 (o + 2))
    exact g_less (by omega) (by omega) (lc_53 hs ho hS9 hSh s1 s2 h1 h2 ht hq (fun e9 => kont M2 s2 hP e9))
  | 54, _ =>
    refine g_tableIn (pc := 44) (tgt := 4076) (off := 4032) dL_law_44 (by decide) (by decide) (by decide) (by decide) ?_
    obtain ⟨b, M1, M2, h1, h2, s1, s2, hP⟩ := sm_outputByte (l := l) hI (S.2 (o + 1))
    exact g_less (by omega) (by omega) (lc_54 hs ho hS9 hSh s1 s2 h1 h2 rfl (fun e9 => kont M2 s2 hP e9))
  | 55, _ =>
    refine g_tableIn (pc := 44) (tgt := 4101) (off := 4057) dL_law_44 (by decide) (by decide) (by decide) (by decide) ?_
    obtain ⟨b, M1, M2, h1, h2, s1, s2, hP⟩ := sm_undo (l := l) hI 
    exact g_less (by omega) (by omega) (lc_55 hs ho hS9 hSh s1 s2 h1 h2 rfl (fun e9 => kont M2 s2 hP e9))
  | 56, _ =>
    refine g_tableIn (pc := 44) (tgt := 4114) (off := 4070) dL_law_44 (by decide) (by decide) (by decide) (by decide) ?_
    obtain ⟨kk, b, M1, M2, h1, h2, s1, s2, ht, hq, hP⟩ := sm_saveSnapshot (l := l) hI (S.2 (o + 1))
    exact g_less (by omega) (by omega) (lc_56 hs ho hS9 hSh s1 s2 h1 h2 ht hq (fun e9 => kont M2 s2 hP e9))
  | 57, _ =>
    refine g_tableIn (pc := 44) (tgt := 4170) (off := 4126) dL_law_44 (by decide) (by decide) (by decide) (by decide) ?_
    obtain ⟨kk, b, M1, M2, h1, h2, s1, s2, ht, hq, hP⟩ := sm_restoreSnapshot (l := l) hI (S.2 (o + 1))
    exact g_less (by omega) (by omega) (lc_57 hs ho hS9 hSh s1 s2 h1 h2 ht hq (fun e9 => kont M2 s2 hP e9))
  | 58, _ =>
    refine g_tableOut (pc := 44) (tgt := 4226) dL_law_44 (by decide) (by decide) ?_
    exact g_less (by omega) (by omega) kend
  | 59, _ =>
    refine g_tableOut (pc := 44) (tgt := 4226) dL_law_44 (by decide) (by decide) ?_
    exact g_less (by omega) (by omega) kend
  | 60, _ =>
    refine g_tableOut (pc := 44) (tgt := 4226) dL_law_44 (by decide) (by decide) ?_
    exact g_less (by omega) (by omega) kend
  | 61, _ =>
    refine g_tableOut (pc := 44) (tgt := 4226) dL_law_44 (by decide) (by decide) ?_
    exact g_less (by omega) (by omega) kend
  | 62, _ =>
    refine g_tableOut (pc := 44) (tgt := 4226) dL_law_44 (by decide) (by decide) ?_
    exact g_less (by omega) (by omega) kend
  | 63, _ =>
    refine g_tableOut (pc := 44) (tgt := 4226) dL_law_44 (by decide) (by decide) ?_
    exact g_less (by omega) (by omega) kend
  | j + 64, hj => exact absurd hj (by omega)
theorem len5 {L o : Nat} (hL : L < 1073741824) (ho : o < 1073741824) : nI L - 5 < nI o ↔ L < o + 5 := by
  by_cases h : 5 ≤ L
  · rw [show nI L - 5 = nI (L - 5) from nI_sub' h, nI_ltI (by omega) (by omega)]
    omega
  · have h2 : ∀ L, L < 5 → nI L - 5 < 0 := by decide +kernel
    constructor
    · intro _
      omega
    · intro _
      exact Int32.lt_of_lt_of_le (h2 L (by omega)) (Int32.not_lt.mp (nI_pos (by omega)))
/-- no more calls: true -/
theorem law_out (hs : mS M = S) (hL : S.1 < 1073741824) (ho : o < 1073741824) (h : S.1 < o + 5) (hQ : Q (.inl (some (.int 1))) M) : Go l jL_law 14 538 600002 7302232 Q 28 (AL o) [] k n M := by
  refine g_iload (pc := 28) dL_law_28 rfl ?_
  refine g_aload_n (pc := 30) dL_law_30 rfl isA_0 ?_
  refine g_scriptLenS (pc := 31) dL_law_31 hs ?_
  refine g_iconst (pc := 32) (v := 5) dL_law_32 rfl ?_
  refine g_isub (pc := 33) dL_law_33 ?_
  refine g_icmp_gt (pc := 34) (tgt := 4232) dL_law_34 rfl (fun _ => ?_) (fun h34 => absurd (((len5 hL ho).mpr h)) h34)
  refine g_iconst (pc := 4232) (v := 1) dL_law_4232 rfl ?_
  refine g_ireturn (pc := 4233) dL_law_4233 rfl rfl ?_
  exact hQ
/-- one more call -/
theorem law_in (hs : mS M = S) (hL : S.1 < 1073741824) (ho : o < 1073741824) (h : o + 5 ≤ S.1) (kk : Go l jL_law 14 538 600002 7302232 Q 44 (AL o) [.int (S.2 o &&& 63)] k n M) : Go l jL_law 14 538 600002 7302232 Q 28 (AL o) [] k n M := by
  refine g_iload (pc := 28) dL_law_28 rfl ?_
  refine g_aload_n (pc := 30) dL_law_30 rfl isA_0 ?_
  refine g_scriptLenS (pc := 31) dL_law_31 hs ?_
  refine g_iconst (pc := 32) (v := 5) dL_law_32 rfl ?_
  refine g_isub (pc := 33) dL_law_33 ?_
  refine g_icmp_gt (pc := 34) (tgt := 4232) dL_law_34 rfl (fun h34 => absurd h34 ((fun q => by have := (len5 hL ho).mp q; omega))) (fun _ => ?_)
  refine g_aload_n (pc := 37) dL_law_37 rfl isA_0 ?_
  refine g_iload (pc := 38) dL_law_38 rfl ?_
  refine g_scriptLoadS (pc := 40) dL_law_40 rfl hs (by omega) (by omega) ?_
  refine g_bipush (pc := 41) (v := 63) dL_law_41 rfl ?_
  refine g_iand (pc := 43) dL_law_43 ?_
  exact kk
/-- on to the next call -/
theorem law_nx (kk : Go l jL_law 14 538 600002 7302232 Q 28 (AL (o + 5)) [] k n M) : Go l jL_law 14 538 600002 7302232 Q 4226 (AL o) [] k n M := by
  refine g_iinc (pc := 4226) (lv' := [(0, _), (1, _), (2, _), (3, _), (4, _), (5, _)]) dL_law_4226 rfl (nI_o5 _) (nl rfl) rfl ?_
  refine g_goto (pc := 4229) (tgt := 28) dL_law_4229 rfl ?_
  exact g_sub (lv' := AL (o + 5)) ⟨rfl, rfl, rfl, rfl, rfl, rfl, trivial⟩ kk
end

