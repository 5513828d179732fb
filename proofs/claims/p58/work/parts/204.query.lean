section
variable {l : Launch} {M : Mem}
def beG (f g : Nat → Int32) (n a k : Nat) : Int32 := if hb (f a) k = true then -1 else gainW g (nodesTo g a n) k n
def beI (f g : Nat → Int32) (n a : Nat) (q : Int32 × Int32) : Nat → Int32 × Int32
  | 0 => q
  | k + 1 => if beG f g n a k ≤ (beI f g n a q k).2 then beI f g n a q k else (32 * nI a + nI k, beG f g n a k)
def beO (f g : Nat → Int32) (n : Nat) : Nat → Int32 × Int32
  | 0 => (-1, -1)
  | k + 1 => beI f g n k (beO f g n k) n
theorem q_bestEdge {s n : Nat} (hS : Shp M) (hz : mI M 3 1 = nI n) (hn : n ≤ 32) (hs : s < 6) : EvR l jX6_bestEdge 7 140 1 6 [.ref 0, .int (nI s)] M (.inl (some (.int (beO (mI M (6 + 2 * s)) (mI (clOf M s n) (175 + 2 * s + 1)) n n).1))) (clOf M s n) := by
  have hS1 := clOf_S hS s n
  have hc := cl_ok' s hs
  have hz1 := clOf_z hz hs
  have er : mI (clOf M s n) (6 + 2 * s) = mI M (6 + 2 * s) := clOf_ne (by omega) hs
  have q1 := s_closureOf (l := l) hS hs hz hn
  rw [← er]
  generalize clOf M s n = M1 at *
  refine ev_intro rfl (nb rfl) rfl ?_
  refine g_aload_n (pc := 0) dX6_bestEdge_0 rfl trivial ?_
  refine g_iload_n (pc := 1) dX6_bestEdge_1 rfl ?_
  refine g_invV_r (pc := 2) (As := [_]) dX6_bestEdge_2 rfl (s_needSlot (in6 hs)) rfl rfl (shK hS rfl) rfl rfl lk_X6_141 rfl (nb rfl) ⟨nb rfl, nb rfl⟩ rfl ?_
  refine g_aload_n (pc := 5) dX6_bestEdge_5 rfl trivial ?_
  refine g_iload_n (pc := 6) dX6_bestEdge_6 rfl ?_
  refine g_invV_r (pc := 7) (As := [_]) dX6_bestEdge_7 rfl (s_rowsOf hS hs) rfl rfl (shK hS rfl) rfl rfl lk_X6_112 rfl (nb rfl) ⟨nb rfl, nb rfl⟩ rfl ?_
  refine g_astore_n (pc := 10) (lv' := [(0, _), (1, _), (2, _)]) dX6_bestEdge_10 trivial (nl rfl) rfl ?_
  refine g_aload_n (pc := 11) dX6_bestEdge_11 rfl trivial ?_
  refine g_iload_n (pc := 12) dX6_bestEdge_12 rfl ?_
  refine g_invV_r (pc := 13) (As := [_]) dX6_bestEdge_13 rfl (q1) rfl rfl (shK hS rfl) rfl rfl lk_X6_162 rfl (nb rfl) ⟨nb rfl, nb rfl⟩ rfl ?_
  refine g_astore_n (pc := 16) (lv' := [(0, _), (1, _), (2, _), (3, _)]) dX6_bestEdge_16 trivial (nl rfl) rfl ?_
  refine g_iconst (pc := 17) (v := (-1)) dX6_bestEdge_17 rfl ?_
  refine g_istore (pc := 18) (lv' := [(0, _), (1, _), (2, _), (3, _), (4, _)]) dX6_bestEdge_18 (nl rfl) rfl ?_
  refine g_iconst (pc := 20) (v := (-1)) dX6_bestEdge_20 rfl ?_
  refine g_istore (pc := 21) (lv' := [(0, _), (1, _), (2, _), (3, _), (4, _), (5, _)]) dX6_bestEdge_21 (nl rfl) rfl ?_
  refine g_iconst (pc := 23) (v := 0) dX6_bestEdge_23 rfl ?_
  refine g_istore (pc := 24) (lv' := [(0, _), (1, _), (2, _), (3, _), (4, _), (5, _), (6, _)]) dX6_bestEdge_24 (nl rfl) rfl ?_
  refine go_loop (pc := 26) n (fun i => [(0, .ref 0), (1, .int (nI s)), (2, .ref (6 + 2 * s)), (3, .ref (175 + 2 * s)), (4, .int (beO (mI M1 (6 + 2 * s)) (mI M1 (175 + 2 * s + 1)) n i).1), (5, .int (beO (mI M1 (6 + 2 * s)) (mI M1 (175 + 2 * s + 1)) n i).2), (6, .int (nI i))]) (fun i => M1) ⟨rfl, rfl, rfl, rfl, rfl, rfl, rfl, trivial⟩ rfl ?_ ?_
  · intro a ha ih
    generalize beO (mI M1 (6 + 2 * s)) (mI M1 (175 + 2 * s + 1)) n n = X at ih ⊢
    rw [beO] at ih
    generalize beO (mI M1 (6 + 2 * s)) (mI M1 (175 + 2 * s + 1)) n a = q0 at ih ⊢
    refine g_iload (pc := 26) dX6_bestEdge_26 rfl ?_
    refine g_aload_n (pc := 28) dX6_bestEdge_28 rfl trivial ?_
    refine g_getf (pc := 29) dX6_bestEdge_29 fk_X6_19 (shK hS1 rfl) (fv_obj (shR hS1 rfl)) ?_
    refine g_getf (pc := 32) (v := .int _) dX6_bestEdge_32 fk_X6_89 (shK hS1 rfl) (fun _ => congrArg Value.int (hz1)) ?_
    refine g_icmp_ge (pc := 35) (tgt := 133) dX6_bestEdge_35 rfl (fun h35 => absurd h35 (nI_ge ha (by omega))) (fun _ => ?_)
    refine g_aload_n (pc := 38) dX6_bestEdge_38 rfl trivial ?_
    refine g_iload (pc := 39) dX6_bestEdge_39 rfl ?_
    refine g_aload_n (pc := 41) dX6_bestEdge_41 rfl trivial ?_
    refine g_getf (pc := 42) dX6_bestEdge_42 fk_X6_19 (shK hS1 rfl) (fv_obj (shR hS1 rfl)) ?_
    refine g_getf (pc := 45) (v := .int _) dX6_bestEdge_45 fk_X6_89 (shK hS1 rfl) (fun _ => congrArg Value.int (hz1)) ?_
    refine g_invV_r (pc := 48) (As := [_, _]) dX6_bestEdge_48 rfl (s_nodesTo hS1 hc (by omega) hn) rfl rfl (shK hS1 hc.1) rfl rfl lk_X6_192 rfl (nb rfl) ⟨nb rfl, nb rfl⟩ rfl ?_
    refine g_istore (pc := 51) (lv' := [(0, _), (1, _), (2, _), (3, _), (4, _), (5, _), (6, _), (7, _)]) dX6_bestEdge_51 (nl rfl) rfl ?_
    refine g_iconst (pc := 53) (v := 0) dX6_bestEdge_53 rfl ?_
    refine g_istore (pc := 54) (lv' := [(0, _), (1, _), (2, _), (3, _), (4, _), (5, _), (6, _), (7, _), (8, _)]) dX6_bestEdge_54 (nl rfl) rfl ?_
    refine go_loop (pc := 56) n (fun i => [(0, .ref 0), (1, .int (nI s)), (2, .ref (6 + 2 * s)), (3, .ref (175 + 2 * s)), (4, .int (beI (mI M1 (6 + 2 * s)) (mI M1 (175 + 2 * s + 1)) n a q0 i).1), (5, .int (beI (mI M1 (6 + 2 * s)) (mI M1 (175 + 2 * s + 1)) n a q0 i).2), (6, .int (nI a)), (7, .int (nodesTo (mI M1 (175 + 2 * s + 1)) a n)), (8, .int (nI i))]) (fun i => M1) ⟨rfl, rfl, rfl, rfl, rfl, rfl, rfl, rfl, rfl, trivial⟩ rfl ?_ ?_
    · intro i hi ih2
      generalize beI (mI M1 (6 + 2 * s)) (mI M1 (175 + 2 * s + 1)) n a q0 n = Y at ih ⊢
      rw [beI] at ih2
      generalize beI (mI M1 (6 + 2 * s)) (mI M1 (175 + 2 * s + 1)) n a q0 i = q2 at ih2 ⊢
      have hend : ∀ v, v = beG (mI M1 (6 + 2 * s)) (mI M1 (175 + 2 * s + 1)) n a i → Go l jX6_bestEdge 7 140 1 6 (fun r' M9 => r' = .inl (some (.int X.1)) ∧ M9 = M1) 101 [(0, .ref 0), (1, .int (nI s)), (2, .ref (6 + 2 * s)), (3, .ref (175 + 2 * s)), (4, .int q2.1), (5, .int q2.2), (6, .int (nI a)), (7, .int (nodesTo (mI M1 (175 + 2 * s + 1)) a n)), (8, .int (nI i)), (9, .int v)] [] 0 0 M1 := by
        intro v hv
        subst hv
        refine g_iload (pc := 101) dX6_bestEdge_101 rfl ?_
        refine g_iload (pc := 103) dX6_bestEdge_103 rfl ?_
        refine g_icmp_le (pc := 105) (tgt := 121) dX6_bestEdge_105 rfl (fun h105 => ?_) (fun h105 => ?_)
        · rw [if_pos h105] at ih2
          refine g_iinc (pc := 121) (lv' := [(0, _), (1, _), (2, _), (3, _), (4, _), (5, _), (6, _), (7, _), (8, _), (9, _)]) dX6_bestEdge_121 rfl (nI_1 _) (nl rfl) rfl ?_
          refine g_goto (pc := 124) (tgt := 56) dX6_bestEdge_124 rfl ?_
          exact g_sub (lv' := [(0, _), (1, _), (2, _), (3, _), (4, _), (5, _), (6, _), (7, _), (8, _)]) ⟨rfl, rfl, rfl, rfl, rfl, rfl, rfl, rfl, rfl, trivial⟩ ih2
        · rw [if_neg h105] at ih2
          refine g_iload (pc := 108) dX6_bestEdge_108 rfl ?_
          refine g_istore (pc := 110) (lv' := [(0, _), (1, _), (2, _), (3, _), (4, _), (5, _), (6, _), (7, _), (8, _), (9, _)]) dX6_bestEdge_110 (nl rfl) rfl ?_
          refine g_iload (pc := 112) dX6_bestEdge_112 rfl ?_
          refine g_iload (pc := 114) dX6_bestEdge_114 rfl ?_
          refine g_invS_r (pc := 116) (As := [_, _]) dX6_bestEdge_116 rfl (s_edgeNumber) rfl rfl lk_X6_201 rfl (nb rfl) ⟨nb rfl, nb rfl⟩ rfl ?_
          refine g_istore (pc := 119) (lv' := [(0, _), (1, _), (2, _), (3, _), (4, _), (5, _), (6, _), (7, _), (8, _), (9, _)]) dX6_bestEdge_119 (nl rfl) rfl ?_
          refine g_iinc (pc := 121) (lv' := [(0, _), (1, _), (2, _), (3, _), (4, _), (5, _), (6, _), (7, _), (8, _), (9, _)]) dX6_bestEdge_121 rfl (nI_1 _) (nl rfl) rfl ?_
          refine g_goto (pc := 124) (tgt := 56) dX6_bestEdge_124 rfl ?_
          exact g_sub (lv' := [(0, _), (1, _), (2, _), (3, _), (4, _), (5, _), (6, _), (7, _), (8, _)]) ⟨rfl, rfl, rfl, rfl, rfl, rfl, rfl, rfl, rfl, trivial⟩ ih2
      refine g_iload (pc := 56) dX6_bestEdge_56 rfl ?_
      refine g_aload_n (pc := 58) dX6_bestEdge_58 rfl trivial ?_
      refine g_getf (pc := 59) dX6_bestEdge_59 fk_X6_19 (shK hS1 rfl) (fv_obj (shR hS1 rfl)) ?_
      refine g_getf (pc := 62) (v := .int _) dX6_bestEdge_62 fk_X6_89 (shK hS1 rfl) (fun _ => congrArg Value.int (hz1)) ?_
      refine g_icmp_ge (pc := 65) (tgt := 127) dX6_bestEdge_65 rfl (fun h65 => absurd h65 (nI_ge hi (by omega))) (fun _ => ?_)
      refine g_aload_n (pc := 68) dX6_bestEdge_68 rfl trivial ?_
      refine g_iload (pc := 69) dX6_bestEdge_69 rfl ?_
      refine g_iaload (pc := 71) dX6_bestEdge_71 (shK hS1 (rows_lay hs)) rfl (by omega) (nl rfl) ?_
      refine g_iload (pc := 72) dX6_bestEdge_72 rfl ?_
      refine g_invS_r (pc := 74) (As := [_, _]) dX6_bestEdge_74 rfl (s_hasOne (by omega)) rfl rfl lk_X6_116 rfl (nb rfl) ⟨nb rfl, nb rfl⟩ rfl ?_
      refine g_if_eq (pc := 77) (tgt := 84) dX6_bestEdge_77 rfl (fun h77 => ?_) (fun h77 => ?_)
      · rw [b1_0] at h77
        refine g_aload_n (pc := 84) dX6_bestEdge_84 rfl trivial ?_
        refine g_iload (pc := 85) dX6_bestEdge_85 rfl ?_
        refine g_iload (pc := 87) dX6_bestEdge_87 rfl ?_
        refine g_aload_n (pc := 89) dX6_bestEdge_89 rfl trivial ?_
        refine g_getf (pc := 90) dX6_bestEdge_90 fk_X6_19 (shK hS1 rfl) (fv_obj (shR hS1 rfl)) ?_
        refine g_getf (pc := 93) (v := .int _) dX6_bestEdge_93 fk_X6_89 (shK hS1 rfl) (fun _ => congrArg Value.int (hz1)) ?_
        refine g_invV_r (pc := 96) (As := [_, _, _]) dX6_bestEdge_96 rfl (s_gainWith hS1 hc (by omega) hn) rfl rfl (shK hS1 hc.1) rfl rfl lk_X6_195 rfl (nb rfl) ⟨nb rfl, nb rfl⟩ rfl ?_
        refine g_istore (pc := 99) (lv' := [(0, _), (1, _), (2, _), (3, _), (4, _), (5, _), (6, _), (7, _), (8, _), (9, _)]) dX6_bestEdge_99 (nl rfl) rfl ?_
        exact hend _ (by unfold beG; rw [if_neg (by rw [h77]; decide)])
      · rw [b1_0, Bool.not_eq_false] at h77
        refine g_iconst (pc := 80) (v := (-1)) dX6_bestEdge_80 rfl ?_
        refine g_goto (pc := 81) (tgt := 99) dX6_bestEdge_81 rfl ?_
        refine g_istore (pc := 99) (lv' := [(0, _), (1, _), (2, _), (3, _), (4, _), (5, _), (6, _), (7, _), (8, _), (9, _)]) dX6_bestEdge_99 (nl rfl) rfl ?_
        exact hend _ (by unfold beG; rw [if_pos h77])
    · refine g_iload (pc := 56) dX6_bestEdge_56 rfl ?_
      refine g_aload_n (pc := 58) dX6_bestEdge_58 rfl trivial ?_
      refine g_getf (pc := 59) dX6_bestEdge_59 fk_X6_19 (shK hS1 rfl) (fv_obj (shR hS1 rfl)) ?_
      refine g_getf (pc := 62) (v := .int _) dX6_bestEdge_62 fk_X6_89 (shK hS1 rfl) (fun _ => congrArg Value.int (hz1)) ?_
      refine g_icmp_ge (pc := 65) (tgt := 127) dX6_bestEdge_65 rfl (fun _ => ?_) (fun h65 => absurd (nI_le (Nat.le_refl _) (by omega)) h65)
      refine g_iinc (pc := 127) (lv' := [(0, _), (1, _), (2, _), (3, _), (4, _), (5, _), (6, _), (7, _), (8, _)]) dX6_bestEdge_127 rfl (nI_1 _) (nl rfl) rfl ?_
      refine g_goto (pc := 130) (tgt := 26) dX6_bestEdge_130 rfl ?_
      exact g_sub (lv' := [(0, _), (1, _), (2, _), (3, _), (4, _), (5, _), (6, _)]) ⟨rfl, rfl, rfl, rfl, rfl, rfl, rfl, trivial⟩ ih
  · refine g_iload (pc := 26) dX6_bestEdge_26 rfl ?_
    refine g_aload_n (pc := 28) dX6_bestEdge_28 rfl trivial ?_
    refine g_getf (pc := 29) dX6_bestEdge_29 fk_X6_19 (shK hS1 rfl) (fv_obj (shR hS1 rfl)) ?_
    refine g_getf (pc := 32) (v := .int _) dX6_bestEdge_32 fk_X6_89 (shK hS1 rfl) (fun _ => congrArg Value.int (hz1)) ?_
    refine g_icmp_ge (pc := 35) (tgt := 133) dX6_bestEdge_35 rfl (fun _ => ?_) (fun h35 => absurd (nI_le (Nat.le_refl _) (by omega)) h35)
    refine g_iload (pc := 133) dX6_bestEdge_133 rfl ?_
    refine g_ireturn (pc := 135) dX6_bestEdge_135 rfl rfl ?_
    exact ⟨rfl, rfl⟩
theorem x_bestEdge {v : Int32} (hS : Shp M) (h : ¬ inR v 6) : EvR l jX6_bestEdge 7 140 1 6 [.ref 0, .int v] M (.inr xIO) M := by
  refine ev_intro rfl (nb rfl) rfl ?_
  refine g_aload_n (pc := 0) dX6_bestEdge_0 rfl trivial ?_
  refine g_iload_n (pc := 1) dX6_bestEdge_1 rfl ?_
  refine g_invV_x (pc := 2) (As := [_]) dX6_bestEdge_2 rfl (x_needSlot hS h) rfl rfl (shK hS rfl) rfl rfl lk_X6_141 rfl (nb rfl) ⟨nb rfl, nb rfl⟩ rfl ?_
  exact ⟨rfl, rfl⟩
def wkL (M : Mem) (s n a k : Nat) : Int32 := if hb (mI M (6 + 2 * s) a) k = true then loV M s a k n else -1
def wkM (M : Mem) (s n a k : Nat) : Mem := if hb (mI M (6 + 2 * s) a) k = true then loM M s a k n else M
def wkI (s n a : Nat) (q : Mem × Int32 × Int32) : Nat → Mem × Int32 × Int32
  | 0 => q
  | k + 1 => (wkM (wkI s n a q k).1 s n a k, if wkL (wkI s n a q k).1 s n a k ≤ (wkI s n a q k).2.2 then (wkI s n a q k).2 else (32 * nI a + nI k, wkL (wkI s n a q k).1 s n a k))
def wkO (M : Mem) (s n : Nat) : Nat → Mem × Int32 × Int32
  | 0 => (M, -1, -1)
  | k + 1 => wkI s n k (wkO M s n k) n
/-- a memory that differs from M in made rows and closures alone -/
def Nr (M M' : Mem) : Prop := Shp M' ∧ ∀ i, i < 175 ∨ 196 ≤ i → mI M' i = mI M i
theorem lwMem_ne {s a b n i : Nat} (h : i ≠ 195) : mI (lwMem M s a b n) i = mI M i := by unfold lwMem; exact sI_ne h
theorem loM_nr {M' : Mem} {s a b n : Nat} (h : Nr M M') (hs : s < 6) : Nr M (loM M' s a b n) := by
  unfold loM
  refine ⟨clOf_S (by unfold lwMem; exact shp_sI h.1) s n, fun i hi => ?_⟩
  rw [clOf_ne (by omega) hs, lwMem_ne (by omega)]
  exact h.2 i hi
theorem wkM_nr {M' : Mem} {s n a k : Nat} (h : Nr M M') (hs : s < 6) : Nr M (wkM M' s n a k) := by
  unfold wkM
  split
  · exact loM_nr h hs
  · exact h
theorem wkI_nr {s n a : Nat} {q : Mem × Int32 × Int32} (h : Nr M q.1) (hs : s < 6) : ∀ k, Nr M (wkI s n a q k).1
  | 0 => h
  | k + 1 => wkM_nr (wkI_nr h hs k) hs
theorem wkO_nr {s n : Nat} (hS : Shp M) (hs : s < 6) : ∀ k, Nr M (wkO M s n k).1
  | 0 => ⟨hS, fun _ _ => rfl⟩
  | k + 1 => wkI_nr (wkO_nr hS hs k) hs n
theorem q_weakest {s n : Nat} (hS : Shp M) (hz : mI M 3 1 = nI n) (hn : n ≤ 32) (hs : s < 6) : EvR l jX6_weakest 7 190 1 6 [.ref 0, .int (nI s)] M (.inl (some (.int (wkO M s n n).2.1))) (wkO M s n n).1 := by
  refine ev_intro rfl (nb rfl) rfl ?_
  refine g_aload_n (pc := 0) dX6_weakest_0 rfl trivial ?_
  refine g_iload_n (pc := 1) dX6_weakest_1 rfl ?_
  refine g_invV_r (pc := 2) (As := [_]) dX6_weakest_2 rfl (s_needSlot (in6 hs)) rfl rfl (shK hS rfl) rfl rfl lk_X6_141 rfl (nb rfl) ⟨nb rfl, nb rfl⟩ rfl ?_
  refine g_aload_n (pc := 5) dX6_weakest_5 rfl trivial ?_
  refine g_iload_n (pc := 6) dX6_weakest_6 rfl ?_
  refine g_invV_r (pc := 7) (As := [_]) dX6_weakest_7 rfl (s_rowsOf hS hs) rfl rfl (shK hS rfl) rfl rfl lk_X6_112 rfl (nb rfl) ⟨nb rfl, nb rfl⟩ rfl ?_
  refine g_astore_n (pc := 10) (lv' := [(0, _), (1, _), (2, _)]) dX6_weakest_10 trivial (nl rfl) rfl ?_
  refine g_iconst (pc := 11) (v := (-1)) dX6_weakest_11 rfl ?_
  refine g_istore_n (pc := 12) (lv' := [(0, _), (1, _), (2, _), (3, _)]) dX6_weakest_12 (nl rfl) rfl ?_
  refine g_iconst (pc := 13) (v := (-1)) dX6_weakest_13 rfl ?_
  refine g_istore (pc := 14) (lv' := [(0, _), (1, _), (2, _), (3, _), (4, _)]) dX6_weakest_14 (nl rfl) rfl ?_
  refine g_iconst (pc := 16) (v := 0) dX6_weakest_16 rfl ?_
  refine g_istore (pc := 17) (lv' := [(0, _), (1, _), (2, _), (3, _), (4, _), (5, _)]) dX6_weakest_17 (nl rfl) rfl ?_
  refine go_loop (pc := 19) n (fun i => [(0, .ref 0), (1, .int (nI s)), (2, .ref (6 + 2 * s)), (3, .int (wkO M s n i).2.1), (4, .int (wkO M s n i).2.2), (5, .int (nI i))]) (fun i => (wkO M s n i).1) ⟨rfl, rfl, rfl, rfl, rfl, rfl, trivial⟩ rfl ?_ ?_
  · intro a ha ih
    generalize wkO M s n n = X at ih ⊢
    have h0 := wkO_nr (n := n) hS hs a
    rw [wkO] at ih
    generalize wkO M s n a = q0 at ih h0 ⊢
    have hz0 : mI q0.1 3 1 = nI n := (congrFun (h0.2 3 (by decide)) 1).trans hz
    have hS0 := h0.1
    refine g_iload (pc := 19) dX6_weakest_19 rfl ?_
    refine g_aload_n (pc := 21) dX6_weakest_21 rfl trivial ?_
    refine g_getf (pc := 22) dX6_weakest_22 fk_X6_19 (shK hS0 rfl) (fv_obj (shR hS0 rfl)) ?_
    refine g_getf (pc := 25) (v := .int _) dX6_weakest_25 fk_X6_89 (shK hS0 rfl) (fun _ => congrArg Value.int (hz0)) ?_
    refine g_icmp_ge (pc := 28) (tgt := 104) dX6_weakest_28 rfl (fun h28 => absurd h28 (nI_ge ha (by omega))) (fun _ => ?_)
    refine g_iconst (pc := 31) (v := 0) dX6_weakest_31 rfl ?_
    refine g_istore (pc := 32) (lv' := [(0, _), (1, _), (2, _), (3, _), (4, _), (5, _), (6, _)]) dX6_weakest_32 (nl rfl) rfl ?_
    refine go_loop (pc := 34) n (fun i => [(0, .ref 0), (1, .int (nI s)), (2, .ref (6 + 2 * s)), (3, .int (wkI s n a q0 i).2.1), (4, .int (wkI s n a q0 i).2.2), (5, .int (nI a)), (6, .int (nI i))]) (fun i => (wkI s n a q0 i).1) ⟨rfl, rfl, rfl, rfl, rfl, rfl, rfl, trivial⟩ rfl ?_ ?_
    · intro i hi ih2
      generalize wkI s n a q0 n = Y at ih ⊢
      have h1 := wkI_nr (n := n) (a := a) h0 hs i
      rw [wkI] at ih2
      generalize wkI s n a q0 i = q2 at ih2 h1 ⊢
      have hz1 : mI q2.1 3 1 = nI n := (congrFun (h1.2 3 (by decide)) 1).trans hz
      have hS1 := h1.1
      have q9 := s_lossWithout (l := l) hS1 hs hz1 hn ha hi
      have eL : lossB (mI (clOf (lwMem q2.1 s a i n) s n) (176 + 2 * s)) (mI (lwMem q2.1 s a i n) 195) a i n = loV q2.1 s a i n := rfl
      have eM : clOf (lwMem q2.1 s a i n) s n = loM q2.1 s a i n := rfl
      rw [eL, eM] at q9
      have hend : ∀ v M3, v = wkL q2.1 s n a i → M3 = wkM q2.1 s n a i → Go l jX6_weakest 7 190 1 6 (fun r' M9 => r' = .inl (some (.int X.2.1)) ∧ M9 = X.1) 73 [(0, .ref 0), (1, .int (nI s)), (2, .ref (6 + 2 * s)), (3, .int q2.2.1), (4, .int q2.2.2), (5, .int (nI a)), (6, .int (nI i)), (7, .int v)] [] 0 0 M3 := by
        intro v M3 hv hM
        subst hv
        subst hM
        refine g_iload (pc := 73) dX6_weakest_73 rfl ?_
        refine g_iload (pc := 75) dX6_weakest_75 rfl ?_
        refine g_icmp_le (pc := 77) (tgt := 92) dX6_weakest_77 rfl (fun h77 => ?_) (fun h77 => ?_)
        · rw [if_pos h77] at ih2
          refine g_iinc (pc := 92) (lv' := [(0, _), (1, _), (2, _), (3, _), (4, _), (5, _), (6, _), (7, _)]) dX6_weakest_92 rfl (nI_1 _) (nl rfl) rfl ?_
          refine g_goto (pc := 95) (tgt := 34) dX6_weakest_95 rfl ?_
          exact g_sub (lv' := [(0, _), (1, _), (2, _), (3, _), (4, _), (5, _), (6, _)]) ⟨rfl, rfl, rfl, rfl, rfl, rfl, rfl, trivial⟩ ih2
        · rw [if_neg h77] at ih2
          refine g_iload (pc := 80) dX6_weakest_80 rfl ?_
          refine g_istore (pc := 82) (lv' := [(0, _), (1, _), (2, _), (3, _), (4, _), (5, _), (6, _), (7, _)]) dX6_weakest_82 (nl rfl) rfl ?_
          refine g_iload (pc := 84) dX6_weakest_84 rfl ?_
          refine g_iload (pc := 86) dX6_weakest_86 rfl ?_
          refine g_invS_r (pc := 88) (As := [_, _]) dX6_weakest_88 rfl (s_edgeNumber) rfl rfl lk_X6_201 rfl (nb rfl) ⟨nb rfl, nb rfl⟩ rfl ?_
          refine g_istore_n (pc := 91) (lv' := [(0, _), (1, _), (2, _), (3, _), (4, _), (5, _), (6, _), (7, _)]) dX6_weakest_91 (nl rfl) rfl ?_
          refine g_iinc (pc := 92) (lv' := [(0, _), (1, _), (2, _), (3, _), (4, _), (5, _), (6, _), (7, _)]) dX6_weakest_92 rfl (nI_1 _) (nl rfl) rfl ?_
          refine g_goto (pc := 95) (tgt := 34) dX6_weakest_95 rfl ?_
          exact g_sub (lv' := [(0, _), (1, _), (2, _), (3, _), (4, _), (5, _), (6, _)]) ⟨rfl, rfl, rfl, rfl, rfl, rfl, rfl, trivial⟩ ih2
      refine g_iload (pc := 34) dX6_weakest_34 rfl ?_
      refine g_aload_n (pc := 36) dX6_weakest_36 rfl trivial ?_
      refine g_getf (pc := 37) dX6_weakest_37 fk_X6_19 (shK hS1 rfl) (fv_obj (shR hS1 rfl)) ?_
      refine g_getf (pc := 40) (v := .int _) dX6_weakest_40 fk_X6_89 (shK hS1 rfl) (fun _ => congrArg Value.int (hz1)) ?_
      refine g_icmp_ge (pc := 43) (tgt := 98) dX6_weakest_43 rfl (fun h43 => absurd h43 (nI_ge hi (by omega))) (fun _ => ?_)
      refine g_aload_n (pc := 46) dX6_weakest_46 rfl trivial ?_
      refine g_iload (pc := 47) dX6_weakest_47 rfl ?_
      refine g_iaload (pc := 49) dX6_weakest_49 (shK hS1 (rows_lay hs)) rfl (by omega) (nl rfl) ?_
      refine g_iload (pc := 50) dX6_weakest_50 rfl ?_
      refine g_invS_r (pc := 52) (As := [_, _]) dX6_weakest_52 rfl (s_hasOne (by omega)) rfl rfl lk_X6_116 rfl (nb rfl) ⟨nb rfl, nb rfl⟩ rfl ?_
      refine g_if_eq (pc := 55) (tgt := 70) dX6_weakest_55 rfl (fun h55 => ?_) (fun h55 => ?_)
      · rw [b1_0] at h55
        refine g_iconst (pc := 70) (v := (-1)) dX6_weakest_70 rfl ?_
        refine g_istore (pc := 71) (lv' := [(0, _), (1, _), (2, _), (3, _), (4, _), (5, _), (6, _), (7, _)]) dX6_weakest_71 (nl rfl) rfl ?_
        exact hend _ _ (by unfold wkL; rw [if_neg (by rw [h55]; decide)]) (by unfold wkM; rw [if_neg (by rw [h55]; decide)])
      · rw [b1_0, Bool.not_eq_false] at h55
        refine g_aload_n (pc := 58) dX6_weakest_58 rfl trivial ?_
        refine g_iload_n (pc := 59) dX6_weakest_59 rfl ?_
        refine g_iload (pc := 60) dX6_weakest_60 rfl ?_
        refine g_iload (pc := 62) dX6_weakest_62 rfl ?_
        refine g_invV_r (pc := 64) (As := [_, _, _]) dX6_weakest_64 rfl (q9) rfl rfl (shK hS1 rfl) rfl rfl lk_X6_198 rfl (nb rfl) ⟨nb rfl, nb rfl⟩ rfl ?_
        refine g_goto (pc := 67) (tgt := 71) dX6_weakest_67 rfl ?_
        refine g_istore (pc := 71) (lv' := [(0, _), (1, _), (2, _), (3, _), (4, _), (5, _), (6, _), (7, _)]) dX6_weakest_71 (nl rfl) rfl ?_
        exact hend _ _ (by unfold wkL; rw [if_pos h55]) (by unfold wkM; rw [if_pos h55])
    · have h1 := wkI_nr (n := n) (a := a) h0 hs n
      generalize wkI s n a q0 n = q2 at ih h1 ⊢
      have hz1 : mI q2.1 3 1 = nI n := (congrFun (h1.2 3 (by decide)) 1).trans hz
      have hS1 := h1.1
      refine g_iload (pc := 34) dX6_weakest_34 rfl ?_
      refine g_aload_n (pc := 36) dX6_weakest_36 rfl trivial ?_
      refine g_getf (pc := 37) dX6_weakest_37 fk_X6_19 (shK hS1 rfl) (fv_obj (shR hS1 rfl)) ?_
      refine g_getf (pc := 40) (v := .int _) dX6_weakest_40 fk_X6_89 (shK hS1 rfl) (fun _ => congrArg Value.int (hz1)) ?_
      refine g_icmp_ge (pc := 43) (tgt := 98) dX6_weakest_43 rfl (fun _ => ?_) (fun h43 => absurd (nI_le (Nat.le_refl _) (by omega)) h43)
      refine g_iinc (pc := 98) (lv' := [(0, _), (1, _), (2, _), (3, _), (4, _), (5, _), (6, _)]) dX6_weakest_98 rfl (nI_1 _) (nl rfl) rfl ?_
      refine g_goto (pc := 101) (tgt := 19) dX6_weakest_101 rfl ?_
      exact g_sub (lv' := [(0, _), (1, _), (2, _), (3, _), (4, _), (5, _)]) ⟨rfl, rfl, rfl, rfl, rfl, rfl, trivial⟩ ih
  · have h1 := wkO_nr (n := n) hS hs n
    generalize wkO M s n n = q2 at h1 ⊢
    have hz1 : mI q2.1 3 1 = nI n := (congrFun (h1.2 3 (by decide)) 1).trans hz
    have hS1 := h1.1
    refine g_iload (pc := 19) dX6_weakest_19 rfl ?_
    refine g_aload_n (pc := 21) dX6_weakest_21 rfl trivial ?_
    refine g_getf (pc := 22) dX6_weakest_22 fk_X6_19 (shK hS1 rfl) (fv_obj (shR hS1 rfl)) ?_
    refine g_getf (pc := 25) (v := .int _) dX6_weakest_25 fk_X6_89 (shK hS1 rfl) (fun _ => congrArg Value.int (hz1)) ?_
    refine g_icmp_ge (pc := 28) (tgt := 104) dX6_weakest_28 rfl (fun _ => ?_) (fun h28 => absurd (nI_le (Nat.le_refl _) (by omega)) h28)
    refine g_iload_n (pc := 104) dX6_weakest_104 rfl ?_
    refine g_ireturn (pc := 105) dX6_weakest_105 rfl rfl ?_
    exact ⟨rfl, rfl⟩
theorem x_weakest {v : Int32} (hS : Shp M) (h : ¬ inR v 6) : EvR l jX6_weakest 7 190 1 6 [.ref 0, .int v] M (.inr xIO) M := by
  refine ev_intro rfl (nb rfl) rfl ?_
  refine g_aload_n (pc := 0) dX6_weakest_0 rfl trivial ?_
  refine g_iload_n (pc := 1) dX6_weakest_1 rfl ?_
  refine g_invV_x (pc := 2) (As := [_]) dX6_weakest_2 rfl (x_needSlot hS h) rfl rfl (shK hS rfl) rfl rfl lk_X6_141 rfl (nb rfl) ⟨nb rfl, nb rfl⟩ rfl ?_
  exact ⟨rfl, rfl⟩
end

