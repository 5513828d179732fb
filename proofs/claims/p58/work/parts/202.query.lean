section
variable {l : Launch} {M : Mem}
def smF (f : Nat → Int32) (n : Nat) : Nat → Nat → Bool
  | 0, _ => true
  | d + 1, i => if f i = colOf f i n then smF f n d (i + 1) else false
theorem q_isSymmetric {s n : Nat} (hS : Shp M) (hz : mI M 3 1 = nI n) (hn : n ≤ 32) (hs : s < 6) : EvR l jX6_isSymmetric 7 120 1 6 [.ref 0, .int (nI s)] M (.inl (some (.int (b1 (smF (mI M (6 + 2 * s)) n n 0))))) M := by
  obtain ⟨S, hs9⟩ : ∃ S, S = smF (mI M (6 + 2 * s)) n n 0 := ⟨_, rfl⟩
  rw [← hs9]
  refine ev_intro rfl (nb rfl) rfl ?_
  refine g_aload_n (pc := 0) dX6_isSymmetric_0 rfl trivial ?_
  refine g_iload_n (pc := 1) dX6_isSymmetric_1 rfl ?_
  refine g_invV_r (pc := 2) (As := [_]) dX6_isSymmetric_2 rfl (s_needSlot (in6 hs)) rfl rfl (shK hS rfl) rfl rfl lk_X6_141 rfl (nb rfl) ⟨nb rfl, nb rfl⟩ rfl ?_
  refine g_aload_n (pc := 5) dX6_isSymmetric_5 rfl trivial ?_
  refine g_iload_n (pc := 6) dX6_isSymmetric_6 rfl ?_
  refine g_invV_r (pc := 7) (As := [_]) dX6_isSymmetric_7 rfl (s_rowsOf hS hs) rfl rfl (shK hS rfl) rfl rfl lk_X6_112 rfl (nb rfl) ⟨nb rfl, nb rfl⟩ rfl ?_
  refine g_astore_n (pc := 10) (lv' := [(0, _), (1, _), (2, _)]) dX6_isSymmetric_10 trivial (nl rfl) rfl ?_
  refine g_iconst (pc := 11) (v := 0) dX6_isSymmetric_11 rfl ?_
  refine g_istore_n (pc := 12) (lv' := [(0, _), (1, _), (2, _), (3, _)]) dX6_isSymmetric_12 (nl rfl) rfl ?_
  refine go_while (pc := 13) (σ := Nat) (fun i => i ≤ n ∧ smF (mI M (6 + 2 * s)) n (n - i) i = S) (fun i => n - i) (fun i => [(0, .ref 0), (1, .int (nI s)), (2, .ref (6 + 2 * s)), (3, .int (nI i))]) (fun _ => M) 0 ⟨rfl, rfl, rfl, rfl, trivial⟩ rfl ⟨Nat.zero_le _, hs9.symm⟩ ?_
  rintro i ⟨h1, h2⟩ ih
  by_cases hi : i < n
  · rw [show n - i = (n - (i + 1)) + 1 by omega, smF] at h2
    refine g_iload_n (pc := 13) dX6_isSymmetric_13 rfl ?_
    refine g_aload_n (pc := 14) dX6_isSymmetric_14 rfl trivial ?_
    refine g_getf (pc := 15) dX6_isSymmetric_15 fk_X6_19 (shK hS rfl) (fv_obj (shR hS rfl)) ?_
    refine g_getf (pc := 18) (v := .int _) dX6_isSymmetric_18 fk_X6_89 (shK hS rfl) (fun _ => congrArg Value.int (hz)) ?_
    refine g_icmp_ge (pc := 21) (tgt := 50) dX6_isSymmetric_21 rfl (fun h21 => absurd h21 (nI_ge hi (by omega))) (fun _ => ?_)
    refine g_aload_n (pc := 24) dX6_isSymmetric_24 rfl trivial ?_
    refine g_iload_n (pc := 25) dX6_isSymmetric_25 rfl ?_
    refine g_iaload (pc := 26) dX6_isSymmetric_26 (shK hS (rows_lay hs)) rfl (by omega) (nl rfl) ?_
    refine g_aload_n (pc := 27) dX6_isSymmetric_27 rfl trivial ?_
    refine g_iload_n (pc := 28) dX6_isSymmetric_28 rfl ?_
    refine g_aload_n (pc := 29) dX6_isSymmetric_29 rfl trivial ?_
    refine g_getf (pc := 30) dX6_isSymmetric_30 fk_X6_19 (shK hS rfl) (fv_obj (shR hS rfl)) ?_
    refine g_getf (pc := 33) (v := .int _) dX6_isSymmetric_33 fk_X6_89 (shK hS rfl) (fun _ => congrArg Value.int (hz)) ?_
    refine g_invS_r (pc := 36) (As := [_, _, _]) dX6_isSymmetric_36 rfl (s_columnOf (shK hS (rows_lay hs)) (show i < 32 by omega) hn) rfl rfl lk_X6_149 rfl (nb rfl) ⟨nb rfl, nb rfl⟩ rfl ?_
    refine g_icmp_eq (pc := 39) (tgt := 44) dX6_isSymmetric_39 rfl (fun h39 => ?_) (fun h39 => ?_)
    · rw [if_pos h39] at h2
      refine g_iinc (pc := 44) (lv' := [(0, _), (1, _), (2, _), (3, _)]) dX6_isSymmetric_44 rfl (nI_1 _) (nl rfl) rfl ?_
      refine g_goto (pc := 47) (tgt := 13) dX6_isSymmetric_47 rfl ?_
      exact ih (i + 1) ⟨by omega, h2⟩ (by omega)
    · rw [if_neg h39] at h2
      refine g_iconst (pc := 42) (v := 0) dX6_isSymmetric_42 rfl ?_
      refine g_ireturn (pc := 43) dX6_isSymmetric_43 rfl rfl ?_
      exact ⟨by rw [← h2]; rfl, rfl⟩
  · have hi' : i = n := by omega
    subst hi'
    refine g_iload_n (pc := 13) dX6_isSymmetric_13 rfl ?_
    refine g_aload_n (pc := 14) dX6_isSymmetric_14 rfl trivial ?_
    refine g_getf (pc := 15) dX6_isSymmetric_15 fk_X6_19 (shK hS rfl) (fv_obj (shR hS rfl)) ?_
    refine g_getf (pc := 18) (v := .int _) dX6_isSymmetric_18 fk_X6_89 (shK hS rfl) (fun _ => congrArg Value.int (hz)) ?_
    refine g_icmp_ge (pc := 21) (tgt := 50) dX6_isSymmetric_21 rfl (fun _ => ?_) (fun h21 => absurd (nI_le (Nat.le_refl _) (by omega)) h21)
    refine g_iconst (pc := 50) (v := 1) dX6_isSymmetric_50 rfl ?_
    refine g_ireturn (pc := 51) dX6_isSymmetric_51 rfl rfl ?_
    exact ⟨by rw [← h2, Nat.sub_self]; rfl, rfl⟩
theorem x_isSymmetric {v : Int32} (hS : Shp M) (h : ¬ inR v 6) : EvR l jX6_isSymmetric 7 120 1 6 [.ref 0, .int v] M (.inr xIO) M := by
  refine ev_intro rfl (nb rfl) rfl ?_
  refine g_aload_n (pc := 0) dX6_isSymmetric_0 rfl trivial ?_
  refine g_iload_n (pc := 1) dX6_isSymmetric_1 rfl ?_
  refine g_invV_x (pc := 2) (As := [_]) dX6_isSymmetric_2 rfl (x_needSlot hS h) rfl rfl (shK hS rfl) rfl rfl lk_X6_141 rfl (nb rfl) ⟨nb rfl, nb rfl⟩ rfl ?_
  exact ⟨rfl, rfl⟩
/-- the node at a place of an order: d places are left, p is the place, y what is left -/
def orF (f : Nat → Int32) (n : Nat) (x : Int32) : Nat → Nat → Int32 → Int32
  | 0, _, _ => -1
  | d + 1, p, y => if y &&& (jrF f y n ^^^ -1) = 0 then -1 else if nI p = x then nI (lowN (y &&& (jrF f y n ^^^ -1))) else orF f n x d (p + 1) (y &&& (bitI (lowN (y &&& (jrF f y n ^^^ -1))) ^^^ -1))
theorem q_order {s n : Nat} {x : Int32} (hS : Shp M) (hz : mI M 3 1 = nI n) (hn : n ≤ 32) (hs : s < 6) : EvR l jX6_order 7 120 1 6 [.ref 0, .int (nI s), .int x] M (.inl (some (.int (orF (mI M (6 + 2 * s)) n x n 0 (lowM n))))) M := by
  obtain ⟨S, hs9⟩ : ∃ S, S = orF (mI M (6 + 2 * s)) n x n 0 (lowM n) := ⟨_, rfl⟩
  rw [← hs9]
  refine ev_intro rfl (nb rfl) rfl ?_
  refine g_aload_n (pc := 0) dX6_order_0 rfl trivial ?_
  refine g_iload_n (pc := 1) dX6_order_1 rfl ?_
  refine g_invV_r (pc := 2) (As := [_]) dX6_order_2 rfl (s_needSlot (in6 hs)) rfl rfl (shK hS rfl) rfl rfl lk_X6_141 rfl (nb rfl) ⟨nb rfl, nb rfl⟩ rfl ?_
  refine g_aload_n (pc := 5) dX6_order_5 rfl trivial ?_
  refine g_getf (pc := 6) dX6_order_6 fk_X6_19 (shK hS rfl) (fv_obj (shR hS rfl)) ?_
  refine g_getf (pc := 9) (v := .int _) dX6_order_9 fk_X6_89 (shK hS rfl) (fun _ => congrArg Value.int (hz)) ?_
  refine g_invS_r (pc := 12) (As := [_]) dX6_order_12 rfl (s_lowest hn) rfl rfl lk_X6_128 rfl (nb rfl) ⟨nb rfl, nb rfl⟩ rfl ?_
  refine g_istore_n (pc := 15) (lv' := [(0, _), (1, _), (2, _), (3, _)]) dX6_order_15 (nl rfl) rfl ?_
  refine g_iconst (pc := 16) (v := 0) dX6_order_16 rfl ?_
  refine g_istore (pc := 17) (lv' := [(0, _), (1, _), (2, _), (3, _), (4, _)]) dX6_order_17 (nl rfl) rfl ?_
  refine go_while (pc := 19) (σ := Nat × Int32) (fun q => q.1 ≤ n ∧ orF (mI M (6 + 2 * s)) n x (n - q.1) q.1 q.2 = S) (fun q => n - q.1) (fun q => [(0, .ref 0), (1, .int (nI s)), (2, .int x), (3, .int q.2), (4, .int (nI q.1))]) (fun _ => M) (0, lowM n) ⟨rfl, rfl, rfl, rfl, rfl, trivial⟩ rfl ⟨Nat.zero_le _, hs9.symm⟩ ?_
  rintro ⟨i, y⟩ ⟨h1, h2⟩ ih
  simp only at h1 h2 ih
  by_cases hi : i < n
  · rw [show n - i = (n - (i + 1)) + 1 by omega, orF] at h2
    have ih1 := fun y' => ih (i + 1, y')
    refine g_iload (pc := 19) dX6_order_19 rfl ?_
    refine g_aload_n (pc := 21) dX6_order_21 rfl trivial ?_
    refine g_getf (pc := 22) dX6_order_22 fk_X6_19 (shK hS rfl) (fv_obj (shR hS rfl)) ?_
    refine g_getf (pc := 25) (v := .int _) dX6_order_25 fk_X6_89 (shK hS rfl) (fun _ => congrArg Value.int (hz)) ?_
    refine g_icmp_ge (pc := 28) (tgt := 85) dX6_order_28 rfl (fun h28 => absurd h28 (nI_ge hi (by omega))) (fun _ => ?_)
    refine g_iload_n (pc := 31) dX6_order_31 rfl ?_
    refine g_aload_n (pc := 32) dX6_order_32 rfl trivial ?_
    refine g_aload_n (pc := 33) dX6_order_33 rfl trivial ?_
    refine g_iload_n (pc := 34) dX6_order_34 rfl ?_
    refine g_invV_r (pc := 35) (As := [_]) dX6_order_35 rfl (s_rowsOf hS hs) rfl rfl (shK hS rfl) rfl rfl lk_X6_112 rfl (nb rfl) ⟨nb rfl, nb rfl⟩ rfl ?_
    refine g_iload_n (pc := 38) dX6_order_38 rfl ?_
    refine g_invV_r (pc := 39) (As := [_, _]) dX6_order_39 rfl (s_joinedRows hS (shK hS (rows_lay hs)) hz hn) rfl rfl (shK hS rfl) rfl rfl lk_X6_189 rfl (nb rfl) ⟨nb rfl, nb rfl⟩ rfl ?_
    refine g_iconst (pc := 42) (v := (-1)) dX6_order_42 rfl ?_
    refine g_ixor (pc := 43) dX6_order_43 ?_
    refine g_iand (pc := 44) dX6_order_44 ?_
    refine g_istore (pc := 45) (lv' := [(0, _), (1, _), (2, _), (3, _), (4, _), (5, _)]) dX6_order_45 (nl rfl) rfl ?_
    refine g_iload (pc := 47) dX6_order_47 rfl ?_
    refine g_if_ne (pc := 49) (tgt := 54) dX6_order_49 rfl (fun h49 => ?_) (fun h49 => ?_)
    · rw [if_neg h49] at h2
      refine g_iload (pc := 54) dX6_order_54 rfl ?_
      refine g_invS_r (pc := 56) (As := [_]) dX6_order_56 rfl (s_lowestOne) rfl rfl lk_X6_186 rfl (nb rfl) ⟨nb rfl, nb rfl⟩ rfl ?_
      refine g_istore (pc := 59) (lv' := [(0, _), (1, _), (2, _), (3, _), (4, _), (5, _), (6, _)]) dX6_order_59 (nl rfl) rfl ?_
      refine g_iload (pc := 61) dX6_order_61 rfl ?_
      refine g_iload_n (pc := 63) dX6_order_63 rfl ?_
      refine g_icmp_ne (pc := 64) (tgt := 70) dX6_order_64 rfl (fun h64 => ?_) (fun h64 => ?_)
      · rw [if_neg h64] at h2
        refine g_iload_n (pc := 70) dX6_order_70 rfl ?_
        refine g_iconst (pc := 71) (v := 1) dX6_order_71 rfl ?_
        refine g_iload (pc := 72) dX6_order_72 rfl ?_
        refine g_ishl (pc := 74) dX6_order_74 ?_
        refine g_iconst (pc := 75) (v := (-1)) dX6_order_75 rfl ?_
        refine g_ixor (pc := 76) dX6_order_76 ?_
        refine g_iand (pc := 77) dX6_order_77 ?_
        refine g_istore_n (pc := 78) (lv' := [(0, _), (1, _), (2, _), (3, _), (4, _), (5, _), (6, _)]) dX6_order_78 (nl rfl) rfl ?_
        refine g_iinc (pc := 79) (lv' := [(0, _), (1, _), (2, _), (3, _), (4, _), (5, _), (6, _)]) dX6_order_79 rfl (nI_1 _) (nl rfl) rfl ?_
        refine g_goto (pc := 82) (tgt := 19) dX6_order_82 rfl ?_
        exact g_sub (lv' := [(0, _), (1, _), (2, _), (3, _), (4, _)]) ⟨rfl, rfl, rfl, rfl, rfl, trivial⟩ (ih1 _ ⟨by simp only; omega, h2⟩ (by simp only; omega))
      · rw [if_pos (Decidable.not_not.mp h64)] at h2
        refine g_iload (pc := 67) dX6_order_67 rfl ?_
        refine g_ireturn (pc := 69) dX6_order_69 rfl rfl ?_
        exact ⟨by rw [← h2], rfl⟩
    · rw [if_pos (Decidable.not_not.mp h49)] at h2
      refine g_iconst (pc := 52) (v := (-1)) dX6_order_52 rfl ?_
      refine g_ireturn (pc := 53) dX6_order_53 rfl rfl ?_
      exact ⟨by rw [← h2], rfl⟩
  · have hi' : i = n := by omega
    subst hi'
    refine g_iload (pc := 19) dX6_order_19 rfl ?_
    refine g_aload_n (pc := 21) dX6_order_21 rfl trivial ?_
    refine g_getf (pc := 22) dX6_order_22 fk_X6_19 (shK hS rfl) (fv_obj (shR hS rfl)) ?_
    refine g_getf (pc := 25) (v := .int _) dX6_order_25 fk_X6_89 (shK hS rfl) (fun _ => congrArg Value.int (hz)) ?_
    refine g_icmp_ge (pc := 28) (tgt := 85) dX6_order_28 rfl (fun _ => ?_) (fun h28 => absurd (nI_le (Nat.le_refl _) (by omega)) h28)
    refine g_iconst (pc := 85) (v := (-1)) dX6_order_85 rfl ?_
    refine g_ireturn (pc := 86) dX6_order_86 rfl rfl ?_
    exact ⟨by rw [← h2, Nat.sub_self]; rfl, rfl⟩
theorem x_order {v x : Int32} (hS : Shp M) (h : ¬ inR v 6) : EvR l jX6_order 7 120 1 6 [.ref 0, .int v, .int x] M (.inr xIO) M := by
  refine ev_intro rfl (nb rfl) rfl ?_
  refine g_aload_n (pc := 0) dX6_order_0 rfl trivial ?_
  refine g_iload_n (pc := 1) dX6_order_1 rfl ?_
  refine g_invV_x (pc := 2) (As := [_]) dX6_order_2 rfl (x_needSlot hS h) rfl rfl (shK hS rfl) rfl rfl lk_X6_141 rfl (nb rfl) ⟨nb rfl, nb rfl⟩ rfl ?_
  exact ⟨rfl, rfl⟩
theorem q_gained {s a b n : Nat} (hS : Shp M) (hz : mI M 3 1 = nI n) (hn : n ≤ 32) (hs : s < 6) (ha : a < n) (hb9 : b < n) : EvR l jX6_gained 9 160 3 18 [.ref 0, .int (nI s), .int (nI a), .int (nI b)] M (.inl (some (.int (gainW (mI (clOf M s n) (175 + 2 * s + 1)) (nodesTo (mI (clOf M s n) (175 + 2 * s + 1)) a n) b n)))) (clOf M s n) := by
  have hS1 := clOf_S hS s n
  have hc := cl_ok' s hs
  have hz1 := clOf_z hz hs
  refine ev_intro rfl (nb rfl) rfl ?_
  refine g_aload_n (pc := 0) dX6_gained_0 rfl trivial ?_
  refine g_iload_n (pc := 1) dX6_gained_1 rfl ?_
  refine g_iload_n (pc := 2) dX6_gained_2 rfl ?_
  refine g_iload_n (pc := 3) dX6_gained_3 rfl ?_
  refine g_invV_r (pc := 4) (As := [_, _, _]) dX6_gained_4 rfl (s_needCell hS hz (in6 hs) (inR_nI ha (by omega)) (inR_nI hb9 (by omega))) rfl rfl (shK hS rfl) rfl rfl lk_X6_109 rfl (nb rfl) ⟨nb rfl, nb rfl⟩ rfl ?_
  refine g_aload_n (pc := 7) dX6_gained_7 rfl trivial ?_
  refine g_iload_n (pc := 8) dX6_gained_8 rfl ?_
  refine g_invV_r (pc := 9) (As := [_]) dX6_gained_9 rfl (s_closureOf hS hs hz hn) rfl rfl (shK hS rfl) rfl rfl lk_X6_162 rfl (nb rfl) ⟨nb rfl, nb rfl⟩ rfl ?_
  refine g_astore (pc := 12) (lv' := [(0, _), (1, _), (2, _), (3, _), (4, _)]) dX6_gained_12 trivial (nl rfl) rfl ?_
  refine g_aload (pc := 14) dX6_gained_14 rfl trivial ?_
  refine g_aload (pc := 16) dX6_gained_16 rfl trivial ?_
  refine g_iload_n (pc := 18) dX6_gained_18 rfl ?_
  refine g_aload_n (pc := 19) dX6_gained_19 rfl trivial ?_
  refine g_getf (pc := 20) dX6_gained_20 fk_X6_19 (shK hS1 rfl) (fv_obj (shR hS1 rfl)) ?_
  refine g_getf (pc := 23) (v := .int _) dX6_gained_23 fk_X6_89 (shK hS1 rfl) (fun _ => congrArg Value.int (hz1)) ?_
  refine g_invV_r (pc := 26) (As := [_, _]) dX6_gained_26 rfl (s_nodesTo hS1 hc (by omega) hn) rfl rfl (shK hS1 hc.1) rfl rfl lk_X6_192 rfl (nb rfl) ⟨nb rfl, nb rfl⟩ rfl ?_
  refine g_iload_n (pc := 29) dX6_gained_29 rfl ?_
  refine g_aload_n (pc := 30) dX6_gained_30 rfl trivial ?_
  refine g_getf (pc := 31) dX6_gained_31 fk_X6_19 (shK hS1 rfl) (fv_obj (shR hS1 rfl)) ?_
  refine g_getf (pc := 34) (v := .int _) dX6_gained_34 fk_X6_89 (shK hS1 rfl) (fun _ => congrArg Value.int (hz1)) ?_
  refine g_invV_r (pc := 37) (As := [_, _, _]) dX6_gained_37 rfl (s_gainWith hS1 hc (by omega) hn) rfl rfl (shK hS1 hc.1) rfl rfl lk_X6_195 rfl (nb rfl) ⟨nb rfl, nb rfl⟩ rfl ?_
  refine g_ireturn (pc := 40) dX6_gained_40 rfl rfl ?_
  exact ⟨rfl, rfl⟩
theorem x_gained {v w u : Int32} {n : Nat} (hS : Shp M) (hz : mI M 3 1 = nI n) (h : ¬ (inR v 6 ∧ inR w n ∧ inR u n)) : EvR l jX6_gained 9 160 3 18 [.ref 0, .int v, .int w, .int u] M (.inr xIO) M := by
  refine ev_intro rfl (nb rfl) rfl ?_
  refine g_aload_n (pc := 0) dX6_gained_0 rfl trivial ?_
  refine g_iload_n (pc := 1) dX6_gained_1 rfl ?_
  refine g_iload_n (pc := 2) dX6_gained_2 rfl ?_
  refine g_iload_n (pc := 3) dX6_gained_3 rfl ?_
  refine g_invV_x (pc := 4) (As := [_, _, _]) dX6_gained_4 rfl (x_needCell hS hz h) rfl rfl (shK hS rfl) rfl rfl lk_X6_109 rfl (nb rfl) ⟨nb rfl, nb rfl⟩ rfl ?_
  exact ⟨rfl, rfl⟩
def loV (M : Mem) (s a b n : Nat) : Int32 := lossB (mI (clOf (lwMem M s a b n) s n) (176 + 2 * s)) (mI (lwMem M s a b n) 195) a b n
def loM (M : Mem) (s a b n : Nat) : Mem := clOf (lwMem M s a b n) s n
theorem q_lost {s a b n : Nat} (hS : Shp M) (hz : mI M 3 1 = nI n) (hn : n ≤ 32) (hs : s < 6) (ha : a < n) (hb9 : b < n) : EvR l jX6_lost 9 190 3 18 [.ref 0, .int (nI s), .int (nI a), .int (nI b)] M (.inl (some (.int (if hb (mI M (6 + 2 * s) a) b = true then loV M s a b n else -1)))) (if hb (mI M (6 + 2 * s) a) b = true then loM M s a b n else M) := by
  refine ev_intro rfl (nb rfl) rfl ?_
  unfold loV loM
  refine g_aload_n (pc := 0) dX6_lost_0 rfl trivial ?_
  refine g_iload_n (pc := 1) dX6_lost_1 rfl ?_
  refine g_iload_n (pc := 2) dX6_lost_2 rfl ?_
  refine g_iload_n (pc := 3) dX6_lost_3 rfl ?_
  refine g_invV_r (pc := 4) (As := [_, _, _]) dX6_lost_4 rfl (s_needCell hS hz (in6 hs) (inR_nI ha (by omega)) (inR_nI hb9 (by omega))) rfl rfl (shK hS rfl) rfl rfl lk_X6_109 rfl (nb rfl) ⟨nb rfl, nb rfl⟩ rfl ?_
  refine g_aload_n (pc := 7) dX6_lost_7 rfl trivial ?_
  refine g_iload_n (pc := 8) dX6_lost_8 rfl ?_
  refine g_invV_r (pc := 9) (As := [_]) dX6_lost_9 rfl (s_rowsOf hS hs) rfl rfl (shK hS rfl) rfl rfl lk_X6_112 rfl (nb rfl) ⟨nb rfl, nb rfl⟩ rfl ?_
  refine g_iload_n (pc := 12) dX6_lost_12 rfl ?_
  refine g_iaload (pc := 13) dX6_lost_13 (shK hS (rows_lay hs)) rfl (by omega) (nl rfl) ?_
  refine g_iload_n (pc := 14) dX6_lost_14 rfl ?_
  refine g_invS_r (pc := 15) (As := [_, _]) dX6_lost_15 rfl (s_hasOne (by omega)) rfl rfl lk_X6_116 rfl (nb rfl) ⟨nb rfl, nb rfl⟩ rfl ?_
  refine g_if_eq (pc := 18) (tgt := 31) dX6_lost_18 rfl (fun h18 => ?_) (fun h18 => ?_)
  · rw [b1_0] at h18
    rw [if_neg (by rw [h18]; decide), if_neg (by rw [h18]; decide)]
    refine g_iconst (pc := 31) (v := (-1)) dX6_lost_31 rfl ?_
    refine g_ireturn (pc := 32) dX6_lost_32 rfl rfl ?_
    exact ⟨rfl, rfl⟩
  · rw [b1_0, Bool.not_eq_false] at h18
    rw [if_pos h18, if_pos h18]
    refine g_aload_n (pc := 21) dX6_lost_21 rfl trivial ?_
    refine g_iload_n (pc := 22) dX6_lost_22 rfl ?_
    refine g_iload_n (pc := 23) dX6_lost_23 rfl ?_
    refine g_iload_n (pc := 24) dX6_lost_24 rfl ?_
    refine g_invV_r (pc := 25) (As := [_, _, _]) dX6_lost_25 rfl (s_lossWithout hS hs hz hn ha hb9) rfl rfl (shK hS rfl) rfl rfl lk_X6_198 rfl (nb rfl) ⟨nb rfl, nb rfl⟩ rfl ?_
    refine g_goto (pc := 28) (tgt := 32) dX6_lost_28 rfl ?_
    refine g_ireturn (pc := 32) dX6_lost_32 rfl rfl ?_
    exact ⟨rfl, rfl⟩
theorem x_lost {v w u : Int32} {n : Nat} (hS : Shp M) (hz : mI M 3 1 = nI n) (h : ¬ (inR v 6 ∧ inR w n ∧ inR u n)) : EvR l jX6_lost 9 190 3 18 [.ref 0, .int v, .int w, .int u] M (.inr xIO) M := by
  refine ev_intro rfl (nb rfl) rfl ?_
  refine g_aload_n (pc := 0) dX6_lost_0 rfl trivial ?_
  refine g_iload_n (pc := 1) dX6_lost_1 rfl ?_
  refine g_iload_n (pc := 2) dX6_lost_2 rfl ?_
  refine g_iload_n (pc := 3) dX6_lost_3 rfl ?_
  refine g_invV_x (pc := 4) (As := [_, _, _]) dX6_lost_4 rfl (x_needCell hS hz h) rfl rfl (shK hS rfl) rfl rfl lk_X6_109 rfl (nb rfl) ⟨nb rfl, nb rfl⟩ rfl ?_
  exact ⟨rfl, rfl⟩
def trI (f : Nat → Int32) (n a : Nat) (x : Int32) : Nat → Int32
  | 0 => x
  | k + 1 => if a = k then trI f n a x k else if hb (f a) k = true then trI f n a x k + bcJ (f k &&& (colOf f a n &&& (bitI a ^^^ -1)) &&& (bitI k ^^^ -1)) else trI f n a x k
def trO (f : Nat → Int32) (n : Nat) : Nat → Int32
  | 0 => 0
  | k + 1 => trI f n k (trO f n k) n
theorem q_triangles {s n : Nat} (hS : Shp M) (hz : mI M 3 1 = nI n) (hn : n ≤ 32) (hs : s < 6) : EvR l jX6_triangles 7 120 1 6 [.ref 0, .int (nI s)] M (.inl (some (.int (trO (mI M (6 + 2 * s)) n n)))) M := by
  refine ev_intro rfl (nb rfl) rfl ?_
  refine g_aload_n (pc := 0) dX6_triangles_0 rfl trivial ?_
  refine g_iload_n (pc := 1) dX6_triangles_1 rfl ?_
  refine g_invV_r (pc := 2) (As := [_]) dX6_triangles_2 rfl (s_needSlot (in6 hs)) rfl rfl (shK hS rfl) rfl rfl lk_X6_141 rfl (nb rfl) ⟨nb rfl, nb rfl⟩ rfl ?_
  refine g_aload_n (pc := 5) dX6_triangles_5 rfl trivial ?_
  refine g_iload_n (pc := 6) dX6_triangles_6 rfl ?_
  refine g_invV_r (pc := 7) (As := [_]) dX6_triangles_7 rfl (s_rowsOf hS hs) rfl rfl (shK hS rfl) rfl rfl lk_X6_112 rfl (nb rfl) ⟨nb rfl, nb rfl⟩ rfl ?_
  refine g_astore_n (pc := 10) (lv' := [(0, _), (1, _), (2, _)]) dX6_triangles_10 trivial (nl rfl) rfl ?_
  refine g_iconst (pc := 11) (v := 0) dX6_triangles_11 rfl ?_
  refine g_istore_n (pc := 12) (lv' := [(0, _), (1, _), (2, _), (3, _)]) dX6_triangles_12 (nl rfl) rfl ?_
  refine g_iconst (pc := 13) (v := 0) dX6_triangles_13 rfl ?_
  refine g_istore (pc := 14) (lv' := [(0, _), (1, _), (2, _), (3, _), (4, _)]) dX6_triangles_14 (nl rfl) rfl ?_
  refine go_loop (pc := 16) n (fun i => [(0, .ref 0), (1, .int (nI s)), (2, .ref (6 + 2 * s)), (3, .int (trO (mI M (6 + 2 * s)) n i)), (4, .int (nI i))]) (fun i => M) ⟨rfl, rfl, rfl, rfl, rfl, trivial⟩ rfl ?_ ?_
  · intro a ha ih
    generalize trO (mI M (6 + 2 * s)) n n = X at ih ⊢
    rw [trO] at ih
    generalize trO (mI M (6 + 2 * s)) n a = x0 at ih ⊢
    refine g_iload (pc := 16) dX6_triangles_16 rfl ?_
    refine g_aload_n (pc := 18) dX6_triangles_18 rfl trivial ?_
    refine g_getf (pc := 19) dX6_triangles_19 fk_X6_19 (shK hS rfl) (fv_obj (shR hS rfl)) ?_
    refine g_getf (pc := 22) (v := .int _) dX6_triangles_22 fk_X6_89 (shK hS rfl) (fun _ => congrArg Value.int (hz)) ?_
    refine g_icmp_ge (pc := 25) (tgt := 116) dX6_triangles_25 rfl (fun h25 => absurd h25 (nI_ge ha (by omega))) (fun _ => ?_)
    refine g_aload_n (pc := 28) dX6_triangles_28 rfl trivial ?_
    refine g_iload (pc := 29) dX6_triangles_29 rfl ?_
    refine g_aload_n (pc := 31) dX6_triangles_31 rfl trivial ?_
    refine g_getf (pc := 32) dX6_triangles_32 fk_X6_19 (shK hS rfl) (fv_obj (shR hS rfl)) ?_
    refine g_getf (pc := 35) (v := .int _) dX6_triangles_35 fk_X6_89 (shK hS rfl) (fun _ => congrArg Value.int (hz)) ?_
    refine g_invS_r (pc := 38) (As := [_, _, _]) dX6_triangles_38 rfl (s_columnOf (shK hS (rows_lay hs)) (show a < 32 by omega) hn) rfl rfl lk_X6_149 rfl (nb rfl) ⟨nb rfl, nb rfl⟩ rfl ?_
    refine g_iconst (pc := 41) (v := 1) dX6_triangles_41 rfl ?_
    refine g_iload (pc := 42) dX6_triangles_42 rfl ?_
    refine g_ishl (pc := 44) dX6_triangles_44 ?_
    refine g_iconst (pc := 45) (v := (-1)) dX6_triangles_45 rfl ?_
    refine g_ixor (pc := 46) dX6_triangles_46 ?_
    refine g_iand (pc := 47) dX6_triangles_47 ?_
    refine g_istore (pc := 48) (lv' := [(0, _), (1, _), (2, _), (3, _), (4, _), (5, _)]) dX6_triangles_48 (nl rfl) rfl ?_
    refine g_iconst (pc := 50) (v := 0) dX6_triangles_50 rfl ?_
    refine g_istore (pc := 51) (lv' := [(0, _), (1, _), (2, _), (3, _), (4, _), (5, _), (6, _)]) dX6_triangles_51 (nl rfl) rfl ?_
    refine go_loop (pc := 53) n (fun i => [(0, .ref 0), (1, .int (nI s)), (2, .ref (6 + 2 * s)), (3, .int (trI (mI M (6 + 2 * s)) n a x0 i)), (4, .int (nI a)), (5, .int (colOf (mI M (6 + 2 * s)) a n &&& (bitI a ^^^ -1))), (6, .int (nI i))]) (fun i => M) ⟨rfl, rfl, rfl, rfl, rfl, rfl, rfl, trivial⟩ rfl ?_ ?_
    · intro i hi ih2
      generalize trI (mI M (6 + 2 * s)) n a x0 n = Y at ih ⊢
      rw [trI] at ih2
      refine g_iload (pc := 53) dX6_triangles_53 rfl ?_
      refine g_aload_n (pc := 55) dX6_triangles_55 rfl trivial ?_
      refine g_getf (pc := 56) dX6_triangles_56 fk_X6_19 (shK hS rfl) (fv_obj (shR hS rfl)) ?_
      refine g_getf (pc := 59) (v := .int _) dX6_triangles_59 fk_X6_89 (shK hS rfl) (fun _ => congrArg Value.int (hz)) ?_
      refine g_icmp_ge (pc := 62) (tgt := 110) dX6_triangles_62 rfl (fun h62 => absurd h62 (nI_ge hi (by omega))) (fun _ => ?_)
      refine g_iload (pc := 65) dX6_triangles_65 rfl ?_
      refine g_iload (pc := 67) dX6_triangles_67 rfl ?_
      refine g_icmp_eq (pc := 69) (tgt := 104) dX6_triangles_69 rfl (fun h69 => ?_) (fun h69 => ?_)
      · rw [if_pos ((nI_eq (by omega) (by omega)).mp h69)] at ih2
        refine g_iinc (pc := 104) (lv' := [(0, _), (1, _), (2, _), (3, _), (4, _), (5, _), (6, _)]) dX6_triangles_104 rfl (nI_1 _) (nl rfl) rfl ?_
        refine g_goto (pc := 107) (tgt := 53) dX6_triangles_107 rfl ?_
        exact ih2
      · rw [if_neg (fun h => h69 (by rw [h]))] at ih2
        refine g_aload_n (pc := 72) dX6_triangles_72 rfl trivial ?_
        refine g_iload (pc := 73) dX6_triangles_73 rfl ?_
        refine g_iaload (pc := 75) dX6_triangles_75 (shK hS (rows_lay hs)) rfl (by omega) (nl rfl) ?_
        refine g_iload (pc := 76) dX6_triangles_76 rfl ?_
        refine g_invS_r (pc := 78) (As := [_, _]) dX6_triangles_78 rfl (s_hasOne (by omega)) rfl rfl lk_X6_116 rfl (nb rfl) ⟨nb rfl, nb rfl⟩ rfl ?_
        refine g_if_eq (pc := 81) (tgt := 104) dX6_triangles_81 rfl (fun h81 => ?_) (fun h81 => ?_)
        · rw [b1_0] at h81
          rw [if_neg (by rw [h81]; decide)] at ih2
          refine g_iinc (pc := 104) (lv' := [(0, _), (1, _), (2, _), (3, _), (4, _), (5, _), (6, _)]) dX6_triangles_104 rfl (nI_1 _) (nl rfl) rfl ?_
          refine g_goto (pc := 107) (tgt := 53) dX6_triangles_107 rfl ?_
          exact ih2
        · rw [b1_0, Bool.not_eq_false] at h81
          rw [if_pos h81] at ih2
          refine g_iload_n (pc := 84) dX6_triangles_84 rfl ?_
          refine g_aload_n (pc := 85) dX6_triangles_85 rfl trivial ?_
          refine g_iload (pc := 86) dX6_triangles_86 rfl ?_
          refine g_iaload (pc := 88) dX6_triangles_88 (shK hS (rows_lay hs)) rfl (by omega) (nl rfl) ?_
          refine g_iload (pc := 89) dX6_triangles_89 rfl ?_
          refine g_iand (pc := 91) dX6_triangles_91 ?_
          refine g_iconst (pc := 92) (v := 1) dX6_triangles_92 rfl ?_
          refine g_iload (pc := 93) dX6_triangles_93 rfl ?_
          refine g_ishl (pc := 95) dX6_triangles_95 ?_
          refine g_iconst (pc := 96) (v := (-1)) dX6_triangles_96 rfl ?_
          refine g_ixor (pc := 97) dX6_triangles_97 ?_
          refine g_iand (pc := 98) dX6_triangles_98 ?_
          refine g_invS_r (pc := 99) (As := [_]) dX6_triangles_99 rfl (s_bitCount) rfl rfl lk_X6_132 rfl (nb rfl) ⟨nb rfl, nb rfl⟩ rfl ?_
          refine g_iadd (pc := 102) dX6_triangles_102 ?_
          refine g_istore_n (pc := 103) (lv' := [(0, _), (1, _), (2, _), (3, _), (4, _), (5, _), (6, _)]) dX6_triangles_103 (nl rfl) rfl ?_
          refine g_iinc (pc := 104) (lv' := [(0, _), (1, _), (2, _), (3, _), (4, _), (5, _), (6, _)]) dX6_triangles_104 rfl (nI_1 _) (nl rfl) rfl ?_
          refine g_goto (pc := 107) (tgt := 53) dX6_triangles_107 rfl ?_
          exact ih2
    · refine g_iload (pc := 53) dX6_triangles_53 rfl ?_
      refine g_aload_n (pc := 55) dX6_triangles_55 rfl trivial ?_
      refine g_getf (pc := 56) dX6_triangles_56 fk_X6_19 (shK hS rfl) (fv_obj (shR hS rfl)) ?_
      refine g_getf (pc := 59) (v := .int _) dX6_triangles_59 fk_X6_89 (shK hS rfl) (fun _ => congrArg Value.int (hz)) ?_
      refine g_icmp_ge (pc := 62) (tgt := 110) dX6_triangles_62 rfl (fun _ => ?_) (fun h62 => absurd (nI_le (Nat.le_refl _) (by omega)) h62)
      refine g_iinc (pc := 110) (lv' := [(0, _), (1, _), (2, _), (3, _), (4, _), (5, _), (6, _)]) dX6_triangles_110 rfl (nI_1 _) (nl rfl) rfl ?_
      refine g_goto (pc := 113) (tgt := 16) dX6_triangles_113 rfl ?_
      exact g_sub (lv' := [(0, _), (1, _), (2, _), (3, _), (4, _)]) ⟨rfl, rfl, rfl, rfl, rfl, trivial⟩ ih
  · refine g_iload (pc := 16) dX6_triangles_16 rfl ?_
    refine g_aload_n (pc := 18) dX6_triangles_18 rfl trivial ?_
    refine g_getf (pc := 19) dX6_triangles_19 fk_X6_19 (shK hS rfl) (fv_obj (shR hS rfl)) ?_
    refine g_getf (pc := 22) (v := .int _) dX6_triangles_22 fk_X6_89 (shK hS rfl) (fun _ => congrArg Value.int (hz)) ?_
    refine g_icmp_ge (pc := 25) (tgt := 116) dX6_triangles_25 rfl (fun _ => ?_) (fun h25 => absurd (nI_le (Nat.le_refl _) (by omega)) h25)
    refine g_iload_n (pc := 116) dX6_triangles_116 rfl ?_
    refine g_ireturn (pc := 117) dX6_triangles_117 rfl rfl ?_
    exact ⟨rfl, rfl⟩
theorem x_triangles {v : Int32} (hS : Shp M) (h : ¬ inR v 6) : EvR l jX6_triangles 7 120 1 6 [.ref 0, .int v] M (.inr xIO) M := by
  refine ev_intro rfl (nb rfl) rfl ?_
  refine g_aload_n (pc := 0) dX6_triangles_0 rfl trivial ?_
  refine g_iload_n (pc := 1) dX6_triangles_1 rfl ?_
  refine g_invV_x (pc := 2) (As := [_]) dX6_triangles_2 rfl (x_needSlot hS h) rfl rfl (shK hS rfl) rfl rfl lk_X6_141 rfl (nb rfl) ⟨nb rfl, nb rfl⟩ rfl ?_
  exact ⟨rfl, rfl⟩
theorem q_count0 (hS : Shp M) : EvR l jX6_count 7 120 1 6 [.ref 0, .int 0] M (.inl (some (.int (mI M 3 1)))) M := by
  refine ev_intro rfl (nb rfl) rfl ?_
  refine g_aload_n (pc := 0) dX6_count_0 rfl trivial ?_
  refine g_iload_n (pc := 1) dX6_count_1 rfl ?_
  refine g_iconst (pc := 2) (v := 0) dX6_count_2 rfl ?_
  refine g_iconst (pc := 3) (v := 3) dX6_count_3 rfl ?_
  refine g_invV_r (pc := 4) (As := [_, _, _]) dX6_count_4 rfl (s_needRange (by decide) (by decide)) rfl rfl (shK hS rfl) rfl rfl lk_X6_95 rfl (nb rfl) ⟨nb rfl, nb rfl⟩ rfl ?_
  refine g_iload_n (pc := 7) dX6_count_7 rfl ?_
  refine g_tableIn (pc := 8) (tgt := 36) (off := 28) dX6_count_8 (by decide) (by decide) (by decide) (by decide) ?_
  refine g_aload_n (pc := 36) dX6_count_36 rfl trivial ?_
  refine g_getf (pc := 37) dX6_count_37 fk_X6_19 (shK hS rfl) (fv_obj (shR hS rfl)) ?_
  refine g_getf (pc := 40) (v := .int (mI _ _ _)) dX6_count_40 fk_X6_89 (shK hS rfl) (fun _ => rfl) ?_
  refine g_ireturn (pc := 43) dX6_count_43 rfl rfl ?_
  exact ⟨rfl, rfl⟩
theorem q_count1 (hS : Shp M) : EvR l jX6_count 7 120 1 6 [.ref 0, .int 1] M (.inl (some (.int (mI M 3 2)))) M := by
  refine ev_intro rfl (nb rfl) rfl ?_
  refine g_aload_n (pc := 0) dX6_count_0 rfl trivial ?_
  refine g_iload_n (pc := 1) dX6_count_1 rfl ?_
  refine g_iconst (pc := 2) (v := 0) dX6_count_2 rfl ?_
  refine g_iconst (pc := 3) (v := 3) dX6_count_3 rfl ?_
  refine g_invV_r (pc := 4) (As := [_, _, _]) dX6_count_4 rfl (s_needRange (by decide) (by decide)) rfl rfl (shK hS rfl) rfl rfl lk_X6_95 rfl (nb rfl) ⟨nb rfl, nb rfl⟩ rfl ?_
  refine g_iload_n (pc := 7) dX6_count_7 rfl ?_
  refine g_tableIn (pc := 8) (tgt := 44) (off := 36) dX6_count_8 (by decide) (by decide) (by decide) (by decide) ?_
  refine g_aload_n (pc := 44) dX6_count_44 rfl trivial ?_
  refine g_getf (pc := 45) dX6_count_45 fk_X6_19 (shK hS rfl) (fv_obj (shR hS rfl)) ?_
  refine g_getf (pc := 48) (v := .int (mI _ _ _)) dX6_count_48 fk_X6_99 (shK hS rfl) (fun _ => rfl) ?_
  refine g_ireturn (pc := 51) dX6_count_51 rfl rfl ?_
  exact ⟨rfl, rfl⟩
theorem q_count2 (hS : Shp M) : EvR l jX6_count 7 120 1 6 [.ref 0, .int 2] M (.inl (some (.int (nI (keptC M 6))))) M := by
  generalize hX : keptC M 6 = X
  have hk := s_keptSlots (l := l) hS
  rw [hX] at hk
  refine ev_intro rfl (nb rfl) rfl ?_
  refine g_aload_n (pc := 0) dX6_count_0 rfl trivial ?_
  refine g_iload_n (pc := 1) dX6_count_1 rfl ?_
  refine g_iconst (pc := 2) (v := 0) dX6_count_2 rfl ?_
  refine g_iconst (pc := 3) (v := 3) dX6_count_3 rfl ?_
  refine g_invV_r (pc := 4) (As := [_, _, _]) dX6_count_4 rfl (s_needRange (by decide) (by decide)) rfl rfl (shK hS rfl) rfl rfl lk_X6_95 rfl (nb rfl) ⟨nb rfl, nb rfl⟩ rfl ?_
  refine g_iload_n (pc := 7) dX6_count_7 rfl ?_
  refine g_tableIn (pc := 8) (tgt := 52) (off := 44) dX6_count_8 (by decide) (by decide) (by decide) (by decide) ?_
  refine g_aload_n (pc := 52) dX6_count_52 rfl trivial ?_
  refine g_invV_r (pc := 53) (As := []) dX6_count_53 rfl (hk) rfl rfl (shK hS rfl) rfl rfl lk_X6_102 rfl (nb rfl) ⟨nb rfl, nb rfl⟩ rfl ?_
  refine g_ireturn (pc := 56) dX6_count_56 rfl rfl ?_
  exact ⟨rfl, rfl⟩
theorem q_count3 (hS : Shp M) : EvR l jX6_count 7 120 1 6 [.ref 0, .int 3] M (.inl (some (.int (mI M 0 5)))) M := by
  refine ev_intro rfl (nb rfl) rfl ?_
  refine g_aload_n (pc := 0) dX6_count_0 rfl trivial ?_
  refine g_iload_n (pc := 1) dX6_count_1 rfl ?_
  refine g_iconst (pc := 2) (v := 0) dX6_count_2 rfl ?_
  refine g_iconst (pc := 3) (v := 3) dX6_count_3 rfl ?_
  refine g_invV_r (pc := 4) (As := [_, _, _]) dX6_count_4 rfl (s_needRange (by decide) (by decide)) rfl rfl (shK hS rfl) rfl rfl lk_X6_95 rfl (nb rfl) ⟨nb rfl, nb rfl⟩ rfl ?_
  refine g_iload_n (pc := 7) dX6_count_7 rfl ?_
  refine g_tableOut (pc := 8) (tgt := 57) dX6_count_8 (by decide) (by decide) ?_
  refine g_aload_n (pc := 57) dX6_count_57 rfl trivial ?_
  refine g_getf (pc := 58) (v := .int (mI _ _ _)) dX6_count_58 fk_X6_106 (shK hS rfl) (fun _ => rfl) ?_
  refine g_ireturn (pc := 61) dX6_count_61 rfl rfl ?_
  exact ⟨rfl, rfl⟩
theorem x_count {v : Int32} (hS : Shp M) (h : ¬ (¬ v < 0 ∧ v ≤ 3)) : EvR l jX6_count 7 120 1 6 [.ref 0, .int v] M (.inr xIA) M := by
  refine ev_intro rfl (nb rfl) rfl ?_
  refine g_aload_n (pc := 0) dX6_count_0 rfl trivial ?_
  refine g_iload_n (pc := 1) dX6_count_1 rfl ?_
  refine g_iconst (pc := 2) (v := 0) dX6_count_2 rfl ?_
  refine g_iconst (pc := 3) (v := 3) dX6_count_3 rfl ?_
  refine g_invV_x (pc := 4) (As := [_, _, _]) dX6_count_4 rfl (x_needRange hS h) rfl rfl (shK hS rfl) rfl rfl lk_X6_95 rfl (nb rfl) ⟨nb rfl, nb rfl⟩ rfl ?_
  exact ⟨rfl, rfl⟩
end

