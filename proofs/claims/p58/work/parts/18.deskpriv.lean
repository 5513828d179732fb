/-! what the class's object computes over rows -/
section
variable {l : Launch} {M : Mem}
def firstEq (f : Nat → Int32) (x : Int32) : Nat → Nat → Int32
  | 0, _ => -1
  | d + 1, i => if f i = x then nI i else firstEq f x d (i + 1)
theorem s_firstEqual {r n : Nat} {x : Int32} (hS : Shp M) (hk : (mK M)[r]? = some (kI 32)) (hz : mI M 3 1 = nI n) (hn : n ≤ 32) : EvR l jX6_firstEqual 0 0 0 0 [.ref 0, .ref r, .int x] M (.inl (some (.int (firstEq (mI M r) x n 0)))) M := by
  obtain ⟨S, hs⟩ : ∃ S, S = firstEq (mI M r) x n 0 := ⟨_, rfl⟩
  rw [← hs]
  refine ev_intro rfl (nb rfl) rfl ?_
  refine g_iconst (pc := 0) (v := 0) dX6_firstEqual_0 rfl ?_
  refine g_istore_n (pc := 1) (lv' := [(0, _), (1, _), (2, _), (3, _)]) dX6_firstEqual_1 (nl rfl) rfl ?_
  refine go_while (pc := 2) (σ := Nat) (fun i => i ≤ n ∧ firstEq (mI M r) x (n - i) i = S) (fun i => n - i) (fun i => [(0, .ref 0), (1, .ref r), (2, .int x), (3, .int (nI i))]) (fun _ => M) 0 ⟨rfl, rfl, rfl, rfl, trivial⟩ rfl ⟨Nat.zero_le _, hs.symm⟩ ?_
  rintro i ⟨h1, h2⟩ ih
  by_cases hi : i < n
  · rw [show n - i = (n - (i + 1)) + 1 by omega, firstEq] at h2
    refine g_iload_n (pc := 2) dX6_firstEqual_2 rfl ?_
    refine g_aload_n (pc := 3) dX6_firstEqual_3 rfl trivial ?_
    refine g_getf (pc := 4) dX6_firstEqual_4 fk_X6_19 (shK hS rfl) (fv_obj (shR hS rfl)) ?_
    refine g_getf (pc := 7) (v := .int _) dX6_firstEqual_7 fk_X6_89 (shK hS rfl) (fun _ => congrArg Value.int (hz)) ?_
    refine g_icmp_ge (pc := 10) (tgt := 28) dX6_firstEqual_10 rfl (fun h10 => absurd h10 (nI_ge hi (by omega))) (fun _ => ?_)
    refine g_aload_n (pc := 13) dX6_firstEqual_13 rfl trivial ?_
    refine g_iload_n (pc := 14) dX6_firstEqual_14 rfl ?_
    refine g_iaload (pc := 15) dX6_firstEqual_15 hk rfl (by omega) (nl rfl) ?_
    refine g_iload_n (pc := 16) dX6_firstEqual_16 rfl ?_
    refine g_icmp_ne (pc := 17) (tgt := 22) dX6_firstEqual_17 rfl (fun h17 => ?_) (fun h17 => ?_)
    · rw [if_neg h17] at h2
      refine g_iinc (pc := 22) (lv' := [(0, _), (1, _), (2, _), (3, _)]) dX6_firstEqual_22 rfl (nI_1 _) (nl rfl) rfl ?_
      refine g_goto (pc := 25) (tgt := 2) dX6_firstEqual_25 rfl ?_
      exact ih (i + 1) ⟨by omega, h2⟩ (by omega)
    · rw [if_pos (Decidable.not_not.mp h17)] at h2
      refine g_iload_n (pc := 20) dX6_firstEqual_20 rfl ?_
      refine g_ireturn (pc := 21) dX6_firstEqual_21 rfl rfl ?_
      exact ⟨by rw [← h2], rfl⟩
  · have hi' : i = n := by omega
    subst hi'
    refine g_iload_n (pc := 2) dX6_firstEqual_2 rfl ?_
    refine g_aload_n (pc := 3) dX6_firstEqual_3 rfl trivial ?_
    refine g_getf (pc := 4) dX6_firstEqual_4 fk_X6_19 (shK hS rfl) (fv_obj (shR hS rfl)) ?_
    refine g_getf (pc := 7) (v := .int _) dX6_firstEqual_7 fk_X6_89 (shK hS rfl) (fun _ => congrArg Value.int (hz)) ?_
    refine g_icmp_ge (pc := 10) (tgt := 28) dX6_firstEqual_10 rfl (fun _ => ?_) (fun h10 => absurd (nI_le (Nat.le_refl _) (by omega)) h10)
    refine g_iconst (pc := 28) (v := (-1)) dX6_firstEqual_28 rfl ?_
    refine g_ireturn (pc := 29) dX6_firstEqual_29 rfl rfl ?_
    exact ⟨by rw [← h2, Nat.sub_self]; rfl, rfl⟩
def frN (f : Nat → Int32) (n : Nat) : Nat → Int32
  | 0 => 0
  | k + 1 => if firstEq f (f k) n 0 = nI k then frN f n k + 1 else frN f n k
theorem s_firstRows {r n m : Nat} (hS : Shp M) (hk : (mK M)[r]? = some (kI 32)) (hz : mI M 3 1 = nI n) (hn : n ≤ 32) (hm : m ≤ 32) : EvR l jX6_firstRows 1 30 0 0 [.ref 0, .ref r, .int (nI m)] M (.inl (some (.int (frN (mI M r) n m)))) M := by
  refine ev_intro rfl (nb rfl) rfl ?_
  refine g_iconst (pc := 0) (v := 0) dX6_firstRows_0 rfl ?_
  refine g_istore_n (pc := 1) (lv' := [(0, _), (1, _), (2, _), (3, _)]) dX6_firstRows_1 (nl rfl) rfl ?_
  refine g_iconst (pc := 2) (v := 0) dX6_firstRows_2 rfl ?_
  refine g_istore (pc := 3) (lv' := [(0, _), (1, _), (2, _), (3, _), (4, _)]) dX6_firstRows_3 (nl rfl) rfl ?_
  refine go_loop (pc := 5) m (fun i => [(0, .ref 0), (1, .ref r), (2, .int (nI m)), (3, .int (frN (mI M r) n i)), (4, .int (nI i))]) (fun i => M) ⟨rfl, rfl, rfl, rfl, rfl, trivial⟩ rfl ?_ ?_
  · intro i hi ih
    generalize hX : frN (mI M r) n m = X
    rw [hX, frN] at ih
    refine g_iload (pc := 5) dX6_firstRows_5 rfl ?_
    refine g_iload_n (pc := 7) dX6_firstRows_7 rfl ?_
    refine g_icmp_ge (pc := 8) (tgt := 34) dX6_firstRows_8 rfl (fun h8 => absurd h8 (nI_ge hi (by omega))) (fun _ => ?_)
    refine g_aload_n (pc := 11) dX6_firstRows_11 rfl trivial ?_
    refine g_aload_n (pc := 12) dX6_firstRows_12 rfl trivial ?_
    refine g_aload_n (pc := 13) dX6_firstRows_13 rfl trivial ?_
    refine g_iload (pc := 14) dX6_firstRows_14 rfl ?_
    refine g_iaload (pc := 16) dX6_firstRows_16 hk rfl (by omega) (nl rfl) ?_
    refine g_invV_r (pc := 17) (As := [_, _]) dX6_firstRows_17 rfl (s_firstEqual hS hk hz hn) rfl rfl (shK hS rfl) rfl rfl lk_X6_153 rfl (nb rfl) ⟨nb rfl, nb rfl⟩ rfl ?_
    refine g_iload (pc := 20) dX6_firstRows_20 rfl ?_
    refine g_icmp_ne (pc := 22) (tgt := 28) dX6_firstRows_22 rfl (fun h22 => ?_) (fun h22 => ?_)
    · rw [if_neg h22] at ih
      refine g_iinc (pc := 28) (lv' := [(0, _), (1, _), (2, _), (3, _), (4, _)]) dX6_firstRows_28 rfl (nI_1 _) (nl rfl) rfl ?_
      refine g_goto (pc := 31) (tgt := 5) dX6_firstRows_31 rfl ?_
      exact ih
    · rw [if_pos (Decidable.not_not.mp h22)] at ih
      refine g_iinc (pc := 25) (lv' := [(0, _), (1, _), (2, _), (3, _), (4, _)]) dX6_firstRows_25 rfl rfl (nl rfl) rfl ?_
      refine g_iinc (pc := 28) (lv' := [(0, _), (1, _), (2, _), (3, _), (4, _)]) dX6_firstRows_28 rfl (nI_1 _) (nl rfl) rfl ?_
      refine g_goto (pc := 31) (tgt := 5) dX6_firstRows_31 rfl ?_
      exact ih
  · refine g_iload (pc := 5) dX6_firstRows_5 rfl ?_
    refine g_iload_n (pc := 7) dX6_firstRows_7 rfl ?_
    refine g_icmp_ge (pc := 8) (tgt := 34) dX6_firstRows_8 rfl (fun _ => ?_) (fun h8 => absurd (nI_le (Nat.le_refl _) (by omega)) h8)
    refine g_iload_n (pc := 34) dX6_firstRows_34 rfl ?_
    refine g_ireturn (pc := 35) dX6_firstRows_35 rfl rfl ?_
    exact ⟨rfl, rfl⟩
def jrF (f : Nat → Int32) (x : Int32) : Nat → Int32
  | 0 => 0
  | k + 1 => if hb x k = true then jrF f x k ||| f k else jrF f x k
theorem s_joinedRows {r n : Nat} {x : Int32} (hS : Shp M) (hk : (mK M)[r]? = some (kI 32)) (hz : mI M 3 1 = nI n) (hn : n ≤ 32) : EvR l jX6_joinedRows 1 30 0 0 [.ref 0, .ref r, .int x] M (.inl (some (.int (jrF (mI M r) x n)))) M := by
  refine ev_intro rfl (nb rfl) rfl ?_
  refine g_iconst (pc := 0) (v := 0) dX6_joinedRows_0 rfl ?_
  refine g_istore_n (pc := 1) (lv' := [(0, _), (1, _), (2, _), (3, _)]) dX6_joinedRows_1 (nl rfl) rfl ?_
  refine g_iconst (pc := 2) (v := 0) dX6_joinedRows_2 rfl ?_
  refine g_istore (pc := 3) (lv' := [(0, _), (1, _), (2, _), (3, _), (4, _)]) dX6_joinedRows_3 (nl rfl) rfl ?_
  refine go_loop (pc := 5) n (fun i => [(0, .ref 0), (1, .ref r), (2, .int x), (3, .int (jrF (mI M r) x i)), (4, .int (nI i))]) (fun i => M) ⟨rfl, rfl, rfl, rfl, rfl, trivial⟩ rfl ?_ ?_
  · intro i hi ih
    generalize hX : jrF (mI M r) x n = X
    rw [hX, jrF] at ih
    refine g_iload (pc := 5) dX6_joinedRows_5 rfl ?_
    refine g_aload_n (pc := 7) dX6_joinedRows_7 rfl trivial ?_
    refine g_getf (pc := 8) dX6_joinedRows_8 fk_X6_19 (shK hS rfl) (fv_obj (shR hS rfl)) ?_
    refine g_getf (pc := 11) (v := .int _) dX6_joinedRows_11 fk_X6_89 (shK hS rfl) (fun _ => congrArg Value.int (hz)) ?_
    refine g_icmp_ge (pc := 14) (tgt := 39) dX6_joinedRows_14 rfl (fun h14 => absurd h14 (nI_ge hi (by omega))) (fun _ => ?_)
    refine g_iload_n (pc := 17) dX6_joinedRows_17 rfl ?_
    refine g_iload (pc := 18) dX6_joinedRows_18 rfl ?_
    refine g_invS_r (pc := 20) (As := [_, _]) dX6_joinedRows_20 rfl (s_hasOne (by omega)) rfl rfl lk_X6_116 rfl (nb rfl) ⟨nb rfl, nb rfl⟩ rfl ?_
    refine g_if_eq (pc := 23) (tgt := 33) dX6_joinedRows_23 rfl (fun h23 => ?_) (fun h23 => ?_)
    · rw [b1_0] at h23
      rw [if_neg (by rw [h23]; decide)] at ih
      refine g_iinc (pc := 33) (lv' := [(0, _), (1, _), (2, _), (3, _), (4, _)]) dX6_joinedRows_33 rfl (nI_1 _) (nl rfl) rfl ?_
      refine g_goto (pc := 36) (tgt := 5) dX6_joinedRows_36 rfl ?_
      exact ih
    · rw [b1_0, Bool.not_eq_false] at h23
      rw [if_pos h23] at ih
      refine g_iload_n (pc := 26) dX6_joinedRows_26 rfl ?_
      refine g_aload_n (pc := 27) dX6_joinedRows_27 rfl trivial ?_
      refine g_iload (pc := 28) dX6_joinedRows_28 rfl ?_
      refine g_iaload (pc := 30) dX6_joinedRows_30 hk rfl (by omega) (nl rfl) ?_
      refine g_ior (pc := 31) dX6_joinedRows_31 ?_
      refine g_istore_n (pc := 32) (lv' := [(0, _), (1, _), (2, _), (3, _), (4, _)]) dX6_joinedRows_32 (nl rfl) rfl ?_
      refine g_iinc (pc := 33) (lv' := [(0, _), (1, _), (2, _), (3, _), (4, _)]) dX6_joinedRows_33 rfl (nI_1 _) (nl rfl) rfl ?_
      refine g_goto (pc := 36) (tgt := 5) dX6_joinedRows_36 rfl ?_
      exact ih
  · refine g_iload (pc := 5) dX6_joinedRows_5 rfl ?_
    refine g_aload_n (pc := 7) dX6_joinedRows_7 rfl trivial ?_
    refine g_getf (pc := 8) dX6_joinedRows_8 fk_X6_19 (shK hS rfl) (fv_obj (shR hS rfl)) ?_
    refine g_getf (pc := 11) (v := .int _) dX6_joinedRows_11 fk_X6_89 (shK hS rfl) (fun _ => congrArg Value.int (hz)) ?_
    refine g_icmp_ge (pc := 14) (tgt := 39) dX6_joinedRows_14 rfl (fun _ => ?_) (fun h14 => absurd (nI_le (Nat.le_refl _) (by omega)) h14)
    refine g_iload_n (pc := 39) dX6_joinedRows_39 rfl ?_
    refine g_ireturn (pc := 40) dX6_joinedRows_40 rfl rfl ?_
    exact ⟨rfl, rfl⟩
def feF (f : Nat → Int32) (b n : Nat) : Nat → Nat → Int32 → Int32
  | 0, _, _ => -1
  | d + 1, e, x => if hb x b = true then nI e else feF f b n d (e + 1) (jrF f x n)
theorem nI_gt {a b : Nat} (h : b < a) (hb : a < 2147483648) : nI b < nI a := (nI_ltI (by omega) hb).mpr h
theorem nI_ngt {a b : Nat} (h : a ≤ b) (hb : b < 2147483648) : ¬ nI b < nI a := fun q => by have := (nI_ltI (a := b) (b := a) hb (by omega)).mp q; omega
theorem s_fewestEdges {r n a b : Nat} (hS : Shp M) (hk : (mK M)[r]? = some (kI 32)) (hz : mI M 3 1 = nI n) (hn : n ≤ 32) (ha : a < 32) (hb9 : b < 32) : EvR l jX6_fewestEdges 2 60 0 0 [.ref 0, .ref r, .int (nI a), .int (nI b)] M (.inl (some (.int (feF (mI M r) b n n 1 (mI M r a))))) M := by
  obtain ⟨S, hs⟩ : ∃ S, S = feF (mI M r) b n n 1 (mI M r a) := ⟨_, rfl⟩
  rw [← hs]
  refine ev_intro rfl (nb rfl) rfl ?_
  refine g_aload_n (pc := 0) dX6_fewestEdges_0 rfl trivial ?_
  refine g_iload_n (pc := 1) dX6_fewestEdges_1 rfl ?_
  refine g_iaload (pc := 2) dX6_fewestEdges_2 hk rfl ha (nl rfl) ?_
  refine g_istore (pc := 3) (lv' := [(0, _), (1, _), (2, _), (3, _), (4, _)]) dX6_fewestEdges_3 (nl rfl) rfl ?_
  refine g_iconst (pc := 5) (v := 1) dX6_fewestEdges_5 rfl ?_
  refine g_istore (pc := 6) (lv' := [(0, _), (1, _), (2, _), (3, _), (4, _), (5, _)]) dX6_fewestEdges_6 (nl rfl) rfl ?_
  refine go_while (pc := 8) (σ := Nat × Int32) (fun s => 1 ≤ s.1 ∧ s.1 ≤ n + 1 ∧ feF (mI M r) b n (n + 1 - s.1) s.1 s.2 = S) (fun s => n + 1 - s.1) (fun s => [(0, .ref 0), (1, .ref r), (2, .int (nI a)), (3, .int (nI b)), (4, .int s.2), (5, .int (nI s.1))]) (fun _ => M) (1, mI M r a) ⟨rfl, rfl, rfl, rfl, rfl, rfl, trivial⟩ rfl ⟨Nat.le_refl _, by simp only; omega, hs.symm⟩ ?_
  rintro ⟨e, x⟩ ⟨h0, h1, h2⟩ ih
  simp only at h0 h1 h2 ih
  by_cases hi : e ≤ n
  · rw [show n + 1 - e = (n + 1 - (e + 1)) + 1 by omega, feF] at h2
    refine g_iload (pc := 8) dX6_fewestEdges_8 rfl ?_
    refine g_aload_n (pc := 10) dX6_fewestEdges_10 rfl trivial ?_
    refine g_getf (pc := 11) dX6_fewestEdges_11 fk_X6_19 (shK hS rfl) (fv_obj (shR hS rfl)) ?_
    refine g_getf (pc := 14) (v := .int _) dX6_fewestEdges_14 fk_X6_89 (shK hS rfl) (fun _ => congrArg Value.int (hz)) ?_
    refine g_icmp_gt (pc := 17) (tgt := 47) dX6_fewestEdges_17 rfl (fun h17 => absurd h17 (nI_ngt hi (by omega))) (fun _ => ?_)
    refine g_iload (pc := 20) dX6_fewestEdges_20 rfl ?_
    refine g_iload_n (pc := 22) dX6_fewestEdges_22 rfl ?_
    refine g_invS_r (pc := 23) (As := [_, _]) dX6_fewestEdges_23 rfl (s_hasOne hb9) rfl rfl lk_X6_116 rfl (nb rfl) ⟨nb rfl, nb rfl⟩ rfl ?_
    refine g_if_eq (pc := 26) (tgt := 32) dX6_fewestEdges_26 rfl (fun h26 => ?_) (fun h26 => ?_)
    · rw [b1_0] at h26
      rw [if_neg (by rw [h26]; decide)] at h2
      refine g_aload_n (pc := 32) dX6_fewestEdges_32 rfl trivial ?_
      refine g_aload_n (pc := 33) dX6_fewestEdges_33 rfl trivial ?_
      refine g_iload (pc := 34) dX6_fewestEdges_34 rfl ?_
      refine g_invV_r (pc := 36) (As := [_, _]) dX6_fewestEdges_36 rfl (s_joinedRows hS hk hz hn) rfl rfl (shK hS rfl) rfl rfl lk_X6_189 rfl (nb rfl) ⟨nb rfl, nb rfl⟩ rfl ?_
      refine g_istore (pc := 39) (lv' := [(0, _), (1, _), (2, _), (3, _), (4, _), (5, _)]) dX6_fewestEdges_39 (nl rfl) rfl ?_
      refine g_iinc (pc := 41) (lv' := [(0, _), (1, _), (2, _), (3, _), (4, _), (5, _)]) dX6_fewestEdges_41 rfl (nI_1 _) (nl rfl) rfl ?_
      refine g_goto (pc := 44) (tgt := 8) dX6_fewestEdges_44 rfl ?_
      exact ih (e + 1, _) ⟨by simp only; omega, by simp only; omega, h2⟩ (by simp only; omega)
    · rw [b1_0, Bool.not_eq_false] at h26
      rw [if_pos h26] at h2
      refine g_iload (pc := 29) dX6_fewestEdges_29 rfl ?_
      refine g_ireturn (pc := 31) dX6_fewestEdges_31 rfl rfl ?_
      exact ⟨by rw [← h2], rfl⟩
  · have hi' : e = n + 1 := by omega
    subst hi'
    refine g_iload (pc := 8) dX6_fewestEdges_8 rfl ?_
    refine g_aload_n (pc := 10) dX6_fewestEdges_10 rfl trivial ?_
    refine g_getf (pc := 11) dX6_fewestEdges_11 fk_X6_19 (shK hS rfl) (fv_obj (shR hS rfl)) ?_
    refine g_getf (pc := 14) (v := .int _) dX6_fewestEdges_14 fk_X6_89 (shK hS rfl) (fun _ => congrArg Value.int (hz)) ?_
    refine g_icmp_gt (pc := 17) (tgt := 47) dX6_fewestEdges_17 rfl (fun _ => ?_) (fun h17 => absurd (nI_gt (Nat.lt_succ_self _) (by omega)) h17)
    refine g_iconst (pc := 47) (v := (-1)) dX6_fewestEdges_47 rfl ?_
    refine g_ireturn (pc := 48) dX6_fewestEdges_48 rfl rfl ?_
    exact ⟨by rw [← h2, Nat.sub_self]; rfl, rfl⟩
def rwlI (f : Nat → Int32) (x : Int32) : Nat → Int32
  | 0 => 0
  | k + 1 => if f k &&& x = 0 then rwlI f x k else rwlI f x k ||| bitI k
def rwlF (f : Nat → Int32) (e n : Nat) : Nat → Int32
  | 0 => bitI e
  | k + 1 => rwlI f (rwlF f e n k) n
theorem lay_196 (hS : Shp M) : (mK M)[196]? = some (kI 32) := shK hS rfl
theorem nI_m1 {e : Nat} (h : 1 ≤ e) : nI e - 1 = nI (e - 1) := by
  obtain ⟨d, rfl⟩ : ∃ d, e = d + 1 := ⟨e - 1, by omega⟩
  rw [← nI_1]; simp
theorem s_fillLevels {r n b e : Nat} (hS : Shp M) (hk : (mK M)[r]? = some (kI 32)) (hr : r ≠ 196) (hz : mI M 3 1 = nI n) (hn : n ≤ 32) (he : 1 ≤ e) (he9 : e ≤ 32) : EvR l jX6_fillLevels 0 0 0 0 [.ref 0, .ref r, .int (nI b), .int (nI e)] M (.inl none) (sI M 196 (wr (mI M 196) (rwlF (mI M r) b n) e)) := by
  refine ev_intro rfl (nb rfl) rfl ?_
  refine g_aload_n (pc := 0) dX6_fillLevels_0 rfl trivial ?_
  refine g_getf (pc := 1) dX6_fillLevels_1 fk_X6_62 (shK hS rfl) (fv_arr (shR hS rfl)) ?_
  refine g_iconst (pc := 4) (v := 0) dX6_fillLevels_4 rfl ?_
  refine g_iconst (pc := 5) (v := 1) dX6_fillLevels_5 rfl ?_
  refine g_iload_n (pc := 6) dX6_fillLevels_6 rfl ?_
  refine g_ishl (pc := 7) dX6_fillLevels_7 ?_
  refine g_iastore (pc := 8) dX6_fillLevels_8 (shK hS rfl) rfl (by decide) (nl rfl) ?_
  refine g_iconst (pc := 9) (v := 1) dX6_fillLevels_9 rfl ?_
  refine g_istore (pc := 10) (lv' := [(0, _), (1, _), (2, _), (3, _), (4, _)]) dX6_fillLevels_10 (nl rfl) rfl ?_
  refine go_while (pc := 12) (σ := Nat) (fun s => 1 ≤ s ∧ s ≤ e) (fun s => e - s) (fun s => [(0, .ref 0), (1, .ref r), (2, .int (nI b)), (3, .int (nI e)), (4, .int (nI s))]) (fun s => sI M 196 (wr (mI M 196) (rwlF (mI M r) b n) s)) 1 ⟨rfl, rfl, rfl, rfl, rfl, trivial⟩ ?_ ⟨Nat.le_refl _, he⟩ ?_
  · rw [← wr_s, wr_0]; rfl
  rintro s ⟨h1, h2⟩ ih
  have hz1 : mI (sI M 196 (wr (mI M 196) (rwlF (mI M r) b n) s)) 3 1 = nI n := (congrFun (sI_ne (by decide)) 1).trans hz
  have er : mI (sI M 196 (wr (mI M 196) (rwlF (mI M r) b n) s)) r = mI M r := sI_ne hr
  have hl : mI (sI M 196 (wr (mI M 196) (rwlF (mI M r) b n) s)) 196 (s - 1) = rwlF (mI M r) b n (s - 1) := by rw [sI_self, wr_lt (by omega)]
  have e2 : sI (sI M 196 (wr (mI M 196) (rwlF (mI M r) b n) s)) 196 (fun_set (mI (sI M 196 (wr (mI M 196) (rwlF (mI M r) b n) s)) 196) s (rwlF (mI M r) b n s)) = sI M 196 (wr (mI M 196) (rwlF (mI M r) b n) (s + 1)) := by rw [sI_self, wr_s, sI_2]
  have hS0 : Shp (sI M 196 (wr (mI M 196) (rwlF (mI M r) b n) s)) := shp_sI hS
  have hk0 : (mK (sI M 196 (wr (mI M 196) (rwlF (mI M r) b n) s)))[r]? = some (kI 32) := hk
  by_cases hi : s < e
  · obtain ⟨d, hd⟩ : ∃ d, s = d + 1 := ⟨s - 1, by omega⟩
    have eq1 : rwlF (mI M r) b n s = rwlI (mI M r) (rwlF (mI M r) b n (s - 1)) n := by rw [hd]; rfl
    rw [eq1] at e2
    have ih := ih (s + 1) ⟨by omega, by omega⟩ (by omega)
    rw [← e2] at ih
    generalize sI M 196 (wr (mI M 196) (rwlF (mI M r) b n) s) = M1 at *
    generalize rwlF (mI M r) b n (s - 1) = x at *
    generalize mI M r = f at *
    refine g_iload (pc := 12) dX6_fillLevels_12 rfl ?_
    refine g_iload_n (pc := 14) dX6_fillLevels_14 rfl ?_
    refine g_icmp_ge (pc := 15) (tgt := 83) dX6_fillLevels_15 rfl (fun h15 => absurd h15 (nI_ge hi (by omega))) (fun _ => ?_)
    refine g_iconst (pc := 18) (v := 0) dX6_fillLevels_18 rfl ?_
    refine g_istore (pc := 19) (lv' := [(0, _), (1, _), (2, _), (3, _), (4, _), (5, _)]) dX6_fillLevels_19 (nl rfl) rfl ?_
    refine g_iconst (pc := 21) (v := 0) dX6_fillLevels_21 rfl ?_
    refine g_istore (pc := 22) (lv' := [(0, _), (1, _), (2, _), (3, _), (4, _), (5, _), (6, _)]) dX6_fillLevels_22 (nl rfl) rfl ?_
    refine go_loop (pc := 24) n (fun i => [(0, .ref 0), (1, .ref r), (2, .int (nI b)), (3, .int (nI e)), (4, .int (nI s)), (5, .int (rwlI f x i)), (6, .int (nI i))]) (fun i => M1) ⟨rfl, rfl, rfl, rfl, rfl, rfl, rfl, trivial⟩ rfl ?_ ?_
    · intro i hi2 ih2
      generalize hX : rwlI f x n = X at ih ⊢
      rw [rwlI] at ih2
      refine g_iload (pc := 24) dX6_fillLevels_24 rfl ?_
      refine g_aload_n (pc := 26) dX6_fillLevels_26 rfl trivial ?_
      refine g_getf (pc := 27) dX6_fillLevels_27 fk_X6_19 (shK hS0 rfl) (fv_obj (shR hS0 rfl)) ?_
      refine g_getf (pc := 30) (v := .int _) dX6_fillLevels_30 fk_X6_89 (shK hS0 rfl) (fun _ => congrArg Value.int (hz1)) ?_
      refine g_icmp_ge (pc := 33) (tgt := 68) dX6_fillLevels_33 rfl (fun h33 => absurd h33 (nI_ge hi2 (by omega))) (fun _ => ?_)
      refine g_aload_n (pc := 36) dX6_fillLevels_36 rfl trivial ?_
      refine g_iload (pc := 37) dX6_fillLevels_37 rfl ?_
      refine g_iaload (pc := 39) dX6_fillLevels_39 hk0 rfl (by omega) (nl rfl) ?_
      refine g_aload_n (pc := 40) dX6_fillLevels_40 rfl trivial ?_
      refine g_getf (pc := 41) dX6_fillLevels_41 fk_X6_62 (shK hS0 rfl) (fv_arr (shR hS0 rfl)) ?_
      refine g_iload (pc := 44) dX6_fillLevels_44 rfl ?_
      refine g_iconst (pc := 46) (v := 1) dX6_fillLevels_46 rfl ?_
      refine g_isub (pc := 47) dX6_fillLevels_47 ?_
      rw [nI_m1 h1]
      refine g_iaload (pc := 48) dX6_fillLevels_48 (lay_196 hS0) rfl (by omega) (nl rfl) ?_
      rw [hl, er]
      refine g_iand (pc := 49) dX6_fillLevels_49 ?_
      refine g_if_eq (pc := 50) (tgt := 62) dX6_fillLevels_50 rfl (fun h50 => ?_) (fun h50 => ?_)
      · rw [if_pos h50] at ih2
        refine g_iinc (pc := 62) (lv' := [(0, _), (1, _), (2, _), (3, _), (4, _), (5, _), (6, _)]) dX6_fillLevels_62 rfl (nI_1 _) (nl rfl) rfl ?_
        refine g_goto (pc := 65) (tgt := 24) dX6_fillLevels_65 rfl ?_
        exact ih2
      · rw [if_neg h50] at ih2
        refine g_iload (pc := 53) dX6_fillLevels_53 rfl ?_
        refine g_iconst (pc := 55) (v := 1) dX6_fillLevels_55 rfl ?_
        refine g_iload (pc := 56) dX6_fillLevels_56 rfl ?_
        refine g_ishl (pc := 58) dX6_fillLevels_58 ?_
        refine g_ior (pc := 59) dX6_fillLevels_59 ?_
        refine g_istore (pc := 60) (lv' := [(0, _), (1, _), (2, _), (3, _), (4, _), (5, _), (6, _)]) dX6_fillLevels_60 (nl rfl) rfl ?_
        refine g_iinc (pc := 62) (lv' := [(0, _), (1, _), (2, _), (3, _), (4, _), (5, _), (6, _)]) dX6_fillLevels_62 rfl (nI_1 _) (nl rfl) rfl ?_
        refine g_goto (pc := 65) (tgt := 24) dX6_fillLevels_65 rfl ?_
        exact ih2
    · refine g_iload (pc := 24) dX6_fillLevels_24 rfl ?_
      refine g_aload_n (pc := 26) dX6_fillLevels_26 rfl trivial ?_
      refine g_getf (pc := 27) dX6_fillLevels_27 fk_X6_19 (shK hS0 rfl) (fv_obj (shR hS0 rfl)) ?_
      refine g_getf (pc := 30) (v := .int _) dX6_fillLevels_30 fk_X6_89 (shK hS0 rfl) (fun _ => congrArg Value.int (hz1)) ?_
      refine g_icmp_ge (pc := 33) (tgt := 68) dX6_fillLevels_33 rfl (fun _ => ?_) (fun h33 => absurd (nI_le (Nat.le_refl _) (by omega)) h33)
      refine g_aload_n (pc := 68) dX6_fillLevels_68 rfl trivial ?_
      refine g_getf (pc := 69) dX6_fillLevels_69 fk_X6_62 (shK hS0 rfl) (fv_arr (shR hS0 rfl)) ?_
      refine g_iload (pc := 72) dX6_fillLevels_72 rfl ?_
      refine g_iload (pc := 74) dX6_fillLevels_74 rfl ?_
      refine g_iastore (pc := 76) dX6_fillLevels_76 (lay_196 hS0) rfl (by omega) (nl rfl) ?_
      refine g_iinc (pc := 77) (lv' := [(0, _), (1, _), (2, _), (3, _), (4, _), (5, _), (6, _)]) dX6_fillLevels_77 rfl (nI_1 _) (nl rfl) rfl ?_
      refine g_goto (pc := 80) (tgt := 12) dX6_fillLevels_80 rfl ?_
      exact g_sub (lv' := [(0, .ref 0), (1, .ref r), (2, .int (nI b)), (3, .int (nI e)), (4, .int (nI (s + 1)))]) ⟨rfl, rfl, rfl, rfl, rfl, trivial⟩ ih
  · have hi' : s = e := by omega
    subst hi'
    refine g_iload (pc := 12) dX6_fillLevels_12 rfl ?_
    refine g_iload_n (pc := 14) dX6_fillLevels_14 rfl ?_
    refine g_icmp_ge (pc := 15) (tgt := 83) dX6_fillLevels_15 rfl (fun _ => ?_) (fun h15 => absurd (nI_le (Nat.le_refl _) (by omega)) h15)
    refine g_return (pc := 83) dX6_fillLevels_83 rfl ?_
    exact ⟨rfl, rfl⟩
/-- a slot's rows without an edge, beside them -/
def lwMem (M : Mem) (s a b n : Nat) : Mem := sI M 195 (fun_set (wr (mI M 195) (mI M (6 + 2 * s)) n) a (mI M (6 + 2 * s) a &&& (bitI b ^^^ -1)))
theorem clMake_ne {c r n i : Nat} (h : i ≠ c) (h2 : i ≠ c + 1) : mI (clMake M c r n) i = mI M i := by
  unfold clMake; rw [pI_i h, sI_ne h2]
theorem clOf_ne {s n i : Nat} (h : i < 175 ∨ 187 ≤ i) (hs : s < 6) : mI (clOf M s n) i = mI M i := by
  unfold clOf; split
  · rw [clMake_ne (by omega) (by omega)]
  · rfl
theorem cl_ok' : ∀ s, s < 6 → isCl (175 + 2 * s) := fun s h => (cl_ok s h).1
theorem s_lossWithout {s a b n : Nat} (hS : Shp M) (hs : s < 6) (hz : mI M 3 1 = nI n) (hn : n ≤ 32) (ha : a < n) (hb9 : b < n) : EvR l jX6_lossWithout 4 150 0 0 [.ref 0, .int (nI s), .int (nI a), .int (nI b)] M (.inl (some (.int (lossB (mI (clOf (lwMem M s a b n) s n) (176 + 2 * s)) (mI (lwMem M s a b n) 195) a b n)))) (clOf (lwMem M s a b n) s n) := by
  have hS1 : Shp (sI M 195 (wr (mI M 195) (mI M (6 + 2 * s)) n)) := shp_sI hS
  have hS2 : Shp (lwMem M s a b n) := shp_sI hS
  have hS3 := clOf_S hS2 s n
  have hz2 : mI (lwMem M s a b n) 3 1 = nI n := by unfold lwMem; rw [sI_ne (by decide)]; exact hz
  have hz3 : mI (clOf (lwMem M s a b n) s n) 3 1 = nI n := by rw [clOf_ne (by omega) hs]; exact hz2
  have e3 : mI (clOf (lwMem M s a b n) s n) 195 = mI (lwMem M s a b n) 195 := clOf_ne (by omega) hs
  rw [← e3]
  have hc := cl_ok' s hs
  rw [show 176 + 2 * s = 175 + 2 * s + 1 by omega]
  have e9 : ∀ x, x = mI M (6 + 2 * s) a &&& (bitI b ^^^ -1) → sI (sI M 195 (wr (mI M 195) (mI M (6 + 2 * s)) n)) 195 (fun_set (mI (sI M 195 (wr (mI M 195) (mI M (6 + 2 * s)) n)) 195) a x) = lwMem M s a b n := by
    intro x hx; rw [hx, sI_2, sI_self]; rfl
  have e8 : mI (sI M 195 (wr (mI M 195) (mI M (6 + 2 * s)) n)) 195 a = mI M (6 + 2 * s) a := by rw [sI_self, wr_lt ha]
  refine ev_intro rfl (nb rfl) rfl ?_
  refine g_aload_n (pc := 0) dX6_lossWithout_0 rfl trivial ?_
  refine g_iload_n (pc := 1) dX6_lossWithout_1 rfl ?_
  refine g_invV_r (pc := 2) (As := [_]) dX6_lossWithout_2 rfl (s_rowsOf hS hs) rfl rfl (shK hS rfl) rfl rfl lk_X6_112 rfl (nb rfl) ⟨nb rfl, nb rfl⟩ rfl ?_
  refine g_iconst (pc := 5) (v := 0) dX6_lossWithout_5 rfl ?_
  refine g_aload_n (pc := 6) dX6_lossWithout_6 rfl trivial ?_
  refine g_getf (pc := 7) dX6_lossWithout_7 fk_X6_58 (shK hS rfl) (fv_arr (shR hS rfl)) ?_
  refine g_iconst (pc := 10) (v := 0) dX6_lossWithout_10 rfl ?_
  refine g_aload_n (pc := 11) dX6_lossWithout_11 rfl trivial ?_
  refine g_getf (pc := 12) dX6_lossWithout_12 fk_X6_19 (shK hS rfl) (fv_obj (shR hS rfl)) ?_
  refine g_getf (pc := 15) (v := .int _) dX6_lossWithout_15 fk_X6_89 (shK hS rfl) (fun _ => congrArg Value.int (hz)) ?_
  refine g_copyI (pc := 18) (sp := 0) (dp := 0) dX6_lossWithout_18 wd_912 wd_510 wd_509 wd_108 (shK hS (rows_lay hs)) (shK hS rfl) rfl rfl rfl (by omega) (by omega) ⟨by decide, by decide⟩ hS.2.1 (nb rfl) (nb rfl) ?_
  rw [cpy_wr]
  refine g_aload_n (pc := 21) dX6_lossWithout_21 rfl trivial ?_
  refine g_getf (pc := 22) dX6_lossWithout_22 fk_X6_58 (shK hS1 rfl) (fv_arr (shR hS1 rfl)) ?_
  refine g_iload_n (pc := 25) dX6_lossWithout_25 rfl ?_
  refine g_dup2_11 (pc := 26) dX6_lossWithout_26 rfl rfl ?_
  refine g_iaload (pc := 27) dX6_lossWithout_27 (shK hS1 rfl) rfl (by omega) (nl rfl) ?_
  refine g_iconst (pc := 28) (v := 1) dX6_lossWithout_28 rfl ?_
  refine g_iload_n (pc := 29) dX6_lossWithout_29 rfl ?_
  refine g_ishl (pc := 30) dX6_lossWithout_30 ?_
  refine g_iconst (pc := 31) (v := (-1)) dX6_lossWithout_31 rfl ?_
  refine g_ixor (pc := 32) dX6_lossWithout_32 ?_
  refine g_iand (pc := 33) dX6_lossWithout_33 ?_
  refine g_iastore (pc := 34) dX6_lossWithout_34 (shK hS1 rfl) rfl (by omega) (nl rfl) ?_
  rw [e9 _ (by rw [e8]; rfl)]
  refine g_aload_n (pc := 35) dX6_lossWithout_35 rfl trivial ?_
  refine g_iload_n (pc := 36) dX6_lossWithout_36 rfl ?_
  refine g_invV_r (pc := 37) (As := [_]) dX6_lossWithout_37 rfl (s_closureOf hS2 hs hz2 hn) rfl rfl (shK hS2 rfl) rfl rfl lk_X6_162 rfl (nb rfl) ⟨nb rfl, nb rfl⟩ rfl ?_
  refine g_aload_n (pc := 40) dX6_lossWithout_40 rfl trivial ?_
  refine g_getf (pc := 41) dX6_lossWithout_41 fk_X6_58 (shK hS3 rfl) (fv_arr (shR hS3 rfl)) ?_
  refine g_iload_n (pc := 44) dX6_lossWithout_44 rfl ?_
  refine g_iload_n (pc := 45) dX6_lossWithout_45 rfl ?_
  refine g_aload_n (pc := 46) dX6_lossWithout_46 rfl trivial ?_
  refine g_getf (pc := 47) dX6_lossWithout_47 fk_X6_19 (shK hS3 rfl) (fv_obj (shR hS3 rfl)) ?_
  refine g_getf (pc := 50) (v := .int _) dX6_lossWithout_50 fk_X6_89 (shK hS3 rfl) (fun _ => congrArg Value.int (hz3)) ?_
  refine g_invV_r (pc := 53) (As := [_, _, _, _]) dX6_lossWithout_53 rfl (s_lossBy hS3 hc (shK hS3 rfl) (by omega) (by omega) hn) rfl rfl (shK hS3 hc.1) rfl rfl lk_X6_349 rfl (nb rfl) ⟨nb rfl, nb rfl⟩ rfl ?_
  refine g_ireturn (pc := 56) dX6_lossWithout_56 rfl rfl ?_
  exact ⟨rfl, rfl⟩
def dnF (f : Nat → Int32) (a n : Nat) : Nat → Nat → Int32
  | 0 => f
  | k + 1 => if hb (dnF f a n k a) k = true then (if hb (reachL (fun_set (dnF f a n k) a (dnF f a n k a &&& (bitI k ^^^ -1))) n (dnF f a n k a &&& (bitI k ^^^ -1)) 0) k = true then fun_set (dnF f a n k) a (dnF f a n k a &&& (bitI k ^^^ -1)) else dnF f a n k) else dnF f a n k
theorem s_dropNeedless {r a n : Nat} (hS : Shp M) (hk : (mK M)[r]? = some (kI 32)) (hr : r ≠ 3) (hz : mI M 3 1 = nI n) (hn : n ≤ 32) (ha : a < n) : EvR l jX6_dropNeedless 3 80 0 0 [.ref 0, .ref r, .int (nI a)] M (.inl none) (sI M r (dnF (mI M r) a n n)) := by
  obtain ⟨S, hs⟩ : ∃ S, S = sI M r (dnF (mI M r) a n n) := ⟨_, rfl⟩
  rw [← hs]
  refine ev_intro rfl (nb rfl) rfl ?_
  refine g_iconst (pc := 0) (v := 0) dX6_dropNeedless_0 rfl ?_
  refine g_istore_n (pc := 1) (lv' := [(0, _), (1, _), (2, _), (3, _)]) dX6_dropNeedless_1 (nl rfl) rfl ?_
  refine go_loop (pc := 2) n (fun i => [(0, .ref 0), (1, .ref r), (2, .int (nI a)), (3, .int (nI i))]) (fun i => sI M r (dnF (mI M r) a n i)) ⟨rfl, rfl, rfl, rfl, trivial⟩ (sI_id M r).symm ?_ ?_
  · intro i hi ih
    rw [dnF] at ih
    have hz1 : ∀ f, mI (sI M r f) 3 1 = nI n := fun f => (congrFun (sI_ne (Ne.symm hr)) 1).trans hz
    have hS0 : ∀ f, Shp (sI M r f) := fun f => shp_sI hS
    have hk0 : ∀ f, (mK (sI M r f))[r]? = some (kI 32) := fun f => hk
    have e0 : ∀ f, mI (sI M r f) r = f := fun f => sI_self M r f
    have e2 : ∀ f g, sI (sI M r f) r g = sI M r g := fun f g => sI_2 M r f g
    generalize dnF (mI M r) a n i = g at *
    refine g_iload_n (pc := 2) dX6_dropNeedless_2 rfl ?_
    refine g_aload_n (pc := 3) dX6_dropNeedless_3 rfl trivial ?_
    refine g_getf (pc := 4) dX6_dropNeedless_4 fk_X6_19 (shK (hS0 _) rfl) (fv_obj (shR (hS0 _) rfl)) ?_
    refine g_getf (pc := 7) (v := .int _) dX6_dropNeedless_7 fk_X6_89 (shK (hS0 _) rfl) (fun _ => congrArg Value.int ((hz1 _))) ?_
    refine g_icmp_ge (pc := 10) (tgt := 68) dX6_dropNeedless_10 rfl (fun h10 => absurd h10 (nI_ge hi (by omega))) (fun _ => ?_)
    refine g_aload_n (pc := 13) dX6_dropNeedless_13 rfl trivial ?_
    refine g_iload_n (pc := 14) dX6_dropNeedless_14 rfl ?_
    refine g_iaload (pc := 15) dX6_dropNeedless_15 (hk0 _) rfl (by omega) (nl rfl) ?_
    rw [e0]
    refine g_istore (pc := 16) (lv' := [(0, _), (1, _), (2, _), (3, _), (4, _)]) dX6_dropNeedless_16 (nl rfl) rfl ?_
    refine g_iload (pc := 18) dX6_dropNeedless_18 rfl ?_
    refine g_iload_n (pc := 20) dX6_dropNeedless_20 rfl ?_
    refine g_invS_r (pc := 21) (As := [_, _]) dX6_dropNeedless_21 rfl (s_hasOne (by omega)) rfl rfl lk_X6_116 rfl (nb rfl) ⟨nb rfl, nb rfl⟩ rfl ?_
    refine g_if_eq (pc := 24) (tgt := 62) dX6_dropNeedless_24 rfl (fun h24 => ?_) (fun h24 => ?_)
    · rw [b1_0] at h24
      rw [if_neg (by rw [h24]; decide)] at ih
      refine g_iinc (pc := 62) (lv' := [(0, _), (1, _), (2, _), (3, _), (4, _)]) dX6_dropNeedless_62 rfl (nI_1 _) (nl rfl) rfl ?_
      refine g_goto (pc := 65) (tgt := 2) dX6_dropNeedless_65 rfl ?_
      exact g_sub (lv' := [(0, _), (1, _), (2, _), (3, _)]) ⟨rfl, rfl, rfl, rfl, trivial⟩ ih
    · rw [b1_0, Bool.not_eq_false] at h24
      rw [if_pos h24] at ih
      refine g_aload_n (pc := 27) dX6_dropNeedless_27 rfl trivial ?_
      refine g_iload_n (pc := 28) dX6_dropNeedless_28 rfl ?_
      refine g_iload (pc := 29) dX6_dropNeedless_29 rfl ?_
      refine g_iconst (pc := 31) (v := 1) dX6_dropNeedless_31 rfl ?_
      refine g_iload_n (pc := 32) dX6_dropNeedless_32 rfl ?_
      refine g_ishl (pc := 33) dX6_dropNeedless_33 ?_
      refine g_iconst (pc := 34) (v := (-1)) dX6_dropNeedless_34 rfl ?_
      refine g_ixor (pc := 35) dX6_dropNeedless_35 ?_
      refine g_iand (pc := 36) dX6_dropNeedless_36 ?_
      refine g_iastore (pc := 37) dX6_dropNeedless_37 (hk0 _) rfl (by omega) (nl rfl) ?_
      rw [e0, e2]
      refine g_aload_n (pc := 38) dX6_dropNeedless_38 rfl trivial ?_
      refine g_iload_n (pc := 39) dX6_dropNeedless_39 rfl ?_
      refine g_aload_n (pc := 40) dX6_dropNeedless_40 rfl trivial ?_
      refine g_getf (pc := 41) dX6_dropNeedless_41 fk_X6_19 (shK (hS0 _) rfl) (fv_obj (shR (hS0 _) rfl)) ?_
      refine g_getf (pc := 44) (v := .int _) dX6_dropNeedless_44 fk_X6_89 (shK (hS0 _) rfl) (fun _ => congrArg Value.int ((hz1 _))) ?_
      refine g_invS_r (pc := 47) (As := [_, _, _]) dX6_dropNeedless_47 rfl (s_reachedFrom (hk0 _) (by omega) hn) rfl rfl lk_X6_353 rfl (nb rfl) ⟨nb rfl, nb rfl⟩ rfl ?_
      refine g_iload_n (pc := 50) dX6_dropNeedless_50 rfl ?_
      refine g_invS_r (pc := 51) (As := [_, _]) dX6_dropNeedless_51 rfl (s_hasOne (by omega)) rfl rfl lk_X6_116 rfl (nb rfl) ⟨nb rfl, nb rfl⟩ rfl ?_
      rw [e0, fs_self]
      refine g_if_ne (pc := 54) (tgt := 62) dX6_dropNeedless_54 rfl (fun h54 => ?_) (fun h54 => ?_)
      · rw [if_pos (by rw [b1_0] at h54; exact Bool.not_eq_false _ ▸ h54)] at ih
        refine g_iinc (pc := 62) (lv' := [(0, _), (1, _), (2, _), (3, _), (4, _)]) dX6_dropNeedless_62 rfl (nI_1 _) (nl rfl) rfl ?_
        refine g_goto (pc := 65) (tgt := 2) dX6_dropNeedless_65 rfl ?_
        exact g_sub (lv' := [(0, _), (1, _), (2, _), (3, _)]) ⟨rfl, rfl, rfl, rfl, trivial⟩ ih
      · rw [if_neg (by rw [b1_0] at h54; exact Bool.eq_false_iff.mp (Decidable.not_not.mp h54))] at ih
        refine g_aload_n (pc := 57) dX6_dropNeedless_57 rfl trivial ?_
        refine g_iload_n (pc := 58) dX6_dropNeedless_58 rfl ?_
        refine g_iload (pc := 59) dX6_dropNeedless_59 rfl ?_
        refine g_iastore (pc := 61) dX6_dropNeedless_61 (hk0 _) rfl (by omega) (nl rfl) ?_
        rw [e0, e2, fs_twice, fs_same]
        refine g_iinc (pc := 62) (lv' := [(0, _), (1, _), (2, _), (3, _), (4, _)]) dX6_dropNeedless_62 rfl (nI_1 _) (nl rfl) rfl ?_
        refine g_goto (pc := 65) (tgt := 2) dX6_dropNeedless_65 rfl ?_
        exact g_sub (lv' := [(0, _), (1, _), (2, _), (3, _)]) ⟨rfl, rfl, rfl, rfl, trivial⟩ ih
  · refine g_iload_n (pc := 2) dX6_dropNeedless_2 rfl ?_
    refine g_aload_n (pc := 3) dX6_dropNeedless_3 rfl trivial ?_
    refine g_getf (pc := 4) dX6_dropNeedless_4 fk_X6_19 (shK (shp_sI hS) rfl) (fv_obj (shR (shp_sI hS) rfl)) ?_
    refine g_getf (pc := 7) (v := .int _) dX6_dropNeedless_7 fk_X6_89 (shK (shp_sI hS) rfl) (fun _ => congrArg Value.int (((congrFun (sI_ne (Ne.symm hr)) 1).trans hz))) ?_
    refine g_icmp_ge (pc := 10) (tgt := 68) dX6_dropNeedless_10 rfl (fun _ => ?_) (fun h10 => absurd (nI_le (Nat.le_refl _) (by omega)) h10)
    refine g_return (pc := 68) dX6_dropNeedless_68 rfl ?_
    exact ⟨rfl, hs.symm⟩
end

