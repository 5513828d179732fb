/-! the reference: its leaves -/
section
variable {l : Launch} {M : Mem} {n : Nat} {A : Nat → Nat → Int32}
theorem lN_nI {k : Nat} (h : k < 2147483648) : (nI k).toInt64 = lN k := nI_l h
/-- the reference's object, its size, its rows -/
def Rr (M : Mem) (n : Nat) (A : Nat → Nat → Int32) : Prop := Shp M ∧ mL M 199 0 = lN n ∧ 1 ≤ n ∧ n ≤ 32 ∧ ∀ s r, s < 6 → r < n → mL M 199 (28 + 32 * s + r) = uL (A s r)
/-- what was thrown -/
def thr (M : Mem) (x : Int32) : Mem := pI M 198 6 x
theorem Rr.thr {x : Int32} (h : Rr M n A) : Rr (thr M x) n A := h
theorem thr_2 {x y : Int32} : thr (thr M x) y = thr M y := sI_st (fs_twice _ _ _ _)
theorem r_in_t {x a b : Int64} (h1 : a ≤ x) (h2 : x ≤ b) : EvR l jX7_in 0 0 0 0 [.long x, .long a, .long b] M (.inl (some (.int 1))) M := by
  refine ev_intro rfl (nb rfl) rfl ?_
  refine g_lload_n (pc := 0) dX7_in_0 rfl ?_
  refine g_lload_n (pc := 1) dX7_in_1 rfl ?_
  refine g_lcmp (pc := 2) dX7_in_2 ?_
  refine g_if_lt (pc := 3) (tgt := 17) dX7_in_3 rfl (fun h3 => absurd h3 ((fun h => Int64.not_lt.mpr h1 ((lg_cmp_lt _ _).mp h)))) (fun _ => ?_)
  refine g_lload_n (pc := 6) dX7_in_6 rfl ?_
  refine g_lload (pc := 7) dX7_in_7 rfl ?_
  refine g_lcmp (pc := 9) dX7_in_9 ?_
  refine g_if_gt (pc := 10) (tgt := 17) dX7_in_10 rfl (fun h10 => absurd h10 ((fun h => Int64.not_lt.mpr h2 ((lg_cmp_gt _ _).mp h)))) (fun _ => ?_)
  refine g_iconst (pc := 13) (v := 1) dX7_in_13 rfl ?_
  refine g_goto (pc := 14) (tgt := 18) dX7_in_14 rfl ?_
  refine g_ireturn (pc := 18) dX7_in_18 rfl rfl ?_
  exact ⟨rfl, rfl⟩
theorem r_in_f {x a b : Int64} (h : ¬ (a ≤ x ∧ x ≤ b)) : EvR l jX7_in 0 0 0 0 [.long x, .long a, .long b] M (.inl (some (.int 0))) M := by
  refine ev_intro rfl (nb rfl) rfl ?_
  by_cases h1 : a ≤ x
  · refine g_lload_n (pc := 0) dX7_in_0 rfl ?_
    refine g_lload_n (pc := 1) dX7_in_1 rfl ?_
    refine g_lcmp (pc := 2) dX7_in_2 ?_
    refine g_if_lt (pc := 3) (tgt := 17) dX7_in_3 rfl (fun h3 => absurd h3 ((fun h => Int64.not_lt.mpr h1 ((lg_cmp_lt _ _).mp h)))) (fun _ => ?_)
    refine g_lload_n (pc := 6) dX7_in_6 rfl ?_
    refine g_lload (pc := 7) dX7_in_7 rfl ?_
    refine g_lcmp (pc := 9) dX7_in_9 ?_
    refine g_if_gt (pc := 10) (tgt := 17) dX7_in_10 rfl (fun _ => ?_) (fun h10 => absurd ((lg_cmp_gt _ _).mpr (Int64.not_le.mp (fun h2 => h ⟨h1, h2⟩))) h10)
    refine g_iconst (pc := 17) (v := 0) dX7_in_17 rfl ?_
    refine g_ireturn (pc := 18) dX7_in_18 rfl rfl ?_
    exact ⟨rfl, rfl⟩
  · refine g_lload_n (pc := 0) dX7_in_0 rfl ?_
    refine g_lload_n (pc := 1) dX7_in_1 rfl ?_
    refine g_lcmp (pc := 2) dX7_in_2 ?_
    refine g_if_lt (pc := 3) (tgt := 17) dX7_in_3 rfl (fun _ => ?_) (fun h3 => absurd ((lg_cmp_lt _ _).mpr (Int64.not_le.mp h1)) h3)
    refine g_iconst (pc := 17) (v := 0) dX7_in_17 rfl ?_
    refine g_ireturn (pc := 18) dX7_in_18 rfl rfl ?_
    exact ⟨rfl, rfl⟩
theorem inR_int {v : Int32} {k : Nat} (hk : k < 2147483648) : inR v k ↔ 0 ≤ v.toInt ∧ v.toInt < k := by
  unfold inR
  rw [Int32.not_lt, Int32.le_iff_toInt_le, Int32.lt_iff_toInt_lt, nI_toInt (by omega)]
  rfl
theorem inR_long {v : Int32} {k : Nat} (hk : k < 2147483647) : (0 ≤ v.toInt64 ∧ v.toInt64 ≤ lN k) ↔ inR v (k + 1) := by
  rw [inR_int (by omega), Int64.le_iff_toInt_le, Int64.le_iff_toInt_le, Int32.toInt_toInt64, lN_toInt (by omega), show (0 : Int64).toInt = 0 from rfl]
  omega
theorem r_isSlot_t {v : Int32} (h : inR v 6) : EvR l jX7_isSlot 1 30 0 0 [.int v] M (.inl (some (.int 1))) M := by
  obtain ⟨h1, h2⟩ := (inR_long (k := 5) (by decide)).mpr h
  refine ev_intro rfl (nb rfl) rfl ?_
  refine g_iload_n (pc := 0) dX7_isSlot_0 rfl ?_
  refine g_i2l (pc := 1) dX7_isSlot_1 rfl ?_
  refine g_lconst (pc := 2) (v := 0) dX7_isSlot_2 rfl ?_
  refine g_ldc2 (pc := 3) dX7_isSlot_3 wd_1444 ?_
  refine g_invS_r (pc := 6) (As := [_, _, _]) dX7_isSlot_6 rfl (r_in_t h1 h2) rfl rfl lk_X7_67 rfl (nb rfl) ⟨nb rfl, nb rfl⟩ rfl ?_
  refine g_ireturn (pc := 9) dX7_isSlot_9 rfl rfl ?_
  exact ⟨rfl, rfl⟩
theorem r_isSlot_f {v : Int32} (h : ¬ inR v 6) : EvR l jX7_isSlot 1 30 0 0 [.int v] M (.inl (some (.int 0))) M := by
  refine ev_intro rfl (nb rfl) rfl ?_
  refine g_iload_n (pc := 0) dX7_isSlot_0 rfl ?_
  refine g_i2l (pc := 1) dX7_isSlot_1 rfl ?_
  refine g_lconst (pc := 2) (v := 0) dX7_isSlot_2 rfl ?_
  refine g_ldc2 (pc := 3) dX7_isSlot_3 wd_1444 ?_
  refine g_invS_r (pc := 6) (As := [_, _, _]) dX7_isSlot_6 rfl (r_in_f (fun q => h ((inR_long (k := 5) (by decide)).mp q))) rfl rfl lk_X7_67 rfl (nb rfl) ⟨nb rfl, nb rfl⟩ rfl ?_
  refine g_ireturn (pc := 9) dX7_isSlot_9 rfl rfl ?_
  exact ⟨rfl, rfl⟩
theorem lN_32 {k : Nat} (h : k < 2147483648) : (lN k).toInt32 = nI k := by
  rw [← lN_nI h]
  exact Int32.toInt32_toInt64 _
theorem r_size (h : Rr M n A) : EvR l jX7_size 0 0 0 0 [.ref 198] M (.inl (some (.int (nI n)))) M := by
  have h1 := lN_32 (k := n) (by have := h.2.2.2.1; omega)
  rw [← h1, ← h.2.1]
  have hS := h.1
  refine ev_intro rfl (nb rfl) rfl ?_
  refine g_aload_n (pc := 0) dX7_size_0 rfl trivial ?_
  refine g_getf (pc := 1) dX7_size_1 fk_X7_9 (shK hS rfl) (fv_arr (shR hS rfl)) ?_
  refine g_iconst (pc := 4) (v := 0) dX7_size_4 rfl ?_
  refine g_laload (pc := 5) dX7_size_5 (shK hS rfl) rfl (by decide) (nl rfl) ?_
  refine g_l2i (pc := 6) dX7_size_6 rfl ?_
  refine g_ireturn (pc := 7) dX7_size_7 rfl rfl ?_
  exact ⟨rfl, rfl⟩
theorem n_l (h : Rr M n A) : (nI n - 1).toInt64 = lN (n - 1) := by
  rw [nI_m1 h.2.2.1]
  exact lN_nI (by have := h.2.2.2.1; omega)
theorem r_isNode_t {v : Int32} (h : Rr M n A) (hv : inR v n) : EvR l jX7_isNode 1 30 0 0 [.ref 198, .int v] M (.inl (some (.int 1))) M := by
  have hn := h.2.2.2.1
  have h0 := h.2.2.1
  obtain ⟨h1, h2⟩ := (inR_long (k := n - 1) (by omega)).mpr (by rw [show n - 1 + 1 = n by omega]; exact hv)
  rw [← n_l h] at h2
  have hS := h.1
  refine ev_intro rfl (nb rfl) rfl ?_
  refine g_iload_n (pc := 0) dX7_isNode_0 rfl ?_
  refine g_i2l (pc := 1) dX7_isNode_1 rfl ?_
  refine g_lconst (pc := 2) (v := 0) dX7_isNode_2 rfl ?_
  refine g_aload_n (pc := 3) dX7_isNode_3 rfl trivial ?_
  refine g_invV_r (pc := 4) (As := []) dX7_isNode_4 rfl (r_size h) rfl rfl (shK hS rfl) rfl rfl lk_X7_71 rfl (nb rfl) ⟨nb rfl, nb rfl⟩ rfl ?_
  refine g_iconst (pc := 7) (v := 1) dX7_isNode_7 rfl ?_
  refine g_isub (pc := 8) dX7_isNode_8 ?_
  refine g_i2l (pc := 9) dX7_isNode_9 rfl ?_
  refine g_invS_r (pc := 10) (As := [_, _, _]) dX7_isNode_10 rfl (r_in_t h1 h2) rfl rfl lk_X7_67 rfl (nb rfl) ⟨nb rfl, nb rfl⟩ rfl ?_
  refine g_ireturn (pc := 13) dX7_isNode_13 rfl rfl ?_
  exact ⟨rfl, rfl⟩
theorem r_isNode_f {v : Int32} (h : Rr M n A) (hv : ¬ inR v n) : EvR l jX7_isNode 1 30 0 0 [.ref 198, .int v] M (.inl (some (.int 0))) M := by
  have hn := h.2.2.2.1
  have h0 := h.2.2.1
  have h2 := not_congr (inR_long (v := v) (k := n - 1) (by omega))
  rw [show n - 1 + 1 = n by omega, ← n_l h] at h2
  have hS := h.1
  refine ev_intro rfl (nb rfl) rfl ?_
  refine g_iload_n (pc := 0) dX7_isNode_0 rfl ?_
  refine g_i2l (pc := 1) dX7_isNode_1 rfl ?_
  refine g_lconst (pc := 2) (v := 0) dX7_isNode_2 rfl ?_
  refine g_aload_n (pc := 3) dX7_isNode_3 rfl trivial ?_
  refine g_invV_r (pc := 4) (As := []) dX7_isNode_4 rfl (r_size h) rfl rfl (shK hS rfl) rfl rfl lk_X7_71 rfl (nb rfl) ⟨nb rfl, nb rfl⟩ rfl ?_
  refine g_iconst (pc := 7) (v := 1) dX7_isNode_7 rfl ?_
  refine g_isub (pc := 8) dX7_isNode_8 ?_
  refine g_i2l (pc := 9) dX7_isNode_9 rfl ?_
  refine g_invS_r (pc := 10) (As := [_, _, _]) dX7_isNode_10 rfl (r_in_f (h2.mpr hv)) rfl rfl lk_X7_67 rfl (nb rfl) ⟨nb rfl, nb rfl⟩ rfl ?_
  refine g_ireturn (pc := 13) dX7_isNode_13 rfl rfl ?_
  exact ⟨rfl, rfl⟩
theorem r_areIn_t {v w : Int32} (h : Rr M n A) (hv : inR v 6) (hw : inR w n) : EvR l jX7_areIn 2 60 0 0 [.ref 198, .int v, .int w] M (.inl (some (.int 1))) M := by
  have hS := h.1
  refine ev_intro rfl (nb rfl) rfl ?_
  refine g_iload_n (pc := 0) dX7_areIn_0 rfl ?_
  refine g_invS_r (pc := 1) (As := [_]) dX7_areIn_1 rfl (r_isSlot_t hv) rfl rfl lk_X7_216 rfl (nb rfl) ⟨nb rfl, nb rfl⟩ rfl ?_
  refine g_if_eq (pc := 4) (tgt := 19) dX7_areIn_4 rfl (fun h4 => absurd h4 ((by decide))) (fun _ => ?_)
  refine g_aload_n (pc := 7) dX7_areIn_7 rfl trivial ?_
  refine g_iload_n (pc := 8) dX7_areIn_8 rfl ?_
  refine g_invV_r (pc := 9) (As := [_]) dX7_areIn_9 rfl (r_isNode_t h hw) rfl rfl (shK hS rfl) rfl rfl lk_X7_220 rfl (nb rfl) ⟨nb rfl, nb rfl⟩ rfl ?_
  refine g_if_eq (pc := 12) (tgt := 19) dX7_areIn_12 rfl (fun h12 => absurd h12 ((by decide))) (fun _ => ?_)
  refine g_iconst (pc := 15) (v := 1) dX7_areIn_15 rfl ?_
  refine g_goto (pc := 16) (tgt := 20) dX7_areIn_16 rfl ?_
  refine g_ireturn (pc := 20) dX7_areIn_20 rfl rfl ?_
  exact ⟨rfl, rfl⟩
theorem r_areIn_f {v w : Int32} (h : Rr M n A) (hv : ¬ (inR v 6 ∧ inR w n)) : EvR l jX7_areIn 2 60 0 0 [.ref 198, .int v, .int w] M (.inl (some (.int 0))) M := by
  have hS := h.1
  refine ev_intro rfl (nb rfl) rfl ?_
  by_cases h1 : inR v 6
  · refine g_iload_n (pc := 0) dX7_areIn_0 rfl ?_
    refine g_invS_r (pc := 1) (As := [_]) dX7_areIn_1 rfl (r_isSlot_t h1) rfl rfl lk_X7_216 rfl (nb rfl) ⟨nb rfl, nb rfl⟩ rfl ?_
    refine g_if_eq (pc := 4) (tgt := 19) dX7_areIn_4 rfl (fun h4 => absurd h4 ((by decide))) (fun _ => ?_)
    refine g_aload_n (pc := 7) dX7_areIn_7 rfl trivial ?_
    refine g_iload_n (pc := 8) dX7_areIn_8 rfl ?_
    refine g_invV_r (pc := 9) (As := [_]) dX7_areIn_9 rfl (r_isNode_f h (fun q => hv ⟨h1, q⟩)) rfl rfl (shK hS rfl) rfl rfl lk_X7_220 rfl (nb rfl) ⟨nb rfl, nb rfl⟩ rfl ?_
    refine g_if_eq (pc := 12) (tgt := 19) dX7_areIn_12 rfl (fun _ => ?_) (fun h12 => absurd (rfl) h12)
    refine g_iconst (pc := 19) (v := 0) dX7_areIn_19 rfl ?_
    refine g_ireturn (pc := 20) dX7_areIn_20 rfl rfl ?_
    exact ⟨rfl, rfl⟩
  · refine g_iload_n (pc := 0) dX7_areIn_0 rfl ?_
    refine g_invS_r (pc := 1) (As := [_]) dX7_areIn_1 rfl (r_isSlot_f h1) rfl rfl lk_X7_216 rfl (nb rfl) ⟨nb rfl, nb rfl⟩ rfl ?_
    refine g_if_eq (pc := 4) (tgt := 19) dX7_areIn_4 rfl (fun _ => ?_) (fun h4 => absurd (rfl) h4)
    refine g_iconst (pc := 19) (v := 0) dX7_areIn_19 rfl ?_
    refine g_ireturn (pc := 20) dX7_areIn_20 rfl rfl ?_
    exact ⟨rfl, rfl⟩
theorem r_isThrown_0 {x : Int32} (hS : Shp M) : EvR l jX7_isThrown 0 0 0 0 [.ref 198, .int 1, .int x] M (.inl (some (.int 0))) (thr M 0) := by
  refine ev_intro rfl (nb rfl) rfl ?_
  refine g_aload_n (pc := 0) dX7_isThrown_0 rfl trivial ?_
  refine g_iload_n (pc := 1) dX7_isThrown_1 rfl ?_
  refine g_if_eq (pc := 2) (tgt := 9) dX7_isThrown_2 rfl (fun h2 => absurd h2 ((by decide))) (fun _ => ?_)
  refine g_iconst (pc := 5) (v := 0) dX7_isThrown_5 rfl ?_
  refine g_goto (pc := 6) (tgt := 10) dX7_isThrown_6 rfl ?_
  refine g_putI (pc := 10) dX7_isThrown_10 fp_X7_60 (shK hS rfl) ⟨rfl, rfl⟩ (fun _ _ _ _ => rfl) ?_
  refine g_iload_n (pc := 13) dX7_isThrown_13 rfl ?_
  refine g_if_ne (pc := 14) (tgt := 21) dX7_isThrown_14 rfl (fun _ => ?_) (fun h14 => absurd ((by decide)) h14)
  refine g_iconst (pc := 21) (v := 0) dX7_isThrown_21 rfl ?_
  refine g_ireturn (pc := 22) dX7_isThrown_22 rfl rfl ?_
  exact ⟨rfl, rfl⟩
theorem r_isThrown_1 {x : Int32} (hS : Shp M) : EvR l jX7_isThrown 0 0 0 0 [.ref 198, .int 0, .int x] M (.inl (some (.int 1))) (thr M x) := by
  refine ev_intro rfl (nb rfl) rfl ?_
  refine g_aload_n (pc := 0) dX7_isThrown_0 rfl trivial ?_
  refine g_iload_n (pc := 1) dX7_isThrown_1 rfl ?_
  refine g_if_eq (pc := 2) (tgt := 9) dX7_isThrown_2 rfl (fun _ => ?_) (fun h2 => absurd (rfl) h2)
  refine g_iload_n (pc := 9) dX7_isThrown_9 rfl ?_
  refine g_putI (pc := 10) dX7_isThrown_10 fp_X7_60 (shK hS rfl) ⟨rfl, rfl⟩ (fun _ _ _ _ => rfl) ?_
  refine g_iload_n (pc := 13) dX7_isThrown_13 rfl ?_
  refine g_if_ne (pc := 14) (tgt := 21) dX7_isThrown_14 rfl (fun h14 => absurd h14 ((fun q => q rfl))) (fun _ => ?_)
  refine g_iconst (pc := 17) (v := 1) dX7_isThrown_17 rfl ?_
  refine g_goto (pc := 18) (tgt := 22) dX7_isThrown_18 rfl ?_
  refine g_ireturn (pc := 22) dX7_isThrown_22 rfl rfl ?_
  exact ⟨rfl, rfl⟩
theorem nI_mul (a b : Nat) : nI a * nI b = nI (a * b) := (Int32.ofNat_mul a b).symm
theorem ixR (s r : Nat) : 28 + 32 * nI s + nI r = nI (28 + 32 * s + r) := by
  rw [show (28 : Int32) = nI 28 from rfl, show (32 : Int32) = nI 32 from rfl, nI_mul, nI_add, nI_add]
theorem ixR' (s r : Nat) : nI 28 + nI 32 * nI s + nI r = nI (28 + 32 * s + r) := by rw [nI_mul, nI_add, nI_add]
theorem r_rowOf {s r : Nat} (h : Rr M n A) (hs : s < 6) (hr : r < n) : EvR l jX7_rowOf 0 0 0 0 [.ref 198, .int (nI s), .int (nI r)] M (.inl (some (.long (uL (A s r))))) M := by
  have hS := h.1
  have hn := h.2.2.2.1
  have e := h.2.2.2.2 s r hs hr
  rw [← e]
  refine ev_intro rfl (nb rfl) rfl ?_
  refine g_aload_n (pc := 0) dX7_rowOf_0 rfl trivial ?_
  refine g_getf (pc := 1) dX7_rowOf_1 fk_X7_9 (shK hS rfl) (fv_arr (shR hS rfl)) ?_
  refine g_bipush (pc := 4) (v := 28) dX7_rowOf_4 rfl ?_
  refine g_bipush (pc := 6) (v := 32) dX7_rowOf_6 rfl ?_
  refine g_iload_n (pc := 8) dX7_rowOf_8 rfl ?_
  refine g_imul (pc := 9) dX7_rowOf_9 ?_
  refine g_iadd (pc := 10) dX7_rowOf_10 ?_
  refine g_iload_n (pc := 11) dX7_rowOf_11 rfl ?_
  refine g_iadd (pc := 12) dX7_rowOf_12 ?_
  refine g_laload (pc := 13) dX7_rowOf_13 (shK hS rfl) (ixR s r) (show 28 + 32 * s + r < 220 by omega) (nl rfl) ?_
  refine g_lreturn (pc := 14) dX7_rowOf_14 rfl ?_
  exact ⟨rfl, rfl⟩
theorem r_one {x : Int32} {c : Nat} (hc : c < 32) : EvR l jX7_one 0 0 0 0 [.long (uL x), .int (nI c)] M (.inl (some (.int (b1 (hb x c))))) M := by
  refine ev_intro rfl (nb rfl) rfl ?_
  refine g_lload_n (pc := 0) dX7_one_0 rfl ?_
  refine g_iload_n (pc := 1) dX7_one_1 rfl ?_
  refine g_lshr (pc := 2) dX7_one_2 rfl ?_
  refine g_lconst (pc := 3) (v := 1) dX7_one_3 rfl ?_
  refine g_land (pc := 4) dX7_one_4 ?_
  rw [uL_one x hc]
  refine g_l2i (pc := 5) dX7_one_5 (uL_b1 _) ?_
  refine g_ireturn (pc := 6) dX7_one_6 rfl rfl ?_
  exact ⟨rfl, rfl⟩
theorem r_all (h : Rr M n A) : EvR l jX7_all 1 20 0 0 [.ref 198] M (.inl (some (.long (uL (lowM n))))) M := by
  rw [← sh_low n h.2.2.2.1]
  have hS := h.1
  refine ev_intro rfl (nb rfl) rfl ?_
  refine g_lconst (pc := 0) (v := 1) dX7_all_0 rfl ?_
  refine g_aload_n (pc := 1) dX7_all_1 rfl trivial ?_
  refine g_invV_r (pc := 2) (As := []) dX7_all_2 rfl (r_size h) rfl rfl (shK hS rfl) rfl rfl lk_X7_71 rfl (nb rfl) ⟨nb rfl, nb rfl⟩ rfl ?_
  refine g_lshl (pc := 5) dX7_all_5 rfl ?_
  refine g_lconst (pc := 6) (v := 1) dX7_all_6 rfl ?_
  refine g_lsub (pc := 7) dX7_all_7 ?_
  refine g_lreturn (pc := 8) dX7_all_8 rfl ?_
  exact ⟨rfl, rfl⟩
/-- the lowest one goes -/
theorem low_clear : ∀ (k : Nat) (m : Nat), 0 < m → m < 2 ^ k → ∃ t, t < k ∧ m.testBit t = true ∧ ∀ i, (m &&& (m - 1)).testBit i = (m.testBit i && !decide (i = t))
  | 0, m, h, h2 => by simp at h2; omega
  | k + 1, m, h, h2 => by
    by_cases ho : m % 2 = 1
    · refine ⟨0, by omega, by rw [Nat.testBit_zero]; simp [ho], fun i => ?_⟩
      rw [Nat.testBit_and]
      cases i with
      | zero => rw [Nat.testBit_zero, Nat.testBit_zero]; simp [show (m - 1) % 2 = 0 by omega]
      | succ i => rw [Nat.testBit_succ, Nat.testBit_succ, show (m - 1) / 2 = m / 2 by omega]; simp
    · rw [Nat.pow_succ] at h2
      obtain ⟨t, a1, a2, a3⟩ := low_clear k (m / 2) (by omega) (by omega)
      refine ⟨t + 1, by omega, by rw [Nat.testBit_succ]; exact a2, fun i => ?_⟩
      cases i with
      | zero => rw [Nat.testBit_and, Nat.testBit_zero, Nat.testBit_zero]; simp [show m % 2 = 0 by omega]
      | succ i =>
        have := a3 i
        rw [Nat.testBit_and] at this ⊢
        rw [Nat.testBit_succ, Nat.testBit_succ, show (m - 1) / 2 = m / 2 - 1 by omega, this]
        simp
theorem uL_nat (x : Int32) : (uL x).toBitVec.toNat = x.toBitVec.toNat := by
  apply Nat.eq_of_testBit_eq
  intro i
  have h := hl_uL x i
  unfold hl hb at h
  rw [← BitVec.testBit_toNat, ← BitVec.testBit_toNat] at h
  rw [h]
  by_cases h2 : i < 32
  · simp [h2]
  · simp only [h2, decide_false, Bool.false_and]
    exact (Nat.testBit_lt_two_pow (Nat.lt_of_lt_of_le x.toBitVec.isLt (Nat.pow_le_pow_right (by decide) (by omega)))).symm
theorem pop_step {y : Int32} (h : y ≠ 0) : ∃ z : Int32, uL y &&& (uL y - 1) = uL z ∧ pcN z + 1 = pcN y := by
  have h0 : 0 < y.toBitVec.toNat := Nat.pos_of_ne_zero (fun q => h (Int32.toBitVec_inj.mp (BitVec.eq_of_toNat_eq q)))
  obtain ⟨t, a1, a2, a3⟩ := low_clear 32 y.toBitVec.toNat h0 y.toBitVec.isLt
  have e : (uL y - 1).toBitVec.toNat = y.toBitVec.toNat - 1 := by
    rw [Int64.toBitVec_sub, BitVec.toNat_sub, uL_nat]
    have := y.toBitVec.isLt
    show (18446744073709551616 - 1 + y.toBitVec.toNat) % 18446744073709551616 = _
    omega
  refine ⟨y &&& (y ^^^ bitI t), hl_ext fun i hi => ?_, ?_⟩
  · have h3 := a3 i
    have h4 : hl (uL y &&& (uL y - 1)) i = (y.toBitVec.toNat &&& (y.toBitVec.toNat - 1)).testBit i := by
      unfold hl
      rw [← BitVec.testBit_toNat, Int64.toBitVec_and, BitVec.toNat_and, e, uL_nat]
    rw [h4, h3, hl_uL, hb_and, hb_xor, hb_bitI a1]
    have h5 : y.toBitVec.toNat.testBit i = hb y i := BitVec.testBit_toNat y.toBitVec
    rw [h5]
    by_cases h6 : i < 32
    · by_cases h7 : i = t
      · subst h7; cases hb y i <;> simp [h6]
      · cases hb y i <;> simp [h6, h7]
    · rw [hb_ge (by omega)]; simp
  · rw [pcN_b, pcN_b]
    have h5 : hb y t = true := (BitVec.testBit_toNat y.toBitVec).symm.trans a2
    have h6 := pcb_clear (hb y) t h5 32
    rw [if_pos a1] at h6
    rw [← h6]
    congr 1
    apply pcb_congr
    intro i hi
    rw [hb_and, hb_xor, hb_bitI a1]
    by_cases h7 : i = t
    · subst h7; cases hb y i <;> simp
    · cases hb y i <;> simp [h7]
theorem r_bitsOf {x : Int32} : EvR l jX7_bitsOf 0 0 0 0 [.long (uL x)] M (.inl (some (.int (bcJ x)))) M := by
  rw [bcJ_n]
  obtain ⟨P, hP⟩ : ∃ P, P = pcN x := ⟨_, rfl⟩
  rw [← hP]
  refine ev_intro rfl (nb rfl) rfl ?_
  refine g_iconst (pc := 0) (v := 0) dX7_bitsOf_0 rfl ?_
  refine g_istore_n (pc := 1) (lv' := [(0, _), (2, _)]) dX7_bitsOf_1 (nl rfl) rfl ?_
  refine g_lload_n (pc := 2) dX7_bitsOf_2 rfl ?_
  refine g_lstore_n (pc := 3) (lv' := [(0, _), (2, _), (3, _)]) dX7_bitsOf_3 (nl rfl) rfl ?_
  refine go_while (pc := 4) (σ := Nat × Int32) (fun s => s.1 + pcN s.2 = P) (fun s => pcN s.2) (fun s => [(2, .int (nI s.1)), (3, .long (uL s.2))]) (fun _ => M) (0, x) ⟨rfl, rfl, trivial⟩ rfl (by simp only; omega) ?_
  rintro ⟨m, y⟩ h1 ih
  simp only at h1 ih
  by_cases h : y = 0
  · have h2 : pcN y = 0 := by rw [h]; decide +kernel
    have h3 : m = P := by omega
    subst h3
    refine g_lload_n (pc := 4) dX7_bitsOf_4 rfl ?_
    refine g_lconst (pc := 5) (v := 0) dX7_bitsOf_5 rfl ?_
    refine g_lcmp (pc := 6) dX7_bitsOf_6 ?_
    refine g_if_eq (pc := 7) (tgt := 22) dX7_bitsOf_7 rfl (fun _ => ?_) (fun h7 => absurd ((lg_cmp_eq _ _).mpr (uL_eq0.mpr h)) h7)
    refine g_iload_n (pc := 22) dX7_bitsOf_22 rfl ?_
    refine g_ireturn (pc := 23) dX7_bitsOf_23 rfl rfl ?_
    exact ⟨rfl, rfl⟩
  · obtain ⟨z, e1, e2⟩ := pop_step h
    refine g_lload_n (pc := 4) dX7_bitsOf_4 rfl ?_
    refine g_lconst (pc := 5) (v := 0) dX7_bitsOf_5 rfl ?_
    refine g_lcmp (pc := 6) dX7_bitsOf_6 ?_
    refine g_if_eq (pc := 7) (tgt := 22) dX7_bitsOf_7 rfl (fun h7 => absurd h7 ((fun q => h (uL_eq0.mp ((lg_cmp_eq _ _).mp q))))) (fun _ => ?_)
    refine g_iinc (pc := 10) (lv' := [(2, _), (3, _)]) dX7_bitsOf_10 rfl (nI_1 _) (nl rfl) rfl ?_
    refine g_lload_n (pc := 13) dX7_bitsOf_13 rfl ?_
    refine g_lload_n (pc := 14) dX7_bitsOf_14 rfl ?_
    refine g_lconst (pc := 15) (v := 1) dX7_bitsOf_15 rfl ?_
    refine g_lsub (pc := 16) dX7_bitsOf_16 ?_
    refine g_land (pc := 17) dX7_bitsOf_17 ?_
    rw [e1]
    refine g_lstore_n (pc := 18) (lv' := [(2, _), (3, _)]) dX7_bitsOf_18 (nl rfl) rfl ?_
    refine g_goto (pc := 19) (tgt := 4) dX7_bitsOf_19 rfl ?_
    exact ih (m + 1, z) (by simp only; omega) (by simp only; omega)
end

