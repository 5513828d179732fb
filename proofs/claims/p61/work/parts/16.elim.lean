/-! elimination: 191, left 192, right 193, pivots 194 -/
section
variable {l : Launch} {M : Mem}
/-- left, right, pivots, how many -/
abbrev ES : Type := (Nat → Int32) × (Nat → Int32) × (Nat → Int32) × Nat
def elMem (M : Mem) (s : ES) : Mem := sI (sI (sI (sI M 192 s.1) 193 s.2.1) 194 s.2.2.1) 191 (fun_set (mI M 191) 3 (nI s.2.2.2))
theorem el_l (s : ES) : mI (elMem M s) 192 = s.1 := by simp [elMem, sI, mI, fun_set]
theorem el_r (s : ES) : mI (elMem M s) 193 = s.2.1 := by simp [elMem, sI, mI, fun_set]
theorem el_p (s : ES) : mI (elMem M s) 194 = s.2.2.1 := by simp [elMem, sI, mI, fun_set]
theorem el_c (s : ES) : mI (elMem M s) 191 3 = nI s.2.2.2 := by simp [elMem, sI, mI, fun_set]
theorem el_ne (s : ES) {i : Nat} (h : i < 191 ∨ 194 < i) : mI (elMem M s) i = mI M i := by
  have h1 : i ≠ 191 := by omega
  have h2 : i ≠ 192 := by omega
  have h3 : i ≠ 193 := by omega
  have h4 : i ≠ 194 := by omega
  simp [elMem, sI, mI, fun_set, h1, h2, h3, h4]
theorem el_S (hS : Shp M) (s : ES) : Shp (elMem M s) := hS
theorem el_setL (s : ES) (f : Nat → Int32) : sI (elMem M s) 192 f = elMem M (f, s.2) := by
  refine mem_extI rfl rfl rfl rfl rfl rfl (fun i => ?_)
  simp only [elMem, sI, mI]
  by_cases h : i = 192
  · subst h; simp [fun_set]
  · simp [fun_set, h]
theorem el_setR (s : ES) (f : Nat → Int32) : sI (elMem M s) 193 f = elMem M (s.1, f, s.2.2) := by
  refine mem_extI rfl rfl rfl rfl rfl rfl (fun i => ?_)
  simp only [elMem, sI, mI]
  by_cases h : i = 193
  · subst h; simp [fun_set]
  · simp [fun_set, h]
theorem el_setP (s : ES) (f : Nat → Int32) : sI (elMem M s) 194 f = elMem M (s.1, s.2.1, f, s.2.2.2) := by
  refine mem_extI rfl rfl rfl rfl rfl rfl (fun i => ?_)
  simp only [elMem, sI, mI]
  by_cases h : i = 194
  · subst h; simp [fun_set]
  · simp [fun_set, h]
theorem el_setC (s : ES) (c : Nat) : sI (elMem M s) 191 (fun_set (mI (elMem M s) 191) 3 (nI c)) = elMem M (s.1, s.2.1, s.2.2.1, c) := by
  refine mem_extI rfl rfl rfl rfl rfl rfl (fun i => ?_)
  simp only [elMem, pI, sI, mI]
  by_cases h : i = 191
  · subst h
    funext j
    by_cases h3 : j = 3 <;> simp [fun_set, h3]
  · simp [fun_set, h]
def rnt (lf : Nat → Int32) (c : Nat) : Nat → Nat → Option Nat
  | 0, _ => none
  | d + 1, r => if hb (lf r) c = true then some r else rnt lf c d (r + 1)
def oI (o : Option Nat) : Int32 := match o with
  | some r => nI r
  | none => -1
theorem rnt_lt (lf : Nat → Int32) (c : Nat) : ∀ (d r q : Nat), rnt lf c d r = some q → r ≤ q ∧ q < r + d
  | 0, r, q, h => by cases h
  | d + 1, r, q, h => by
    unfold rnt at h
    split at h
    · cases h; omega
    · have := rnt_lt lf c d (r + 1) q h; omega
theorem s_rowNotTaken {s : ES} {c n : Nat} (hS : Shp M) (hc : c < 32) (hn : n ≤ 32) (hp : s.2.2.2 ≤ n) : EvR l jX1_rowNotTaken 1 30 0 0 [.ref 191, .int (nI c), .int (nI n)] (elMem M s) (.inl (some (.int (oI (rnt s.1 c (n - s.2.2.2) s.2.2.2))))) (elMem M s) := by
  have hS1 : Shp (elMem M s) := hS
  obtain ⟨S, hs⟩ : ∃ S, S = rnt s.1 c (n - s.2.2.2) s.2.2.2 := ⟨_, rfl⟩
  rw [← hs]
  refine ev_intro rfl (nb rfl) rfl ?_
  refine g_aload_n (pc := 0) dX1_rowNotTaken_0 rfl trivial ?_
  refine g_getf (pc := 1) (v := .int _) dX1_rowNotTaken_1 fk_X1_25 (shK hS1 rfl) (fun _ => congrArg Value.int ((el_c s))) ?_
  refine g_istore_n (pc := 4) (lv' := [(0, _), (1, _), (2, _), (3, _)]) dX1_rowNotTaken_4 (nl rfl) rfl ?_
  refine go_while (pc := 5) (σ := Nat) (fun r => r ≤ n ∧ rnt s.1 c (n - r) r = S) (fun r => n - r) (fun r => [(0, .ref 191), (1, .int (nI c)), (2, .int (nI n)), (3, .int (nI r))]) (fun _ => elMem M s) s.2.2.2 ⟨rfl, rfl, rfl, rfl, trivial⟩ rfl ⟨hp, hs.symm⟩ ?_
  rintro r ⟨h1, h2⟩ ih
  by_cases hr : r < n
  · rw [show n - r = (n - (r + 1)) + 1 by omega, rnt] at h2
    refine g_iload_n (pc := 5) dX1_rowNotTaken_5 rfl ?_
    refine g_iload_n (pc := 6) dX1_rowNotTaken_6 rfl ?_
    refine g_icmp_ge (pc := 7) (tgt := 31) dX1_rowNotTaken_7 rfl (fun h7 => absurd h7 (nI_ge hr (by omega))) (fun _ => ?_)
    refine g_aload_n (pc := 10) dX1_rowNotTaken_10 rfl trivial ?_
    refine g_getf (pc := 11) dX1_rowNotTaken_11 fk_X1_9 (shK hS1 rfl) (fv_arr (shR hS1 rfl)) ?_
    refine g_iload_n (pc := 14) dX1_rowNotTaken_14 rfl ?_
    refine g_iaload (pc := 15) dX1_rowNotTaken_15 (shK hS1 rfl) rfl (by omega) (nl rfl) ?_
    rw [el_l]
    refine g_iload_n (pc := 16) dX1_rowNotTaken_16 rfl ?_
    refine g_invSN_r (pc := 17) (As := [_, _]) dX1_rowNotTaken_17 rfl (s_hasOne hc) rfl rfl lk_X1_47 rfl (nb rfl) ⟨nb rfl, nb rfl⟩ rfl ?_
    refine g_if_eq (pc := 20) (tgt := 25) dX1_rowNotTaken_20 rfl (fun h20 => ?_) (fun h20 => ?_)
    · rw [b1_0] at h20
      rw [if_neg (by rw [h20]; decide)] at h2
      refine g_iinc (pc := 25) (lv' := [(0, _), (1, _), (2, _), (3, _)]) dX1_rowNotTaken_25 rfl (nI_1 _) (nl rfl) rfl ?_
      refine g_goto (pc := 28) (tgt := 5) dX1_rowNotTaken_28 rfl ?_
      exact ih (r + 1) ⟨by omega, h2⟩ (by omega)
    · rw [b1_0, Bool.not_eq_false] at h20
      rw [if_pos h20] at h2
      refine g_iload_n (pc := 23) dX1_rowNotTaken_23 rfl ?_
      refine g_ireturn (pc := 24) dX1_rowNotTaken_24 rfl rfl ?_
      exact ⟨by rw [← h2]; rfl, rfl⟩
  · have hr' : r = n := by omega
    subst hr'
    refine g_iload_n (pc := 5) dX1_rowNotTaken_5 rfl ?_
    refine g_iload_n (pc := 6) dX1_rowNotTaken_6 rfl ?_
    refine g_icmp_ge (pc := 7) (tgt := 31) dX1_rowNotTaken_7 rfl (fun _ => ?_) (fun h7 => absurd (nI_le (Nat.le_refl _) (by omega)) h7)
    refine g_iconst (pc := 31) (v := (-1)) dX1_rowNotTaken_31 rfl ?_
    refine g_ireturn (pc := 32) dX1_rowNotTaken_32 rfl rfl ?_
    exact ⟨by rw [← h2, Nat.sub_self]; rfl, rfl⟩
def swp (f : Nat → Int32) (a b : Nat) : Nat → Int32 := fun_set (fun_set f a (f b)) b (f a)
theorem s_swapRows {s : ES} {a b : Nat} (hS : Shp M) (ha : a < 32) (hb9 : b < 32) : EvR l jX1_swapRows 0 0 0 0 [.ref 191, .int (nI a), .int (nI b)] (elMem M s) (.inl none) (elMem M (swp s.1 a b, swp s.2.1 a b, s.2.2)) := by
  have hS1 : Shp (elMem M s) := hS
  refine ev_intro rfl (nb rfl) rfl ?_
  refine g_aload_n (pc := 0) dX1_swapRows_0 rfl trivial ?_
  refine g_getf (pc := 1) dX1_swapRows_1 fk_X1_9 (shK hS1 rfl) (fv_arr (shR hS1 rfl)) ?_
  refine g_iload_n (pc := 4) dX1_swapRows_4 rfl ?_
  refine g_iaload (pc := 5) dX1_swapRows_5 (shK hS1 rfl) rfl (by omega) (nl rfl) ?_
  rw [el_l]
  refine g_istore_n (pc := 6) (lv' := [(0, _), (1, _), (2, _), (3, _)]) dX1_swapRows_6 (nl rfl) rfl ?_
  refine g_aload_n (pc := 7) dX1_swapRows_7 rfl trivial ?_
  refine g_getf (pc := 8) dX1_swapRows_8 fk_X1_9 (shK hS1 rfl) (fv_arr (shR hS1 rfl)) ?_
  refine g_iload_n (pc := 11) dX1_swapRows_11 rfl ?_
  refine g_aload_n (pc := 12) dX1_swapRows_12 rfl trivial ?_
  refine g_getf (pc := 13) dX1_swapRows_13 fk_X1_9 (shK hS1 rfl) (fv_arr (shR hS1 rfl)) ?_
  refine g_iload_n (pc := 16) dX1_swapRows_16 rfl ?_
  refine g_iaload (pc := 17) dX1_swapRows_17 (shK hS1 rfl) rfl (by omega) (nl rfl) ?_
  rw [el_l]
  refine g_iastore (pc := 18) dX1_swapRows_18 (shK hS1 rfl) rfl (by omega) (nl rfl) ?_
  rw [el_l, el_setL]
  refine g_aload_n (pc := 19) dX1_swapRows_19 rfl trivial ?_
  refine g_getf (pc := 20) dX1_swapRows_20 fk_X1_9 (shK hS1 rfl) (fv_arr (shR hS1 rfl)) ?_
  refine g_iload_n (pc := 23) dX1_swapRows_23 rfl ?_
  refine g_iload_n (pc := 24) dX1_swapRows_24 rfl ?_
  refine g_iastore (pc := 25) dX1_swapRows_25 (shK hS1 rfl) rfl (by omega) (nl rfl) ?_
  rw [el_l, el_setL]
  refine g_aload_n (pc := 26) dX1_swapRows_26 rfl trivial ?_
  refine g_getf (pc := 27) dX1_swapRows_27 fk_X1_15 (shK hS1 rfl) (fv_arr (shR hS1 rfl)) ?_
  refine g_iload_n (pc := 30) dX1_swapRows_30 rfl ?_
  refine g_iaload (pc := 31) dX1_swapRows_31 (shK hS1 rfl) rfl (by omega) (nl rfl) ?_
  rw [el_r]
  refine g_istore (pc := 32) (lv' := [(0, _), (1, _), (2, _), (3, _), (4, _)]) dX1_swapRows_32 (nl rfl) rfl ?_
  refine g_aload_n (pc := 34) dX1_swapRows_34 rfl trivial ?_
  refine g_getf (pc := 35) dX1_swapRows_35 fk_X1_15 (shK hS1 rfl) (fv_arr (shR hS1 rfl)) ?_
  refine g_iload_n (pc := 38) dX1_swapRows_38 rfl ?_
  refine g_aload_n (pc := 39) dX1_swapRows_39 rfl trivial ?_
  refine g_getf (pc := 40) dX1_swapRows_40 fk_X1_15 (shK hS1 rfl) (fv_arr (shR hS1 rfl)) ?_
  refine g_iload_n (pc := 43) dX1_swapRows_43 rfl ?_
  refine g_iaload (pc := 44) dX1_swapRows_44 (shK hS1 rfl) rfl (by omega) (nl rfl) ?_
  rw [el_r]
  refine g_iastore (pc := 45) dX1_swapRows_45 (shK hS1 rfl) rfl (by omega) (nl rfl) ?_
  rw [el_r, el_setR]
  refine g_aload_n (pc := 46) dX1_swapRows_46 rfl trivial ?_
  refine g_getf (pc := 47) dX1_swapRows_47 fk_X1_15 (shK hS1 rfl) (fv_arr (shR hS1 rfl)) ?_
  refine g_iload_n (pc := 50) dX1_swapRows_50 rfl ?_
  refine g_iload (pc := 51) dX1_swapRows_51 rfl ?_
  refine g_iastore (pc := 53) dX1_swapRows_53 (shK hS1 rfl) rfl (by omega) (nl rfl) ?_
  rw [el_r, el_setR]
  refine g_return (pc := 54) dX1_swapRows_54 rfl ?_
  exact ⟨rfl, rfl⟩
def clG (t c : Nat) (lf rt : Nat → Int32) : Nat → (Nat → Int32) × (Nat → Int32)
  | 0 => (lf, rt)
  | i + 1 => if i ≠ t ∧ hb ((clG t c lf rt i).1 i) c = true then (fun_set (clG t c lf rt i).1 i ((clG t c lf rt i).1 i ^^^ (clG t c lf rt i).1 t), fun_set (clG t c lf rt i).2 i ((clG t c lf rt i).2 i ^^^ (clG t c lf rt i).2 t)) else clG t c lf rt i
theorem s_clearOthers {s : ES} {t c n : Nat} (hS : Shp M) (ht : t < 32) (hc : c < 32) (hn : n ≤ 32) : EvR l jX1_clearOthers 1 30 0 0 [.ref 191, .int (nI t), .int (nI c), .int (nI n)] (elMem M s) (.inl none) (elMem M ((clG t c s.1 s.2.1 n).1, (clG t c s.1 s.2.1 n).2, s.2.2)) := by
  refine ev_intro rfl (nb rfl) rfl ?_
  refine g_iconst (pc := 0) (v := 0) dX1_clearOthers_0 rfl ?_
  refine g_istore (pc := 1) (lv' := [(0, _), (1, _), (2, _), (3, _), (4, _)]) dX1_clearOthers_1 (nl rfl) rfl ?_
  refine go_loop (pc := 3) n (fun i => [(0, .ref 191), (1, .int (nI t)), (2, .int (nI c)), (3, .int (nI n)), (4, .int (nI i))]) (fun i => elMem M ((clG t c s.1 s.2.1 i).1, (clG t c s.1 s.2.1 i).2, s.2.2)) ⟨rfl, rfl, rfl, rfl, rfl, trivial⟩ rfl ?_ ?_
  · intro i hi ih
    have hS1 : Shp (elMem M ((clG t c s.1 s.2.1 i).1, (clG t c s.1 s.2.1 i).2, s.2.2)) := hS
    rw [clG] at ih
    refine g_iload (pc := 3) dX1_clearOthers_3 rfl ?_
    refine g_iload_n (pc := 5) dX1_clearOthers_5 rfl ?_
    refine g_icmp_ge (pc := 6) (tgt := 67) dX1_clearOthers_6 rfl (fun h6 => absurd h6 (nI_ge hi (by omega))) (fun _ => ?_)
    refine g_iload (pc := 9) dX1_clearOthers_9 rfl ?_
    refine g_iload_n (pc := 11) dX1_clearOthers_11 rfl ?_
    refine g_icmp_eq (pc := 12) (tgt := 61) dX1_clearOthers_12 rfl (fun h12 => ?_) (fun h12 => ?_)
    · rw [if_neg (fun h => h.1 ((nI_eq (by omega) (by omega)).mp h12))] at ih
      refine g_iinc (pc := 61) (lv' := [(0, _), (1, _), (2, _), (3, _), (4, _)]) dX1_clearOthers_61 rfl (nI_1 _) (nl rfl) rfl ?_
      refine g_goto (pc := 64) (tgt := 3) dX1_clearOthers_64 rfl ?_
      exact ih
    · have h12' : i ≠ t := fun h => h12 (by rw [h])
      refine g_aload_n (pc := 15) dX1_clearOthers_15 rfl trivial ?_
      refine g_getf (pc := 16) dX1_clearOthers_16 fk_X1_9 (shK hS1 rfl) (fv_arr (shR hS1 rfl)) ?_
      refine g_iload (pc := 19) dX1_clearOthers_19 rfl ?_
      refine g_iaload (pc := 21) dX1_clearOthers_21 (shK hS1 rfl) rfl (by omega) (nl rfl) ?_
      rw [el_l]
      refine g_iload_n (pc := 22) dX1_clearOthers_22 rfl ?_
      refine g_invSN_r (pc := 23) (As := [_, _]) dX1_clearOthers_23 rfl (s_hasOne hc) rfl rfl lk_X1_47 rfl (nb rfl) ⟨nb rfl, nb rfl⟩ rfl ?_
      refine g_if_eq (pc := 26) (tgt := 61) dX1_clearOthers_26 rfl (fun h26 => ?_) (fun h26 => ?_)
      · rw [b1_0] at h26
        rw [if_neg (fun h => absurd (h26.symm.trans h.2) (by decide))] at ih
        refine g_iinc (pc := 61) (lv' := [(0, _), (1, _), (2, _), (3, _), (4, _)]) dX1_clearOthers_61 rfl (nI_1 _) (nl rfl) rfl ?_
        refine g_goto (pc := 64) (tgt := 3) dX1_clearOthers_64 rfl ?_
        exact ih
      · rw [b1_0, Bool.not_eq_false] at h26
        rw [if_pos ⟨h12', h26⟩] at ih
        refine g_aload_n (pc := 29) dX1_clearOthers_29 rfl trivial ?_
        refine g_getf (pc := 30) dX1_clearOthers_30 fk_X1_9 (shK hS1 rfl) (fv_arr (shR hS1 rfl)) ?_
        refine g_iload (pc := 33) dX1_clearOthers_33 rfl ?_
        refine g_dup2_11 (pc := 35) dX1_clearOthers_35 rfl rfl ?_
        refine g_iaload (pc := 36) dX1_clearOthers_36 (shK hS1 rfl) rfl (by omega) (nl rfl) ?_
        rw [el_l]
        refine g_aload_n (pc := 37) dX1_clearOthers_37 rfl trivial ?_
        refine g_getf (pc := 38) dX1_clearOthers_38 fk_X1_9 (shK hS1 rfl) (fv_arr (shR hS1 rfl)) ?_
        refine g_iload_n (pc := 41) dX1_clearOthers_41 rfl ?_
        refine g_iaload (pc := 42) dX1_clearOthers_42 (shK hS1 rfl) rfl (by omega) (nl rfl) ?_
        rw [el_l]
        refine g_ixor (pc := 43) dX1_clearOthers_43 ?_
        refine g_iastore (pc := 44) dX1_clearOthers_44 (shK hS1 rfl) rfl (by omega) (nl rfl) ?_
        rw [el_l, el_setL]
        refine g_aload_n (pc := 45) dX1_clearOthers_45 rfl trivial ?_
        refine g_getf (pc := 46) dX1_clearOthers_46 fk_X1_15 (shK hS1 rfl) (fv_arr (shR hS1 rfl)) ?_
        refine g_iload (pc := 49) dX1_clearOthers_49 rfl ?_
        refine g_dup2_11 (pc := 51) dX1_clearOthers_51 rfl rfl ?_
        refine g_iaload (pc := 52) dX1_clearOthers_52 (shK hS1 rfl) rfl (by omega) (nl rfl) ?_
        rw [el_r]
        refine g_aload_n (pc := 53) dX1_clearOthers_53 rfl trivial ?_
        refine g_getf (pc := 54) dX1_clearOthers_54 fk_X1_15 (shK hS1 rfl) (fv_arr (shR hS1 rfl)) ?_
        refine g_iload_n (pc := 57) dX1_clearOthers_57 rfl ?_
        refine g_iaload (pc := 58) dX1_clearOthers_58 (shK hS1 rfl) rfl (by omega) (nl rfl) ?_
        rw [el_r]
        refine g_ixor (pc := 59) dX1_clearOthers_59 ?_
        refine g_iastore (pc := 60) dX1_clearOthers_60 (shK hS1 rfl) rfl (by omega) (nl rfl) ?_
        rw [el_r, el_setR]
        refine g_iinc (pc := 61) (lv' := [(0, _), (1, _), (2, _), (3, _), (4, _)]) dX1_clearOthers_61 rfl (nI_1 _) (nl rfl) rfl ?_
        refine g_goto (pc := 64) (tgt := 3) dX1_clearOthers_64 rfl ?_
        exact ih
  · have hS1 : Shp (elMem M ((clG t c s.1 s.2.1 n).1, (clG t c s.1 s.2.1 n).2, s.2.2)) := hS
    refine g_iload (pc := 3) dX1_clearOthers_3 rfl ?_
    refine g_iload_n (pc := 5) dX1_clearOthers_5 rfl ?_
    refine g_icmp_ge (pc := 6) (tgt := 67) dX1_clearOthers_6 rfl (fun _ => ?_) (fun h6 => absurd (nI_le (Nat.le_refl _) (by omega)) h6)
    refine g_return (pc := 67) dX1_clearOthers_67 rfl ?_
    exact ⟨rfl, rfl⟩
def elStep (n c : Nat) (s : ES) : ES := match rnt s.1 c (n - s.2.2.2) s.2.2.2 with
  | none => s
  | some r => ((clG s.2.2.2 c (swp s.1 r s.2.2.2) (swp s.2.1 r s.2.2.2) n).1, (clG s.2.2.2 c (swp s.1 r s.2.2.2) (swp s.2.1 r s.2.2.2) n).2, fun_set s.2.2.1 s.2.2.2 (nI c), s.2.2.2 + 1)
def elIt (n : Nat) (s : ES) : Nat → ES
  | 0 => s
  | c + 1 => elStep n c (elIt n s c)
theorem elIt_c (n : Nat) (s : ES) : ∀ c, (elIt n s c).2.2.2 ≤ s.2.2.2 + c
  | 0 => Nat.le_refl _
  | c + 1 => by
    have h := elIt_c n s c
    unfold elIt elStep
    split
    · omega
    · simp only; omega
/-- all of it, from rows and a right side -/
def elAll (M : Mem) (n : Nat) (rows rt : Nat → Int32) : ES := elIt n (wr (mI M 192) rows n, rt, mI M 194, 0) n
theorem s_eliminateAll {r n : Nat} {rt : Nat → Int32} (hS : Shp M) (hk : (mK M)[r]? = some (kI 32)) (hr : r < 191 ∨ 194 < r) (hn : n ≤ 32) : EvR l jX1_eliminateAll 2 60 0 0 [.ref 191, .ref r, .int (nI n)] (sI M 193 rt) (.inl none) (elMem M (elAll M n (mI M r) rt)) := by
  have hSr : Shp (sI M 193 rt) := hS
  have hk2 : (mK (sI M 193 rt))[r]? = some (kI 32) := hk
  refine ev_intro rfl (nb rfl) rfl ?_
  refine g_aload_n (pc := 0) dX1_eliminateAll_0 rfl trivial ?_
  refine g_iconst (pc := 1) (v := 0) dX1_eliminateAll_1 rfl ?_
  refine g_aload_n (pc := 2) dX1_eliminateAll_2 rfl trivial ?_
  refine g_getf (pc := 3) dX1_eliminateAll_3 fk_X1_9 (shK hSr rfl) (fv_arr (shR hSr rfl)) ?_
  refine g_iconst (pc := 6) (v := 0) dX1_eliminateAll_6 rfl ?_
  refine g_iload_n (pc := 7) dX1_eliminateAll_7 rfl ?_
  refine g_copyI (pc := 8) (sp := 0) (dp := 0) dX1_eliminateAll_8 wd_960 wd_510 wd_509 wd_108 hk2 (shK hSr rfl) rfl rfl rfl (by omega) (by omega) ⟨by decide, by decide⟩ (nb rfl) (nb rfl) ?_
  rw [cpy_wr, sI_ne (show r ≠ 193 by omega), sI_ne (show 192 ≠ 193 by decide)]
  refine g_aload_n (pc := 11) dX1_eliminateAll_11 rfl trivial ?_
  refine g_iconst (pc := 12) (v := 0) dX1_eliminateAll_12 rfl ?_
  refine g_putI (pc := 13) dX1_eliminateAll_13 fp_X1_25 (shK hSr rfl) ⟨rfl, rfl⟩ (fun _ _ _ _ => rfl) ?_
  refine g_iconst (pc := 16) (v := 0) dX1_eliminateAll_16 rfl ?_
  refine g_istore_n (pc := 17) (lv' := [(0, _), (1, _), (2, _), (3, _)]) dX1_eliminateAll_17 (nl rfl) rfl ?_
  refine go_loop (pc := 18) n (fun i => [(0, .ref 191), (1, .ref r), (2, .int (nI n)), (3, .int (nI i))]) (fun i => elMem M (elIt n (wr (mI M 192) (mI M r) n, rt, mI M 194, 0) i)) ⟨rfl, rfl, rfl, rfl, trivial⟩ ?_ ?_ ?_
  · refine mem_extI rfl rfl rfl rfl rfl rfl (fun i => ?_)
    simp only [elIt, elMem, pI, sI, mI]
    by_cases h1 : i = 191
    · subst h1
      funext j
      by_cases h3 : j = 3
      · subst h3; simp [fun_set, nI_0]
      · simp [fun_set, h3]
    · by_cases h2 : i = 192
      · subst h2; simp [fun_set]
      · by_cases h3 : i = 193
        · subst h3; simp [fun_set]
        · by_cases h4 : i = 194
          · subst h4; simp [fun_set]
          · simp [fun_set, h1, h2, h3, h4]
  · intro i hi ih
    have hc := elIt_c n (wr (mI M 192) (mI M r) n, rt, mI M 194, 0) i
    rw [elIt] at ih
    generalize elIt n (wr (mI M 192) (mI M r) n, rt, mI M 194, 0) i = s at ih hc ⊢
    simp only [Nat.zero_add] at hc
    have hS1 : Shp (elMem M s) := hS
    unfold elStep at ih
    have hq := rnt_lt s.1 i (n - s.2.2.2) s.2.2.2
    cases hr9 : rnt s.1 i (n - s.2.2.2) s.2.2.2 with
    | none =>
      rw [hr9] at ih
      refine g_iload_n (pc := 18) dX1_eliminateAll_18 rfl ?_
      refine g_iload_n (pc := 19) dX1_eliminateAll_19 rfl ?_
      refine g_icmp_ge (pc := 20) (tgt := 83) dX1_eliminateAll_20 rfl (fun h20 => absurd h20 (nI_ge hi (by omega))) (fun _ => ?_)
      refine g_aload_n (pc := 23) dX1_eliminateAll_23 rfl trivial ?_
      refine g_iload_n (pc := 24) dX1_eliminateAll_24 rfl ?_
      refine g_iload_n (pc := 25) dX1_eliminateAll_25 rfl ?_
      refine g_invV_r (pc := 26) (As := [_, _]) dX1_eliminateAll_26 rfl ((by have h8 := s_rowNotTaken (l := l) (M := M) (s := s) (c := i) (n := n) hS (by omega) hn (by omega); rw [hr9] at h8; exact h8 : EvR l jX1_rowNotTaken 1 30 0 0 [.ref 191, .int (nI i), .int (nI n)] (elMem M s) (.inl (some (.int (-1)))) (elMem M s))) rfl rfl (shK hS1 rfl) rfl rfl lk_X1_35 rfl (nb rfl) ⟨nb rfl, nb rfl⟩ rfl ?_
      refine g_istore (pc := 29) (lv' := [(0, _), (1, _), (2, _), (3, _), (4, _)]) dX1_eliminateAll_29 (nl rfl) rfl ?_
      refine g_iload (pc := 31) dX1_eliminateAll_31 rfl ?_
      refine g_iconst (pc := 33) (v := (-1)) dX1_eliminateAll_33 rfl ?_
      refine g_icmp_eq (pc := 34) (tgt := 77) dX1_eliminateAll_34 rfl (fun _ => ?_) (fun h34 => absurd (rfl) h34)
      refine g_iinc (pc := 77) (lv' := [(0, _), (1, _), (2, _), (3, _), (4, _)]) dX1_eliminateAll_77 rfl (nI_1 _) (nl rfl) rfl ?_
      refine g_goto (pc := 80) (tgt := 18) dX1_eliminateAll_80 rfl ?_
      exact g_sub (lv' := [(0, _), (1, _), (2, _), (3, _)]) ⟨rfl, rfl, rfl, rfl, trivial⟩ ih
    | some q =>
      rw [hr9] at ih
      have hq' := hq q hr9
      refine g_iload_n (pc := 18) dX1_eliminateAll_18 rfl ?_
      refine g_iload_n (pc := 19) dX1_eliminateAll_19 rfl ?_
      refine g_icmp_ge (pc := 20) (tgt := 83) dX1_eliminateAll_20 rfl (fun h20 => absurd h20 (nI_ge hi (by omega))) (fun _ => ?_)
      refine g_aload_n (pc := 23) dX1_eliminateAll_23 rfl trivial ?_
      refine g_iload_n (pc := 24) dX1_eliminateAll_24 rfl ?_
      refine g_iload_n (pc := 25) dX1_eliminateAll_25 rfl ?_
      refine g_invV_r (pc := 26) (As := [_, _]) dX1_eliminateAll_26 rfl ((by have h8 := s_rowNotTaken (l := l) (M := M) (s := s) (c := i) (n := n) hS (by omega) hn (by omega); rw [hr9] at h8; exact h8 : EvR l jX1_rowNotTaken 1 30 0 0 [.ref 191, .int (nI i), .int (nI n)] (elMem M s) (.inl (some (.int (nI q)))) (elMem M s))) rfl rfl (shK hS1 rfl) rfl rfl lk_X1_35 rfl (nb rfl) ⟨nb rfl, nb rfl⟩ rfl ?_
      refine g_istore (pc := 29) (lv' := [(0, _), (1, _), (2, _), (3, _), (4, _)]) dX1_eliminateAll_29 (nl rfl) rfl ?_
      refine g_iload (pc := 31) dX1_eliminateAll_31 rfl ?_
      refine g_iconst (pc := 33) (v := (-1)) dX1_eliminateAll_33 rfl ?_
      refine g_icmp_eq (pc := 34) (tgt := 77) dX1_eliminateAll_34 rfl (fun h34 => absurd h34 (fun h => nI_pos (n := q) (by omega) (by rw [h]; decide))) (fun _ => ?_)
      refine g_aload_n (pc := 37) dX1_eliminateAll_37 rfl trivial ?_
      refine g_iload (pc := 38) dX1_eliminateAll_38 rfl ?_
      refine g_aload_n (pc := 40) dX1_eliminateAll_40 rfl trivial ?_
      refine g_getf (pc := 41) (v := .int _) dX1_eliminateAll_41 fk_X1_25 (shK hS1 rfl) (fun _ => congrArg Value.int ((el_c s))) ?_
      refine g_invV_r (pc := 44) (As := [_, _]) dX1_eliminateAll_44 rfl (s_swapRows hS (by omega) (by omega)) rfl rfl (shK hS1 rfl) rfl rfl lk_X1_39 rfl (nb rfl) ⟨nb rfl, nb rfl⟩ rfl ?_
      refine g_aload_n (pc := 47) dX1_eliminateAll_47 rfl trivial ?_
      refine g_aload_n (pc := 48) dX1_eliminateAll_48 rfl trivial ?_
      refine g_getf (pc := 49) (v := .int _) dX1_eliminateAll_49 fk_X1_25 (shK hS1 rfl) (fun _ => congrArg Value.int ((el_c _))) ?_
      refine g_iload_n (pc := 52) dX1_eliminateAll_52 rfl ?_
      refine g_iload_n (pc := 53) dX1_eliminateAll_53 rfl ?_
      refine g_invV_r (pc := 54) (As := [_, _, _]) dX1_eliminateAll_54 rfl (s_clearOthers hS (show s.2.2.2 < 32 by omega) (by omega) hn) rfl rfl (shK hS1 rfl) rfl rfl lk_X1_43 rfl (nb rfl) ⟨nb rfl, nb rfl⟩ rfl ?_
      refine g_aload_n (pc := 57) dX1_eliminateAll_57 rfl trivial ?_
      refine g_getf (pc := 58) dX1_eliminateAll_58 fk_X1_18 (shK hS1 rfl) (fv_arr (shR hS1 rfl)) ?_
      refine g_aload_n (pc := 61) dX1_eliminateAll_61 rfl trivial ?_
      refine g_getf (pc := 62) (v := .int _) dX1_eliminateAll_62 fk_X1_25 (shK hS1 rfl) (fun _ => congrArg Value.int ((el_c _))) ?_
      refine g_iload_n (pc := 65) dX1_eliminateAll_65 rfl ?_
      refine g_iastore (pc := 66) dX1_eliminateAll_66 (shK hS1 rfl) rfl (by omega : s.2.2.2 < 32) (nl rfl) ?_
      rw [el_p, el_setP]
      refine g_aload_n (pc := 67) dX1_eliminateAll_67 rfl trivial ?_
      refine g_dup (pc := 68) dX1_eliminateAll_68 rfl ?_
      refine g_getf (pc := 69) (v := .int _) dX1_eliminateAll_69 fk_X1_25 (shK hS1 rfl) (fun _ => congrArg Value.int ((el_c _))) ?_
      refine g_iconst (pc := 72) (v := 1) dX1_eliminateAll_72 rfl ?_
      refine g_iadd (pc := 73) dX1_eliminateAll_73 ?_
      rw [nI_1]
      refine g_putI (pc := 74) dX1_eliminateAll_74 fp_X1_25 (shK hS1 rfl) ⟨rfl, rfl⟩ (fun _ _ _ _ => rfl) ?_
      rw [el_setC]
      refine g_iinc (pc := 77) (lv' := [(0, _), (1, _), (2, _), (3, _), (4, _)]) dX1_eliminateAll_77 rfl (nI_1 _) (nl rfl) rfl ?_
      refine g_goto (pc := 80) (tgt := 18) dX1_eliminateAll_80 rfl ?_
      exact g_sub (lv' := [(0, _), (1, _), (2, _), (3, _)]) ⟨rfl, rfl, rfl, rfl, trivial⟩ ih
  · refine g_iload_n (pc := 18) dX1_eliminateAll_18 rfl ?_
    refine g_iload_n (pc := 19) dX1_eliminateAll_19 rfl ?_
    refine g_icmp_ge (pc := 20) (tgt := 83) dX1_eliminateAll_20 rfl (fun _ => ?_) (fun h20 => absurd (nI_le (Nat.le_refl _) (by omega)) h20)
    refine g_return (pc := 83) dX1_eliminateAll_83 rfl ?_
    exact ⟨rfl, rfl⟩
theorem s_eliminateBesideUnit {r n : Nat} (hS : Shp M) (hk : (mK M)[r]? = some (kI 32)) (hr : r < 191 ∨ 194 < r) (hn : n ≤ 32) : EvR l jX1_eliminateBesideUnit 3 90 0 0 [.ref 191, .ref r, .int (nI n)] M (.inl none) (elMem M (elAll M n (mI M r) (wr (mI M 193) bitI n))) := by
  refine ev_intro rfl (nb rfl) rfl ?_
  refine g_iconst (pc := 0) (v := 0) dX1_eliminateBesideUnit_0 rfl ?_
  refine g_istore_n (pc := 1) (lv' := [(0, _), (1, _), (2, _), (3, _)]) dX1_eliminateBesideUnit_1 (nl rfl) rfl ?_
  refine go_loop (pc := 2) n (fun i => [(0, .ref 191), (1, .ref r), (2, .int (nI n)), (3, .int (nI i))]) (fun i => sI M 193 (wr (mI M 193) bitI i)) ⟨rfl, rfl, rfl, rfl, trivial⟩ (sI_eq (wr_0 _ _)) ?_ ?_
  · intro i hi ih
    refine g_iload_n (pc := 2) dX1_eliminateBesideUnit_2 rfl ?_
    refine g_iload_n (pc := 3) dX1_eliminateBesideUnit_3 rfl ?_
    refine g_icmp_ge (pc := 4) (tgt := 22) dX1_eliminateBesideUnit_4 rfl (fun h4 => absurd h4 (nI_ge hi (by omega))) (fun _ => ?_)
    refine g_aload_n (pc := 7) dX1_eliminateBesideUnit_7 rfl trivial ?_
    refine g_getf (pc := 8) dX1_eliminateBesideUnit_8 fk_X1_15 (shK hS rfl) (fv_arr (shR hS rfl)) ?_
    refine g_iload_n (pc := 11) dX1_eliminateBesideUnit_11 rfl ?_
    refine g_iconst (pc := 12) (v := 1) dX1_eliminateBesideUnit_12 rfl ?_
    refine g_iload_n (pc := 13) dX1_eliminateBesideUnit_13 rfl ?_
    refine g_ishl (pc := 14) dX1_eliminateBesideUnit_14 ?_
    refine g_iastore (pc := 15) dX1_eliminateBesideUnit_15 (shK hS rfl) rfl (by omega) (nl rfl) ?_
    refine g_iinc (pc := 16) (lv' := [(0, _), (1, _), (2, _), (3, _)]) dX1_eliminateBesideUnit_16 rfl (nI_1 _) (nl rfl) rfl ?_
    refine g_goto (pc := 19) (tgt := 2) dX1_eliminateBesideUnit_19 rfl ?_
    exact go_cast (sI_st (wr_s _ bitI i)) ih
  · refine g_iload_n (pc := 2) dX1_eliminateBesideUnit_2 rfl ?_
    refine g_iload_n (pc := 3) dX1_eliminateBesideUnit_3 rfl ?_
    refine g_icmp_ge (pc := 4) (tgt := 22) dX1_eliminateBesideUnit_4 rfl (fun _ => ?_) (fun h4 => absurd (nI_le (Nat.le_refl _) (by omega)) h4)
    refine g_aload_n (pc := 22) dX1_eliminateBesideUnit_22 rfl trivial ?_
    refine g_aload_n (pc := 23) dX1_eliminateBesideUnit_23 rfl trivial ?_
    refine g_iload_n (pc := 24) dX1_eliminateBesideUnit_24 rfl ?_
    refine g_invV_r (pc := 25) (As := [_, _]) dX1_eliminateBesideUnit_25 rfl (s_eliminateAll hS hk hr hn) rfl rfl (shK hS rfl) rfl rfl lk_X1_21 rfl (nb rfl) ⟨nb rfl, nb rfl⟩ rfl ?_
    refine g_return (pc := 28) dX1_eliminateBesideUnit_28 rfl ?_
    exact ⟨rfl, rfl⟩
def solvB (s : ES) : Nat → Nat → Bool
  | 0, _ => true
  | d + 1, r => if s.2.1 r = 0 then solvB s d (r + 1) else false
def solF (s : ES) : Nat → Int32
  | 0 => 0
  | i + 1 => solF s i ||| s.2.1 i <<< (s.2.2.1 i &&& 31)
end
