-- 26.rc
section
/-! the lowest one; the reference: queries on closures -/
theorem bcJ_low : ∀ t, t ≤ 32 → bcJ (lowM t) = nI t := by decide +kernel
theorem bitI_m1 : ∀ t, t < 32 → bitI t - 1 = lowM t := by decide +kernel
theorem lowN_at {x : Int32} {t : Nat} (ht : t < 32) (h : hb x t = true) (h2 : ∀ i, i < t → hb x i = false) : lowN x = t := by
  have e : x &&& -x = bitI t := hb_ext fun i hi => by
    rw [hb_and, hb_bitI ht]
    have h3 : hb (-x) i = Bool.xor (hb x i) (decide (∃ j, j < i ∧ hb x j = true)) := by
      unfold hb
      rw [Int32.toBitVec_neg, BitVec.getLsbD_neg]
      simp [hi]
    rw [h3]
    by_cases h4 : i = t
    · subst h4
      have h5 : ¬ ∃ j, j < i ∧ hb x j = true := fun ⟨j, a, b⟩ => by rw [h2 j a] at b; cases b
      rw [h]; simp [h5]
    · by_cases h5 : i < t
      · rw [h2 i h5]; simp; omega
      · have h6 : ∃ j, j < i ∧ hb x j = true := ⟨t, by omega, h⟩
        simp [h6, h4]
  unfold lowN lowI
  rw [e, bitI_m1 t ht, bcJ_low t (by omega)]
  have : ∀ t, t < 32 → (nI t &&& 31).toNatClampNeg = t := by decide +kernel
  exact this t ht
theorem low_ex {x : Int32} (h : x ≠ 0) : hb x (lowN x) = true ∧ ∀ i, i < lowN x → hb x i = false := by
  have h1 : ∃ t, t < 32 ∧ hb x t = true := by
    apply Classical.byContradiction
    intro h2
    refine h (hb_ext fun i hi => ?_)
    rw [hb_0]
    cases h3 : hb x i with
    | false => rfl
    | true => exact absurd ⟨i, hi, h3⟩ h2
  have key : ∀ d t, t ≤ d → t < 32 → hb x t = true → ∃ t', t' < 32 ∧ hb x t' = true ∧ ∀ i, i < t' → hb x i = false := by
    intro d
    induction d with
    | zero => intro t h2 h3 h4; exact ⟨t, h3, h4, fun i hi => by omega⟩
    | succ d ih =>
      intro t h2 h3 h4
      by_cases h5 : ∃ j, j < t ∧ hb x j = true
      · obtain ⟨j, a, b⟩ := h5
        exact ih j (by omega) (by omega) b
      · refine ⟨t, h3, h4, fun i hi => ?_⟩
        cases h6 : hb x i with
        | false => rfl
        | true => exact absurd ⟨i, hi, h6⟩ h5
  obtain ⟨t, a, b⟩ := h1
  obtain ⟨t', a1, a2, a3⟩ := key t t (Nat.le_refl _) a b
  rw [lowN_at a1 a2 a3]
  exact ⟨a2, a3⟩
theorem hb_b1 (b : Bool) (i : Nat) : hb (b1 b) i = (b && decide (i = 0)) := by
  by_cases h : i < 32
  · exact (by decide +kernel : ∀ b : Bool, ∀ i, i < 32 → hb (b1 b) i = (b && decide (i = 0))) b i h
  · rw [hb_ge (by omega)]; simp; omega
theorem hb_shl1 : ∀ b : Bool, ∀ c, c < 32 → ∀ i, i < 32 → hb (b1 b <<< (nI c &&& 31)) i = (b && decide (i = c)) := by decide +kernel
theorem hb_colOf {f : Nat → Int32} {c : Nat} : ∀ k, k ≤ 32 → ∀ i, hb (colOf f c k) i = (decide (i < k) && hb (f i) c)
  | 0, _, i => by rw [colOf, hb_0]; simp
  | k + 1, hk, i => by
    rw [colOf, hb_or, hb_colOf k (by omega)]
    by_cases h : i < 32
    · rw [hb_shl1 _ k (by omega) i h]
      by_cases h2 : i = k
      · subst h2; simp
      · by_cases h3 : i < k
        · simp [h3, h2, show i < k + 1 by omega]
        · simp [h3, h2, show ¬ i < k + 1 by omega]
    · rw [hb_ge (x := b1 _ <<< _) (by omega)]
      simp [show ¬ i < k by omega, show ¬ i < k + 1 by omega]
section
variable {l : Launch} {M : Mem} {n : Nat} {A : Nat → Nat → Int32}
/-- the closure at hand -/
theorem n_reaches {s a b : Nat} (h : Rr M n A) (hs : s < 6) (ha : a < n) (hb9 : b < n) : EvR l jX7_reaches 4 160 0 0 [.ref 198, .int (nI s), .int (nI a), .int (nI b)] M (.inl (some (.int (b1 (hb (wOut (A s) n n a) b))))) (hdM (thr M 0) 205 n (wOut (A s) n n)) := by
  have hn := h.2.2.2.1
  have hS := h.1
  have h' := h.thr (x := 0)
  have h1 : Rr (hdM (thr M 0) 205 n (wOut (A s) n n)) n A := h'.hd (Or.inl rfl)
  have e1 := hdM_at (M := thr M 0) (x := 205) (f := wOut (A s) n n) ha
  have q1 := r_closure (l := l) h' hs
  generalize hdM (thr M 0) 205 n (wOut (A s) n n) = M1 at *
  generalize wOut (A s) n n = f at *
  refine ev_intro rfl (nb rfl) rfl ?_
  refine g_aload_n (pc := 0) dX7_reaches_0 rfl trivial ?_
  refine g_aload_n (pc := 1) dX7_reaches_1 rfl trivial ?_
  refine g_iload_n (pc := 2) dX7_reaches_2 rfl ?_
  refine g_iload_n (pc := 3) dX7_reaches_3 rfl ?_
  refine g_invV_r (pc := 4) (As := [_, _]) dX7_reaches_4 rfl (r_areIn_t h (in6 hs) (inR_nI ha (by omega))) rfl rfl (shK hS rfl) rfl rfl lk_X7_223 rfl (nb rfl) ⟨nb rfl, nb rfl⟩ rfl ?_
  refine g_if_eq (pc := 7) (tgt := 22) dX7_reaches_7 rfl (fun h7 => absurd h7 ((by decide))) (fun _ => ?_)
  refine g_aload_n (pc := 10) dX7_reaches_10 rfl trivial ?_
  refine g_iload_n (pc := 11) dX7_reaches_11 rfl ?_
  refine g_invV_r (pc := 12) (As := [_]) dX7_reaches_12 rfl (r_isNode_t h (inR_nI hb9 (by omega))) rfl rfl (shK hS rfl) rfl rfl lk_X7_220 rfl (nb rfl) ⟨nb rfl, nb rfl⟩ rfl ?_
  refine g_if_eq (pc := 15) (tgt := 22) dX7_reaches_15 rfl (fun h15 => absurd h15 ((by decide))) (fun _ => ?_)
  refine g_iconst (pc := 18) (v := 1) dX7_reaches_18 rfl ?_
  refine g_goto (pc := 19) (tgt := 23) dX7_reaches_19 rfl ?_
  refine g_iconst (pc := 23) (v := 1) dX7_reaches_23 rfl ?_
  refine g_invV_r (pc := 24) (As := [_, _]) dX7_reaches_24 rfl (r_isThrown_0 hS) rfl rfl (shK hS rfl) rfl rfl lk_X7_209 rfl (nb rfl) ⟨nb rfl, nb rfl⟩ rfl ?_
  refine g_if_eq (pc := 27) (tgt := 32) dX7_reaches_27 rfl (fun _ => ?_) (fun h27 => absurd (rfl) h27)
  refine g_aload_n (pc := 32) dX7_reaches_32 rfl trivial ?_
  refine g_iload_n (pc := 33) dX7_reaches_33 rfl ?_
  refine g_invV_r (pc := 34) (As := [_]) dX7_reaches_34 rfl (q1) rfl rfl (shK h'.1 rfl) rfl rfl lk_X7_260 rfl (nb rfl) ⟨nb rfl, nb rfl⟩ rfl ?_
  refine g_aload_n (pc := 37) dX7_reaches_37 rfl trivial ?_
  refine g_getf (pc := 38) dX7_reaches_38 fk_X7_34 (shK h1.1 rfl) (fv_arr (shR h1.1 rfl)) ?_
  refine g_iload_n (pc := 41) dX7_reaches_41 rfl ?_
  refine g_laload (pc := 42) dX7_reaches_42 (shK h1.1 rfl) rfl (by omega) (nl rfl) ?_
  rw [e1]
  refine g_iload_n (pc := 43) dX7_reaches_43 rfl ?_
  refine g_invS_r (pc := 44) (As := [_, _]) dX7_reaches_44 rfl (r_one (by omega)) rfl rfl lk_X7_231 rfl (nb rfl) ⟨nb rfl, nb rfl⟩ rfl ?_
  refine g_ireturn (pc := 47) dX7_reaches_47 rfl rfl ?_
  exact ⟨rfl, rfl⟩
theorem t_reaches {v w u : Int32} (h : Rr M n A) (hx : ¬ (inR v 6 ∧ inR w n ∧ inR u n)) : EvR l jX7_reaches 4 160 0 0 [.ref 198, .int v, .int w, .int u] M (.inl (some (.int 0))) (thr M 1) := by
  have hS := h.1
  refine ev_intro rfl (nb rfl) rfl ?_
  by_cases h1 : inR v 6 ∧ inR w n
  · refine g_aload_n (pc := 0) dX7_reaches_0 rfl trivial ?_
    refine g_aload_n (pc := 1) dX7_reaches_1 rfl trivial ?_
    refine g_iload_n (pc := 2) dX7_reaches_2 rfl ?_
    refine g_iload_n (pc := 3) dX7_reaches_3 rfl ?_
    refine g_invV_r (pc := 4) (As := [_, _]) dX7_reaches_4 rfl (r_areIn_t h h1.1 h1.2) rfl rfl (shK hS rfl) rfl rfl lk_X7_223 rfl (nb rfl) ⟨nb rfl, nb rfl⟩ rfl ?_
    refine g_if_eq (pc := 7) (tgt := 22) dX7_reaches_7 rfl (fun h7 => absurd h7 ((by decide))) (fun _ => ?_)
    refine g_aload_n (pc := 10) dX7_reaches_10 rfl trivial ?_
    refine g_iload_n (pc := 11) dX7_reaches_11 rfl ?_
    refine g_invV_r (pc := 12) (As := [_]) dX7_reaches_12 rfl (r_isNode_f h (fun q => hx ⟨h1.1, h1.2, q⟩)) rfl rfl (shK hS rfl) rfl rfl lk_X7_220 rfl (nb rfl) ⟨nb rfl, nb rfl⟩ rfl ?_
    refine g_if_eq (pc := 15) (tgt := 22) dX7_reaches_15 rfl (fun _ => ?_) (fun h15 => absurd (rfl) h15)
    refine g_iconst (pc := 22) (v := 0) dX7_reaches_22 rfl ?_
    refine g_iconst (pc := 23) (v := 1) dX7_reaches_23 rfl ?_
    refine g_invV_r (pc := 24) (As := [_, _]) dX7_reaches_24 rfl (r_isThrown_1 hS) rfl rfl (shK hS rfl) rfl rfl lk_X7_209 rfl (nb rfl) ⟨nb rfl, nb rfl⟩ rfl ?_
    refine g_if_eq (pc := 27) (tgt := 32) dX7_reaches_27 rfl (fun h27 => absurd h27 ((by decide))) (fun _ => ?_)
    refine g_iconst (pc := 30) (v := 0) dX7_reaches_30 rfl ?_
    refine g_ireturn (pc := 31) dX7_reaches_31 rfl rfl ?_
    exact ⟨rfl, rfl⟩
  · refine g_aload_n (pc := 0) dX7_reaches_0 rfl trivial ?_
    refine g_aload_n (pc := 1) dX7_reaches_1 rfl trivial ?_
    refine g_iload_n (pc := 2) dX7_reaches_2 rfl ?_
    refine g_iload_n (pc := 3) dX7_reaches_3 rfl ?_
    refine g_invV_r (pc := 4) (As := [_, _]) dX7_reaches_4 rfl (r_areIn_f h h1) rfl rfl (shK hS rfl) rfl rfl lk_X7_223 rfl (nb rfl) ⟨nb rfl, nb rfl⟩ rfl ?_
    refine g_if_eq (pc := 7) (tgt := 22) dX7_reaches_7 rfl (fun _ => ?_) (fun h7 => absurd (rfl) h7)
    refine g_iconst (pc := 22) (v := 0) dX7_reaches_22 rfl ?_
    refine g_iconst (pc := 23) (v := 1) dX7_reaches_23 rfl ?_
    refine g_invV_r (pc := 24) (As := [_, _]) dX7_reaches_24 rfl (r_isThrown_1 hS) rfl rfl (shK hS rfl) rfl rfl lk_X7_209 rfl (nb rfl) ⟨nb rfl, nb rfl⟩ rfl ?_
    refine g_if_eq (pc := 27) (tgt := 32) dX7_reaches_27 rfl (fun h27 => absurd h27 ((by decide))) (fun _ => ?_)
    refine g_iconst (pc := 30) (v := 0) dX7_reaches_30 rfl ?_
    refine g_ireturn (pc := 31) dX7_reaches_31 rfl rfl ?_
    exact ⟨rfl, rfl⟩
theorem n_reached {s a : Nat} (h : Rr M n A) (hs : s < 6) (ha : a < n) : EvR l jX7_reached 4 160 0 0 [.ref 198, .int (nI s), .int (nI a)] M (.inl (some (.int (bcJ (wOut (A s) n n a))))) (hdM (thr M 0) 205 n (wOut (A s) n n)) := by
  have hn := h.2.2.2.1
  have hS := h.1
  have h' := h.thr (x := 0)
  have h1 : Rr (hdM (thr M 0) 205 n (wOut (A s) n n)) n A := h'.hd (Or.inl rfl)
  have e1 := hdM_at (M := thr M 0) (x := 205) (f := wOut (A s) n n) ha
  have q1 := r_closure (l := l) h' hs
  generalize hdM (thr M 0) 205 n (wOut (A s) n n) = M1 at *
  generalize wOut (A s) n n = f at *
  refine ev_intro rfl (nb rfl) rfl ?_
  refine g_aload_n (pc := 0) dX7_reached_0 rfl trivial ?_
  refine g_aload_n (pc := 1) dX7_reached_1 rfl trivial ?_
  refine g_iload_n (pc := 2) dX7_reached_2 rfl ?_
  refine g_iload_n (pc := 3) dX7_reached_3 rfl ?_
  refine g_invV_r (pc := 4) (As := [_, _]) dX7_reached_4 rfl (r_areIn_t h (in6 hs) (inR_nI ha (by omega))) rfl rfl (shK hS rfl) rfl rfl lk_X7_223 rfl (nb rfl) ⟨nb rfl, nb rfl⟩ rfl ?_
  refine g_iconst (pc := 7) (v := 1) dX7_reached_7 rfl ?_
  refine g_invV_r (pc := 8) (As := [_, _]) dX7_reached_8 rfl (r_isThrown_0 hS) rfl rfl (shK hS rfl) rfl rfl lk_X7_209 rfl (nb rfl) ⟨nb rfl, nb rfl⟩ rfl ?_
  refine g_if_eq (pc := 11) (tgt := 16) dX7_reached_11 rfl (fun _ => ?_) (fun h11 => absurd (rfl) h11)
  refine g_aload_n (pc := 16) dX7_reached_16 rfl trivial ?_
  refine g_iload_n (pc := 17) dX7_reached_17 rfl ?_
  refine g_invV_r (pc := 18) (As := [_]) dX7_reached_18 rfl (q1) rfl rfl (shK h'.1 rfl) rfl rfl lk_X7_260 rfl (nb rfl) ⟨nb rfl, nb rfl⟩ rfl ?_
  refine g_aload_n (pc := 21) dX7_reached_21 rfl trivial ?_
  refine g_getf (pc := 22) dX7_reached_22 fk_X7_34 (shK h1.1 rfl) (fv_arr (shR h1.1 rfl)) ?_
  refine g_iload_n (pc := 25) dX7_reached_25 rfl ?_
  refine g_laload (pc := 26) dX7_reached_26 (shK h1.1 rfl) rfl (by omega) (nl rfl) ?_
  rw [e1]
  refine g_invS_r (pc := 27) (As := [_]) dX7_reached_27 rfl (r_bitsOf) rfl rfl lk_X7_234 rfl (nb rfl) ⟨nb rfl, nb rfl⟩ rfl ?_
  refine g_ireturn (pc := 30) dX7_reached_30 rfl rfl ?_
  exact ⟨rfl, rfl⟩
theorem t_reached {v w : Int32} (h : Rr M n A) (hx : ¬ (inR v 6 ∧ inR w n)) : EvR l jX7_reached 4 160 0 0 [.ref 198, .int v, .int w] M (.inl (some (.int 0))) (thr M 1) := by
  have hS := h.1
  refine ev_intro rfl (nb rfl) rfl ?_
  refine g_aload_n (pc := 0) dX7_reached_0 rfl trivial ?_
  refine g_aload_n (pc := 1) dX7_reached_1 rfl trivial ?_
  refine g_iload_n (pc := 2) dX7_reached_2 rfl ?_
  refine g_iload_n (pc := 3) dX7_reached_3 rfl ?_
  refine g_invV_r (pc := 4) (As := [_, _]) dX7_reached_4 rfl (r_areIn_f h hx) rfl rfl (shK hS rfl) rfl rfl lk_X7_223 rfl (nb rfl) ⟨nb rfl, nb rfl⟩ rfl ?_
  refine g_iconst (pc := 7) (v := 1) dX7_reached_7 rfl ?_
  refine g_invV_r (pc := 8) (As := [_, _]) dX7_reached_8 rfl (r_isThrown_1 hS) rfl rfl (shK hS rfl) rfl rfl lk_X7_209 rfl (nb rfl) ⟨nb rfl, nb rfl⟩ rfl ?_
  refine g_if_eq (pc := 11) (tgt := 16) dX7_reached_11 rfl (fun h11 => absurd h11 ((by decide))) (fun _ => ?_)
  refine g_iconst (pc := 14) (v := 0) dX7_reached_14 rfl ?_
  refine g_ireturn (pc := 15) dX7_reached_15 rfl rfl ?_
  exact ⟨rfl, rfl⟩
theorem r_pairsOf {s : Nat} (h : Rr M n A) (hs : s < 6) : EvR l jX7_pairsOf 3 90 0 0 [.ref 198, .int (nI s)] M (.inl (some (.int (onesF (wOut (A s) n n) n)))) (hdM M 205 n (wOut (A s) n n)) := by
  have hn := h.2.2.2.1
  have hS := h.1
  have h1 : Rr (hdM M 205 n (wOut (A s) n n)) n A := h.hd (Or.inl rfl)
  have q2 := r_sumOf (l := l) (x := 205) (f := wOut (A s) n n) h1 (Or.inl rfl) (fun i hi => hdM_at hi)
  have q1 := r_closure (l := l) h hs
  generalize hdM M 205 n (wOut (A s) n n) = M1 at *
  generalize wOut (A s) n n = f at *
  refine ev_intro rfl (nb rfl) rfl ?_
  refine g_aload_n (pc := 0) dX7_pairsOf_0 rfl trivial ?_
  refine g_iload_n (pc := 1) dX7_pairsOf_1 rfl ?_
  refine g_invV_r (pc := 2) (As := [_]) dX7_pairsOf_2 rfl (q1) rfl rfl (shK hS rfl) rfl rfl lk_X7_260 rfl (nb rfl) ⟨nb rfl, nb rfl⟩ rfl ?_
  refine g_aload_n (pc := 5) dX7_pairsOf_5 rfl trivial ?_
  refine g_aload_n (pc := 6) dX7_pairsOf_6 rfl trivial ?_
  refine g_getf (pc := 7) dX7_pairsOf_7 fk_X7_34 (shK h1.1 rfl) (fv_arr (shR h1.1 rfl)) ?_
  refine g_invV_r (pc := 10) (As := [_]) dX7_pairsOf_10 rfl (q2) rfl rfl (shK h1.1 rfl) rfl rfl lk_X7_263 rfl (nb rfl) ⟨nb rfl, nb rfl⟩ rfl ?_
  refine g_ireturn (pc := 13) dX7_pairsOf_13 rfl rfl ?_
  exact ⟨rfl, rfl⟩
theorem n_pairs {s : Nat} (h : Rr M n A) (hs : s < 6) : EvR l jX7_pairs 4 160 0 0 [.ref 198, .int (nI s)] M (.inl (some (.int (onesF (wOut (A s) n n) n)))) (hdM (thr M 0) 205 n (wOut (A s) n n)) := by
  have hS := h.1
  refine ev_intro rfl (nb rfl) rfl ?_
  refine g_aload_n (pc := 0) dX7_pairs_0 rfl trivial ?_
  refine g_iload_n (pc := 1) dX7_pairs_1 rfl ?_
  refine g_invS_r (pc := 2) (As := [_]) dX7_pairs_2 rfl (r_isSlot_t (in6 hs)) rfl rfl lk_X7_216 rfl (nb rfl) ⟨nb rfl, nb rfl⟩ rfl ?_
  refine g_iconst (pc := 5) (v := 1) dX7_pairs_5 rfl ?_
  refine g_invV_r (pc := 6) (As := [_, _]) dX7_pairs_6 rfl (r_isThrown_0 hS) rfl rfl (shK hS rfl) rfl rfl lk_X7_209 rfl (nb rfl) ⟨nb rfl, nb rfl⟩ rfl ?_
  refine g_if_eq (pc := 9) (tgt := 16) dX7_pairs_9 rfl (fun _ => ?_) (fun h9 => absurd (rfl) h9)
  refine g_aload_n (pc := 16) dX7_pairs_16 rfl trivial ?_
  refine g_iload_n (pc := 17) dX7_pairs_17 rfl ?_
  refine g_invV_r (pc := 18) (As := [_]) dX7_pairs_18 rfl (r_pairsOf h.thr hs) rfl rfl (shK hS rfl) rfl rfl lk_X7_267 rfl (nb rfl) ⟨nb rfl, nb rfl⟩ rfl ?_
  refine g_ireturn (pc := 21) dX7_pairs_21 rfl rfl ?_
  exact ⟨rfl, rfl⟩
theorem t_pairs {v : Int32} (h : Rr M n A) (hx : ¬ inR v 6) : EvR l jX7_pairs 4 160 0 0 [.ref 198, .int v] M (.inl (some (.int 0))) (thr M 1) := by
  have hS := h.1
  refine ev_intro rfl (nb rfl) rfl ?_
  refine g_aload_n (pc := 0) dX7_pairs_0 rfl trivial ?_
  refine g_iload_n (pc := 1) dX7_pairs_1 rfl ?_
  refine g_invS_r (pc := 2) (As := [_]) dX7_pairs_2 rfl (r_isSlot_f hx) rfl rfl lk_X7_216 rfl (nb rfl) ⟨nb rfl, nb rfl⟩ rfl ?_
  refine g_iconst (pc := 5) (v := 1) dX7_pairs_5 rfl ?_
  refine g_invV_r (pc := 6) (As := [_, _]) dX7_pairs_6 rfl (r_isThrown_1 hS) rfl rfl (shK hS rfl) rfl rfl lk_X7_209 rfl (nb rfl) ⟨nb rfl, nb rfl⟩ rfl ?_
  refine g_if_eq (pc := 9) (tgt := 16) dX7_pairs_9 rfl (fun h9 => absurd h9 ((by decide))) (fun _ => ?_)
  refine g_iconst (pc := 12) (v := 0) dX7_pairs_12 rfl ?_
  refine g_goto (pc := 13) (tgt := 21) dX7_pairs_13 rfl ?_
  refine g_ireturn (pc := 21) dX7_pairs_21 rfl rfl ?_
  exact ⟨rfl, rfl⟩
theorem n_meanReach {s : Nat} (h : Rr M n A) (hs : s < 6) : EvR l jX7_meanReach 4 160 0 0 [.ref 198, .int (nI s)] M (.inl (some (.float (FP.fdiv (FP.i2f (onesF (wOut (A s) n n) n)) (FP.i2f (nI n)))))) (hdM (thr M 0) 205 n (wOut (A s) n n)) := by
  have hS := h.1
  have h' := h.thr (x := 0)
  have h1 : Rr (hdM (thr M 0) 205 n (wOut (A s) n n)) n A := h'.hd (Or.inl rfl)
  have q1 := r_pairsOf (l := l) h' hs
  generalize hdM (thr M 0) 205 n (wOut (A s) n n) = M1 at *
  refine ev_intro rfl (nb rfl) rfl ?_
  refine g_aload_n (pc := 0) dX7_meanReach_0 rfl trivial ?_
  refine g_iload_n (pc := 1) dX7_meanReach_1 rfl ?_
  refine g_invS_r (pc := 2) (As := [_]) dX7_meanReach_2 rfl (r_isSlot_t (in6 hs)) rfl rfl lk_X7_216 rfl (nb rfl) ⟨nb rfl, nb rfl⟩ rfl ?_
  refine g_iconst (pc := 5) (v := 1) dX7_meanReach_5 rfl ?_
  refine g_invV_r (pc := 6) (As := [_, _]) dX7_meanReach_6 rfl (r_isThrown_0 hS) rfl rfl (shK hS rfl) rfl rfl lk_X7_209 rfl (nb rfl) ⟨nb rfl, nb rfl⟩ rfl ?_
  refine g_if_eq (pc := 9) (tgt := 16) dX7_meanReach_9 rfl (fun _ => ?_) (fun h9 => absurd (rfl) h9)
  refine g_aload_n (pc := 16) dX7_meanReach_16 rfl trivial ?_
  refine g_iload_n (pc := 17) dX7_meanReach_17 rfl ?_
  refine g_invV_r (pc := 18) (As := [_]) dX7_meanReach_18 rfl (q1) rfl rfl (shK h'.1 rfl) rfl rfl lk_X7_267 rfl (nb rfl) ⟨nb rfl, nb rfl⟩ rfl ?_
  refine g_i2f (pc := 21) dX7_meanReach_21 ?_
  refine g_aload_n (pc := 22) dX7_meanReach_22 rfl trivial ?_
  refine g_invV_r (pc := 23) (As := []) dX7_meanReach_23 rfl (r_size h1) rfl rfl (shK h1.1 rfl) rfl rfl lk_X7_71 rfl (nb rfl) ⟨nb rfl, nb rfl⟩ rfl ?_
  refine g_i2f (pc := 26) dX7_meanReach_26 ?_
  refine g_fdiv (pc := 27) dX7_meanReach_27 (mrc_f h.2.2.1 h.2.2.2.1) ?_
  refine g_freturn (pc := 28) dX7_meanReach_28 rfl ?_
  exact ⟨rfl, rfl⟩
theorem t_meanReach {v : Int32} (h : Rr M n A) (hx : ¬ inR v 6) : EvR l jX7_meanReach 4 160 0 0 [.ref 198, .int v] M (.inl (some (.float 0))) (thr M 1) := by
  have hS := h.1
  refine ev_intro rfl (nb rfl) rfl ?_
  refine g_aload_n (pc := 0) dX7_meanReach_0 rfl trivial ?_
  refine g_iload_n (pc := 1) dX7_meanReach_1 rfl ?_
  refine g_invS_r (pc := 2) (As := [_]) dX7_meanReach_2 rfl (r_isSlot_f hx) rfl rfl lk_X7_216 rfl (nb rfl) ⟨nb rfl, nb rfl⟩ rfl ?_
  refine g_iconst (pc := 5) (v := 1) dX7_meanReach_5 rfl ?_
  refine g_invV_r (pc := 6) (As := [_, _]) dX7_meanReach_6 rfl (r_isThrown_1 hS) rfl rfl (shK hS rfl) rfl rfl lk_X7_209 rfl (nb rfl) ⟨nb rfl, nb rfl⟩ rfl ?_
  refine g_if_eq (pc := 9) (tgt := 16) dX7_meanReach_9 rfl (fun h9 => absurd h9 ((by decide))) (fun _ => ?_)
  refine g_fconst0 (pc := 12) dX7_meanReach_12 ?_
  refine g_goto (pc := 13) (tgt := 28) dX7_meanReach_13 rfl ?_
  refine g_freturn (pc := 28) dX7_meanReach_28 rfl ?_
  exact ⟨rfl, rfl⟩
theorem lowMut_at {f : Nat → Int32} {a t n : Nat} (hn : n ≤ 32) (ha : a < n) (ht : t ≤ a) (h : t = a ∨ (hb (f a) t = true ∧ hb (f t) a = true)) (h2 : ∀ j, j < t → ¬ (hb (f a) j = true ∧ hb (f j) a = true)) : lowMut f a n = t := by
  unfold lowMut
  refine lowN_at (by omega) ?_ fun i hi => ?_
  · rw [hb_or, hb_and, hb_colOf n hn, hb_bitI (by omega)]
    rcases h with h | ⟨h, h3⟩
    · simp [h]
    · rw [h, h3]; simp; left; omega
  · have h3 := h2 i hi
    rw [hb_or, hb_and, hb_colOf n hn, hb_bitI (by omega)]
    have h4 : ¬ i = a := by omega
    cases h5 : hb (f a) i
    · simp [h4]
    · cases h6 : hb (f i) a
      · simp [h4]
      · exact absurd ⟨h5, h6⟩ h3
theorem r_componentOf {a : Nat} {f : Nat → Int32} (h : Rr M n A) (ha : a < n) (hf : ∀ i, i < n → mL M 205 i = uL (f i)) : EvR l jX7_componentOf 1 30 0 0 [.ref 198, .int (nI a)] M (.inl (some (.int (nI (lowMut f a n))))) M := by
  have hn := h.2.2.2.1
  have hS := h.1
  refine ev_intro rfl (nb rfl) rfl ?_
  refine g_iconst (pc := 0) (v := 0) dX7_componentOf_0 rfl ?_
  refine g_istore_n (pc := 1) (lv' := [(0, _), (1, _), (2, _)]) dX7_componentOf_1 (nl rfl) rfl ?_
  refine go_while (pc := 2) (σ := Nat) (fun q => q ≤ a ∧ ∀ j, j < q → ¬ (hb (f a) j = true ∧ hb (f j) a = true)) (fun q => a - q) (fun q => [(0, .ref 198), (1, .int (nI a)), (2, .int (nI q))]) (fun _ => M) 0 ⟨rfl, rfl, rfl, trivial⟩ rfl ⟨by omega, fun j hj => by omega⟩ ?_
  rintro q ⟨h1, h3⟩ ih
  by_cases hq : q < a
  · have hqn : q < n := by omega
    cases h4 : hb (f a) q with
    | false =>
      refine g_iload_n (pc := 2) dX7_componentOf_2 rfl ?_
      refine g_iload_n (pc := 3) dX7_componentOf_3 rfl ?_
      refine g_icmp_ge (pc := 4) (tgt := 43) dX7_componentOf_4 rfl (fun h4 => absurd h4 (nI_ge hq (by omega))) (fun _ => ?_)
      refine g_aload_n (pc := 7) dX7_componentOf_7 rfl trivial ?_
      refine g_getf (pc := 8) dX7_componentOf_8 fk_X7_34 (shK hS rfl) (fv_arr (shR hS rfl)) ?_
      refine g_iload_n (pc := 11) dX7_componentOf_11 rfl ?_
      refine g_laload (pc := 12) dX7_componentOf_12 (shK hS rfl) rfl (by omega) (nl rfl) ?_
      rw [hf a ha]
      refine g_iload_n (pc := 13) dX7_componentOf_13 rfl ?_
      refine g_invS_r (pc := 14) (As := [_, _]) dX7_componentOf_14 rfl (r_one (show q < 32 by omega)) rfl rfl lk_X7_231 rfl (nb rfl) ⟨nb rfl, nb rfl⟩ rfl ?_
      rw [h4]
      refine g_iconst (pc := 17) (v := 1) dX7_componentOf_17 rfl ?_
      refine g_icmp_ne (pc := 18) (tgt := 37) dX7_componentOf_18 rfl (fun _ => ?_) (fun h18 => absurd ((by decide)) h18)
      refine g_iinc (pc := 37) (lv' := [(0, _), (1, _), (2, _)]) dX7_componentOf_37 rfl (nI_1 _) (nl rfl) rfl ?_
      refine g_goto (pc := 40) (tgt := 2) dX7_componentOf_40 rfl ?_
      exact ih (q + 1) ⟨hq, fun j hj => (by omega : j < q ∨ j = q).elim (h3 j) (fun e z => by rw [e, h4] at z; cases z.1)⟩ (by omega)
    | true =>
      cases h5 : hb (f q) a with
      | false =>
        refine g_iload_n (pc := 2) dX7_componentOf_2 rfl ?_
        refine g_iload_n (pc := 3) dX7_componentOf_3 rfl ?_
        refine g_icmp_ge (pc := 4) (tgt := 43) dX7_componentOf_4 rfl (fun h4 => absurd h4 (nI_ge hq (by omega))) (fun _ => ?_)
        refine g_aload_n (pc := 7) dX7_componentOf_7 rfl trivial ?_
        refine g_getf (pc := 8) dX7_componentOf_8 fk_X7_34 (shK hS rfl) (fv_arr (shR hS rfl)) ?_
        refine g_iload_n (pc := 11) dX7_componentOf_11 rfl ?_
        refine g_laload (pc := 12) dX7_componentOf_12 (shK hS rfl) rfl (by omega) (nl rfl) ?_
        rw [hf a ha]
        refine g_iload_n (pc := 13) dX7_componentOf_13 rfl ?_
        refine g_invS_r (pc := 14) (As := [_, _]) dX7_componentOf_14 rfl (r_one (show q < 32 by omega)) rfl rfl lk_X7_231 rfl (nb rfl) ⟨nb rfl, nb rfl⟩ rfl ?_
        rw [h4]
        refine g_iconst (pc := 17) (v := 1) dX7_componentOf_17 rfl ?_
        refine g_icmp_ne (pc := 18) (tgt := 37) dX7_componentOf_18 rfl (fun h18 => absurd h18 ((fun z => z rfl))) (fun _ => ?_)
        refine g_aload_n (pc := 21) dX7_componentOf_21 rfl trivial ?_
        refine g_getf (pc := 22) dX7_componentOf_22 fk_X7_34 (shK hS rfl) (fv_arr (shR hS rfl)) ?_
        refine g_iload_n (pc := 25) dX7_componentOf_25 rfl ?_
        refine g_laload (pc := 26) dX7_componentOf_26 (shK hS rfl) rfl (by omega) (nl rfl) ?_
        rw [hf q hqn]
        refine g_iload_n (pc := 27) dX7_componentOf_27 rfl ?_
        refine g_invS_r (pc := 28) (As := [_, _]) dX7_componentOf_28 rfl (r_one (show a < 32 by omega)) rfl rfl lk_X7_231 rfl (nb rfl) ⟨nb rfl, nb rfl⟩ rfl ?_
        rw [h5]
        refine g_iconst (pc := 31) (v := 1) dX7_componentOf_31 rfl ?_
        refine g_icmp_ne (pc := 32) (tgt := 37) dX7_componentOf_32 rfl (fun _ => ?_) (fun h32 => absurd ((by decide)) h32)
        refine g_iinc (pc := 37) (lv' := [(0, _), (1, _), (2, _)]) dX7_componentOf_37 rfl (nI_1 _) (nl rfl) rfl ?_
        refine g_goto (pc := 40) (tgt := 2) dX7_componentOf_40 rfl ?_
        exact ih (q + 1) ⟨hq, fun j hj => (by omega : j < q ∨ j = q).elim (h3 j) (fun e z => by rw [e, h5] at z; cases z.2)⟩ (by omega)
      | true =>
        have e := lowMut_at hn ha (by omega) (Or.inr ⟨h4, h5⟩) h3
        rw [e]
        refine g_iload_n (pc := 2) dX7_componentOf_2 rfl ?_
        refine g_iload_n (pc := 3) dX7_componentOf_3 rfl ?_
        refine g_icmp_ge (pc := 4) (tgt := 43) dX7_componentOf_4 rfl (fun h4 => absurd h4 (nI_ge hq (by omega))) (fun _ => ?_)
        refine g_aload_n (pc := 7) dX7_componentOf_7 rfl trivial ?_
        refine g_getf (pc := 8) dX7_componentOf_8 fk_X7_34 (shK hS rfl) (fv_arr (shR hS rfl)) ?_
        refine g_iload_n (pc := 11) dX7_componentOf_11 rfl ?_
        refine g_laload (pc := 12) dX7_componentOf_12 (shK hS rfl) rfl (by omega) (nl rfl) ?_
        rw [hf a ha]
        refine g_iload_n (pc := 13) dX7_componentOf_13 rfl ?_
        refine g_invS_r (pc := 14) (As := [_, _]) dX7_componentOf_14 rfl (r_one (show q < 32 by omega)) rfl rfl lk_X7_231 rfl (nb rfl) ⟨nb rfl, nb rfl⟩ rfl ?_
        rw [h4]
        refine g_iconst (pc := 17) (v := 1) dX7_componentOf_17 rfl ?_
        refine g_icmp_ne (pc := 18) (tgt := 37) dX7_componentOf_18 rfl (fun h18 => absurd h18 ((fun z => z rfl))) (fun _ => ?_)
        refine g_aload_n (pc := 21) dX7_componentOf_21 rfl trivial ?_
        refine g_getf (pc := 22) dX7_componentOf_22 fk_X7_34 (shK hS rfl) (fv_arr (shR hS rfl)) ?_
        refine g_iload_n (pc := 25) dX7_componentOf_25 rfl ?_
        refine g_laload (pc := 26) dX7_componentOf_26 (shK hS rfl) rfl (by omega) (nl rfl) ?_
        rw [hf q hqn]
        refine g_iload_n (pc := 27) dX7_componentOf_27 rfl ?_
        refine g_invS_r (pc := 28) (As := [_, _]) dX7_componentOf_28 rfl (r_one (show a < 32 by omega)) rfl rfl lk_X7_231 rfl (nb rfl) ⟨nb rfl, nb rfl⟩ rfl ?_
        rw [h5]
        refine g_iconst (pc := 31) (v := 1) dX7_componentOf_31 rfl ?_
        refine g_icmp_ne (pc := 32) (tgt := 37) dX7_componentOf_32 rfl (fun h32 => absurd h32 ((fun z => z rfl))) (fun _ => ?_)
        refine g_iload_n (pc := 35) dX7_componentOf_35 rfl ?_
        refine g_ireturn (pc := 36) dX7_componentOf_36 rfl rfl ?_
        exact ⟨rfl, rfl⟩
  · have hq' : q = a := by omega
    subst hq'
    have e := lowMut_at hn ha (Nat.le_refl _) (Or.inl rfl) h3
    rw [e]
    refine g_iload_n (pc := 2) dX7_componentOf_2 rfl ?_
    refine g_iload_n (pc := 3) dX7_componentOf_3 rfl ?_
    refine g_icmp_ge (pc := 4) (tgt := 43) dX7_componentOf_4 rfl (fun _ => ?_) (fun h4 => absurd (nI_le (Nat.le_refl _) (by omega)) h4)
    refine g_iload_n (pc := 43) dX7_componentOf_43 rfl ?_
    refine g_ireturn (pc := 44) dX7_componentOf_44 rfl rfl ?_
    exact ⟨rfl, rfl⟩
theorem n_component {s a : Nat} (h : Rr M n A) (hs : s < 6) (ha : a < n) : EvR l jX7_component 4 160 0 0 [.ref 198, .int (nI s), .int (nI a)] M (.inl (some (.int (nI (lowMut (wOut (A s) n n) a n))))) (hdM (thr M 0) 205 n (wOut (A s) n n)) := by
  have hn := h.2.2.2.1
  have hS := h.1
  have h' := h.thr (x := 0)
  have h1 : Rr (hdM (thr M 0) 205 n (wOut (A s) n n)) n A := h'.hd (Or.inl rfl)
  have q2 := r_componentOf (l := l) (f := wOut (A s) n n) h1 ha (fun i hi => hdM_at hi)
  have q1 := r_closure (l := l) h' hs
  generalize hdM (thr M 0) 205 n (wOut (A s) n n) = M1 at *
  generalize wOut (A s) n n = f at *
  refine ev_intro rfl (nb rfl) rfl ?_
  refine g_aload_n (pc := 0) dX7_component_0 rfl trivial ?_
  refine g_aload_n (pc := 1) dX7_component_1 rfl trivial ?_
  refine g_iload_n (pc := 2) dX7_component_2 rfl ?_
  refine g_iload_n (pc := 3) dX7_component_3 rfl ?_
  refine g_invV_r (pc := 4) (As := [_, _]) dX7_component_4 rfl (r_areIn_t h (in6 hs) (inR_nI ha (by omega))) rfl rfl (shK hS rfl) rfl rfl lk_X7_223 rfl (nb rfl) ⟨nb rfl, nb rfl⟩ rfl ?_
  refine g_iconst (pc := 7) (v := 1) dX7_component_7 rfl ?_
  refine g_invV_r (pc := 8) (As := [_, _]) dX7_component_8 rfl (r_isThrown_0 hS) rfl rfl (shK hS rfl) rfl rfl lk_X7_209 rfl (nb rfl) ⟨nb rfl, nb rfl⟩ rfl ?_
  refine g_if_eq (pc := 11) (tgt := 16) dX7_component_11 rfl (fun _ => ?_) (fun h11 => absurd (rfl) h11)
  refine g_aload_n (pc := 16) dX7_component_16 rfl trivial ?_
  refine g_iload_n (pc := 17) dX7_component_17 rfl ?_
  refine g_invV_r (pc := 18) (As := [_]) dX7_component_18 rfl (q1) rfl rfl (shK h'.1 rfl) rfl rfl lk_X7_260 rfl (nb rfl) ⟨nb rfl, nb rfl⟩ rfl ?_
  refine g_aload_n (pc := 21) dX7_component_21 rfl trivial ?_
  refine g_iload_n (pc := 22) dX7_component_22 rfl ?_
  refine g_invV_r (pc := 23) (As := [_]) dX7_component_23 rfl (q2) rfl rfl (shK h1.1 rfl) rfl rfl lk_X7_270 rfl (nb rfl) ⟨nb rfl, nb rfl⟩ rfl ?_
  refine g_ireturn (pc := 26) dX7_component_26 rfl rfl ?_
  exact ⟨rfl, rfl⟩
theorem t_component {v w : Int32} (h : Rr M n A) (hx : ¬ (inR v 6 ∧ inR w n)) : EvR l jX7_component 4 160 0 0 [.ref 198, .int v, .int w] M (.inl (some (.int 0))) (thr M 1) := by
  have hS := h.1
  refine ev_intro rfl (nb rfl) rfl ?_
  refine g_aload_n (pc := 0) dX7_component_0 rfl trivial ?_
  refine g_aload_n (pc := 1) dX7_component_1 rfl trivial ?_
  refine g_iload_n (pc := 2) dX7_component_2 rfl ?_
  refine g_iload_n (pc := 3) dX7_component_3 rfl ?_
  refine g_invV_r (pc := 4) (As := [_, _]) dX7_component_4 rfl (r_areIn_f h hx) rfl rfl (shK hS rfl) rfl rfl lk_X7_223 rfl (nb rfl) ⟨nb rfl, nb rfl⟩ rfl ?_
  refine g_iconst (pc := 7) (v := 1) dX7_component_7 rfl ?_
  refine g_invV_r (pc := 8) (As := [_, _]) dX7_component_8 rfl (r_isThrown_1 hS) rfl rfl (shK hS rfl) rfl rfl lk_X7_209 rfl (nb rfl) ⟨nb rfl, nb rfl⟩ rfl ?_
  refine g_if_eq (pc := 11) (tgt := 16) dX7_component_11 rfl (fun h11 => absurd h11 ((by decide))) (fun _ => ?_)
  refine g_iconst (pc := 14) (v := 0) dX7_component_14 rfl ?_
  refine g_ireturn (pc := 15) dX7_component_15 rfl rfl ?_
  exact ⟨rfl, rfl⟩
theorem n_components {s : Nat} (h : Rr M n A) (hs : s < 6) : EvR l jX7_components 4 160 0 0 [.ref 198, .int (nI s)] M (.inl (some (.int (cmN (wOut (A s) n n) n n)))) (hdM (thr M 0) 205 n (wOut (A s) n n)) := by
  have hn := h.2.2.2.1
  have hS := h.1
  have h' := h.thr (x := 0)
  have h1 : Rr (hdM (thr M 0) 205 n (wOut (A s) n n)) n A := h'.hd (Or.inl rfl)
  have q2 := fun a (ha : a < n) => r_componentOf (l := l) (f := wOut (A s) n n) h1 ha (fun i hi => hdM_at hi)
  have q1 := r_closure (l := l) h' hs
  generalize hdM (thr M 0) 205 n (wOut (A s) n n) = M1 at *
  generalize wOut (A s) n n = f at *
  refine ev_intro rfl (nb rfl) rfl ?_
  refine g_aload_n (pc := 0) dX7_components_0 rfl trivial ?_
  refine g_iload_n (pc := 1) dX7_components_1 rfl ?_
  refine g_invS_r (pc := 2) (As := [_]) dX7_components_2 rfl (r_isSlot_t (in6 hs)) rfl rfl lk_X7_216 rfl (nb rfl) ⟨nb rfl, nb rfl⟩ rfl ?_
  refine g_iconst (pc := 5) (v := 1) dX7_components_5 rfl ?_
  refine g_invV_r (pc := 6) (As := [_, _]) dX7_components_6 rfl (r_isThrown_0 hS) rfl rfl (shK hS rfl) rfl rfl lk_X7_209 rfl (nb rfl) ⟨nb rfl, nb rfl⟩ rfl ?_
  refine g_if_eq (pc := 9) (tgt := 14) dX7_components_9 rfl (fun _ => ?_) (fun h9 => absurd (rfl) h9)
  refine g_aload_n (pc := 14) dX7_components_14 rfl trivial ?_
  refine g_iload_n (pc := 15) dX7_components_15 rfl ?_
  refine g_invV_r (pc := 16) (As := [_]) dX7_components_16 rfl (q1) rfl rfl (shK h'.1 rfl) rfl rfl lk_X7_260 rfl (nb rfl) ⟨nb rfl, nb rfl⟩ rfl ?_
  refine g_iconst (pc := 19) (v := 0) dX7_components_19 rfl ?_
  refine g_istore_n (pc := 20) (lv' := [(0, _), (1, _), (2, _)]) dX7_components_20 (nl rfl) rfl ?_
  refine g_iconst (pc := 21) (v := 0) dX7_components_21 rfl ?_
  refine g_istore_n (pc := 22) (lv' := [(0, _), (1, _), (2, _), (3, _)]) dX7_components_22 (nl rfl) rfl ?_
  refine go_loop (pc := 23) n (fun i => [(0, .ref 198), (1, .int (nI s)), (2, .int (cmN f n i)), (3, .int (nI i))]) (fun _ => M1) ⟨rfl, rfl, rfl, rfl, trivial⟩ rfl ?_ ?_
  · intro i hi ih
    rw [cmN] at ih
    by_cases he : lowMut f i n = i
    · rw [if_pos he] at ih
      refine g_iload_n (pc := 23) dX7_components_23 rfl ?_
      refine g_aload_n (pc := 24) dX7_components_24 rfl trivial ?_
      refine g_invV_r (pc := 25) (As := []) dX7_components_25 rfl (r_size h1) rfl rfl (shK h1.1 rfl) rfl rfl lk_X7_71 rfl (nb rfl) ⟨nb rfl, nb rfl⟩ rfl ?_
      refine g_icmp_ge (pc := 28) (tgt := 54) dX7_components_28 rfl (fun h28 => absurd h28 (nI_ge hi (by omega))) (fun _ => ?_)
      refine g_iload_n (pc := 31) dX7_components_31 rfl ?_
      refine g_aload_n (pc := 32) dX7_components_32 rfl trivial ?_
      refine g_iload_n (pc := 33) dX7_components_33 rfl ?_
      refine g_invV_r (pc := 34) (As := [_]) dX7_components_34 rfl ((q2 i hi)) rfl rfl (shK h1.1 rfl) rfl rfl lk_X7_270 rfl (nb rfl) ⟨nb rfl, nb rfl⟩ rfl ?_
      refine g_iload_n (pc := 37) dX7_components_37 rfl ?_
      refine g_icmp_ne (pc := 38) (tgt := 45) dX7_components_38 rfl (fun h38 => absurd h38 ((fun z => z (by rw [he])))) (fun _ => ?_)
      refine g_iconst (pc := 41) (v := 1) dX7_components_41 rfl ?_
      refine g_goto (pc := 42) (tgt := 46) dX7_components_42 rfl ?_
      refine g_iadd (pc := 46) dX7_components_46 ?_
      refine g_istore_n (pc := 47) (lv' := [(0, _), (1, _), (2, _), (3, _)]) dX7_components_47 (nl rfl) rfl ?_
      refine g_iinc (pc := 48) (lv' := [(0, _), (1, _), (2, _), (3, _)]) dX7_components_48 rfl (nI_1 _) (nl rfl) rfl ?_
      refine g_goto (pc := 51) (tgt := 23) dX7_components_51 rfl ?_
      exact ih
    · rw [if_neg he] at ih
      have hlt := lowMut_lt f i n
      refine g_iload_n (pc := 23) dX7_components_23 rfl ?_
      refine g_aload_n (pc := 24) dX7_components_24 rfl trivial ?_
      refine g_invV_r (pc := 25) (As := []) dX7_components_25 rfl (r_size h1) rfl rfl (shK h1.1 rfl) rfl rfl lk_X7_71 rfl (nb rfl) ⟨nb rfl, nb rfl⟩ rfl ?_
      refine g_icmp_ge (pc := 28) (tgt := 54) dX7_components_28 rfl (fun h28 => absurd h28 (nI_ge hi (by omega))) (fun _ => ?_)
      refine g_iload_n (pc := 31) dX7_components_31 rfl ?_
      refine g_aload_n (pc := 32) dX7_components_32 rfl trivial ?_
      refine g_iload_n (pc := 33) dX7_components_33 rfl ?_
      refine g_invV_r (pc := 34) (As := [_]) dX7_components_34 rfl ((q2 i hi)) rfl rfl (shK h1.1 rfl) rfl rfl lk_X7_270 rfl (nb rfl) ⟨nb rfl, nb rfl⟩ rfl ?_
      refine g_iload_n (pc := 37) dX7_components_37 rfl ?_
      refine g_icmp_ne (pc := 38) (tgt := 45) dX7_components_38 rfl (fun _ => ?_) (fun h38 => absurd ((fun z => he ((nI_eq (by omega) (by omega)).mp z))) h38)
      refine g_iconst (pc := 45) (v := 0) dX7_components_45 rfl ?_
      refine g_iadd (pc := 46) dX7_components_46 ?_
      rw [Int32.add_zero]
      refine g_istore_n (pc := 47) (lv' := [(0, _), (1, _), (2, _), (3, _)]) dX7_components_47 (nl rfl) rfl ?_
      refine g_iinc (pc := 48) (lv' := [(0, _), (1, _), (2, _), (3, _)]) dX7_components_48 rfl (nI_1 _) (nl rfl) rfl ?_
      refine g_goto (pc := 51) (tgt := 23) dX7_components_51 rfl ?_
      exact ih
  · refine g_iload_n (pc := 23) dX7_components_23 rfl ?_
    refine g_aload_n (pc := 24) dX7_components_24 rfl trivial ?_
    refine g_invV_r (pc := 25) (As := []) dX7_components_25 rfl (r_size h1) rfl rfl (shK h1.1 rfl) rfl rfl lk_X7_71 rfl (nb rfl) ⟨nb rfl, nb rfl⟩ rfl ?_
    refine g_icmp_ge (pc := 28) (tgt := 54) dX7_components_28 rfl (fun _ => ?_) (fun h28 => absurd (nI_le (Nat.le_refl _) (by omega)) h28)
    refine g_iload_n (pc := 54) dX7_components_54 rfl ?_
    refine g_ireturn (pc := 55) dX7_components_55 rfl rfl ?_
    exact ⟨rfl, rfl⟩
theorem t_components {v : Int32} (h : Rr M n A) (hx : ¬ inR v 6) : EvR l jX7_components 4 160 0 0 [.ref 198, .int v] M (.inl (some (.int 0))) (thr M 1) := by
  have hS := h.1
  refine ev_intro rfl (nb rfl) rfl ?_
  refine g_aload_n (pc := 0) dX7_components_0 rfl trivial ?_
  refine g_iload_n (pc := 1) dX7_components_1 rfl ?_
  refine g_invS_r (pc := 2) (As := [_]) dX7_components_2 rfl (r_isSlot_f hx) rfl rfl lk_X7_216 rfl (nb rfl) ⟨nb rfl, nb rfl⟩ rfl ?_
  refine g_iconst (pc := 5) (v := 1) dX7_components_5 rfl ?_
  refine g_invV_r (pc := 6) (As := [_, _]) dX7_components_6 rfl (r_isThrown_1 hS) rfl rfl (shK hS rfl) rfl rfl lk_X7_209 rfl (nb rfl) ⟨nb rfl, nb rfl⟩ rfl ?_
  refine g_if_eq (pc := 9) (tgt := 14) dX7_components_9 rfl (fun h9 => absurd h9 ((by decide))) (fun _ => ?_)
  refine g_iconst (pc := 12) (v := 0) dX7_components_12 rfl ?_
  refine g_ireturn (pc := 13) dX7_components_13 rfl rfl ?_
  exact ⟨rfl, rfl⟩
end
end
-- 27.rw
section
/-! ways: the reference's measures -/
def exB (P : Nat → Bool) : Nat → Bool
  | 0 => false
  | k + 1 => exB P k || P k
theorem exB_iff (P : Nat → Bool) : ∀ k, exB P k = true ↔ ∃ i, i < k ∧ P i = true
  | 0 => by simp [exB]
  | k + 1 => by
    rw [exB, Bool.or_eq_true, exB_iff P k]
    constructor
    · rintro (⟨i, h1, h2⟩ | h)
      · exact ⟨i, by omega, h2⟩
      · exact ⟨k, by omega, h⟩
    · rintro ⟨i, h1, h2⟩
      by_cases h : i = k
      · right; rw [← h]; exact h2
      · left; exact ⟨i, by omega, h2⟩
/-- is there a way of just so many edges from a node to t -/
def wkB (f : Nat → Int32) (n t : Nat) : Nat → Nat → Bool
  | 0, k => decide (k = t)
  | m + 1, k => exB (fun i => hb (f k) i && wkB f n t m i) n
theorem wkB_s {f : Nat → Int32} {n t m k : Nat} : wkB f n t (m + 1) k = true ↔ ∃ i, i < n ∧ hb (f k) i = true ∧ wkB f n t m i = true := by
  rw [wkB, exB_iff]
  simp only [Bool.and_eq_true]
/-- the first number below m that has P -/
def fstI (P : Nat → Bool) : Nat → Int32
  | 0 => -1
  | m + 1 => if fstI P m = -1 then (if P m = true then nI m else -1) else fstI P m
theorem nI_m1' {k : Nat} (h : k < 2147483648) : nI k ≠ -1 := fun q => nI_pos (n := k) h (by rw [q]; decide)
theorem fstI_none {P : Nat → Bool} : ∀ m, m < 2147483648 → (fstI P m = -1 ↔ ∀ i, i < m → P i = false)
  | 0, _ => ⟨fun _ i hi => by omega, fun _ => rfl⟩
  | m + 1, hm => by
    have ih := fstI_none (P := P) m (by omega)
    rw [fstI]
    by_cases h : fstI P m = -1
    · rw [if_pos h]
      have h2 := ih.mp h
      cases h3 : P m with
      | true => rw [if_pos rfl]; exact ⟨fun q => absurd q (nI_m1' (by omega)), fun q => by have := q m (by omega); rw [h3] at this; cases this⟩
      | false => rw [if_neg (by decide)]; exact ⟨fun _ i hi => (by omega : i < m ∨ i = m).elim (h2 i) (fun e => e ▸ h3), fun _ => rfl⟩
    · rw [if_neg h]
      exact ⟨fun q => absurd q h, fun q => absurd (ih.mpr (fun i hi => q i (by omega))) h⟩
theorem fstI_at {P : Nat → Bool} {e : Nat} : ∀ m, m < 2147483648 → e < 2147483648 → (fstI P m = nI e ↔ e < m ∧ P e = true ∧ ∀ i, i < e → P i = false)
  | 0, _, he => ⟨fun q => absurd q.symm (nI_m1' he), fun q => by omega⟩
  | m + 1, hm, he => by
    have ih := fstI_at (P := P) (e := e) m (by omega) he
    have h0 := fstI_none (P := P) m (by omega)
    rw [fstI]
    by_cases h : fstI P m = -1
    · rw [if_pos h]
      have h2 := h0.mp h
      cases h3 : P m with
      | true =>
        rw [if_pos rfl, nI_eq (by omega) (by omega)]
        constructor
        · intro q; subst q; exact ⟨by omega, h3, h2⟩
        · rintro ⟨a, b, c⟩
          apply Classical.byContradiction
          intro hne
          have := h2 e (by omega)
          rw [b] at this; cases this
      | false =>
        rw [if_neg (by decide)]
        constructor
        · intro q; exact absurd q.symm (nI_m1' he)
        · rintro ⟨a, b, c⟩
          by_cases hme : e = m
          · rw [hme, h3] at b; cases b
          · have := h2 e (by omega); rw [b] at this; cases this
    · rw [if_neg h, ih]
      constructor
      · rintro ⟨a, b, c⟩; exact ⟨by omega, b, c⟩
      · rintro ⟨a, b, c⟩
        refine ⟨?_, b, c⟩
        apply Classical.byContradiction
        intro hme
        exact h (h0.mpr (fun i hi => c i (by omega)))
theorem fstI_cases (P : Nat → Bool) (m : Nat) (hm : m < 2147483648) : fstI P m = -1 ∨ ∃ e, e < m ∧ fstI P m = nI e := by
  by_cases h : fstI P m = -1
  · exact Or.inl h
  · right
    have h1 : ∃ i, i < m ∧ P i = true := by
      apply Classical.byContradiction
      intro h2
      refine h ((fstI_none m hm).mpr fun i hi => ?_)
      cases h3 : P i with
      | false => rfl
      | true => exact absurd ⟨i, hi, h3⟩ h2
    have key : ∀ d i, i ≤ d → P i = true → ∃ e, e ≤ i ∧ P e = true ∧ ∀ j, j < e → P j = false := by
      intro d
      induction d with
      | zero => intro i h1 h2; exact ⟨i, Nat.le_refl _, h2, fun j hj => by omega⟩
      | succ d ih =>
        intro i h1 h2
        by_cases h3 : ∃ j, j < i ∧ P j = true
        · obtain ⟨j, a, b⟩ := h3
          obtain ⟨e, c1, c2⟩ := ih j (by omega) b
          exact ⟨e, by omega, c2⟩
        · refine ⟨i, Nat.le_refl _, h2, fun j hj => ?_⟩
          cases h4 : P j with
          | false => rfl
          | true => exact absurd ⟨j, hj, h4⟩ h3
    obtain ⟨i, hi, hp⟩ := h1
    obtain ⟨e, c1, c2, c3⟩ := key i i (Nat.le_refl _) hp
    exact ⟨e, by omega, (fstI_at m hm (by omega)).mpr ⟨by omega, c2, c3⟩⟩
/-- how far a node is from t, below d -/
def farF (f : Nat → Int32) (n t d k : Nat) : Int32 := fstI (fun m => wkB f n t m k) d
theorem far_hit {f : Nat → Int32} {n t d k : Nat} (hd : d < 2147483647) (hk : farF f n t (d + 1) k = -1) : (∃ j, j < n ∧ hb (f k) j = true ∧ farF f n t (d + 1) j = nI d) ↔ wkB f n t (d + 1) k = true := by
  have h0 := (fstI_none (P := fun m => wkB f n t m k) (d + 1) (by omega)).mp hk
  rw [wkB_s]
  constructor
  · rintro ⟨j, a, b, c⟩
    exact ⟨j, a, b, ((fstI_at _ (by omega) (by omega)).mp c).2.1⟩
  · rintro ⟨j, a, b, c⟩
    refine ⟨j, a, b, (fstI_at _ (by omega) (by omega)).mpr ⟨by omega, c, fun i hi => ?_⟩⟩
    cases h3 : wkB f n t i j with
    | false => rfl
    | true =>
      have : wkB f n t (i + 1) k = false := h0 (i + 1) (by omega)
      rw [wkB_s.mpr ⟨j, a, b, h3⟩] at this
      cases this
theorem far_same {f : Nat → Int32} {n t d j : Nat} (hd : d < 2147483646) : farF f n t (d + 2) j = nI d ↔ farF f n t (d + 1) j = nI d := by
  unfold farF
  rw [fstI_at _ (by omega) (by omega), fstI_at _ (by omega) (by omega)]
  constructor
  · rintro ⟨a, b, c⟩; exact ⟨by omega, b, c⟩
  · rintro ⟨a, b, c⟩; exact ⟨by omega, b, c⟩
theorem wr_at {g x : Nat → Int32} {k : Nat} (h : wr g x k k = x k) : wr g x k = wr g x (k + 1) := by
  rw [← wr_s, ← h, fs_same]
section
variable {l : Launch} {M : Mem} {n : Nat} {A : Nat → Nat → Int32}
def farM (M : Mem) (f : Nat → Int32) (n t : Nat) : Mem := sI M 208 (wr (mI M 208) (farF f n t n) n)
theorem Rr.sI {i : Nat} {g : Nat → Int32} (h : Rr M n A) : Rr (sI M i g) n A := h
theorem r_measures {s t : Nat} (h : Rr M n A) (hs : s < 6) (ht : t < n) : EvR l jX7_measures 1 30 0 0 [.ref 198, .int (nI s), .int (nI t)] M (.inl none) (farM M (A s) n t) := by
  have hn := h.2.2.2.1
  have hS := h.1
  have hrow := fun (M' : Mem) (h' : Rr M' n A) k (hk : k < n) => r_rowOf (l := l) h' hs hk
  unfold farM
  obtain ⟨f, hf⟩ : ∃ f, f = A s := ⟨_, rfl⟩
  have hrow : ∀ (M' : Mem) (h' : Rr M' n A) k (hk : k < n), EvR l jX7_rowOf 0 0 0 0 [.ref 198, .int (nI s), .int (nI k)] M' (.inl (some (.long (uL (f k))))) M' := fun M' h' k hk => by rw [hf]; exact hrow M' h' k hk
  rw [← hf]
  obtain ⟨g, hg⟩ : ∃ g, g = mI M 208 := ⟨_, rfl⟩
  rw [← hg]
  refine ev_intro rfl (nb rfl) rfl ?_
  refine g_iconst (pc := 0) (v := 0) dX7_measures_0 rfl ?_
  refine g_istore_n (pc := 1) (lv' := [(0, _), (1, _), (2, _), (3, _)]) dX7_measures_1 (nl rfl) rfl ?_
  refine go_loop (pc := 2) n (fun i => [(0, .ref 198), (1, .int (nI s)), (2, .int (nI t)), (3, .int (nI i))]) (fun i => sI M 208 (wr g (farF f n t 1) i)) ⟨rfl, rfl, rfl, rfl, trivial⟩ (sI_eq (by rw [wr_0, hg])) ?_ ?_
  · intro i hi ih
    have h' : Rr (sI M 208 (wr g (farF f n t 1) i)) n A := h
    have e1 : farF f n t 1 i = if i = t then 0 else -1 := by
      show (if (-1 : Int32) = -1 then (if decide (i = t) = true then nI 0 else -1) else -1) = _
      rw [if_pos rfl]
      by_cases q : i = t
      · rw [if_pos (by simp [q]), if_pos q]; rfl
      · rw [if_neg (by simp [q]), if_neg q]
    by_cases q : i = t
    · rw [if_pos q] at e1
      refine g_iload_n (pc := 2) dX7_measures_2 rfl ?_
      refine g_aload_n (pc := 3) dX7_measures_3 rfl trivial ?_
      refine g_invV_r (pc := 4) (As := []) dX7_measures_4 rfl (r_size h') rfl rfl (shK hS rfl) rfl rfl lk_X7_71 rfl (nb rfl) ⟨nb rfl, nb rfl⟩ rfl ?_
      refine g_icmp_ge (pc := 7) (tgt := 32) dX7_measures_7 rfl (fun h7 => absurd h7 (nI_ge hi (by omega))) (fun _ => ?_)
      refine g_aload_n (pc := 10) dX7_measures_10 rfl trivial ?_
      refine g_getf (pc := 11) dX7_measures_11 fk_X7_43 (shK hS rfl) (fv_arr (shR hS rfl)) ?_
      refine g_iload_n (pc := 14) dX7_measures_14 rfl ?_
      refine g_iload_n (pc := 15) dX7_measures_15 rfl ?_
      refine g_iload_n (pc := 16) dX7_measures_16 rfl ?_
      refine g_icmp_ne (pc := 17) (tgt := 24) dX7_measures_17 rfl (fun h17 => absurd h17 ((fun z => z (by rw [q])))) (fun _ => ?_)
      refine g_iconst (pc := 20) (v := 0) dX7_measures_20 rfl ?_
      refine g_goto (pc := 21) (tgt := 25) dX7_measures_21 rfl ?_
      refine g_iastore (pc := 25) dX7_measures_25 (shK hS rfl) rfl (by omega) (nl rfl) ?_
      refine g_iinc (pc := 26) (lv' := [(0, _), (1, _), (2, _), (3, _)]) dX7_measures_26 rfl (nI_1 _) (nl rfl) rfl ?_
      refine g_goto (pc := 29) (tgt := 2) dX7_measures_29 rfl ?_
      exact go_cast (sI_st (by rw [← e1]; exact wr_s _ _ i)) ih
    · rw [if_neg q] at e1
      refine g_iload_n (pc := 2) dX7_measures_2 rfl ?_
      refine g_aload_n (pc := 3) dX7_measures_3 rfl trivial ?_
      refine g_invV_r (pc := 4) (As := []) dX7_measures_4 rfl (r_size h') rfl rfl (shK hS rfl) rfl rfl lk_X7_71 rfl (nb rfl) ⟨nb rfl, nb rfl⟩ rfl ?_
      refine g_icmp_ge (pc := 7) (tgt := 32) dX7_measures_7 rfl (fun h7 => absurd h7 (nI_ge hi (by omega))) (fun _ => ?_)
      refine g_aload_n (pc := 10) dX7_measures_10 rfl trivial ?_
      refine g_getf (pc := 11) dX7_measures_11 fk_X7_43 (shK hS rfl) (fv_arr (shR hS rfl)) ?_
      refine g_iload_n (pc := 14) dX7_measures_14 rfl ?_
      refine g_iload_n (pc := 15) dX7_measures_15 rfl ?_
      refine g_iload_n (pc := 16) dX7_measures_16 rfl ?_
      refine g_icmp_ne (pc := 17) (tgt := 24) dX7_measures_17 rfl (fun _ => ?_) (fun h17 => absurd ((fun z => q ((nI_eq (by omega) (by omega)).mp z))) h17)
      refine g_iconst (pc := 24) (v := (-1)) dX7_measures_24 rfl ?_
      refine g_iastore (pc := 25) dX7_measures_25 (shK hS rfl) rfl (by omega) (nl rfl) ?_
      refine g_iinc (pc := 26) (lv' := [(0, _), (1, _), (2, _), (3, _)]) dX7_measures_26 rfl (nI_1 _) (nl rfl) rfl ?_
      refine g_goto (pc := 29) (tgt := 2) dX7_measures_29 rfl ?_
      exact go_cast (sI_st (by rw [← e1]; exact wr_s _ _ i)) ih
  · have h' : Rr (sI M 208 (wr g (farF f n t 1) n)) n A := h
    refine g_iload_n (pc := 2) dX7_measures_2 rfl ?_
    refine g_aload_n (pc := 3) dX7_measures_3 rfl trivial ?_
    refine g_invV_r (pc := 4) (As := []) dX7_measures_4 rfl (r_size h') rfl rfl (shK hS rfl) rfl rfl lk_X7_71 rfl (nb rfl) ⟨nb rfl, nb rfl⟩ rfl ?_
    refine g_icmp_ge (pc := 7) (tgt := 32) dX7_measures_7 rfl (fun _ => ?_) (fun h7 => absurd (nI_le (Nat.le_refl _) (by omega)) h7)
    refine g_iconst (pc := 32) (v := 1) dX7_measures_32 rfl ?_
    refine g_istore_n (pc := 33) (lv' := [(0, _), (1, _), (2, _), (3, _)]) dX7_measures_33 (nl rfl) rfl ?_
    refine go_loop (pc := 34) (n - 1) (fun i => [(0, .ref 198), (1, .int (nI s)), (2, .int (nI t)), (3, .int (nI (i + 1)))]) (fun i => sI M 208 (wr g (farF f n t (i + 1)) n)) ⟨rfl, rfl, rfl, rfl, trivial⟩ rfl ?_ ?_
    · intro d hd ihd
      have h' : Rr (sI M 208 (wr g (farF f n t (d + 1)) n)) n A := h
      have hhit := fun k => far_hit (f := f) (n := n) (t := t) (d := d) (k := k) (by omega)
      have hsame := fun j => far_same (f := f) (n := n) (t := t) (d := d) (j := j) (by omega)
      have hnew : ∀ k, farF f n t (d + 1 + 1) k = if farF f n t (d + 1) k = -1 then (if wkB f n t (d + 1) k = true then nI (d + 1) else -1) else farF f n t (d + 1) k := fun k => rfl
      rw [← wr_wr g (farF f n t (d + 1)) (farF f n t (d + 1 + 1)) n] at ihd
      generalize farF f n t (d + 1) = P at *
      generalize farF f n t (d + 1 + 1) = Q at *
      generalize wkB f n t (d + 1) = W at *
      have e0 : wr g P n = wr (wr g P n) Q 0 := (wr_0 _ _).symm
      have eP : ∀ k, k < n → wr g P n k = P k := fun k hk => wr_lt hk
      generalize wr g P n = G at *
      refine g_iload_n (pc := 34) dX7_measures_34 rfl ?_
      refine g_aload_n (pc := 35) dX7_measures_35 rfl trivial ?_
      refine g_invV_r (pc := 36) (As := []) dX7_measures_36 rfl (r_size h') rfl rfl (shK hS rfl) rfl rfl lk_X7_71 rfl (nb rfl) ⟨nb rfl, nb rfl⟩ rfl ?_
      refine g_icmp_ge (pc := 39) (tgt := 136) dX7_measures_39 rfl (fun h39 => absurd h39 (nI_ge (show d + 1 < n by omega) (by omega))) (fun _ => ?_)
      refine g_iconst (pc := 42) (v := 0) dX7_measures_42 rfl ?_
      refine g_istore (pc := 43) (lv' := [(0, _), (1, _), (2, _), (3, _), (4, _)]) dX7_measures_43 (nl rfl) rfl ?_
      refine go_loop (pc := 45) n (fun i => [(0, .ref 198), (1, .int (nI s)), (2, .int (nI t)), (3, .int (nI (d + 1))), (4, .int (nI i))]) (fun i => sI M 208 (wr G Q i)) ⟨rfl, rfl, rfl, rfl, rfl, trivial⟩ (by rw [← e0]) ?_ ?_
      · intro k hk ihk
        have h1 : Rr (sI M 208 (wr G Q k)) n A := h
        have h2 : Rr (sI M 208 (wr G Q (k + 1))) n A := h
        have a1 := sI_self M 208 (wr G Q k)
        have a2 := sI_self M 208 (wr G Q (k + 1))
        have ek : wr G Q k k = P k := (wr_ge (Nat.le_refl _)).trans (eP k hk)
        have ek2 : wr G Q (k + 1) k = Q k := wr_lt (by omega)
        have ihk' : Go l jX7_measures 1 30 0 0 (fun r' M' => r' = .inl none ∧ M' = sI M 208 (wr g (farF f n t n) n)) 45 [(0, .ref 198), (1, .int (nI s)), (2, .int (nI t)), (3, .int (nI (d + 1))), (4, .int (nI (k + 1)))] [] 0 0 (sI M 208 (wr G Q (k + 1))) := ihk
        have h124 : ∀ j, Go l jX7_measures 1 30 0 0 (fun r' M' => r' = .inl none ∧ M' = sI M 208 (wr g (farF f n t n) n)) 124 [(0, .ref 198), (1, .int (nI s)), (2, .int (nI t)), (3, .int (nI (d + 1))), (4, .int (nI k)), (5, .int (nI j))] [] 0 0 (sI M 208 (wr G Q (k + 1))) := by
          intro j
          refine g_iinc (pc := 124) (lv' := [(0, _), (1, _), (2, _), (3, _), (4, _), (5, _)]) dX7_measures_124 rfl (nI_1 _) (nl rfl) rfl ?_
          refine g_goto (pc := 127) (tgt := 45) dX7_measures_127 rfl ?_
          exact g_sub (lv' := [(0, _), (1, _), (2, _), (3, _), (4, _)]) ⟨rfl, rfl, rfl, rfl, rfl, trivial⟩ ihk'
        have hdone : Q k ≠ -1 → ∀ j, j ≤ n → Go l jX7_measures 1 30 0 0 (fun r' M' => r' = .inl none ∧ M' = sI M 208 (wr g (farF f n t n) n)) 57 [(0, .ref 198), (1, .int (nI s)), (2, .int (nI t)), (3, .int (nI (d + 1))), (4, .int (nI k)), (5, .int (nI j))] [] 0 0 (sI M 208 (wr G Q (k + 1))) := by
          intro hq j hj
          by_cases hjn : j < n
          · refine g_iload (pc := 57) dX7_measures_57 rfl ?_
            refine g_aload_n (pc := 59) dX7_measures_59 rfl trivial ?_
            refine g_invV_r (pc := 60) (As := []) dX7_measures_60 rfl (r_size h2) rfl rfl (shK hS rfl) rfl rfl lk_X7_71 rfl (nb rfl) ⟨nb rfl, nb rfl⟩ rfl ?_
            refine g_icmp_ge (pc := 63) (tgt := 124) dX7_measures_63 rfl (fun h63 => absurd h63 (nI_ge hjn (by omega))) (fun _ => ?_)
            refine g_aload_n (pc := 66) dX7_measures_66 rfl trivial ?_
            refine g_getf (pc := 67) dX7_measures_67 fk_X7_43 (shK hS rfl) (fv_arr (shR hS rfl)) ?_
            refine g_iload (pc := 70) dX7_measures_70 rfl ?_
            refine g_iaload (pc := 72) dX7_measures_72 (shK hS rfl) rfl (by omega) (nl rfl) ?_
            rw [a2, ek2]
            refine g_iconst (pc := 73) (v := (-1)) dX7_measures_73 rfl ?_
            refine g_icmp_ne (pc := 74) (tgt := 124) dX7_measures_74 rfl (fun _ => ?_) (fun h74 => absurd (hq) h74)
            exact h124 j
          · have hj' : j = n := by omega
            subst hj'
            refine g_iload (pc := 57) dX7_measures_57 rfl ?_
            refine g_aload_n (pc := 59) dX7_measures_59 rfl trivial ?_
            refine g_invV_r (pc := 60) (As := []) dX7_measures_60 rfl (r_size h2) rfl rfl (shK hS rfl) rfl rfl lk_X7_71 rfl (nb rfl) ⟨nb rfl, nb rfl⟩ rfl ?_
            refine g_icmp_ge (pc := 63) (tgt := 124) dX7_measures_63 rfl (fun _ => ?_) (fun h63 => absurd (nI_le (Nat.le_refl _) (by omega)) h63)
            exact h124 j
        have hqk := hnew k
        by_cases hp : P k = -1
        · rw [if_pos hp] at hqk
          have hh := hhit k hp
          refine g_iload (pc := 45) dX7_measures_45 rfl ?_
          refine g_aload_n (pc := 47) dX7_measures_47 rfl trivial ?_
          refine g_invV_r (pc := 48) (As := []) dX7_measures_48 rfl (r_size h1) rfl rfl (shK hS rfl) rfl rfl lk_X7_71 rfl (nb rfl) ⟨nb rfl, nb rfl⟩ rfl ?_
          refine g_icmp_ge (pc := 51) (tgt := 130) dX7_measures_51 rfl (fun h51 => absurd h51 (nI_ge hk (by omega))) (fun _ => ?_)
          refine g_iconst (pc := 54) (v := 0) dX7_measures_54 rfl ?_
          refine g_istore (pc := 55) (lv' := [(0, _), (1, _), (2, _), (3, _), (4, _), (5, _)]) dX7_measures_55 (nl rfl) rfl ?_
          refine go_while (pc := 57) (σ := Nat) (fun q => q ≤ n ∧ ∀ j, j < q → ¬ (hb (f k) j = true ∧ P j = nI d)) (fun q => n - q) (fun q => [(0, .ref 198), (1, .int (nI s)), (2, .int (nI t)), (3, .int (nI (d + 1))), (4, .int (nI k)), (5, .int (nI q))]) (fun q => sI M 208 (wr G Q k)) 0 ⟨rfl, rfl, rfl, rfl, rfl, rfl, trivial⟩ rfl ⟨by omega, fun j hj => by omega⟩ ?_
          rintro q ⟨c1, c3⟩ ih
          by_cases hq : q < n
          · have efar : wr G Q k q = nI d ↔ P q = nI d := by
              by_cases hqk2 : q < k
              · rw [wr_lt hqk2]; exact hsame q
              · rw [wr_ge (by omega), eP q hq]
            cases h4 : hb (f k) q with
            | false =>
              refine g_iload (pc := 57) dX7_measures_57 rfl ?_
              refine g_aload_n (pc := 59) dX7_measures_59 rfl trivial ?_
              refine g_invV_r (pc := 60) (As := []) dX7_measures_60 rfl (r_size h1) rfl rfl (shK hS rfl) rfl rfl lk_X7_71 rfl (nb rfl) ⟨nb rfl, nb rfl⟩ rfl ?_
              refine g_icmp_ge (pc := 63) (tgt := 124) dX7_measures_63 rfl (fun h63 => absurd h63 (nI_ge hq (by omega))) (fun _ => ?_)
              refine g_aload_n (pc := 66) dX7_measures_66 rfl trivial ?_
              refine g_getf (pc := 67) dX7_measures_67 fk_X7_43 (shK hS rfl) (fv_arr (shR hS rfl)) ?_
              refine g_iload (pc := 70) dX7_measures_70 rfl ?_
              refine g_iaload (pc := 72) dX7_measures_72 (shK hS rfl) rfl (by omega) (nl rfl) ?_
              rw [a1, ek, hp]
              refine g_iconst (pc := 73) (v := (-1)) dX7_measures_73 rfl ?_
              refine g_icmp_ne (pc := 74) (tgt := 124) dX7_measures_74 rfl (fun h74 => absurd h74 ((fun z => z rfl))) (fun _ => ?_)
              refine g_aload_n (pc := 77) dX7_measures_77 rfl trivial ?_
              refine g_getf (pc := 78) dX7_measures_78 fk_X7_43 (shK hS rfl) (fv_arr (shR hS rfl)) ?_
              refine g_iload (pc := 81) dX7_measures_81 rfl ?_
              refine g_aload_n (pc := 83) dX7_measures_83 rfl trivial ?_
              refine g_iload_n (pc := 84) dX7_measures_84 rfl ?_
              refine g_iload (pc := 85) dX7_measures_85 rfl ?_
              refine g_invV_r (pc := 87) (As := [_, _]) dX7_measures_87 rfl (hrow _ h1 k hk) rfl rfl (shK hS rfl) rfl rfl lk_X7_227 rfl (nb rfl) ⟨nb rfl, nb rfl⟩ rfl ?_
              refine g_iload (pc := 90) dX7_measures_90 rfl ?_
              refine g_invS_r (pc := 92) (As := [_, _]) dX7_measures_92 rfl (r_one (show q < 32 by omega)) rfl rfl lk_X7_231 rfl (nb rfl) ⟨nb rfl, nb rfl⟩ rfl ?_
              rw [h4]
              refine g_iconst (pc := 95) (v := 1) dX7_measures_95 rfl ?_
              refine g_icmp_ne (pc := 96) (tgt := 116) dX7_measures_96 rfl (fun _ => ?_) (fun h96 => absurd ((by decide)) h96)
              refine g_iconst (pc := 116) (v := (-1)) dX7_measures_116 rfl ?_
              refine g_iastore (pc := 117) dX7_measures_117 (shK hS rfl) rfl (by omega) (nl rfl) ?_
              refine g_iinc (pc := 118) (lv' := [(0, _), (1, _), (2, _), (3, _), (4, _), (5, _)]) dX7_measures_118 rfl (nI_1 _) (nl rfl) rfl ?_
              refine g_goto (pc := 121) (tgt := 57) dX7_measures_121 rfl ?_
              exact go_cast (sI_st (by rw [← hp, ← ek, fs_same])) (ih (q + 1) ⟨hq, fun j hj => (by omega : j < q ∨ j = q).elim (c3 j) (fun e z => by rw [e, h4] at z; cases z.1)⟩ (by omega))
            | true =>
              by_cases h5 : P q = nI d
              · have hw : W k = true := hh.mp ⟨q, hq, h4, h5⟩
                rw [if_pos hw] at hqk
                have h9 := hdone (by rw [hqk]; exact nI_m1' (by omega)) (q + 1) hq
                refine g_iload (pc := 57) dX7_measures_57 rfl ?_
                refine g_aload_n (pc := 59) dX7_measures_59 rfl trivial ?_
                refine g_invV_r (pc := 60) (As := []) dX7_measures_60 rfl (r_size h1) rfl rfl (shK hS rfl) rfl rfl lk_X7_71 rfl (nb rfl) ⟨nb rfl, nb rfl⟩ rfl ?_
                refine g_icmp_ge (pc := 63) (tgt := 124) dX7_measures_63 rfl (fun h63 => absurd h63 (nI_ge hq (by omega))) (fun _ => ?_)
                refine g_aload_n (pc := 66) dX7_measures_66 rfl trivial ?_
                refine g_getf (pc := 67) dX7_measures_67 fk_X7_43 (shK hS rfl) (fv_arr (shR hS rfl)) ?_
                refine g_iload (pc := 70) dX7_measures_70 rfl ?_
                refine g_iaload (pc := 72) dX7_measures_72 (shK hS rfl) rfl (by omega) (nl rfl) ?_
                rw [a1, ek, hp]
                refine g_iconst (pc := 73) (v := (-1)) dX7_measures_73 rfl ?_
                refine g_icmp_ne (pc := 74) (tgt := 124) dX7_measures_74 rfl (fun h74 => absurd h74 ((fun z => z rfl))) (fun _ => ?_)
                refine g_aload_n (pc := 77) dX7_measures_77 rfl trivial ?_
                refine g_getf (pc := 78) dX7_measures_78 fk_X7_43 (shK hS rfl) (fv_arr (shR hS rfl)) ?_
                refine g_iload (pc := 81) dX7_measures_81 rfl ?_
                refine g_aload_n (pc := 83) dX7_measures_83 rfl trivial ?_
                refine g_iload_n (pc := 84) dX7_measures_84 rfl ?_
                refine g_iload (pc := 85) dX7_measures_85 rfl ?_
                refine g_invV_r (pc := 87) (As := [_, _]) dX7_measures_87 rfl (hrow _ h1 k hk) rfl rfl (shK hS rfl) rfl rfl lk_X7_227 rfl (nb rfl) ⟨nb rfl, nb rfl⟩ rfl ?_
                refine g_iload (pc := 90) dX7_measures_90 rfl ?_
                refine g_invS_r (pc := 92) (As := [_, _]) dX7_measures_92 rfl (r_one (show q < 32 by omega)) rfl rfl lk_X7_231 rfl (nb rfl) ⟨nb rfl, nb rfl⟩ rfl ?_
                rw [h4]
                refine g_iconst (pc := 95) (v := 1) dX7_measures_95 rfl ?_
                refine g_icmp_ne (pc := 96) (tgt := 116) dX7_measures_96 rfl (fun h96 => absurd h96 ((fun z => z rfl))) (fun _ => ?_)
                refine g_aload_n (pc := 99) dX7_measures_99 rfl trivial ?_
                refine g_getf (pc := 100) dX7_measures_100 fk_X7_43 (shK hS rfl) (fv_arr (shR hS rfl)) ?_
                refine g_iload (pc := 103) dX7_measures_103 rfl ?_
                refine g_iaload (pc := 105) dX7_measures_105 (shK hS rfl) rfl (by omega) (nl rfl) ?_
                rw [a1]
                refine g_iload_n (pc := 106) dX7_measures_106 rfl ?_
                refine g_iconst (pc := 107) (v := 1) dX7_measures_107 rfl ?_
                refine g_isub (pc := 108) dX7_measures_108 ?_
                rw [nI_m1 (by omega), Nat.add_sub_cancel]
                refine g_icmp_ne (pc := 109) (tgt := 116) dX7_measures_109 rfl (fun h109 => absurd h109 ((fun z => z (efar.mpr h5)))) (fun _ => ?_)
                refine g_iload_n (pc := 112) dX7_measures_112 rfl ?_
                refine g_goto (pc := 113) (tgt := 117) dX7_measures_113 rfl ?_
                refine g_iastore (pc := 117) dX7_measures_117 (shK hS rfl) rfl (by omega) (nl rfl) ?_
                refine g_iinc (pc := 118) (lv' := [(0, _), (1, _), (2, _), (3, _), (4, _), (5, _)]) dX7_measures_118 rfl (nI_1 _) (nl rfl) rfl ?_
                refine g_goto (pc := 121) (tgt := 57) dX7_measures_121 rfl ?_
                exact go_cast (sI_st (by rw [← hqk, wr_s])) h9
              · refine g_iload (pc := 57) dX7_measures_57 rfl ?_
                refine g_aload_n (pc := 59) dX7_measures_59 rfl trivial ?_
                refine g_invV_r (pc := 60) (As := []) dX7_measures_60 rfl (r_size h1) rfl rfl (shK hS rfl) rfl rfl lk_X7_71 rfl (nb rfl) ⟨nb rfl, nb rfl⟩ rfl ?_
                refine g_icmp_ge (pc := 63) (tgt := 124) dX7_measures_63 rfl (fun h63 => absurd h63 (nI_ge hq (by omega))) (fun _ => ?_)
                refine g_aload_n (pc := 66) dX7_measures_66 rfl trivial ?_
                refine g_getf (pc := 67) dX7_measures_67 fk_X7_43 (shK hS rfl) (fv_arr (shR hS rfl)) ?_
                refine g_iload (pc := 70) dX7_measures_70 rfl ?_
                refine g_iaload (pc := 72) dX7_measures_72 (shK hS rfl) rfl (by omega) (nl rfl) ?_
                rw [a1, ek, hp]
                refine g_iconst (pc := 73) (v := (-1)) dX7_measures_73 rfl ?_
                refine g_icmp_ne (pc := 74) (tgt := 124) dX7_measures_74 rfl (fun h74 => absurd h74 ((fun z => z rfl))) (fun _ => ?_)
                refine g_aload_n (pc := 77) dX7_measures_77 rfl trivial ?_
                refine g_getf (pc := 78) dX7_measures_78 fk_X7_43 (shK hS rfl) (fv_arr (shR hS rfl)) ?_
                refine g_iload (pc := 81) dX7_measures_81 rfl ?_
                refine g_aload_n (pc := 83) dX7_measures_83 rfl trivial ?_
                refine g_iload_n (pc := 84) dX7_measures_84 rfl ?_
                refine g_iload (pc := 85) dX7_measures_85 rfl ?_
                refine g_invV_r (pc := 87) (As := [_, _]) dX7_measures_87 rfl (hrow _ h1 k hk) rfl rfl (shK hS rfl) rfl rfl lk_X7_227 rfl (nb rfl) ⟨nb rfl, nb rfl⟩ rfl ?_
                refine g_iload (pc := 90) dX7_measures_90 rfl ?_
                refine g_invS_r (pc := 92) (As := [_, _]) dX7_measures_92 rfl (r_one (show q < 32 by omega)) rfl rfl lk_X7_231 rfl (nb rfl) ⟨nb rfl, nb rfl⟩ rfl ?_
                rw [h4]
                refine g_iconst (pc := 95) (v := 1) dX7_measures_95 rfl ?_
                refine g_icmp_ne (pc := 96) (tgt := 116) dX7_measures_96 rfl (fun h96 => absurd h96 ((fun z => z rfl))) (fun _ => ?_)
                refine g_aload_n (pc := 99) dX7_measures_99 rfl trivial ?_
                refine g_getf (pc := 100) dX7_measures_100 fk_X7_43 (shK hS rfl) (fv_arr (shR hS rfl)) ?_
                refine g_iload (pc := 103) dX7_measures_103 rfl ?_
                refine g_iaload (pc := 105) dX7_measures_105 (shK hS rfl) rfl (by omega) (nl rfl) ?_
                rw [a1]
                refine g_iload_n (pc := 106) dX7_measures_106 rfl ?_
                refine g_iconst (pc := 107) (v := 1) dX7_measures_107 rfl ?_
                refine g_isub (pc := 108) dX7_measures_108 ?_
                rw [nI_m1 (by omega), Nat.add_sub_cancel]
                refine g_icmp_ne (pc := 109) (tgt := 116) dX7_measures_109 rfl (fun _ => ?_) (fun h109 => absurd ((fun z => h5 (efar.mp z))) h109)
                refine g_iconst (pc := 116) (v := (-1)) dX7_measures_116 rfl ?_
                refine g_iastore (pc := 117) dX7_measures_117 (shK hS rfl) rfl (by omega) (nl rfl) ?_
                refine g_iinc (pc := 118) (lv' := [(0, _), (1, _), (2, _), (3, _), (4, _), (5, _)]) dX7_measures_118 rfl (nI_1 _) (nl rfl) rfl ?_
                refine g_goto (pc := 121) (tgt := 57) dX7_measures_121 rfl ?_
                exact go_cast (sI_st (by rw [← hp, ← ek, fs_same])) (ih (q + 1) ⟨hq, fun j hj => (by omega : j < q ∨ j = q).elim (c3 j) (fun e z => by rw [e] at z; exact h5 z.2)⟩ (by omega))
          · have hq' : q = n := by omega
            subst hq'
            have hw : ¬ W k = true := fun z => by
              obtain ⟨j, b1, b2, b3⟩ := hh.mpr z
              exact c3 j b1 ⟨b2, b3⟩
            rw [if_neg hw] at hqk
            have e9 : wr G Q k = wr G Q (k + 1) := wr_at (by rw [ek, hp, hqk])
            have h9 := h124 q
            rw [← e9] at h9
            refine g_iload (pc := 57) dX7_measures_57 rfl ?_
            refine g_aload_n (pc := 59) dX7_measures_59 rfl trivial ?_
            refine g_invV_r (pc := 60) (As := []) dX7_measures_60 rfl (r_size h1) rfl rfl (shK hS rfl) rfl rfl lk_X7_71 rfl (nb rfl) ⟨nb rfl, nb rfl⟩ rfl ?_
            refine g_icmp_ge (pc := 63) (tgt := 124) dX7_measures_63 rfl (fun _ => ?_) (fun h63 => absurd (nI_le (Nat.le_refl _) (by omega)) h63)
            exact h9
        · rw [if_neg hp] at hqk
          have e9 : wr G Q k = wr G Q (k + 1) := wr_at (by rw [ek, hqk])
          have h9 := hdone (by rw [hqk]; exact hp) 0 (by omega)
          rw [← e9] at h9
          refine g_iload (pc := 45) dX7_measures_45 rfl ?_
          refine g_aload_n (pc := 47) dX7_measures_47 rfl trivial ?_
          refine g_invV_r (pc := 48) (As := []) dX7_measures_48 rfl (r_size h1) rfl rfl (shK hS rfl) rfl rfl lk_X7_71 rfl (nb rfl) ⟨nb rfl, nb rfl⟩ rfl ?_
          refine g_icmp_ge (pc := 51) (tgt := 130) dX7_measures_51 rfl (fun h51 => absurd h51 (nI_ge hk (by omega))) (fun _ => ?_)
          refine g_iconst (pc := 54) (v := 0) dX7_measures_54 rfl ?_
          refine g_istore (pc := 55) (lv' := [(0, _), (1, _), (2, _), (3, _), (4, _), (5, _)]) dX7_measures_55 (nl rfl) rfl ?_
          exact h9
      · have h1 : Rr (sI M 208 (wr G Q n)) n A := h
        refine g_iload (pc := 45) dX7_measures_45 rfl ?_
        refine g_aload_n (pc := 47) dX7_measures_47 rfl trivial ?_
        refine g_invV_r (pc := 48) (As := []) dX7_measures_48 rfl (r_size h1) rfl rfl (shK hS rfl) rfl rfl lk_X7_71 rfl (nb rfl) ⟨nb rfl, nb rfl⟩ rfl ?_
        refine g_icmp_ge (pc := 51) (tgt := 130) dX7_measures_51 rfl (fun _ => ?_) (fun h51 => absurd (nI_le (Nat.le_refl _) (by omega)) h51)
        refine g_iinc (pc := 130) (lv' := [(0, _), (1, _), (2, _), (3, _), (4, _)]) dX7_measures_130 rfl (nI_1 _) (nl rfl) rfl ?_
        refine g_goto (pc := 133) (tgt := 34) dX7_measures_133 rfl ?_
        exact g_sub (lv' := [(0, _), (1, _), (2, _), (3, _)]) ⟨rfl, rfl, rfl, rfl, trivial⟩ ihd
    · have h0 := h.2.2.1
      have h' : Rr (sI M 208 (wr g (farF f n t (n - 1 + 1)) n)) n A := h
      have e9 : n - 1 + 1 = n := by omega
      rw [e9] at h' ⊢
      refine g_iload_n (pc := 34) dX7_measures_34 rfl ?_
      refine g_aload_n (pc := 35) dX7_measures_35 rfl trivial ?_
      refine g_invV_r (pc := 36) (As := []) dX7_measures_36 rfl (r_size h') rfl rfl (shK hS rfl) rfl rfl lk_X7_71 rfl (nb rfl) ⟨nb rfl, nb rfl⟩ rfl ?_
      refine g_icmp_ge (pc := 39) (tgt := 136) dX7_measures_39 rfl (fun _ => ?_) (fun h39 => absurd (nI_le (Nat.le_refl _) (by omega)) h39)
      refine g_return (pc := 136) dX7_measures_136 rfl ?_
      exact ⟨rfl, rfl⟩
end
end
-- 271.rw
section
/-! the reference: queries on ways -/
section
variable {l : Launch} {M : Mem} {n : Nat} {A : Nat → Nat → Int32}
theorem farM_at {f : Nat → Int32} {t k : Nat} (hk : k < n) : mI (farM M f n t) 208 k = farF f n t n k := by unfold farM; rw [sI_self, wr_lt hk]
theorem farM_2 {f : Nat → Int32} {t u : Nat} : farM (farM M f n t) f n u = farM M f n u := by unfold farM; rw [sI_self, sI_2, wr_wr]
theorem Rr.far {f : Nat → Int32} {t : Nat} (h : Rr M n A) : Rr (farM M f n t) n A := h
theorem n_distance {s a b : Nat} (h : Rr M n A) (hs : s < 6) (ha : a < n) (hb9 : b < n) : EvR l jX7_distance 4 160 0 0 [.ref 198, .int (nI s), .int (nI a), .int (nI b)] M (.inl (some (.int (farF (A s) n b n a)))) (farM (thr M 0) (A s) n b) := by
  have hn := h.2.2.2.1
  have hS := h.1
  have h' := h.thr (x := 0)
  have h1 : Rr (farM (thr M 0) (A s) n b) n A := h'.far
  have e1 := farM_at (M := thr M 0) (f := A s) (t := b) ha
  have q1 := r_measures (l := l) h' hs hb9
  generalize farM (thr M 0) (A s) n b = M1 at *
  refine ev_intro rfl (nb rfl) rfl ?_
  refine g_aload_n (pc := 0) dX7_distance_0 rfl trivial ?_
  refine g_aload_n (pc := 1) dX7_distance_1 rfl trivial ?_
  refine g_iload_n (pc := 2) dX7_distance_2 rfl ?_
  refine g_iload_n (pc := 3) dX7_distance_3 rfl ?_
  refine g_invV_r (pc := 4) (As := [_, _]) dX7_distance_4 rfl (r_areIn_t h (in6 hs) (inR_nI ha (by omega))) rfl rfl (shK hS rfl) rfl rfl lk_X7_223 rfl (nb rfl) ⟨nb rfl, nb rfl⟩ rfl ?_
  refine g_if_eq (pc := 7) (tgt := 22) dX7_distance_7 rfl (fun h7 => absurd h7 ((by decide))) (fun _ => ?_)
  refine g_aload_n (pc := 10) dX7_distance_10 rfl trivial ?_
  refine g_iload_n (pc := 11) dX7_distance_11 rfl ?_
  refine g_invV_r (pc := 12) (As := [_]) dX7_distance_12 rfl (r_isNode_t h (inR_nI hb9 (by omega))) rfl rfl (shK hS rfl) rfl rfl lk_X7_220 rfl (nb rfl) ⟨nb rfl, nb rfl⟩ rfl ?_
  refine g_if_eq (pc := 15) (tgt := 22) dX7_distance_15 rfl (fun h15 => absurd h15 ((by decide))) (fun _ => ?_)
  refine g_iconst (pc := 18) (v := 1) dX7_distance_18 rfl ?_
  refine g_goto (pc := 19) (tgt := 23) dX7_distance_19 rfl ?_
  refine g_iconst (pc := 23) (v := 1) dX7_distance_23 rfl ?_
  refine g_invV_r (pc := 24) (As := [_, _]) dX7_distance_24 rfl (r_isThrown_0 hS) rfl rfl (shK hS rfl) rfl rfl lk_X7_209 rfl (nb rfl) ⟨nb rfl, nb rfl⟩ rfl ?_
  refine g_if_eq (pc := 27) (tgt := 32) dX7_distance_27 rfl (fun _ => ?_) (fun h27 => absurd (rfl) h27)
  refine g_aload_n (pc := 32) dX7_distance_32 rfl trivial ?_
  refine g_iload_n (pc := 33) dX7_distance_33 rfl ?_
  refine g_iload_n (pc := 34) dX7_distance_34 rfl ?_
  refine g_invV_r (pc := 35) (As := [_, _]) dX7_distance_35 rfl (q1) rfl rfl (shK h'.1 rfl) rfl rfl lk_X7_273 rfl (nb rfl) ⟨nb rfl, nb rfl⟩ rfl ?_
  refine g_aload_n (pc := 38) dX7_distance_38 rfl trivial ?_
  refine g_getf (pc := 39) dX7_distance_39 fk_X7_43 (shK h1.1 rfl) (fv_arr (shR h1.1 rfl)) ?_
  refine g_iload_n (pc := 42) dX7_distance_42 rfl ?_
  refine g_iaload (pc := 43) dX7_distance_43 (shK h1.1 rfl) rfl (by omega) (nl rfl) ?_
  rw [e1]
  refine g_ireturn (pc := 44) dX7_distance_44 rfl rfl ?_
  exact ⟨rfl, rfl⟩
theorem t_distance {v w u : Int32} (h : Rr M n A) (hx : ¬ (inR v 6 ∧ inR w n ∧ inR u n)) : EvR l jX7_distance 4 160 0 0 [.ref 198, .int v, .int w, .int u] M (.inl (some (.int 0))) (thr M 1) := by
  have hS := h.1
  refine ev_intro rfl (nb rfl) rfl ?_
  by_cases h1 : inR v 6 ∧ inR w n
  · refine g_aload_n (pc := 0) dX7_distance_0 rfl trivial ?_
    refine g_aload_n (pc := 1) dX7_distance_1 rfl trivial ?_
    refine g_iload_n (pc := 2) dX7_distance_2 rfl ?_
    refine g_iload_n (pc := 3) dX7_distance_3 rfl ?_
    refine g_invV_r (pc := 4) (As := [_, _]) dX7_distance_4 rfl (r_areIn_t h h1.1 h1.2) rfl rfl (shK hS rfl) rfl rfl lk_X7_223 rfl (nb rfl) ⟨nb rfl, nb rfl⟩ rfl ?_
    refine g_if_eq (pc := 7) (tgt := 22) dX7_distance_7 rfl (fun h7 => absurd h7 ((by decide))) (fun _ => ?_)
    refine g_aload_n (pc := 10) dX7_distance_10 rfl trivial ?_
    refine g_iload_n (pc := 11) dX7_distance_11 rfl ?_
    refine g_invV_r (pc := 12) (As := [_]) dX7_distance_12 rfl (r_isNode_f h (fun q => hx ⟨h1.1, h1.2, q⟩)) rfl rfl (shK hS rfl) rfl rfl lk_X7_220 rfl (nb rfl) ⟨nb rfl, nb rfl⟩ rfl ?_
    refine g_if_eq (pc := 15) (tgt := 22) dX7_distance_15 rfl (fun _ => ?_) (fun h15 => absurd (rfl) h15)
    refine g_iconst (pc := 22) (v := 0) dX7_distance_22 rfl ?_
    refine g_iconst (pc := 23) (v := 1) dX7_distance_23 rfl ?_
    refine g_invV_r (pc := 24) (As := [_, _]) dX7_distance_24 rfl (r_isThrown_1 hS) rfl rfl (shK hS rfl) rfl rfl lk_X7_209 rfl (nb rfl) ⟨nb rfl, nb rfl⟩ rfl ?_
    refine g_if_eq (pc := 27) (tgt := 32) dX7_distance_27 rfl (fun h27 => absurd h27 ((by decide))) (fun _ => ?_)
    refine g_iconst (pc := 30) (v := 0) dX7_distance_30 rfl ?_
    refine g_ireturn (pc := 31) dX7_distance_31 rfl rfl ?_
    exact ⟨rfl, rfl⟩
  · refine g_aload_n (pc := 0) dX7_distance_0 rfl trivial ?_
    refine g_aload_n (pc := 1) dX7_distance_1 rfl trivial ?_
    refine g_iload_n (pc := 2) dX7_distance_2 rfl ?_
    refine g_iload_n (pc := 3) dX7_distance_3 rfl ?_
    refine g_invV_r (pc := 4) (As := [_, _]) dX7_distance_4 rfl (r_areIn_f h h1) rfl rfl (shK hS rfl) rfl rfl lk_X7_223 rfl (nb rfl) ⟨nb rfl, nb rfl⟩ rfl ?_
    refine g_if_eq (pc := 7) (tgt := 22) dX7_distance_7 rfl (fun _ => ?_) (fun h7 => absurd (rfl) h7)
    refine g_iconst (pc := 22) (v := 0) dX7_distance_22 rfl ?_
    refine g_iconst (pc := 23) (v := 1) dX7_distance_23 rfl ?_
    refine g_invV_r (pc := 24) (As := [_, _]) dX7_distance_24 rfl (r_isThrown_1 hS) rfl rfl (shK hS rfl) rfl rfl lk_X7_209 rfl (nb rfl) ⟨nb rfl, nb rfl⟩ rfl ?_
    refine g_if_eq (pc := 27) (tgt := 32) dX7_distance_27 rfl (fun h27 => absurd h27 ((by decide))) (fun _ => ?_)
    refine g_iconst (pc := 30) (v := 0) dX7_distance_30 rfl ?_
    refine g_ireturn (pc := 31) dX7_distance_31 rfl rfl ?_
    exact ⟨rfl, rfl⟩
/-- the next node of the first shortest way -/
def nxP (f : Nat → Int32) (n t h : Nat) (j : Nat) : Bool := hb (f h) j && decide (farF f n t n j = farF f n t n h - 1)
def nxF (f : Nat → Int32) (n t h : Nat) : Nat := (fstI (nxP f n t h) n).toNatClampNeg
def spF (f : Nat → Int32) (n t a : Nat) : Nat → Nat
  | 0 => a
  | k + 1 => nxF f n t (spF f n t a k)
theorem nxF_ok {f : Nat → Int32} {t h e : Nat} (hn : n ≤ 32) (he : farF f n t n h = nI (e + 1)) (hen : e + 1 < n) : nxF f n t h < n ∧ hb (f h) (nxF f n t h) = true ∧ farF f n t n (nxF f n t h) = nI e ∧ ∀ j, j < nxF f n t h → ¬ (hb (f h) j = true ∧ farF f n t n j = nI e) := by
  have e1 : farF f n t n h - 1 = nI e := by rw [he]; exact nI_pred e
  have hP : ∀ j, nxP f n t h j = true ↔ hb (f h) j = true ∧ farF f n t n j = nI e := fun j => by
    unfold nxP; rw [e1, Bool.and_eq_true, decide_eq_true_iff]
  have hex : ∃ j, j < n ∧ nxP f n t h j = true := by
    have h1 := (fstI_at (P := fun m => wkB f n t m h) n (by omega) (by omega)).mp he
    obtain ⟨j, a1, a2, a3⟩ := wkB_s.mp h1.2.1
    refine ⟨j, a1, (hP j).mpr ⟨a2, (fstI_at (P := fun m => wkB f n t m j) n (by omega) (by omega)).mpr ⟨by omega, a3, fun i hi => ?_⟩⟩⟩
    cases h3 : wkB f n t i j with
    | false => rfl
    | true =>
      have h4 : wkB f n t (i + 1) h = false := h1.2.2 (i + 1) (by omega)
      rw [wkB_s.mpr ⟨j, a1, a2, h3⟩] at h4
      cases h4
  have h2 : fstI (nxP f n t h) n ≠ -1 := fun q => by
    obtain ⟨j, a1, a2⟩ := hex
    have := (fstI_none n (by omega)).mp q j a1
    rw [a2] at this; cases this
  rcases fstI_cases (nxP f n t h) n (by omega) with q | ⟨x, hx, q⟩
  · exact absurd q h2
  · have hx2 := (fstI_at n (by omega) (by omega)).mp q
    have hx3 : nxF f n t h = x := by unfold nxF; rw [q]; exact nI_clamp (by omega)
    rw [hx3]
    obtain ⟨b1, b2⟩ := (hP x).mp hx2.2.1
    exact ⟨hx, b1, b2, fun j hj z => by have := hx2.2.2 j hj; rw [(hP j).mpr z] at this; cases this⟩
theorem spF_ok {f : Nat → Int32} {t a e : Nat} (hn : n ≤ 32) (ha : a < n) (he : farF f n t n a = nI e) (hen : e < n) : ∀ k, k ≤ e → spF f n t a k < n ∧ farF f n t n (spF f n t a k) = nI (e - k)
  | 0, _ => ⟨ha, he⟩
  | k + 1, hk => by
    obtain ⟨a1, a2⟩ := spF_ok hn ha he hen k (by omega)
    rw [spF]
    have := nxF_ok (f := f) (t := t) (h := spF f n t a k) (e := e - (k + 1)) hn (by rw [a2]; congr 1; omega) (by omega)
    exact ⟨this.1, this.2.2.1⟩
theorem le_long (x y : Int32) : x.toInt64 ≤ y.toInt64 ↔ x ≤ y := by
  rw [Int64.le_iff_toInt_le, Int32.toInt_toInt64, Int32.toInt_toInt64, Int32.le_iff_toInt_le]
theorem n_stepAt {s a b e i : Nat} (h : Rr M n A) (hs : s < 6) (ha : a < n) (hb9 : b < n) (he : farF (A s) n b n a = nI e) (hen : e < n) (hi : i ≤ e) : EvR l jX7_stepAt 4 160 0 0 [.ref 198, .int (nI s), .int (nI a), .int (nI b), .int (nI i)] M (.inl (some (.int (nI (spF (A s) n b a i))))) (farM (thr M 0) (A s) n b) := by
  have hn := h.2.2.2.1
  have hS := h.1
  have h' := h.thr (x := 0)
  have h1 : Rr (farM (thr M 0) (A s) n b) n A := h'.far
  have e1 := fun k (hk : k < n) => farM_at (M := thr M 0) (f := A s) (t := b) hk
  have q1 := r_measures (l := l) h' hs hb9
  have hrow := fun k (hk : k < n) => r_rowOf (l := l) h1 hs hk
  have hsp := spF_ok (f := A s) (t := b) hn ha he hen
  have hnx := fun hh ee => nxF_ok (f := A s) (t := b) (h := hh) (e := ee) hn
  have hsuc : ∀ k, spF (A s) n b a (k + 1) = nxF (A s) n b (spF (A s) n b a k) := fun k => rfl
  have h0 : spF (A s) n b a 0 = a := rfl
  generalize farM (thr M 0) (A s) n b = M1 at *
  have e2 := e1 a ha
  rw [he] at e2
  generalize spF (A s) n b a = sp at *
  generalize nxF (A s) n b = nx at *
  generalize farF (A s) n b n = ff at *
  generalize A s = f at *
  refine ev_intro rfl (nb rfl) rfl ?_
  refine g_aload_n (pc := 0) dX7_stepAt_0 rfl trivial ?_
  refine g_aload_n (pc := 1) dX7_stepAt_1 rfl trivial ?_
  refine g_iload_n (pc := 2) dX7_stepAt_2 rfl ?_
  refine g_iload_n (pc := 3) dX7_stepAt_3 rfl ?_
  refine g_invV_r (pc := 4) (As := [_, _]) dX7_stepAt_4 rfl (r_areIn_t h (in6 hs) (inR_nI ha (by omega))) rfl rfl (shK hS rfl) rfl rfl lk_X7_223 rfl (nb rfl) ⟨nb rfl, nb rfl⟩ rfl ?_
  refine g_if_eq (pc := 7) (tgt := 22) dX7_stepAt_7 rfl (fun h7 => absurd h7 ((by decide))) (fun _ => ?_)
  refine g_aload_n (pc := 10) dX7_stepAt_10 rfl trivial ?_
  refine g_iload_n (pc := 11) dX7_stepAt_11 rfl ?_
  refine g_invV_r (pc := 12) (As := [_]) dX7_stepAt_12 rfl (r_isNode_t h (inR_nI hb9 (by omega))) rfl rfl (shK hS rfl) rfl rfl lk_X7_220 rfl (nb rfl) ⟨nb rfl, nb rfl⟩ rfl ?_
  refine g_if_eq (pc := 15) (tgt := 22) dX7_stepAt_15 rfl (fun h15 => absurd h15 ((by decide))) (fun _ => ?_)
  refine g_iconst (pc := 18) (v := 1) dX7_stepAt_18 rfl ?_
  refine g_goto (pc := 19) (tgt := 23) dX7_stepAt_19 rfl ?_
  refine g_iconst (pc := 23) (v := 1) dX7_stepAt_23 rfl ?_
  refine g_invV_r (pc := 24) (As := [_, _]) dX7_stepAt_24 rfl (r_isThrown_0 hS) rfl rfl (shK hS rfl) rfl rfl lk_X7_209 rfl (nb rfl) ⟨nb rfl, nb rfl⟩ rfl ?_
  refine g_if_eq (pc := 27) (tgt := 32) dX7_stepAt_27 rfl (fun _ => ?_) (fun h27 => absurd (rfl) h27)
  refine g_aload_n (pc := 32) dX7_stepAt_32 rfl trivial ?_
  refine g_iload_n (pc := 33) dX7_stepAt_33 rfl ?_
  refine g_iload_n (pc := 34) dX7_stepAt_34 rfl ?_
  refine g_invV_r (pc := 35) (As := [_, _]) dX7_stepAt_35 rfl (q1) rfl rfl (shK h'.1 rfl) rfl rfl lk_X7_273 rfl (nb rfl) ⟨nb rfl, nb rfl⟩ rfl ?_
  refine g_iload (pc := 38) dX7_stepAt_38 rfl ?_
  refine g_i2l (pc := 40) dX7_stepAt_40 rfl ?_
  refine g_lconst (pc := 41) (v := 0) dX7_stepAt_41 rfl ?_
  refine g_aload_n (pc := 42) dX7_stepAt_42 rfl trivial ?_
  refine g_getf (pc := 43) dX7_stepAt_43 fk_X7_43 (shK h1.1 rfl) (fv_arr (shR h1.1 rfl)) ?_
  refine g_iload_n (pc := 46) dX7_stepAt_46 rfl ?_
  refine g_iaload (pc := 47) dX7_stepAt_47 (shK h1.1 rfl) rfl (by omega) (nl rfl) ?_
  rw [e2]
  refine g_i2l (pc := 48) dX7_stepAt_48 rfl ?_
  refine g_invS_r (pc := 49) (As := [_, _, _]) dX7_stepAt_49 rfl (r_in_t (by rw [show (0 : Int64) = (0 : Int32).toInt64 from rfl, le_long]; exact nI_pos' (by omega)) ((le_long _ _).mpr (nI_le hi (by omega)))) rfl rfl lk_X7_67 rfl (nb rfl) ⟨nb rfl, nb rfl⟩ rfl ?_
  refine g_if_ne (pc := 52) (tgt := 57) dX7_stepAt_52 rfl (fun _ => ?_) (fun h52 => absurd ((by decide)) h52)
  refine g_iload_n (pc := 57) dX7_stepAt_57 rfl ?_
  refine g_istore (pc := 58) (lv' := [(0, _), (1, _), (2, _), (3, _), (4, _), (5, _)]) dX7_stepAt_58 (nl rfl) rfl ?_
  refine g_iconst (pc := 60) (v := 0) dX7_stepAt_60 rfl ?_
  refine g_istore (pc := 61) (lv' := [(0, _), (1, _), (2, _), (3, _), (4, _), (5, _), (6, _)]) dX7_stepAt_61 (nl rfl) rfl ?_
  refine go_loop (pc := 63) i (fun k => [(0, .ref 198), (1, .int (nI s)), (4, .int (nI i)), (5, .int (nI (sp k))), (6, .int (nI k))]) (fun _ => M1) ⟨rfl, rfl, rfl, by rw [h0]; rfl, rfl, trivial⟩ rfl ?_ ?_
  · intro k hk ihk
    obtain ⟨b1, b2⟩ := hsp k (by omega)
    obtain ⟨c1, c2, c3, c4⟩ := hnx (sp k) (e - (k + 1)) (by rw [b2]; congr 1; omega) (by omega)
    rw [hsuc k] at ihk
    have b3 : ff (sp k) - 1 = nI (e - (k + 1)) := by rw [b2, nI_m1 (by omega)]; congr 1
    generalize nx (sp k) = y at *
    generalize sp k = x at *
    refine g_iload (pc := 63) dX7_stepAt_63 rfl ?_
    refine g_iload (pc := 65) dX7_stepAt_65 rfl ?_
    refine g_icmp_ge (pc := 67) (tgt := 123) dX7_stepAt_67 rfl (fun h67 => absurd h67 (nI_ge hk (by omega))) (fun _ => ?_)
    refine g_iconst (pc := 70) (v := 0) dX7_stepAt_70 rfl ?_
    refine g_istore (pc := 71) (lv' := [(0, _), (1, _), (4, _), (5, _), (6, _), (7, _)]) dX7_stepAt_71 (nl rfl) rfl ?_
    refine go_while (pc := 73) (σ := Nat) (fun q => q ≤ y) (fun q => y - q) (fun q => [(0, .ref 198), (1, .int (nI s)), (4, .int (nI i)), (5, .int (nI x)), (6, .int (nI k)), (7, .int (nI q))]) (fun q => M1) 0 ⟨rfl, rfl, rfl, rfl, rfl, rfl, trivial⟩ rfl (by omega) ?_
    rintro q d1 ih
    by_cases hq : q = y
    · subst hq
      refine g_aload_n (pc := 73) dX7_stepAt_73 rfl trivial ?_
      refine g_iload_n (pc := 74) dX7_stepAt_74 rfl ?_
      refine g_iload (pc := 75) dX7_stepAt_75 rfl ?_
      refine g_invV_r (pc := 77) (As := [_, _]) dX7_stepAt_77 rfl ((hrow x b1)) rfl rfl (shK h1.1 rfl) rfl rfl lk_X7_227 rfl (nb rfl) ⟨nb rfl, nb rfl⟩ rfl ?_
      refine g_iload (pc := 80) dX7_stepAt_80 rfl ?_
      refine g_invS_r (pc := 82) (As := [_, _]) dX7_stepAt_82 rfl (r_one (show q < 32 by omega)) rfl rfl lk_X7_231 rfl (nb rfl) ⟨nb rfl, nb rfl⟩ rfl ?_
      rw [c2]
      refine g_if_eq (pc := 85) (tgt := 107) dX7_stepAt_85 rfl (fun h85 => absurd h85 ((by decide))) (fun _ => ?_)
      refine g_aload_n (pc := 88) dX7_stepAt_88 rfl trivial ?_
      refine g_getf (pc := 89) dX7_stepAt_89 fk_X7_43 (shK h1.1 rfl) (fv_arr (shR h1.1 rfl)) ?_
      refine g_iload (pc := 92) dX7_stepAt_92 rfl ?_
      refine g_iaload (pc := 94) dX7_stepAt_94 (shK h1.1 rfl) rfl (by omega) (nl rfl) ?_
      rw [e1 q (by omega), c3]
      refine g_aload_n (pc := 95) dX7_stepAt_95 rfl trivial ?_
      refine g_getf (pc := 96) dX7_stepAt_96 fk_X7_43 (shK h1.1 rfl) (fv_arr (shR h1.1 rfl)) ?_
      refine g_iload (pc := 99) dX7_stepAt_99 rfl ?_
      refine g_iaload (pc := 101) dX7_stepAt_101 (shK h1.1 rfl) rfl (by omega) (nl rfl) ?_
      rw [e1 x b1]
      refine g_iconst (pc := 102) (v := 1) dX7_stepAt_102 rfl ?_
      refine g_isub (pc := 103) dX7_stepAt_103 ?_
      rw [b3]
      refine g_icmp_eq (pc := 104) (tgt := 113) dX7_stepAt_104 rfl (fun _ => ?_) (fun h104 => absurd (rfl) h104)
      refine g_iload (pc := 113) dX7_stepAt_113 rfl ?_
      refine g_istore (pc := 115) (lv' := [(0, _), (1, _), (4, _), (5, _), (6, _), (7, _)]) dX7_stepAt_115 (nl rfl) rfl ?_
      refine g_iinc (pc := 117) (lv' := [(0, _), (1, _), (4, _), (5, _), (6, _), (7, _)]) dX7_stepAt_117 rfl (nI_1 _) (nl rfl) rfl ?_
      refine g_goto (pc := 120) (tgt := 63) dX7_stepAt_120 rfl ?_
      exact g_sub (lv' := [(0, _), (1, _), (4, _), (5, _), (6, _)]) ⟨rfl, rfl, rfl, rfl, rfl, trivial⟩ ihk
    · have hqy : q < y := by omega
      have d2 := c4 q hqy
      cases h4 : hb (f x) q with
      | false =>
        refine g_aload_n (pc := 73) dX7_stepAt_73 rfl trivial ?_
        refine g_iload_n (pc := 74) dX7_stepAt_74 rfl ?_
        refine g_iload (pc := 75) dX7_stepAt_75 rfl ?_
        refine g_invV_r (pc := 77) (As := [_, _]) dX7_stepAt_77 rfl ((hrow x b1)) rfl rfl (shK h1.1 rfl) rfl rfl lk_X7_227 rfl (nb rfl) ⟨nb rfl, nb rfl⟩ rfl ?_
        refine g_iload (pc := 80) dX7_stepAt_80 rfl ?_
        refine g_invS_r (pc := 82) (As := [_, _]) dX7_stepAt_82 rfl (r_one (show q < 32 by omega)) rfl rfl lk_X7_231 rfl (nb rfl) ⟨nb rfl, nb rfl⟩ rfl ?_
        rw [h4]
        refine g_if_eq (pc := 85) (tgt := 107) dX7_stepAt_85 rfl (fun _ => ?_) (fun h85 => absurd (rfl) h85)
        refine g_iinc (pc := 107) (lv' := [(0, _), (1, _), (4, _), (5, _), (6, _), (7, _)]) dX7_stepAt_107 rfl (nI_1 _) (nl rfl) rfl ?_
        refine g_goto (pc := 110) (tgt := 73) dX7_stepAt_110 rfl ?_
        exact ih (q + 1) hqy (by omega)
      | true =>
        refine g_aload_n (pc := 73) dX7_stepAt_73 rfl trivial ?_
        refine g_iload_n (pc := 74) dX7_stepAt_74 rfl ?_
        refine g_iload (pc := 75) dX7_stepAt_75 rfl ?_
        refine g_invV_r (pc := 77) (As := [_, _]) dX7_stepAt_77 rfl ((hrow x b1)) rfl rfl (shK h1.1 rfl) rfl rfl lk_X7_227 rfl (nb rfl) ⟨nb rfl, nb rfl⟩ rfl ?_
        refine g_iload (pc := 80) dX7_stepAt_80 rfl ?_
        refine g_invS_r (pc := 82) (As := [_, _]) dX7_stepAt_82 rfl (r_one (show q < 32 by omega)) rfl rfl lk_X7_231 rfl (nb rfl) ⟨nb rfl, nb rfl⟩ rfl ?_
        rw [h4]
        refine g_if_eq (pc := 85) (tgt := 107) dX7_stepAt_85 rfl (fun h85 => absurd h85 ((by decide))) (fun _ => ?_)
        refine g_aload_n (pc := 88) dX7_stepAt_88 rfl trivial ?_
        refine g_getf (pc := 89) dX7_stepAt_89 fk_X7_43 (shK h1.1 rfl) (fv_arr (shR h1.1 rfl)) ?_
        refine g_iload (pc := 92) dX7_stepAt_92 rfl ?_
        refine g_iaload (pc := 94) dX7_stepAt_94 (shK h1.1 rfl) rfl (by omega) (nl rfl) ?_
        rw [e1 q (by omega)]
        refine g_aload_n (pc := 95) dX7_stepAt_95 rfl trivial ?_
        refine g_getf (pc := 96) dX7_stepAt_96 fk_X7_43 (shK h1.1 rfl) (fv_arr (shR h1.1 rfl)) ?_
        refine g_iload (pc := 99) dX7_stepAt_99 rfl ?_
        refine g_iaload (pc := 101) dX7_stepAt_101 (shK h1.1 rfl) rfl (by omega) (nl rfl) ?_
        rw [e1 x b1]
        refine g_iconst (pc := 102) (v := 1) dX7_stepAt_102 rfl ?_
        refine g_isub (pc := 103) dX7_stepAt_103 ?_
        rw [b3]
        refine g_icmp_eq (pc := 104) (tgt := 113) dX7_stepAt_104 rfl (fun h104 => absurd h104 ((fun z => d2 ⟨h4, z⟩))) (fun _ => ?_)
        refine g_iinc (pc := 107) (lv' := [(0, _), (1, _), (4, _), (5, _), (6, _), (7, _)]) dX7_stepAt_107 rfl (nI_1 _) (nl rfl) rfl ?_
        refine g_goto (pc := 110) (tgt := 73) dX7_stepAt_110 rfl ?_
        exact ih (q + 1) hqy (by omega)
  · refine g_iload (pc := 63) dX7_stepAt_63 rfl ?_
    refine g_iload (pc := 65) dX7_stepAt_65 rfl ?_
    refine g_icmp_ge (pc := 67) (tgt := 123) dX7_stepAt_67 rfl (fun _ => ?_) (fun h67 => absurd (nI_le (Nat.le_refl _) (by omega)) h67)
    refine g_iload (pc := 123) dX7_stepAt_123 rfl ?_
    refine g_ireturn (pc := 125) dX7_stepAt_125 rfl rfl ?_
    exact ⟨rfl, rfl⟩
theorem o_stepAt {s a b : Nat} {x : Int32} (h : Rr M n A) (hs : s < 6) (ha : a < n) (hb9 : b < n) (hx : ¬ (0 ≤ x ∧ x ≤ farF (A s) n b n a)) : EvR l jX7_stepAt 4 160 0 0 [.ref 198, .int (nI s), .int (nI a), .int (nI b), .int x] M (.inl (some (.int (-1)))) (farM (thr M 0) (A s) n b) := by
  have hn := h.2.2.2.1
  have hS := h.1
  have h' := h.thr (x := 0)
  have h1 : Rr (farM (thr M 0) (A s) n b) n A := h'.far
  have e1 := farM_at (M := thr M 0) (f := A s) (t := b) ha
  have q1 := r_measures (l := l) h' hs hb9
  generalize farM (thr M 0) (A s) n b = M1 at *
  generalize farF (A s) n b n a = y at *
  refine ev_intro rfl (nb rfl) rfl ?_
  refine g_aload_n (pc := 0) dX7_stepAt_0 rfl trivial ?_
  refine g_aload_n (pc := 1) dX7_stepAt_1 rfl trivial ?_
  refine g_iload_n (pc := 2) dX7_stepAt_2 rfl ?_
  refine g_iload_n (pc := 3) dX7_stepAt_3 rfl ?_
  refine g_invV_r (pc := 4) (As := [_, _]) dX7_stepAt_4 rfl (r_areIn_t h (in6 hs) (inR_nI ha (by omega))) rfl rfl (shK hS rfl) rfl rfl lk_X7_223 rfl (nb rfl) ⟨nb rfl, nb rfl⟩ rfl ?_
  refine g_if_eq (pc := 7) (tgt := 22) dX7_stepAt_7 rfl (fun h7 => absurd h7 ((by decide))) (fun _ => ?_)
  refine g_aload_n (pc := 10) dX7_stepAt_10 rfl trivial ?_
  refine g_iload_n (pc := 11) dX7_stepAt_11 rfl ?_
  refine g_invV_r (pc := 12) (As := [_]) dX7_stepAt_12 rfl (r_isNode_t h (inR_nI hb9 (by omega))) rfl rfl (shK hS rfl) rfl rfl lk_X7_220 rfl (nb rfl) ⟨nb rfl, nb rfl⟩ rfl ?_
  refine g_if_eq (pc := 15) (tgt := 22) dX7_stepAt_15 rfl (fun h15 => absurd h15 ((by decide))) (fun _ => ?_)
  refine g_iconst (pc := 18) (v := 1) dX7_stepAt_18 rfl ?_
  refine g_goto (pc := 19) (tgt := 23) dX7_stepAt_19 rfl ?_
  refine g_iconst (pc := 23) (v := 1) dX7_stepAt_23 rfl ?_
  refine g_invV_r (pc := 24) (As := [_, _]) dX7_stepAt_24 rfl (r_isThrown_0 hS) rfl rfl (shK hS rfl) rfl rfl lk_X7_209 rfl (nb rfl) ⟨nb rfl, nb rfl⟩ rfl ?_
  refine g_if_eq (pc := 27) (tgt := 32) dX7_stepAt_27 rfl (fun _ => ?_) (fun h27 => absurd (rfl) h27)
  refine g_aload_n (pc := 32) dX7_stepAt_32 rfl trivial ?_
  refine g_iload_n (pc := 33) dX7_stepAt_33 rfl ?_
  refine g_iload_n (pc := 34) dX7_stepAt_34 rfl ?_
  refine g_invV_r (pc := 35) (As := [_, _]) dX7_stepAt_35 rfl (q1) rfl rfl (shK h'.1 rfl) rfl rfl lk_X7_273 rfl (nb rfl) ⟨nb rfl, nb rfl⟩ rfl ?_
  refine g_iload (pc := 38) dX7_stepAt_38 rfl ?_
  refine g_i2l (pc := 40) dX7_stepAt_40 rfl ?_
  refine g_lconst (pc := 41) (v := 0) dX7_stepAt_41 rfl ?_
  refine g_aload_n (pc := 42) dX7_stepAt_42 rfl trivial ?_
  refine g_getf (pc := 43) dX7_stepAt_43 fk_X7_43 (shK h1.1 rfl) (fv_arr (shR h1.1 rfl)) ?_
  refine g_iload_n (pc := 46) dX7_stepAt_46 rfl ?_
  refine g_iaload (pc := 47) dX7_stepAt_47 (shK h1.1 rfl) rfl (by omega) (nl rfl) ?_
  rw [e1]
  refine g_i2l (pc := 48) dX7_stepAt_48 rfl ?_
  refine g_invS_r (pc := 49) (As := [_, _, _]) dX7_stepAt_49 rfl (r_in_f (fun z => hx ⟨(le_long 0 x).mp z.1, (le_long _ _).mp z.2⟩)) rfl rfl lk_X7_67 rfl (nb rfl) ⟨nb rfl, nb rfl⟩ rfl ?_
  refine g_if_ne (pc := 52) (tgt := 57) dX7_stepAt_52 rfl (fun h52 => absurd h52 ((fun z => z rfl))) (fun _ => ?_)
  refine g_iconst (pc := 55) (v := (-1)) dX7_stepAt_55 rfl ?_
  refine g_ireturn (pc := 56) dX7_stepAt_56 rfl rfl ?_
  exact ⟨rfl, rfl⟩
theorem t_stepAt {v w u x : Int32} (h : Rr M n A) (hx : ¬ (inR v 6 ∧ inR w n ∧ inR u n)) : EvR l jX7_stepAt 4 160 0 0 [.ref 198, .int v, .int w, .int u, .int x] M (.inl (some (.int 0))) (thr M 1) := by
  have hS := h.1
  refine ev_intro rfl (nb rfl) rfl ?_
  by_cases h1 : inR v 6 ∧ inR w n
  · refine g_aload_n (pc := 0) dX7_stepAt_0 rfl trivial ?_
    refine g_aload_n (pc := 1) dX7_stepAt_1 rfl trivial ?_
    refine g_iload_n (pc := 2) dX7_stepAt_2 rfl ?_
    refine g_iload_n (pc := 3) dX7_stepAt_3 rfl ?_
    refine g_invV_r (pc := 4) (As := [_, _]) dX7_stepAt_4 rfl (r_areIn_t h h1.1 h1.2) rfl rfl (shK hS rfl) rfl rfl lk_X7_223 rfl (nb rfl) ⟨nb rfl, nb rfl⟩ rfl ?_
    refine g_if_eq (pc := 7) (tgt := 22) dX7_stepAt_7 rfl (fun h7 => absurd h7 ((by decide))) (fun _ => ?_)
    refine g_aload_n (pc := 10) dX7_stepAt_10 rfl trivial ?_
    refine g_iload_n (pc := 11) dX7_stepAt_11 rfl ?_
    refine g_invV_r (pc := 12) (As := [_]) dX7_stepAt_12 rfl (r_isNode_f h (fun q => hx ⟨h1.1, h1.2, q⟩)) rfl rfl (shK hS rfl) rfl rfl lk_X7_220 rfl (nb rfl) ⟨nb rfl, nb rfl⟩ rfl ?_
    refine g_if_eq (pc := 15) (tgt := 22) dX7_stepAt_15 rfl (fun _ => ?_) (fun h15 => absurd (rfl) h15)
    refine g_iconst (pc := 22) (v := 0) dX7_stepAt_22 rfl ?_
    refine g_iconst (pc := 23) (v := 1) dX7_stepAt_23 rfl ?_
    refine g_invV_r (pc := 24) (As := [_, _]) dX7_stepAt_24 rfl (r_isThrown_1 hS) rfl rfl (shK hS rfl) rfl rfl lk_X7_209 rfl (nb rfl) ⟨nb rfl, nb rfl⟩ rfl ?_
    refine g_if_eq (pc := 27) (tgt := 32) dX7_stepAt_27 rfl (fun h27 => absurd h27 ((by decide))) (fun _ => ?_)
    refine g_iconst (pc := 30) (v := 0) dX7_stepAt_30 rfl ?_
    refine g_ireturn (pc := 31) dX7_stepAt_31 rfl rfl ?_
    exact ⟨rfl, rfl⟩
  · refine g_aload_n (pc := 0) dX7_stepAt_0 rfl trivial ?_
    refine g_aload_n (pc := 1) dX7_stepAt_1 rfl trivial ?_
    refine g_iload_n (pc := 2) dX7_stepAt_2 rfl ?_
    refine g_iload_n (pc := 3) dX7_stepAt_3 rfl ?_
    refine g_invV_r (pc := 4) (As := [_, _]) dX7_stepAt_4 rfl (r_areIn_f h h1) rfl rfl (shK hS rfl) rfl rfl lk_X7_223 rfl (nb rfl) ⟨nb rfl, nb rfl⟩ rfl ?_
    refine g_if_eq (pc := 7) (tgt := 22) dX7_stepAt_7 rfl (fun _ => ?_) (fun h7 => absurd (rfl) h7)
    refine g_iconst (pc := 22) (v := 0) dX7_stepAt_22 rfl ?_
    refine g_iconst (pc := 23) (v := 1) dX7_stepAt_23 rfl ?_
    refine g_invV_r (pc := 24) (As := [_, _]) dX7_stepAt_24 rfl (r_isThrown_1 hS) rfl rfl (shK hS rfl) rfl rfl lk_X7_209 rfl (nb rfl) ⟨nb rfl, nb rfl⟩ rfl ?_
    refine g_if_eq (pc := 27) (tgt := 32) dX7_stepAt_27 rfl (fun h27 => absurd h27 ((by decide))) (fun _ => ?_)
    refine g_iconst (pc := 30) (v := 0) dX7_stepAt_30 rfl ?_
    refine g_ireturn (pc := 31) dX7_stepAt_31 rfl rfl ?_
    exact ⟨rfl, rfl⟩
/-- the least way back -/
def arF (f : Nat → Int32) (n a : Nat) : Nat → Int32
  | 0 => -1
  | k + 1 => if hb (f a) k = true ∧ farF f n a n k ≠ -1 ∧ (arF f n a k = -1 ∨ farF f n a n k + 1 < arF f n a k) then farF f n a n k + 1 else arF f n a k
theorem r_aroundOf {s a : Nat} (h : Rr M n A) (hs : s < 6) (ha : a < n) : EvR l jX7_aroundOf 2 60 0 0 [.ref 198, .int (nI s), .int (nI a)] M (.inl (some (.int (arF (A s) n a n)))) (farM M (A s) n a) := by
  have hn := h.2.2.2.1
  have hS := h.1
  have h1 : Rr (farM M (A s) n a) n A := h.far
  have e1 := fun k (hk : k < n) => farM_at (M := M) (f := A s) (t := a) hk
  have q1 := r_measures (l := l) h hs ha
  have hrow := r_rowOf (l := l) h1 hs ha
  have hsuc : ∀ k, arF (A s) n a (k + 1) = if hb (A s a) k = true ∧ farF (A s) n a n k ≠ -1 ∧ (arF (A s) n a k = -1 ∨ farF (A s) n a n k + 1 < arF (A s) n a k) then farF (A s) n a n k + 1 else arF (A s) n a k := fun k => rfl
  have h0 : arF (A s) n a 0 = -1 := rfl
  generalize farM M (A s) n a = M1 at *
  generalize arF (A s) n a = ar at *
  generalize farF (A s) n a n = ff at *
  generalize A s = f at *
  refine ev_intro rfl (nb rfl) rfl ?_
  refine g_aload_n (pc := 0) dX7_aroundOf_0 rfl trivial ?_
  refine g_iload_n (pc := 1) dX7_aroundOf_1 rfl ?_
  refine g_iload_n (pc := 2) dX7_aroundOf_2 rfl ?_
  refine g_invV_r (pc := 3) (As := [_, _]) dX7_aroundOf_3 rfl (q1) rfl rfl (shK hS rfl) rfl rfl lk_X7_273 rfl (nb rfl) ⟨nb rfl, nb rfl⟩ rfl ?_
  refine g_iconst (pc := 6) (v := (-1)) dX7_aroundOf_6 rfl ?_
  refine g_istore_n (pc := 7) (lv' := [(0, _), (1, _), (2, _), (3, _)]) dX7_aroundOf_7 (nl rfl) rfl ?_
  refine g_iconst (pc := 8) (v := 0) dX7_aroundOf_8 rfl ?_
  refine g_istore (pc := 9) (lv' := [(0, _), (1, _), (2, _), (3, _), (4, _)]) dX7_aroundOf_9 (nl rfl) rfl ?_
  refine go_loop (pc := 11) n (fun k => [(0, .ref 198), (1, .int (nI s)), (2, .int (nI a)), (3, .int (ar k)), (4, .int (nI k))]) (fun _ => M1) ⟨rfl, rfl, rfl, by rw [h0]; rfl, rfl, trivial⟩ rfl ?_ ?_
  · intro k hk ih
    rw [hsuc k] at ih
    have ek := e1 k hk
    generalize ar k = x at *
    generalize ff k = y at *
    refine g_iload (pc := 11) dX7_aroundOf_11 rfl ?_
    refine g_aload_n (pc := 13) dX7_aroundOf_13 rfl trivial ?_
    refine g_invV_r (pc := 14) (As := []) dX7_aroundOf_14 rfl (r_size h1) rfl rfl (shK h1.1 rfl) rfl rfl lk_X7_71 rfl (nb rfl) ⟨nb rfl, nb rfl⟩ rfl ?_
    refine g_icmp_ge (pc := 17) (tgt := 80) dX7_aroundOf_17 rfl (fun h17 => absurd h17 (nI_ge hk (by omega))) (fun _ => ?_)
    refine g_aload_n (pc := 20) dX7_aroundOf_20 rfl trivial ?_
    refine g_iload_n (pc := 21) dX7_aroundOf_21 rfl ?_
    refine g_iload_n (pc := 22) dX7_aroundOf_22 rfl ?_
    refine g_invV_r (pc := 23) (As := [_, _]) dX7_aroundOf_23 rfl (hrow) rfl rfl (shK h1.1 rfl) rfl rfl lk_X7_227 rfl (nb rfl) ⟨nb rfl, nb rfl⟩ rfl ?_
    refine g_iload (pc := 26) dX7_aroundOf_26 rfl ?_
    refine g_invS_r (pc := 28) (As := [_, _]) dX7_aroundOf_28 rfl (r_one (show k < 32 by omega)) rfl rfl lk_X7_231 rfl (nb rfl) ⟨nb rfl, nb rfl⟩ rfl ?_
    refine g_iconst (pc := 31) (v := 1) dX7_aroundOf_31 rfl ?_
    refine g_icmp_ne (pc := 32) (tgt := 74) dX7_aroundOf_32 rfl (fun h32 => ?_) (fun h32 => ?_)
    · rw [if_neg (fun z => h32 (by rw [z.1]; rfl))] at ih
      refine g_iinc (pc := 74) (lv' := [(0, _), (1, _), (2, _), (3, _), (4, _)]) dX7_aroundOf_74 rfl (nI_1 _) (nl rfl) rfl ?_
      refine g_goto (pc := 77) (tgt := 11) dX7_aroundOf_77 rfl ?_
      exact ih
    · have g1 : hb (f a) k = true := by cases hz : hb (f a) k with
      | true => rfl
      | false => rw [hz] at h32; exact absurd (fun z => by cases z) h32
      refine g_aload_n (pc := 35) dX7_aroundOf_35 rfl trivial ?_
      refine g_getf (pc := 36) dX7_aroundOf_36 fk_X7_43 (shK h1.1 rfl) (fv_arr (shR h1.1 rfl)) ?_
      refine g_iload (pc := 39) dX7_aroundOf_39 rfl ?_
      refine g_iaload (pc := 41) dX7_aroundOf_41 (shK h1.1 rfl) rfl (by omega) (nl rfl) ?_
      rw [ek]
      refine g_iconst (pc := 42) (v := (-1)) dX7_aroundOf_42 rfl ?_
      refine g_icmp_eq (pc := 43) (tgt := 74) dX7_aroundOf_43 rfl (fun h43 => ?_) (fun h43 => ?_)
      · rw [if_neg (fun z => z.2.1 h43)] at ih
        refine g_iinc (pc := 74) (lv' := [(0, _), (1, _), (2, _), (3, _), (4, _)]) dX7_aroundOf_74 rfl (nI_1 _) (nl rfl) rfl ?_
        refine g_goto (pc := 77) (tgt := 11) dX7_aroundOf_77 rfl ?_
        exact ih
      · refine g_iload_n (pc := 46) dX7_aroundOf_46 rfl ?_
        refine g_iconst (pc := 47) (v := (-1)) dX7_aroundOf_47 rfl ?_
        refine g_icmp_eq (pc := 48) (tgt := 64) dX7_aroundOf_48 rfl (fun h48 => ?_) (fun h48 => ?_)
        · rw [if_pos ⟨g1, h43, Or.inl h48⟩] at ih
          refine g_aload_n (pc := 64) dX7_aroundOf_64 rfl trivial ?_
          refine g_getf (pc := 65) dX7_aroundOf_65 fk_X7_43 (shK h1.1 rfl) (fv_arr (shR h1.1 rfl)) ?_
          refine g_iload (pc := 68) dX7_aroundOf_68 rfl ?_
          refine g_iaload (pc := 70) dX7_aroundOf_70 (shK h1.1 rfl) rfl (by omega) (nl rfl) ?_
          rw [ek]
          refine g_iconst (pc := 71) (v := 1) dX7_aroundOf_71 rfl ?_
          refine g_iadd (pc := 72) dX7_aroundOf_72 ?_
          refine g_istore_n (pc := 73) (lv' := [(0, _), (1, _), (2, _), (3, _), (4, _)]) dX7_aroundOf_73 (nl rfl) rfl ?_
          refine g_iinc (pc := 74) (lv' := [(0, _), (1, _), (2, _), (3, _), (4, _)]) dX7_aroundOf_74 rfl (nI_1 _) (nl rfl) rfl ?_
          refine g_goto (pc := 77) (tgt := 11) dX7_aroundOf_77 rfl ?_
          exact ih
        · refine g_aload_n (pc := 51) dX7_aroundOf_51 rfl trivial ?_
          refine g_getf (pc := 52) dX7_aroundOf_52 fk_X7_43 (shK h1.1 rfl) (fv_arr (shR h1.1 rfl)) ?_
          refine g_iload (pc := 55) dX7_aroundOf_55 rfl ?_
          refine g_iaload (pc := 57) dX7_aroundOf_57 (shK h1.1 rfl) rfl (by omega) (nl rfl) ?_
          rw [ek]
          refine g_iconst (pc := 58) (v := 1) dX7_aroundOf_58 rfl ?_
          refine g_iadd (pc := 59) dX7_aroundOf_59 ?_
          refine g_iload_n (pc := 60) dX7_aroundOf_60 rfl ?_
          refine g_icmp_ge (pc := 61) (tgt := 74) dX7_aroundOf_61 rfl (fun h61 => ?_) (fun h61 => ?_)
          · rw [if_neg (fun z => z.2.2.elim h48 (Int32.not_lt.mpr h61))] at ih
            refine g_iinc (pc := 74) (lv' := [(0, _), (1, _), (2, _), (3, _), (4, _)]) dX7_aroundOf_74 rfl (nI_1 _) (nl rfl) rfl ?_
            refine g_goto (pc := 77) (tgt := 11) dX7_aroundOf_77 rfl ?_
            exact ih
          · rw [if_pos ⟨g1, h43, Or.inr (Int32.not_le.mp h61)⟩] at ih
            refine g_aload_n (pc := 64) dX7_aroundOf_64 rfl trivial ?_
            refine g_getf (pc := 65) dX7_aroundOf_65 fk_X7_43 (shK h1.1 rfl) (fv_arr (shR h1.1 rfl)) ?_
            refine g_iload (pc := 68) dX7_aroundOf_68 rfl ?_
            refine g_iaload (pc := 70) dX7_aroundOf_70 (shK h1.1 rfl) rfl (by omega) (nl rfl) ?_
            rw [ek]
            refine g_iconst (pc := 71) (v := 1) dX7_aroundOf_71 rfl ?_
            refine g_iadd (pc := 72) dX7_aroundOf_72 ?_
            refine g_istore_n (pc := 73) (lv' := [(0, _), (1, _), (2, _), (3, _), (4, _)]) dX7_aroundOf_73 (nl rfl) rfl ?_
            refine g_iinc (pc := 74) (lv' := [(0, _), (1, _), (2, _), (3, _), (4, _)]) dX7_aroundOf_74 rfl (nI_1 _) (nl rfl) rfl ?_
            refine g_goto (pc := 77) (tgt := 11) dX7_aroundOf_77 rfl ?_
            exact ih
  · refine g_iload (pc := 11) dX7_aroundOf_11 rfl ?_
    refine g_aload_n (pc := 13) dX7_aroundOf_13 rfl trivial ?_
    refine g_invV_r (pc := 14) (As := []) dX7_aroundOf_14 rfl (r_size h1) rfl rfl (shK h1.1 rfl) rfl rfl lk_X7_71 rfl (nb rfl) ⟨nb rfl, nb rfl⟩ rfl ?_
    refine g_icmp_ge (pc := 17) (tgt := 80) dX7_aroundOf_17 rfl (fun _ => ?_) (fun h17 => absurd (nI_le (Nat.le_refl _) (by omega)) h17)
    refine g_iload_n (pc := 80) dX7_aroundOf_80 rfl ?_
    refine g_ireturn (pc := 81) dX7_aroundOf_81 rfl rfl ?_
    exact ⟨rfl, rfl⟩
theorem n_around {s a : Nat} (h : Rr M n A) (hs : s < 6) (ha : a < n) : EvR l jX7_around 4 160 0 0 [.ref 198, .int (nI s), .int (nI a)] M (.inl (some (.int (arF (A s) n a n)))) (farM (thr M 0) (A s) n a) := by
  have hn := h.2.2.2.1
  have hS := h.1
  refine ev_intro rfl (nb rfl) rfl ?_
  refine g_aload_n (pc := 0) dX7_around_0 rfl trivial ?_
  refine g_aload_n (pc := 1) dX7_around_1 rfl trivial ?_
  refine g_iload_n (pc := 2) dX7_around_2 rfl ?_
  refine g_iload_n (pc := 3) dX7_around_3 rfl ?_
  refine g_invV_r (pc := 4) (As := [_, _]) dX7_around_4 rfl (r_areIn_t h (in6 hs) (inR_nI ha (by omega))) rfl rfl (shK hS rfl) rfl rfl lk_X7_223 rfl (nb rfl) ⟨nb rfl, nb rfl⟩ rfl ?_
  refine g_iconst (pc := 7) (v := 1) dX7_around_7 rfl ?_
  refine g_invV_r (pc := 8) (As := [_, _]) dX7_around_8 rfl (r_isThrown_0 hS) rfl rfl (shK hS rfl) rfl rfl lk_X7_209 rfl (nb rfl) ⟨nb rfl, nb rfl⟩ rfl ?_
  refine g_if_eq (pc := 11) (tgt := 18) dX7_around_11 rfl (fun _ => ?_) (fun h11 => absurd (rfl) h11)
  refine g_aload_n (pc := 18) dX7_around_18 rfl trivial ?_
  refine g_iload_n (pc := 19) dX7_around_19 rfl ?_
  refine g_iload_n (pc := 20) dX7_around_20 rfl ?_
  refine g_invV_r (pc := 21) (As := [_, _]) dX7_around_21 rfl (r_aroundOf h.thr hs ha) rfl rfl (shK hS rfl) rfl rfl lk_X7_277 rfl (nb rfl) ⟨nb rfl, nb rfl⟩ rfl ?_
  refine g_ireturn (pc := 24) dX7_around_24 rfl rfl ?_
  exact ⟨rfl, rfl⟩
theorem t_around {v w : Int32} (h : Rr M n A) (hx : ¬ (inR v 6 ∧ inR w n)) : EvR l jX7_around 4 160 0 0 [.ref 198, .int v, .int w] M (.inl (some (.int 0))) (thr M 1) := by
  have hS := h.1
  refine ev_intro rfl (nb rfl) rfl ?_
  refine g_aload_n (pc := 0) dX7_around_0 rfl trivial ?_
  refine g_aload_n (pc := 1) dX7_around_1 rfl trivial ?_
  refine g_iload_n (pc := 2) dX7_around_2 rfl ?_
  refine g_iload_n (pc := 3) dX7_around_3 rfl ?_
  refine g_invV_r (pc := 4) (As := [_, _]) dX7_around_4 rfl (r_areIn_f h hx) rfl rfl (shK hS rfl) rfl rfl lk_X7_223 rfl (nb rfl) ⟨nb rfl, nb rfl⟩ rfl ?_
  refine g_iconst (pc := 7) (v := 1) dX7_around_7 rfl ?_
  refine g_invV_r (pc := 8) (As := [_, _]) dX7_around_8 rfl (r_isThrown_1 hS) rfl rfl (shK hS rfl) rfl rfl lk_X7_209 rfl (nb rfl) ⟨nb rfl, nb rfl⟩ rfl ?_
  refine g_if_eq (pc := 11) (tgt := 18) dX7_around_11 rfl (fun h11 => absurd h11 ((by decide))) (fun _ => ?_)
  refine g_iconst (pc := 14) (v := 0) dX7_around_14 rfl ?_
  refine g_goto (pc := 15) (tgt := 24) dX7_around_15 rfl ?_
  refine g_ireturn (pc := 24) dX7_around_24 rfl rfl ?_
  exact ⟨rfl, rfl⟩
def grF (f : Nat → Int32) (n : Nat) : Nat → Int32
  | 0 => -1
  | k + 1 => if arF f n k n = -1 then grF f n k else if grF f n k = -1 then arF f n k n else if grF f n k ≤ arF f n k n then grF f n k else arF f n k n
def gfM (M : Mem) (f : Nat → Int32) (n : Nat) : Nat → Mem
  | 0 => M
  | k + 1 => farM M f n k
theorem gfM_2 {f : Nat → Int32} {k : Nat} : farM (gfM M f n k) f n k = farM M f n k := by
  cases k with
  | zero => rfl
  | succ k => exact farM_2
theorem Rr.gf {f : Nat → Int32} {k : Nat} (h : Rr M n A) : Rr (gfM M f n k) n A := by cases k <;> exact h
theorem n_girth {s : Nat} (h : Rr M n A) (hs : s < 6) : EvR l jX7_girth 4 160 0 0 [.ref 198, .int (nI s)] M (.inl (some (.int (grF (A s) n n)))) (gfM (thr M 0) (A s) n n) := by
  have hn := h.2.2.2.1
  have hS := h.1
  have h' := h.thr (x := 0)
  refine ev_intro rfl (nb rfl) rfl ?_
  refine g_aload_n (pc := 0) dX7_girth_0 rfl trivial ?_
  refine g_iload_n (pc := 1) dX7_girth_1 rfl ?_
  refine g_invS_r (pc := 2) (As := [_]) dX7_girth_2 rfl (r_isSlot_t (in6 hs)) rfl rfl lk_X7_216 rfl (nb rfl) ⟨nb rfl, nb rfl⟩ rfl ?_
  refine g_iconst (pc := 5) (v := 1) dX7_girth_5 rfl ?_
  refine g_invV_r (pc := 6) (As := [_, _]) dX7_girth_6 rfl (r_isThrown_0 hS) rfl rfl (shK hS rfl) rfl rfl lk_X7_209 rfl (nb rfl) ⟨nb rfl, nb rfl⟩ rfl ?_
  refine g_if_eq (pc := 9) (tgt := 14) dX7_girth_9 rfl (fun _ => ?_) (fun h9 => absurd (rfl) h9)
  refine g_iconst (pc := 14) (v := (-1)) dX7_girth_14 rfl ?_
  refine g_istore_n (pc := 15) (lv' := [(0, _), (1, _), (2, _)]) dX7_girth_15 (nl rfl) rfl ?_
  refine g_iconst (pc := 16) (v := 0) dX7_girth_16 rfl ?_
  refine g_istore_n (pc := 17) (lv' := [(0, _), (1, _), (2, _), (3, _)]) dX7_girth_17 (nl rfl) rfl ?_
  refine go_loop (pc := 18) n (fun k => [(0, .ref 198), (1, .int (nI s)), (2, .int (grF (A s) n k)), (3, .int (nI k))]) (fun k => gfM (thr M 0) (A s) n k) ⟨rfl, rfl, rfl, rfl, trivial⟩ rfl ?_ ?_
  · intro k hk ih
    have h1 : Rr (gfM (thr M 0) (A s) n k) n A := h'.gf
    have q1 := r_aroundOf (l := l) h1 hs hk
    rw [gfM_2] at q1
    generalize gfM (thr M 0) (A s) n n = M9 at *
    generalize grF (A s) n n = X9 at *
    rw [grF, gfM] at ih
    generalize farM (thr M 0) (A s) n k = M2 at *
    generalize gfM (thr M 0) (A s) n k = M1 at *
    generalize grF (A s) n k = x at *
    generalize arF (A s) n k n = y at *
    refine g_iload_n (pc := 18) dX7_girth_18 rfl ?_
    refine g_aload_n (pc := 19) dX7_girth_19 rfl trivial ?_
    refine g_invV_r (pc := 20) (As := []) dX7_girth_20 rfl (r_size h1) rfl rfl (shK h1.1 rfl) rfl rfl lk_X7_71 rfl (nb rfl) ⟨nb rfl, nb rfl⟩ rfl ?_
    refine g_icmp_ge (pc := 23) (tgt := 64) dX7_girth_23 rfl (fun h23 => absurd h23 (nI_ge hk (by omega))) (fun _ => ?_)
    refine g_aload_n (pc := 26) dX7_girth_26 rfl trivial ?_
    refine g_iload_n (pc := 27) dX7_girth_27 rfl ?_
    refine g_iload_n (pc := 28) dX7_girth_28 rfl ?_
    refine g_invV_r (pc := 29) (As := [_, _]) dX7_girth_29 rfl (q1) rfl rfl (shK h1.1 rfl) rfl rfl lk_X7_277 rfl (nb rfl) ⟨nb rfl, nb rfl⟩ rfl ?_
    refine g_istore (pc := 32) (lv' := [(0, _), (1, _), (2, _), (3, _), (4, _)]) dX7_girth_32 (nl rfl) rfl ?_
    refine g_iload (pc := 34) dX7_girth_34 rfl ?_
    refine g_iconst (pc := 36) (v := (-1)) dX7_girth_36 rfl ?_
    refine g_icmp_eq (pc := 37) (tgt := 51) dX7_girth_37 rfl (fun h37 => ?_) (fun h37 => ?_)
    · rw [if_pos h37] at ih
      refine g_iload_n (pc := 51) dX7_girth_51 rfl ?_
      refine g_goto (pc := 52) (tgt := 57) dX7_girth_52 rfl ?_
      refine g_istore_n (pc := 57) (lv' := [(0, _), (1, _), (2, _), (3, _), (4, _)]) dX7_girth_57 (nl rfl) rfl ?_
      refine g_iinc (pc := 58) (lv' := [(0, _), (1, _), (2, _), (3, _), (4, _)]) dX7_girth_58 rfl (nI_1 _) (nl rfl) rfl ?_
      refine g_goto (pc := 61) (tgt := 18) dX7_girth_61 rfl ?_
      exact g_sub (lv' := [(0, _), (1, _), (2, _), (3, _)]) ⟨rfl, rfl, rfl, rfl, trivial⟩ ih
    · rw [if_neg h37] at ih
      refine g_iload_n (pc := 40) dX7_girth_40 rfl ?_
      refine g_iconst (pc := 41) (v := (-1)) dX7_girth_41 rfl ?_
      refine g_icmp_eq (pc := 42) (tgt := 55) dX7_girth_42 rfl (fun h42 => ?_) (fun h42 => ?_)
      · rw [if_pos h42] at ih
        refine g_iload (pc := 55) dX7_girth_55 rfl ?_
        refine g_istore_n (pc := 57) (lv' := [(0, _), (1, _), (2, _), (3, _), (4, _)]) dX7_girth_57 (nl rfl) rfl ?_
        refine g_iinc (pc := 58) (lv' := [(0, _), (1, _), (2, _), (3, _), (4, _)]) dX7_girth_58 rfl (nI_1 _) (nl rfl) rfl ?_
        refine g_goto (pc := 61) (tgt := 18) dX7_girth_61 rfl ?_
        exact g_sub (lv' := [(0, _), (1, _), (2, _), (3, _)]) ⟨rfl, rfl, rfl, rfl, trivial⟩ ih
      · rw [if_neg h42] at ih
        refine g_iload_n (pc := 45) dX7_girth_45 rfl ?_
        refine g_iload (pc := 46) dX7_girth_46 rfl ?_
        refine g_icmp_gt (pc := 48) (tgt := 55) dX7_girth_48 rfl (fun h48 => ?_) (fun h48 => ?_)
        · rw [if_neg (Int32.not_le.mpr h48)] at ih
          refine g_iload (pc := 55) dX7_girth_55 rfl ?_
          refine g_istore_n (pc := 57) (lv' := [(0, _), (1, _), (2, _), (3, _), (4, _)]) dX7_girth_57 (nl rfl) rfl ?_
          refine g_iinc (pc := 58) (lv' := [(0, _), (1, _), (2, _), (3, _), (4, _)]) dX7_girth_58 rfl (nI_1 _) (nl rfl) rfl ?_
          refine g_goto (pc := 61) (tgt := 18) dX7_girth_61 rfl ?_
          exact g_sub (lv' := [(0, _), (1, _), (2, _), (3, _)]) ⟨rfl, rfl, rfl, rfl, trivial⟩ ih
        · rw [if_pos (Int32.not_lt.mp h48)] at ih
          refine g_iload_n (pc := 51) dX7_girth_51 rfl ?_
          refine g_goto (pc := 52) (tgt := 57) dX7_girth_52 rfl ?_
          refine g_istore_n (pc := 57) (lv' := [(0, _), (1, _), (2, _), (3, _), (4, _)]) dX7_girth_57 (nl rfl) rfl ?_
          refine g_iinc (pc := 58) (lv' := [(0, _), (1, _), (2, _), (3, _), (4, _)]) dX7_girth_58 rfl (nI_1 _) (nl rfl) rfl ?_
          refine g_goto (pc := 61) (tgt := 18) dX7_girth_61 rfl ?_
          exact g_sub (lv' := [(0, _), (1, _), (2, _), (3, _)]) ⟨rfl, rfl, rfl, rfl, trivial⟩ ih
  · have h1 : Rr (gfM (thr M 0) (A s) n n) n A := h'.gf
    refine g_iload_n (pc := 18) dX7_girth_18 rfl ?_
    refine g_aload_n (pc := 19) dX7_girth_19 rfl trivial ?_
    refine g_invV_r (pc := 20) (As := []) dX7_girth_20 rfl (r_size h1) rfl rfl (shK h1.1 rfl) rfl rfl lk_X7_71 rfl (nb rfl) ⟨nb rfl, nb rfl⟩ rfl ?_
    refine g_icmp_ge (pc := 23) (tgt := 64) dX7_girth_23 rfl (fun _ => ?_) (fun h23 => absurd (nI_le (Nat.le_refl _) (by omega)) h23)
    refine g_iload_n (pc := 64) dX7_girth_64 rfl ?_
    refine g_ireturn (pc := 65) dX7_girth_65 rfl rfl ?_
    exact ⟨rfl, rfl⟩
theorem t_girth {v : Int32} (h : Rr M n A) (hx : ¬ inR v 6) : EvR l jX7_girth 4 160 0 0 [.ref 198, .int v] M (.inl (some (.int 0))) (thr M 1) := by
  have hS := h.1
  refine ev_intro rfl (nb rfl) rfl ?_
  refine g_aload_n (pc := 0) dX7_girth_0 rfl trivial ?_
  refine g_iload_n (pc := 1) dX7_girth_1 rfl ?_
  refine g_invS_r (pc := 2) (As := [_]) dX7_girth_2 rfl (r_isSlot_f hx) rfl rfl lk_X7_216 rfl (nb rfl) ⟨nb rfl, nb rfl⟩ rfl ?_
  refine g_iconst (pc := 5) (v := 1) dX7_girth_5 rfl ?_
  refine g_invV_r (pc := 6) (As := [_, _]) dX7_girth_6 rfl (r_isThrown_1 hS) rfl rfl (shK hS rfl) rfl rfl lk_X7_209 rfl (nb rfl) ⟨nb rfl, nb rfl⟩ rfl ?_
  refine g_if_eq (pc := 9) (tgt := 14) dX7_girth_9 rfl (fun h9 => absurd h9 ((by decide))) (fun _ => ?_)
  refine g_iconst (pc := 12) (v := 0) dX7_girth_12 rfl ?_
  refine g_ireturn (pc := 13) dX7_girth_13 rfl rfl ?_
  exact ⟨rfl, rfl⟩
end
end
-- 28.rf
section
/-! the reference: order, triangles -/
theorem hb_jrF {f : Nat → Int32} {x : Int32} {c : Nat} : ∀ k, hb (jrF f x k) c = true ↔ ∃ i, i < k ∧ hb x i = true ∧ hb (f i) c = true
  | 0 => by rw [jrF, hb_0]; simp
  | k + 1 => by
    rw [jrF]
    by_cases h : hb x k = true
    · rw [if_pos h, hb_or, Bool.or_eq_true, hb_jrF k]
      constructor
      · rintro (⟨i, h1, h2, h3⟩ | h2)
        · exact ⟨i, by omega, h2, h3⟩
        · exact ⟨k, by omega, h, h2⟩
      · rintro ⟨i, h1, h2, h3⟩
        by_cases e : i = k
        · right; rw [← e]; exact h3
        · left; exact ⟨i, by omega, h2, h3⟩
    · rw [if_neg h, hb_jrF k]
      constructor
      · rintro ⟨i, h1, h2, h3⟩; exact ⟨i, by omega, h2, h3⟩
      · rintro ⟨i, h1, h2, h3⟩
        by_cases e : i = k
        · rw [e] at h2; exact absurd h2 h
        · exact ⟨i, by omega, h2, h3⟩
/-- the nodes that no edge enters -/
def frZ (f : Nat → Int32) (n : Nat) (x : Int32) : Int32 := x &&& (jrF f x n ^^^ -1)
theorem hb_frZ {f : Nat → Int32} {n c : Nat} {x : Int32} (hc : c < 32) : hb (frZ f n x) c = true ↔ hb x c = true ∧ ∀ i, i < n → ¬ (hb x i = true ∧ hb (f i) c = true) := by
  unfold frZ
  rw [hb_and, hb_not hc, Bool.and_eq_true]
  refine and_congr Iff.rfl ?_
  rw [Bool.not_eq_true', ← Bool.not_eq_true, hb_jrF]
  constructor
  · intro h i hi z; exact h ⟨i, hi, z⟩
  · rintro h ⟨i, hi, z⟩; exact h i hi z
def frV (f : Nat → Int32) (n : Nat) (x : Int32) : Int32 := if frZ f n x = 0 then -1 else nI (lowN (frZ f n x))
theorem hb_ne0 {x : Int32} {t : Nat} (h : hb x t = true) : x ≠ 0 := fun e => by rw [e, hb_0] at h; cases h
section
variable {l : Launch} {M : Mem} {n : Nat} {A : Nat → Nat → Int32}
theorem r_free {s : Nat} {x : Int32} (h : Rr M n A) (hs : s < 6) (hx : ∀ i, n ≤ i → hb x i = false) : EvR l jX7_free 1 30 0 0 [.ref 198, .int (nI s), .long (uL x)] M (.inl (some (.int (frV (A s) n x)))) M := by
  have hn := h.2.2.2.1
  have h0 := h.2.2.1
  have hS := h.1
  have hZ := fun c (hc : c < 32) => hb_frZ (f := A s) (n := n) (x := x) hc
  refine ev_intro rfl (nb rfl) rfl ?_
  refine g_iconst (pc := 0) (v := 0) dX7_free_0 rfl ?_
  refine g_istore (pc := 1) (lv' := [(0, _), (1, _), (2, _), (4, _)]) dX7_free_1 (nl rfl) rfl ?_
  refine go_while (pc := 3) (σ := Nat) (fun q => q ≤ n ∧ ∀ j, j < q → hb (frZ (A s) n x) j = false) (fun q => n - q) (fun q => [(0, .ref 198), (1, .int (nI s)), (2, .long (uL x)), (4, .int (nI q))]) (fun _ => M) 0 ⟨rfl, rfl, rfl, rfl, trivial⟩ rfl ⟨by omega, fun j hj => by omega⟩ ?_
  rintro q ⟨h1, h3⟩ ih
  by_cases hq : q < n
  · have hZq := hZ q (by omega)
    have hnext : hb (frZ (A s) n x) q = false → Go l jX7_free 1 30 0 0 (fun r' M' => r' = .inl (some (.int (frV (A s) n x))) ∧ M' = M) 91 [(0, .ref 198), (1, .int (nI s)), (2, .long (uL x)), (4, .int (nI q))] [] 0 0 M := by
      intro hz
      have := ih (q + 1) ⟨hq, fun j hj => (by omega : j < q ∨ j = q).elim (h3 j) (fun e => e ▸ hz)⟩ (by omega)
      refine g_iinc (pc := 91) (lv' := [(0, _), (1, _), (2, _), (4, _)]) dX7_free_91 rfl (nI_1 _) (nl rfl) rfl ?_
      refine g_goto (pc := 94) (tgt := 3) dX7_free_94 rfl ?_
      exact this
    have hno : hb (frZ (A s) n x) q = false → ∀ z, z ≤ n → Go l jX7_free 1 30 0 0 (fun r' M' => r' = .inl (some (.int (frV (A s) n x))) ∧ M' = M) 32 [(0, .ref 198), (1, .int (nI s)), (2, .long (uL x)), (4, .int (nI q)), (5, .int 0), (6, .int (nI z))] [] 0 0 M := by
      intro hz z hz9
      have h91 := hnext hz
      by_cases hzn : z < n
      · refine g_iload (pc := 32) dX7_free_32 rfl ?_
        refine g_aload_n (pc := 34) dX7_free_34 rfl trivial ?_
        refine g_invV_r (pc := 35) (As := []) dX7_free_35 rfl (r_size h) rfl rfl (shK hS rfl) rfl rfl lk_X7_71 rfl (nb rfl) ⟨nb rfl, nb rfl⟩ rfl ?_
        refine g_icmp_ge (pc := 38) (tgt := 83) dX7_free_38 rfl (fun h38 => absurd h38 (nI_ge hzn (by omega))) (fun _ => ?_)
        refine g_iload (pc := 41) dX7_free_41 rfl ?_
        refine g_if_eq (pc := 43) (tgt := 83) dX7_free_43 rfl (fun _ => ?_) (fun h43 => absurd (rfl) h43)
        refine g_iload (pc := 83) dX7_free_83 rfl ?_
        refine g_if_eq (pc := 85) (tgt := 91) dX7_free_85 rfl (fun _ => ?_) (fun h85 => absurd (rfl) h85)
        exact g_sub (lv' := [(0, _), (1, _), (2, _), (4, _)]) ⟨rfl, rfl, rfl, rfl, trivial⟩ h91
      · have : z = n := by omega
        subst this
        refine g_iload (pc := 32) dX7_free_32 rfl ?_
        refine g_aload_n (pc := 34) dX7_free_34 rfl trivial ?_
        refine g_invV_r (pc := 35) (As := []) dX7_free_35 rfl (r_size h) rfl rfl (shK hS rfl) rfl rfl lk_X7_71 rfl (nb rfl) ⟨nb rfl, nb rfl⟩ rfl ?_
        refine g_icmp_ge (pc := 38) (tgt := 83) dX7_free_38 rfl (fun _ => ?_) (fun h38 => absurd (nI_le (Nat.le_refl _) (by omega)) h38)
        refine g_iload (pc := 83) dX7_free_83 rfl ?_
        refine g_if_eq (pc := 85) (tgt := 91) dX7_free_85 rfl (fun _ => ?_) (fun h85 => absurd (rfl) h85)
        exact g_sub (lv' := [(0, _), (1, _), (2, _), (4, _)]) ⟨rfl, rfl, rfl, rfl, trivial⟩ h91
    cases h4 : hb x q with
    | false =>
      have hz : hb (frZ (A s) n x) q = false := by
        cases h5 : hb (frZ (A s) n x) q with
        | false => rfl
        | true => have := (hZq.mp h5).1; rw [h4] at this; cases this
      have h9 := hno hz 0 (by omega)
      refine g_iload (pc := 3) dX7_free_3 rfl ?_
      refine g_aload_n (pc := 5) dX7_free_5 rfl trivial ?_
      refine g_invV_r (pc := 6) (As := []) dX7_free_6 rfl (r_size h) rfl rfl (shK hS rfl) rfl rfl lk_X7_71 rfl (nb rfl) ⟨nb rfl, nb rfl⟩ rfl ?_
      refine g_icmp_ge (pc := 9) (tgt := 97) dX7_free_9 rfl (fun h9 => absurd h9 (nI_ge hq (by omega))) (fun _ => ?_)
      refine g_lload_n (pc := 12) dX7_free_12 rfl ?_
      refine g_iload (pc := 13) dX7_free_13 rfl ?_
      refine g_invS_r (pc := 15) (As := [_, _]) dX7_free_15 rfl (r_one (show q < 32 by omega)) rfl rfl lk_X7_231 rfl (nb rfl) ⟨nb rfl, nb rfl⟩ rfl ?_
      rw [h4]
      refine g_iconst (pc := 18) (v := 1) dX7_free_18 rfl ?_
      refine g_icmp_ne (pc := 19) (tgt := 26) dX7_free_19 rfl (fun _ => ?_) (fun h19 => absurd ((by decide)) h19)
      refine g_iconst (pc := 26) (v := 0) dX7_free_26 rfl ?_
      refine g_istore (pc := 27) (lv' := [(0, _), (1, _), (2, _), (4, _), (5, _)]) dX7_free_27 (nl rfl) rfl ?_
      refine g_iconst (pc := 29) (v := 0) dX7_free_29 rfl ?_
      refine g_istore (pc := 30) (lv' := [(0, _), (1, _), (2, _), (4, _), (5, _), (6, _)]) dX7_free_30 (nl rfl) rfl ?_
      exact h9
    | true =>
      refine g_iload (pc := 3) dX7_free_3 rfl ?_
      refine g_aload_n (pc := 5) dX7_free_5 rfl trivial ?_
      refine g_invV_r (pc := 6) (As := []) dX7_free_6 rfl (r_size h) rfl rfl (shK hS rfl) rfl rfl lk_X7_71 rfl (nb rfl) ⟨nb rfl, nb rfl⟩ rfl ?_
      refine g_icmp_ge (pc := 9) (tgt := 97) dX7_free_9 rfl (fun h9 => absurd h9 (nI_ge hq (by omega))) (fun _ => ?_)
      refine g_lload_n (pc := 12) dX7_free_12 rfl ?_
      refine g_iload (pc := 13) dX7_free_13 rfl ?_
      refine g_invS_r (pc := 15) (As := [_, _]) dX7_free_15 rfl (r_one (show q < 32 by omega)) rfl rfl lk_X7_231 rfl (nb rfl) ⟨nb rfl, nb rfl⟩ rfl ?_
      rw [h4]
      refine g_iconst (pc := 18) (v := 1) dX7_free_18 rfl ?_
      refine g_icmp_ne (pc := 19) (tgt := 26) dX7_free_19 rfl (fun h19 => absurd h19 ((fun z => z rfl))) (fun _ => ?_)
      refine g_iconst (pc := 22) (v := 1) dX7_free_22 rfl ?_
      refine g_goto (pc := 23) (tgt := 27) dX7_free_23 rfl ?_
      refine g_istore (pc := 27) (lv' := [(0, _), (1, _), (2, _), (4, _), (5, _)]) dX7_free_27 (nl rfl) rfl ?_
      refine g_iconst (pc := 29) (v := 0) dX7_free_29 rfl ?_
      refine g_istore (pc := 30) (lv' := [(0, _), (1, _), (2, _), (4, _), (5, _), (6, _)]) dX7_free_30 (nl rfl) rfl ?_
      refine go_while (pc := 32) (σ := Nat) (fun z => z ≤ n ∧ ∀ i, i < z → ¬ (hb x i = true ∧ hb (A s i) q = true)) (fun z => n - z) (fun z => [(0, .ref 198), (1, .int (nI s)), (2, .long (uL x)), (4, .int (nI q)), (5, .int 1), (6, .int (nI z))]) (fun _ => M) 0 ⟨rfl, rfl, rfl, rfl, rfl, rfl, trivial⟩ rfl ⟨by omega, fun j hj => by omega⟩ ?_
      rintro z ⟨k1, k3⟩ ih2
      by_cases hz : z < n
      · cases h5 : hb x z with
        | false =>
          refine g_iload (pc := 32) dX7_free_32 rfl ?_
          refine g_aload_n (pc := 34) dX7_free_34 rfl trivial ?_
          refine g_invV_r (pc := 35) (As := []) dX7_free_35 rfl (r_size h) rfl rfl (shK hS rfl) rfl rfl lk_X7_71 rfl (nb rfl) ⟨nb rfl, nb rfl⟩ rfl ?_
          refine g_icmp_ge (pc := 38) (tgt := 83) dX7_free_38 rfl (fun h38 => absurd h38 (nI_ge hz (by omega))) (fun _ => ?_)
          refine g_iload (pc := 41) dX7_free_41 rfl ?_
          refine g_if_eq (pc := 43) (tgt := 83) dX7_free_43 rfl (fun h43 => absurd h43 ((by decide))) (fun _ => ?_)
          refine g_lload_n (pc := 46) dX7_free_46 rfl ?_
          refine g_iload (pc := 47) dX7_free_47 rfl ?_
          refine g_invS_r (pc := 49) (As := [_, _]) dX7_free_49 rfl (r_one (show z < 32 by omega)) rfl rfl lk_X7_231 rfl (nb rfl) ⟨nb rfl, nb rfl⟩ rfl ?_
          rw [h5]
          refine g_if_eq (pc := 52) (tgt := 70) dX7_free_52 rfl (fun _ => ?_) (fun h52 => absurd (rfl) h52)
          refine g_iconst (pc := 70) (v := 1) dX7_free_70 rfl ?_
          refine g_goto (pc := 71) (tgt := 75) dX7_free_71 rfl ?_
          refine g_istore (pc := 75) (lv' := [(0, _), (1, _), (2, _), (4, _), (5, _), (6, _)]) dX7_free_75 (nl rfl) rfl ?_
          refine g_iinc (pc := 77) (lv' := [(0, _), (1, _), (2, _), (4, _), (5, _), (6, _)]) dX7_free_77 rfl (nI_1 _) (nl rfl) rfl ?_
          refine g_goto (pc := 80) (tgt := 32) dX7_free_80 rfl ?_
          exact ih2 (z + 1) ⟨hz, fun j hj => (by omega : j < z ∨ j = z).elim (k3 j) (fun e y => by rw [e, h5] at y; cases y.1)⟩ (by omega)
        | true =>
          cases h6 : hb (A s z) q with
          | false =>
            refine g_iload (pc := 32) dX7_free_32 rfl ?_
            refine g_aload_n (pc := 34) dX7_free_34 rfl trivial ?_
            refine g_invV_r (pc := 35) (As := []) dX7_free_35 rfl (r_size h) rfl rfl (shK hS rfl) rfl rfl lk_X7_71 rfl (nb rfl) ⟨nb rfl, nb rfl⟩ rfl ?_
            refine g_icmp_ge (pc := 38) (tgt := 83) dX7_free_38 rfl (fun h38 => absurd h38 (nI_ge hz (by omega))) (fun _ => ?_)
            refine g_iload (pc := 41) dX7_free_41 rfl ?_
            refine g_if_eq (pc := 43) (tgt := 83) dX7_free_43 rfl (fun h43 => absurd h43 ((by decide))) (fun _ => ?_)
            refine g_lload_n (pc := 46) dX7_free_46 rfl ?_
            refine g_iload (pc := 47) dX7_free_47 rfl ?_
            refine g_invS_r (pc := 49) (As := [_, _]) dX7_free_49 rfl (r_one (show z < 32 by omega)) rfl rfl lk_X7_231 rfl (nb rfl) ⟨nb rfl, nb rfl⟩ rfl ?_
            rw [h5]
            refine g_if_eq (pc := 52) (tgt := 70) dX7_free_52 rfl (fun h52 => absurd h52 ((by decide))) (fun _ => ?_)
            refine g_aload_n (pc := 55) dX7_free_55 rfl trivial ?_
            refine g_iload_n (pc := 56) dX7_free_56 rfl ?_
            refine g_iload (pc := 57) dX7_free_57 rfl ?_
            refine g_invV_r (pc := 59) (As := [_, _]) dX7_free_59 rfl (r_rowOf h hs hz) rfl rfl (shK hS rfl) rfl rfl lk_X7_227 rfl (nb rfl) ⟨nb rfl, nb rfl⟩ rfl ?_
            refine g_iload (pc := 62) dX7_free_62 rfl ?_
            refine g_invS_r (pc := 64) (As := [_, _]) dX7_free_64 rfl (r_one (show q < 32 by omega)) rfl rfl lk_X7_231 rfl (nb rfl) ⟨nb rfl, nb rfl⟩ rfl ?_
            rw [h6]
            refine g_if_ne (pc := 67) (tgt := 74) dX7_free_67 rfl (fun h67 => absurd h67 ((fun y => y rfl))) (fun _ => ?_)
            refine g_iconst (pc := 70) (v := 1) dX7_free_70 rfl ?_
            refine g_goto (pc := 71) (tgt := 75) dX7_free_71 rfl ?_
            refine g_istore (pc := 75) (lv' := [(0, _), (1, _), (2, _), (4, _), (5, _), (6, _)]) dX7_free_75 (nl rfl) rfl ?_
            refine g_iinc (pc := 77) (lv' := [(0, _), (1, _), (2, _), (4, _), (5, _), (6, _)]) dX7_free_77 rfl (nI_1 _) (nl rfl) rfl ?_
            refine g_goto (pc := 80) (tgt := 32) dX7_free_80 rfl ?_
            exact ih2 (z + 1) ⟨hz, fun j hj => (by omega : j < z ∨ j = z).elim (k3 j) (fun e y => by rw [e, h6] at y; cases y.2)⟩ (by omega)
          | true =>
            have hz2 : hb (frZ (A s) n x) q = false := by
              cases h7 : hb (frZ (A s) n x) q with
              | false => rfl
              | true => exact absurd ⟨h5, h6⟩ ((hZq.mp h7).2 z hz)
            have h9 := hno hz2 (z + 1) hz
            refine g_iload (pc := 32) dX7_free_32 rfl ?_
            refine g_aload_n (pc := 34) dX7_free_34 rfl trivial ?_
            refine g_invV_r (pc := 35) (As := []) dX7_free_35 rfl (r_size h) rfl rfl (shK hS rfl) rfl rfl lk_X7_71 rfl (nb rfl) ⟨nb rfl, nb rfl⟩ rfl ?_
            refine g_icmp_ge (pc := 38) (tgt := 83) dX7_free_38 rfl (fun h38 => absurd h38 (nI_ge hz (by omega))) (fun _ => ?_)
            refine g_iload (pc := 41) dX7_free_41 rfl ?_
            refine g_if_eq (pc := 43) (tgt := 83) dX7_free_43 rfl (fun h43 => absurd h43 ((by decide))) (fun _ => ?_)
            refine g_lload_n (pc := 46) dX7_free_46 rfl ?_
            refine g_iload (pc := 47) dX7_free_47 rfl ?_
            refine g_invS_r (pc := 49) (As := [_, _]) dX7_free_49 rfl (r_one (show z < 32 by omega)) rfl rfl lk_X7_231 rfl (nb rfl) ⟨nb rfl, nb rfl⟩ rfl ?_
            rw [h5]
            refine g_if_eq (pc := 52) (tgt := 70) dX7_free_52 rfl (fun h52 => absurd h52 ((by decide))) (fun _ => ?_)
            refine g_aload_n (pc := 55) dX7_free_55 rfl trivial ?_
            refine g_iload_n (pc := 56) dX7_free_56 rfl ?_
            refine g_iload (pc := 57) dX7_free_57 rfl ?_
            refine g_invV_r (pc := 59) (As := [_, _]) dX7_free_59 rfl (r_rowOf h hs hz) rfl rfl (shK hS rfl) rfl rfl lk_X7_227 rfl (nb rfl) ⟨nb rfl, nb rfl⟩ rfl ?_
            refine g_iload (pc := 62) dX7_free_62 rfl ?_
            refine g_invS_r (pc := 64) (As := [_, _]) dX7_free_64 rfl (r_one (show q < 32 by omega)) rfl rfl lk_X7_231 rfl (nb rfl) ⟨nb rfl, nb rfl⟩ rfl ?_
            rw [h6]
            refine g_if_ne (pc := 67) (tgt := 74) dX7_free_67 rfl (fun _ => ?_) (fun h67 => absurd ((by decide)) h67)
            refine g_iconst (pc := 74) (v := 0) dX7_free_74 rfl ?_
            refine g_istore (pc := 75) (lv' := [(0, _), (1, _), (2, _), (4, _), (5, _), (6, _)]) dX7_free_75 (nl rfl) rfl ?_
            refine g_iinc (pc := 77) (lv' := [(0, _), (1, _), (2, _), (4, _), (5, _), (6, _)]) dX7_free_77 rfl (nI_1 _) (nl rfl) rfl ?_
            refine g_goto (pc := 80) (tgt := 32) dX7_free_80 rfl ?_
            exact h9
      · have hz' : z = n := by omega
        subst hz'
        have hq9 : hb (frZ (A s) z x) q = true := hZq.mpr ⟨h4, k3⟩
        have e9 : frV (A s) z x = nI q := by
          unfold frV
          rw [if_neg (hb_ne0 hq9), lowN_at (by omega) hq9 h3]
        refine g_iload (pc := 32) dX7_free_32 rfl ?_
        refine g_aload_n (pc := 34) dX7_free_34 rfl trivial ?_
        refine g_invV_r (pc := 35) (As := []) dX7_free_35 rfl (r_size h) rfl rfl (shK hS rfl) rfl rfl lk_X7_71 rfl (nb rfl) ⟨nb rfl, nb rfl⟩ rfl ?_
        refine g_icmp_ge (pc := 38) (tgt := 83) dX7_free_38 rfl (fun _ => ?_) (fun h38 => absurd (nI_le (Nat.le_refl _) (by omega)) h38)
        refine g_iload (pc := 83) dX7_free_83 rfl ?_
        refine g_if_eq (pc := 85) (tgt := 91) dX7_free_85 rfl (fun h85 => absurd h85 ((by decide))) (fun _ => ?_)
        refine g_iload (pc := 88) dX7_free_88 rfl ?_
        refine g_ireturn (pc := 90) dX7_free_90 rfl rfl ?_
        exact ⟨by rw [e9], rfl⟩
  · have hq' : q = n := by omega
    subst hq'
    have e9 : frV (A s) q x = -1 := by
      unfold frV
      rw [if_pos]
      refine hb_ext fun i hi => ?_
      rw [hb_0]
      by_cases hiq : i < q
      · exact h3 i hiq
      · cases h5 : hb (frZ (A s) q x) i with
        | false => rfl
        | true => have := ((hZ i hi).mp h5).1; rw [hx i (by omega)] at this; cases this
    refine g_iload (pc := 3) dX7_free_3 rfl ?_
    refine g_aload_n (pc := 5) dX7_free_5 rfl trivial ?_
    refine g_invV_r (pc := 6) (As := []) dX7_free_6 rfl (r_size h) rfl rfl (shK hS rfl) rfl rfl lk_X7_71 rfl (nb rfl) ⟨nb rfl, nb rfl⟩ rfl ?_
    refine g_icmp_ge (pc := 9) (tgt := 97) dX7_free_9 rfl (fun _ => ?_) (fun h9 => absurd (nI_le (Nat.le_refl _) (by omega)) h9)
    refine g_iconst (pc := 97) (v := (-1)) dX7_free_97 rfl ?_
    refine g_ireturn (pc := 98) dX7_free_98 rfl rfl ?_
    exact ⟨by rw [e9], rfl⟩
theorem orF_s {f : Nat → Int32} {x y : Int32} {d p : Nat} : orF f n x (d + 1) p y = if frZ f n y = 0 then -1 else if nI p = x then nI (lowN (frZ f n y)) else orF f n x d (p + 1) (y &&& (bitI (lowN (frZ f n y)) ^^^ -1)) := rfl
theorem orF_neg {f : Nat → Int32} {x : Int32} (hx : x < 0) : ∀ (d p : Nat) (y : Int32), p + d < 2147483648 → orF f n x d p y = -1
  | 0, _, _, _ => rfl
  | d + 1, p, y, h => by
    rw [orF]
    by_cases h1 : y &&& (jrF f y n ^^^ -1) = 0
    · rw [if_pos h1]
    · rw [if_neg h1, if_neg (fun q => nI_pos (n := p) (by omega) (by rw [q]; exact hx))]
      exact orF_neg hx d (p + 1) _ (by omega)
theorem clr_eq {y : Int32} {t : Nat} (ht : t < 32) (h : hb y t = true) : y &&& (bitI t ^^^ -1) = y ^^^ bitI t := hb_ext fun i hi => by
  rw [hb_and, hb_not hi, hb_xor, hb_bitI ht]
  by_cases e : i = t
  · subst e; rw [h]; simp
  · simp [e]
theorem clr_pc {y : Int32} {t : Nat} (ht : t < 32) (h : hb y t = true) : pcN (y ^^^ bitI t) + 1 = pcN y := by
  have h6 := pcb_clear (hb y) t h 32
  rw [if_pos ht] at h6
  rw [pcN_b, pcN_b, ← h6]
  congr 1
  apply pcb_congr
  intro i hi
  rw [hb_xor, hb_bitI ht]
  by_cases e : i = t
  · subst e; rw [h]; simp
  · simp [e]
theorem pcN_0 {y : Int32} (h : pcN y = 0) : y = 0 := hb_ext fun i hi => by
  rw [hb_0]
  exact pcb_0 32 (by rw [← pcN_b]; exact h) i hi
theorem pcN_low : ∀ n, n ≤ 32 → pcN (lowM n) = n := by decide +kernel
theorem n_order {s : Nat} {x : Int32} (h : Rr M n A) (hs : s < 6) : EvR l jX7_order 4 160 0 0 [.ref 198, .int (nI s), .int x] M (.inl (some (.int (orF (A s) n x n 0 (lowM n))))) (thr M 0) := by
  have hn := h.2.2.2.1
  have hS := h.1
  have h' := h.thr (x := 0)
  have hlow : ∀ i, n ≤ i → hb (lowM n) i = false := fun i hi => by rw [hb_lowM hn]; simp; omega
  by_cases hx : x < 0
  · rw [orF_neg hx n 0 _ (by omega)]
    refine ev_intro rfl (nb rfl) rfl ?_
    refine g_aload_n (pc := 0) dX7_order_0 rfl trivial ?_
    refine g_iload_n (pc := 1) dX7_order_1 rfl ?_
    refine g_invS_r (pc := 2) (As := [_]) dX7_order_2 rfl (r_isSlot_t (in6 hs)) rfl rfl lk_X7_216 rfl (nb rfl) ⟨nb rfl, nb rfl⟩ rfl ?_
    refine g_iconst (pc := 5) (v := 1) dX7_order_5 rfl ?_
    refine g_invV_r (pc := 6) (As := [_, _]) dX7_order_6 rfl (r_isThrown_0 hS) rfl rfl (shK hS rfl) rfl rfl lk_X7_209 rfl (nb rfl) ⟨nb rfl, nb rfl⟩ rfl ?_
    refine g_if_eq (pc := 9) (tgt := 14) dX7_order_9 rfl (fun _ => ?_) (fun h9 => absurd (rfl) h9)
    refine g_aload_n (pc := 14) dX7_order_14 rfl trivial ?_
    refine g_invV_r (pc := 15) (As := []) dX7_order_15 rfl (r_all h') rfl rfl (shK hS rfl) rfl rfl lk_X7_245 rfl (nb rfl) ⟨nb rfl, nb rfl⟩ rfl ?_
    refine g_lstore_n (pc := 18) (lv' := [(0, _), (1, _), (2, _), (3, _)]) dX7_order_18 (nl rfl) rfl ?_
    refine g_iconst (pc := 19) (v := (-1)) dX7_order_19 rfl ?_
    refine g_istore (pc := 20) (lv' := [(0, _), (1, _), (2, _), (3, _), (5, _)]) dX7_order_20 (nl rfl) rfl ?_
    refine g_iconst (pc := 22) (v := 0) dX7_order_22 rfl ?_
    refine g_istore (pc := 23) (lv' := [(0, _), (1, _), (2, _), (3, _), (5, _), (6, _)]) dX7_order_23 (nl rfl) rfl ?_
    refine g_iload (pc := 25) dX7_order_25 rfl ?_
    refine g_iload_n (pc := 27) dX7_order_27 rfl ?_
    refine g_icmp_gt (pc := 28) (tgt := 60) dX7_order_28 rfl (fun _ => ?_) (fun h28 => absurd (hx) h28)
    refine g_iload (pc := 60) dX7_order_60 rfl ?_
    refine g_ireturn (pc := 62) dX7_order_62 rfl rfl ?_
    exact ⟨rfl, rfl⟩
  · obtain ⟨i, hi, rfl⟩ := nI_of hx
    obtain ⟨S, hS9⟩ : ∃ S, S = orF (A s) n (nI i) n 0 (lowM n) := ⟨_, rfl⟩
    rw [← hS9]
    have q0 := r_all (l := l) h'
    have hp0 : pcN (lowM n) + 0 = n := (Nat.add_zero _).trans (pcN_low n hn)
    generalize lowM n = y0 at *
    refine ev_intro rfl (nb rfl) rfl ?_
    refine g_aload_n (pc := 0) dX7_order_0 rfl trivial ?_
    refine g_iload_n (pc := 1) dX7_order_1 rfl ?_
    refine g_invS_r (pc := 2) (As := [_]) dX7_order_2 rfl (r_isSlot_t (in6 hs)) rfl rfl lk_X7_216 rfl (nb rfl) ⟨nb rfl, nb rfl⟩ rfl ?_
    refine g_iconst (pc := 5) (v := 1) dX7_order_5 rfl ?_
    refine g_invV_r (pc := 6) (As := [_, _]) dX7_order_6 rfl (r_isThrown_0 hS) rfl rfl (shK hS rfl) rfl rfl lk_X7_209 rfl (nb rfl) ⟨nb rfl, nb rfl⟩ rfl ?_
    refine g_if_eq (pc := 9) (tgt := 14) dX7_order_9 rfl (fun _ => ?_) (fun h9 => absurd (rfl) h9)
    refine g_aload_n (pc := 14) dX7_order_14 rfl trivial ?_
    refine g_invV_r (pc := 15) (As := []) dX7_order_15 rfl (q0) rfl rfl (shK h'.1 rfl) rfl rfl lk_X7_245 rfl (nb rfl) ⟨nb rfl, nb rfl⟩ rfl ?_
    refine g_lstore_n (pc := 18) (lv' := [(0, _), (1, _), (2, _), (3, _)]) dX7_order_18 (nl rfl) rfl ?_
    refine g_iconst (pc := 19) (v := (-1)) dX7_order_19 rfl ?_
    refine g_istore (pc := 20) (lv' := [(0, _), (1, _), (2, _), (3, _), (5, _)]) dX7_order_20 (nl rfl) rfl ?_
    refine g_iconst (pc := 22) (v := 0) dX7_order_22 rfl ?_
    refine g_istore (pc := 23) (lv' := [(0, _), (1, _), (2, _), (3, _), (5, _), (6, _)]) dX7_order_23 (nl rfl) rfl ?_
    refine go_while (pc := 25) (σ := Nat × Int32 × Int32) (fun q => q.1 ≤ n ∧ q.1 ≤ i ∧ (∀ j, n ≤ j → hb q.2.1 j = false) ∧ pcN q.2.1 + q.1 = n ∧ orF (A s) n (nI i) (n - q.1) q.1 q.2.1 = S) (fun q => n - q.1) (fun q => [(0, .ref 198), (1, .int (nI s)), (2, .int (nI i)), (3, .long (uL q.2.1)), (5, .int q.2.2), (6, .int (nI q.1))]) (fun _ => thr M 0) (0, y0, -1) ⟨rfl, rfl, rfl, rfl, rfl, rfl, trivial⟩ rfl ⟨by simp only; omega, by simp only; omega, hlow, hp0, hS9.symm⟩ ?_
    rintro ⟨p, y, w⟩ ⟨h1, h2, h3, h4, h5⟩ ih
    simp only at h1 h2 h3 h4 h5 ih
    have q1 := r_free (l := l) (M := thr M 0) (x := y) h' hs h3
    by_cases hz : frZ (A s) n y = 0
    · have e1 : frV (A s) n y = -1 := by unfold frV; rw [if_pos hz]
      have e2 : S = -1 := by
        rw [← h5]
        cases hd : n - p with
        | zero => rfl
        | succ d => rw [orF_s, if_pos hz]
      rw [e1] at q1
      rw [e2]
      refine g_iload (pc := 25) dX7_order_25 rfl ?_
      refine g_iload_n (pc := 27) dX7_order_27 rfl ?_
      refine g_icmp_gt (pc := 28) (tgt := 60) dX7_order_28 rfl (fun h28 => absurd h28 (nI_ngt h2 (by omega))) (fun _ => ?_)
      refine g_aload_n (pc := 31) dX7_order_31 rfl trivial ?_
      refine g_iload_n (pc := 32) dX7_order_32 rfl ?_
      refine g_lload_n (pc := 33) dX7_order_33 rfl ?_
      refine g_invV_r (pc := 34) (As := [_, _]) dX7_order_34 rfl (q1) rfl rfl (shK h'.1 rfl) rfl rfl lk_X7_280 rfl (nb rfl) ⟨nb rfl, nb rfl⟩ rfl ?_
      refine g_istore (pc := 37) (lv' := [(0, _), (1, _), (2, _), (3, _), (5, _), (6, _)]) dX7_order_37 (nl rfl) rfl ?_
      refine g_iload (pc := 39) dX7_order_39 rfl ?_
      refine g_iconst (pc := 41) (v := (-1)) dX7_order_41 rfl ?_
      refine g_icmp_ne (pc := 42) (tgt := 47) dX7_order_42 rfl (fun h42 => absurd h42 ((fun z => z rfl))) (fun _ => ?_)
      refine g_iconst (pc := 45) (v := (-1)) dX7_order_45 rfl ?_
      refine g_ireturn (pc := 46) dX7_order_46 rfl rfl ?_
      exact ⟨rfl, rfl⟩
    · have e1 : frV (A s) n y = nI (lowN (frZ (A s) n y)) := by unfold frV; rw [if_neg hz]
      obtain ⟨t1, t2⟩ := low_ex hz
      have ht := lowN_lt (frZ (A s) n y)
      have hty : hb y (lowN (frZ (A s) n y)) = true := ((hb_frZ ht).mp t1).1
      have hpn : p < n := by
        apply Classical.byContradiction
        intro hp
        have : pcN y = 0 := by omega
        rw [pcN_0 this, hb_0] at hty
        cases hty
      obtain ⟨d, hd⟩ : ∃ d, n - p = d + 1 := ⟨n - p - 1, by omega⟩
      have hd' : n - (p + 1) = d := by omega
      rw [hd, orF_s, if_neg hz] at h5
      rw [e1] at q1
      have hy2 := clr_eq ht hty
      have hy3 := clr_pc ht hty
      have hy4 : ∀ j, n ≤ j → hb (y ^^^ bitI (lowN (frZ (A s) n y))) j = false := fun j hj => by rw [← hy2, hb_and, h3 j hj]; rfl
      have h5 : (if nI p = nI i then nI (lowN (frZ (A s) n y)) else orF (A s) n (nI i) d (p + 1) (y &&& (bitI (lowN (frZ (A s) n y)) ^^^ -1))) = S := h5
      rw [hy2] at h5
      generalize lowN (frZ (A s) n y) = t at *
      by_cases hpi : p = i
      · subst hpi
        rw [if_pos rfl] at h5
        rw [← h5]
        have h9 : Go l jX7_order 4 160 0 0 (fun r' M' => r' = .inl (some (.int (nI t))) ∧ M' = thr M 0) 25 [(0, .ref 198), (1, .int (nI s)), (2, .int (nI p)), (3, .long (uL (y ^^^ bitI t))), (5, .int (nI t)), (6, .int (nI (p + 1)))] [] 0 0 (thr M 0) := by
          refine g_iload (pc := 25) dX7_order_25 rfl ?_
          refine g_iload_n (pc := 27) dX7_order_27 rfl ?_
          refine g_icmp_gt (pc := 28) (tgt := 60) dX7_order_28 rfl (fun _ => ?_) (fun h28 => absurd (nI_gt (Nat.lt_succ_self p) (by omega)) h28)
          refine g_iload (pc := 60) dX7_order_60 rfl ?_
          refine g_ireturn (pc := 62) dX7_order_62 rfl rfl ?_
          exact ⟨rfl, rfl⟩
        refine g_iload (pc := 25) dX7_order_25 rfl ?_
        refine g_iload_n (pc := 27) dX7_order_27 rfl ?_
        refine g_icmp_gt (pc := 28) (tgt := 60) dX7_order_28 rfl (fun h28 => absurd h28 (nI_ngt h2 (by omega))) (fun _ => ?_)
        refine g_aload_n (pc := 31) dX7_order_31 rfl trivial ?_
        refine g_iload_n (pc := 32) dX7_order_32 rfl ?_
        refine g_lload_n (pc := 33) dX7_order_33 rfl ?_
        refine g_invV_r (pc := 34) (As := [_, _]) dX7_order_34 rfl (q1) rfl rfl (shK h'.1 rfl) rfl rfl lk_X7_280 rfl (nb rfl) ⟨nb rfl, nb rfl⟩ rfl ?_
        refine g_istore (pc := 37) (lv' := [(0, _), (1, _), (2, _), (3, _), (5, _), (6, _)]) dX7_order_37 (nl rfl) rfl ?_
        refine g_iload (pc := 39) dX7_order_39 rfl ?_
        refine g_iconst (pc := 41) (v := (-1)) dX7_order_41 rfl ?_
        refine g_icmp_ne (pc := 42) (tgt := 47) dX7_order_42 rfl (fun _ => ?_) (fun h42 => absurd (nI_m1' (by omega)) h42)
        refine g_lload_n (pc := 47) dX7_order_47 rfl ?_
        refine g_lconst (pc := 48) (v := 1) dX7_order_48 rfl ?_
        refine g_iload (pc := 49) dX7_order_49 rfl ?_
        refine g_lshl (pc := 51) dX7_order_51 rfl ?_
        refine g_lxor (pc := 52) dX7_order_52 ?_
        rw [sh_bit t ht, uL_xor]
        refine g_lstore_n (pc := 53) (lv' := [(0, _), (1, _), (2, _), (3, _), (5, _), (6, _)]) dX7_order_53 (nl rfl) rfl ?_
        refine g_iinc (pc := 54) (lv' := [(0, _), (1, _), (2, _), (3, _), (5, _), (6, _)]) dX7_order_54 rfl (nI_1 _) (nl rfl) rfl ?_
        refine g_goto (pc := 57) (tgt := 25) dX7_order_57 rfl ?_
        exact h9
      · rw [if_neg (fun z => hpi ((nI_eq (by omega) hi).mp z))] at h5
        refine g_iload (pc := 25) dX7_order_25 rfl ?_
        refine g_iload_n (pc := 27) dX7_order_27 rfl ?_
        refine g_icmp_gt (pc := 28) (tgt := 60) dX7_order_28 rfl (fun h28 => absurd h28 (nI_ngt h2 (by omega))) (fun _ => ?_)
        refine g_aload_n (pc := 31) dX7_order_31 rfl trivial ?_
        refine g_iload_n (pc := 32) dX7_order_32 rfl ?_
        refine g_lload_n (pc := 33) dX7_order_33 rfl ?_
        refine g_invV_r (pc := 34) (As := [_, _]) dX7_order_34 rfl (q1) rfl rfl (shK h'.1 rfl) rfl rfl lk_X7_280 rfl (nb rfl) ⟨nb rfl, nb rfl⟩ rfl ?_
        refine g_istore (pc := 37) (lv' := [(0, _), (1, _), (2, _), (3, _), (5, _), (6, _)]) dX7_order_37 (nl rfl) rfl ?_
        refine g_iload (pc := 39) dX7_order_39 rfl ?_
        refine g_iconst (pc := 41) (v := (-1)) dX7_order_41 rfl ?_
        refine g_icmp_ne (pc := 42) (tgt := 47) dX7_order_42 rfl (fun _ => ?_) (fun h42 => absurd (nI_m1' (by omega)) h42)
        refine g_lload_n (pc := 47) dX7_order_47 rfl ?_
        refine g_lconst (pc := 48) (v := 1) dX7_order_48 rfl ?_
        refine g_iload (pc := 49) dX7_order_49 rfl ?_
        refine g_lshl (pc := 51) dX7_order_51 rfl ?_
        refine g_lxor (pc := 52) dX7_order_52 ?_
        rw [sh_bit t ht, uL_xor]
        refine g_lstore_n (pc := 53) (lv' := [(0, _), (1, _), (2, _), (3, _), (5, _), (6, _)]) dX7_order_53 (nl rfl) rfl ?_
        refine g_iinc (pc := 54) (lv' := [(0, _), (1, _), (2, _), (3, _), (5, _), (6, _)]) dX7_order_54 rfl (nI_1 _) (nl rfl) rfl ?_
        refine g_goto (pc := 57) (tgt := 25) dX7_order_57 rfl ?_
        exact ih (p + 1, y ^^^ bitI t, nI t) ⟨hpn, by simp only; omega, hy4, by simp only; omega, by simp only; rw [hd']; exact h5⟩ (by simp only; omega)
theorem t_order {v x : Int32} (h : Rr M n A) (hx : ¬ inR v 6) : EvR l jX7_order 4 160 0 0 [.ref 198, .int v, .int x] M (.inl (some (.int 0))) (thr M 1) := by
  have hS := h.1
  refine ev_intro rfl (nb rfl) rfl ?_
  refine g_aload_n (pc := 0) dX7_order_0 rfl trivial ?_
  refine g_iload_n (pc := 1) dX7_order_1 rfl ?_
  refine g_invS_r (pc := 2) (As := [_]) dX7_order_2 rfl (r_isSlot_f hx) rfl rfl lk_X7_216 rfl (nb rfl) ⟨nb rfl, nb rfl⟩ rfl ?_
  refine g_iconst (pc := 5) (v := 1) dX7_order_5 rfl ?_
  refine g_invV_r (pc := 6) (As := [_, _]) dX7_order_6 rfl (r_isThrown_1 hS) rfl rfl (shK hS rfl) rfl rfl lk_X7_209 rfl (nb rfl) ⟨nb rfl, nb rfl⟩ rfl ?_
  refine g_if_eq (pc := 9) (tgt := 14) dX7_order_9 rfl (fun h9 => absurd h9 ((by decide))) (fun _ => ?_)
  refine g_iconst (pc := 12) (v := 0) dX7_order_12 rfl ?_
  refine g_ireturn (pc := 13) dX7_order_13 rfl rfl ?_
  exact ⟨rfl, rfl⟩
end
end
-- 281.rf
section
/-! the reference: what an edge more or less would change; triangles -/
section
variable {l : Launch} {M : Mem} {n : Nat} {A : Nat → Nat → Int32}
/-- rows with a bit turned -/
def tnF (f : Nat → Int32) (a b : Nat) : Nat → Int32 := fun_set f a (f a ^^^ bitI b)
def pTv (f : Nat → Int32) (n a b : Nat) : Int32 := onesF (wOut (tnF f a b) n n) n
def pOv (f : Nat → Int32) (n : Nat) : Int32 := onesF (wOut f n n) n
theorem r_pairsTurned {s a b : Nat} (h : Rr M n A) (hs : s < 6) (ha : a < n) (hb9 : b < n) : EvR l jX7_pairsTurned 3 90 0 0 [.ref 198, .int (nI s), .int (nI a), .int (nI b)] M (.inl (some (.int (pTv (A s) n a b)))) (hdM M 205 n (wOut (tnF (A s) a b) n n)) := by
  have hn := h.2.2.2.1
  have hS := h.1
  have h1 : Rr (hdM M 205 n (A s)) n A := h.hd (Or.inl rfl)
  have e1 := hdM_at (M := M) (x := 205) (f := A s) ha
  have est := hdM_st (M := M) (x := 205) (f := A s) (v := A s a ^^^ bitI b) ha
  have h2 : Rr (hdM M 205 n (tnF (A s) a b)) n A := h.hd (Or.inl rfl)
  have q2 := r_closes (l := l) (x := 205) (f := tnF (A s) a b) h2 (Or.inl rfl) (fun i hi => hdM_at hi)
  rw [hdM_2] at q2
  have h3 : Rr (hdM M 205 n (wOut (tnF (A s) a b) n n)) n A := h.hd (Or.inl rfl)
  have q3 := r_sumOf (l := l) (x := 205) (f := wOut (tnF (A s) a b) n n) h3 (Or.inl rfl) (fun i hi => hdM_at hi)
  have q1 := r_takes (l := l) (x := 205) h hs (Or.inl rfl)
  have est : pL (hdM M 205 n (A s)) 205 a (uL (A s a ^^^ bitI b)) = hdM M 205 n (tnF (A s) a b) := est
  unfold pTv
  generalize hdM M 205 n (wOut (tnF (A s) a b) n n) = M3 at *
  generalize wOut (tnF (A s) a b) n n = W at *
  generalize hdM M 205 n (tnF (A s) a b) = M2 at *
  generalize hdM M 205 n (A s) = M1 at *
  refine ev_intro rfl (nb rfl) rfl ?_
  refine g_aload_n (pc := 0) dX7_pairsTurned_0 rfl trivial ?_
  refine g_iload_n (pc := 1) dX7_pairsTurned_1 rfl ?_
  refine g_aload_n (pc := 2) dX7_pairsTurned_2 rfl trivial ?_
  refine g_getf (pc := 3) dX7_pairsTurned_3 fk_X7_34 (shK hS rfl) (fv_arr (shR hS rfl)) ?_
  refine g_invV_r (pc := 6) (As := [_, _]) dX7_pairsTurned_6 rfl (q1) rfl rfl (shK hS rfl) rfl rfl lk_X7_252 rfl (nb rfl) ⟨nb rfl, nb rfl⟩ rfl ?_
  refine g_aload_n (pc := 9) dX7_pairsTurned_9 rfl trivial ?_
  refine g_getf (pc := 10) dX7_pairsTurned_10 fk_X7_34 (shK h1.1 rfl) (fv_arr (shR h1.1 rfl)) ?_
  refine g_iload_n (pc := 13) dX7_pairsTurned_13 rfl ?_
  refine g_dup2_11 (pc := 14) dX7_pairsTurned_14 rfl rfl ?_
  refine g_laload (pc := 15) dX7_pairsTurned_15 (shK h1.1 rfl) rfl (by omega) (nl rfl) ?_
  rw [e1]
  refine g_lconst (pc := 16) (v := 1) dX7_pairsTurned_16 rfl ?_
  refine g_iload_n (pc := 17) dX7_pairsTurned_17 rfl ?_
  refine g_lshl (pc := 18) dX7_pairsTurned_18 rfl ?_
  rw [sh_bit b (by omega)]
  refine g_lxor (pc := 19) dX7_pairsTurned_19 ?_
  rw [uL_xor]
  refine g_lastore (pc := 20) dX7_pairsTurned_20 (shK h1.1 rfl) rfl (by omega) (nl rfl) ?_
  refine go_cast est ?_
  refine g_aload_n (pc := 21) dX7_pairsTurned_21 rfl trivial ?_
  refine g_aload_n (pc := 22) dX7_pairsTurned_22 rfl trivial ?_
  refine g_getf (pc := 23) dX7_pairsTurned_23 fk_X7_34 (shK h2.1 rfl) (fv_arr (shR h2.1 rfl)) ?_
  refine g_invV_r (pc := 26) (As := [_]) dX7_pairsTurned_26 rfl (q2) rfl rfl (shK h2.1 rfl) rfl rfl lk_X7_256 rfl (nb rfl) ⟨nb rfl, nb rfl⟩ rfl ?_
  refine g_aload_n (pc := 29) dX7_pairsTurned_29 rfl trivial ?_
  refine g_aload_n (pc := 30) dX7_pairsTurned_30 rfl trivial ?_
  refine g_getf (pc := 31) dX7_pairsTurned_31 fk_X7_34 (shK h3.1 rfl) (fv_arr (shR h3.1 rfl)) ?_
  refine g_invV_r (pc := 34) (As := [_]) dX7_pairsTurned_34 rfl (q3) rfl rfl (shK h3.1 rfl) rfl rfl lk_X7_263 rfl (nb rfl) ⟨nb rfl, nb rfl⟩ rfl ?_
  refine g_ireturn (pc := 37) dX7_pairsTurned_37 rfl rfl ?_
  exact ⟨rfl, rfl⟩
theorem n_gained {s a b : Nat} (h : Rr M n A) (hs : s < 6) (ha : a < n) (hb9 : b < n) : EvR l jX7_gained 4 160 0 0 [.ref 198, .int (nI s), .int (nI a), .int (nI b)] M (.inl (some (.int (if hb (A s a) b = true then 0 else pTv (A s) n a b - pOv (A s) n)))) (if hb (A s a) b = true then thr M 0 else hdM (thr M 0) 205 n (wOut (A s) n n)) := by
  have hn := h.2.2.2.1
  have hS := h.1
  have h' := h.thr (x := 0)
  have h2 : Rr (hdM (thr M 0) 205 n (wOut (tnF (A s) a b) n n)) n A := h'.hd (Or.inl rfl)
  have q2 := r_pairsOf (l := l) h2 hs
  rw [hdM_2] at q2
  have q2 : EvR l jX7_pairsOf 3 90 0 0 [.ref 198, .int (nI s)] (hdM (thr M 0) 205 n (wOut (tnF (A s) a b) n n)) (.inl (some (.int (pOv (A s) n)))) (hdM (thr M 0) 205 n (wOut (A s) n n)) := q2
  have q1 := r_pairsTurned (l := l) h' hs ha hb9
  generalize hdM (thr M 0) 205 n (wOut (tnF (A s) a b) n n) = M1 at *
  generalize hdM (thr M 0) 205 n (wOut (A s) n n) = M2 at *
  generalize pOv (A s) n = P2 at *
  generalize pTv (A s) n a b = P1 at *
  refine ev_intro rfl (nb rfl) rfl ?_
  cases h9 : hb (A s a) b with
  | true =>
    rw [if_pos rfl, if_pos rfl]
    refine g_aload_n (pc := 0) dX7_gained_0 rfl trivial ?_
    refine g_aload_n (pc := 1) dX7_gained_1 rfl trivial ?_
    refine g_iload_n (pc := 2) dX7_gained_2 rfl ?_
    refine g_iload_n (pc := 3) dX7_gained_3 rfl ?_
    refine g_invV_r (pc := 4) (As := [_, _]) dX7_gained_4 rfl (r_areIn_t h (in6 hs) (inR_nI ha (by omega))) rfl rfl (shK hS rfl) rfl rfl lk_X7_223 rfl (nb rfl) ⟨nb rfl, nb rfl⟩ rfl ?_
    refine g_if_eq (pc := 7) (tgt := 22) dX7_gained_7 rfl (fun h7 => absurd h7 ((by decide))) (fun _ => ?_)
    refine g_aload_n (pc := 10) dX7_gained_10 rfl trivial ?_
    refine g_iload_n (pc := 11) dX7_gained_11 rfl ?_
    refine g_invV_r (pc := 12) (As := [_]) dX7_gained_12 rfl (r_isNode_t h (inR_nI hb9 (by omega))) rfl rfl (shK hS rfl) rfl rfl lk_X7_220 rfl (nb rfl) ⟨nb rfl, nb rfl⟩ rfl ?_
    refine g_if_eq (pc := 15) (tgt := 22) dX7_gained_15 rfl (fun h15 => absurd h15 ((by decide))) (fun _ => ?_)
    refine g_iconst (pc := 18) (v := 1) dX7_gained_18 rfl ?_
    refine g_goto (pc := 19) (tgt := 23) dX7_gained_19 rfl ?_
    refine g_iconst (pc := 23) (v := 1) dX7_gained_23 rfl ?_
    refine g_invV_r (pc := 24) (As := [_, _]) dX7_gained_24 rfl (r_isThrown_0 hS) rfl rfl (shK hS rfl) rfl rfl lk_X7_209 rfl (nb rfl) ⟨nb rfl, nb rfl⟩ rfl ?_
    refine g_if_eq (pc := 27) (tgt := 32) dX7_gained_27 rfl (fun _ => ?_) (fun h27 => absurd (rfl) h27)
    refine g_aload_n (pc := 32) dX7_gained_32 rfl trivial ?_
    refine g_iload_n (pc := 33) dX7_gained_33 rfl ?_
    refine g_iload_n (pc := 34) dX7_gained_34 rfl ?_
    refine g_invV_r (pc := 35) (As := [_, _]) dX7_gained_35 rfl (r_rowOf h' hs ha) rfl rfl (shK h'.1 rfl) rfl rfl lk_X7_227 rfl (nb rfl) ⟨nb rfl, nb rfl⟩ rfl ?_
    refine g_iload_n (pc := 38) dX7_gained_38 rfl ?_
    refine g_invS_r (pc := 39) (As := [_, _]) dX7_gained_39 rfl (r_one (by omega)) rfl rfl lk_X7_231 rfl (nb rfl) ⟨nb rfl, nb rfl⟩ rfl ?_
    rw [h9]
    refine g_iconst (pc := 42) (v := 1) dX7_gained_42 rfl ?_
    refine g_icmp_ne (pc := 43) (tgt := 50) dX7_gained_43 rfl (fun h43 => absurd h43 ((fun z => z rfl))) (fun _ => ?_)
    refine g_iconst (pc := 46) (v := 0) dX7_gained_46 rfl ?_
    refine g_goto (pc := 47) (tgt := 63) dX7_gained_47 rfl ?_
    refine g_ireturn (pc := 63) dX7_gained_63 rfl rfl ?_
    exact ⟨rfl, rfl⟩
  | false =>
    rw [if_neg (by decide), if_neg (by decide)]
    refine g_aload_n (pc := 0) dX7_gained_0 rfl trivial ?_
    refine g_aload_n (pc := 1) dX7_gained_1 rfl trivial ?_
    refine g_iload_n (pc := 2) dX7_gained_2 rfl ?_
    refine g_iload_n (pc := 3) dX7_gained_3 rfl ?_
    refine g_invV_r (pc := 4) (As := [_, _]) dX7_gained_4 rfl (r_areIn_t h (in6 hs) (inR_nI ha (by omega))) rfl rfl (shK hS rfl) rfl rfl lk_X7_223 rfl (nb rfl) ⟨nb rfl, nb rfl⟩ rfl ?_
    refine g_if_eq (pc := 7) (tgt := 22) dX7_gained_7 rfl (fun h7 => absurd h7 ((by decide))) (fun _ => ?_)
    refine g_aload_n (pc := 10) dX7_gained_10 rfl trivial ?_
    refine g_iload_n (pc := 11) dX7_gained_11 rfl ?_
    refine g_invV_r (pc := 12) (As := [_]) dX7_gained_12 rfl (r_isNode_t h (inR_nI hb9 (by omega))) rfl rfl (shK hS rfl) rfl rfl lk_X7_220 rfl (nb rfl) ⟨nb rfl, nb rfl⟩ rfl ?_
    refine g_if_eq (pc := 15) (tgt := 22) dX7_gained_15 rfl (fun h15 => absurd h15 ((by decide))) (fun _ => ?_)
    refine g_iconst (pc := 18) (v := 1) dX7_gained_18 rfl ?_
    refine g_goto (pc := 19) (tgt := 23) dX7_gained_19 rfl ?_
    refine g_iconst (pc := 23) (v := 1) dX7_gained_23 rfl ?_
    refine g_invV_r (pc := 24) (As := [_, _]) dX7_gained_24 rfl (r_isThrown_0 hS) rfl rfl (shK hS rfl) rfl rfl lk_X7_209 rfl (nb rfl) ⟨nb rfl, nb rfl⟩ rfl ?_
    refine g_if_eq (pc := 27) (tgt := 32) dX7_gained_27 rfl (fun _ => ?_) (fun h27 => absurd (rfl) h27)
    refine g_aload_n (pc := 32) dX7_gained_32 rfl trivial ?_
    refine g_iload_n (pc := 33) dX7_gained_33 rfl ?_
    refine g_iload_n (pc := 34) dX7_gained_34 rfl ?_
    refine g_invV_r (pc := 35) (As := [_, _]) dX7_gained_35 rfl (r_rowOf h' hs ha) rfl rfl (shK h'.1 rfl) rfl rfl lk_X7_227 rfl (nb rfl) ⟨nb rfl, nb rfl⟩ rfl ?_
    refine g_iload_n (pc := 38) dX7_gained_38 rfl ?_
    refine g_invS_r (pc := 39) (As := [_, _]) dX7_gained_39 rfl (r_one (by omega)) rfl rfl lk_X7_231 rfl (nb rfl) ⟨nb rfl, nb rfl⟩ rfl ?_
    rw [h9]
    refine g_iconst (pc := 42) (v := 1) dX7_gained_42 rfl ?_
    refine g_icmp_ne (pc := 43) (tgt := 50) dX7_gained_43 rfl (fun _ => ?_) (fun h43 => absurd ((by decide)) h43)
    refine g_aload_n (pc := 50) dX7_gained_50 rfl trivial ?_
    refine g_iload_n (pc := 51) dX7_gained_51 rfl ?_
    refine g_iload_n (pc := 52) dX7_gained_52 rfl ?_
    refine g_iload_n (pc := 53) dX7_gained_53 rfl ?_
    refine g_invV_r (pc := 54) (As := [_, _, _]) dX7_gained_54 rfl (q1) rfl rfl (shK h'.1 rfl) rfl rfl lk_X7_284 rfl (nb rfl) ⟨nb rfl, nb rfl⟩ rfl ?_
    refine g_aload_n (pc := 57) dX7_gained_57 rfl trivial ?_
    refine g_iload_n (pc := 58) dX7_gained_58 rfl ?_
    refine g_invV_r (pc := 59) (As := [_]) dX7_gained_59 rfl (q2) rfl rfl (shK h2.1 rfl) rfl rfl lk_X7_267 rfl (nb rfl) ⟨nb rfl, nb rfl⟩ rfl ?_
    refine g_isub (pc := 62) dX7_gained_62 ?_
    refine g_ireturn (pc := 63) dX7_gained_63 rfl rfl ?_
    exact ⟨rfl, rfl⟩
theorem t_gained {v w u : Int32} (h : Rr M n A) (hx : ¬ (inR v 6 ∧ inR w n ∧ inR u n)) : EvR l jX7_gained 4 160 0 0 [.ref 198, .int v, .int w, .int u] M (.inl (some (.int 0))) (thr M 1) := by
  have hS := h.1
  refine ev_intro rfl (nb rfl) rfl ?_
  by_cases h1 : inR v 6 ∧ inR w n
  · refine g_aload_n (pc := 0) dX7_gained_0 rfl trivial ?_
    refine g_aload_n (pc := 1) dX7_gained_1 rfl trivial ?_
    refine g_iload_n (pc := 2) dX7_gained_2 rfl ?_
    refine g_iload_n (pc := 3) dX7_gained_3 rfl ?_
    refine g_invV_r (pc := 4) (As := [_, _]) dX7_gained_4 rfl (r_areIn_t h h1.1 h1.2) rfl rfl (shK hS rfl) rfl rfl lk_X7_223 rfl (nb rfl) ⟨nb rfl, nb rfl⟩ rfl ?_
    refine g_if_eq (pc := 7) (tgt := 22) dX7_gained_7 rfl (fun h7 => absurd h7 ((by decide))) (fun _ => ?_)
    refine g_aload_n (pc := 10) dX7_gained_10 rfl trivial ?_
    refine g_iload_n (pc := 11) dX7_gained_11 rfl ?_
    refine g_invV_r (pc := 12) (As := [_]) dX7_gained_12 rfl (r_isNode_f h (fun q => hx ⟨h1.1, h1.2, q⟩)) rfl rfl (shK hS rfl) rfl rfl lk_X7_220 rfl (nb rfl) ⟨nb rfl, nb rfl⟩ rfl ?_
    refine g_if_eq (pc := 15) (tgt := 22) dX7_gained_15 rfl (fun _ => ?_) (fun h15 => absurd (rfl) h15)
    refine g_iconst (pc := 22) (v := 0) dX7_gained_22 rfl ?_
    refine g_iconst (pc := 23) (v := 1) dX7_gained_23 rfl ?_
    refine g_invV_r (pc := 24) (As := [_, _]) dX7_gained_24 rfl (r_isThrown_1 hS) rfl rfl (shK hS rfl) rfl rfl lk_X7_209 rfl (nb rfl) ⟨nb rfl, nb rfl⟩ rfl ?_
    refine g_if_eq (pc := 27) (tgt := 32) dX7_gained_27 rfl (fun h27 => absurd h27 ((by decide))) (fun _ => ?_)
    refine g_iconst (pc := 30) (v := 0) dX7_gained_30 rfl ?_
    refine g_ireturn (pc := 31) dX7_gained_31 rfl rfl ?_
    exact ⟨rfl, rfl⟩
  · refine g_aload_n (pc := 0) dX7_gained_0 rfl trivial ?_
    refine g_aload_n (pc := 1) dX7_gained_1 rfl trivial ?_
    refine g_iload_n (pc := 2) dX7_gained_2 rfl ?_
    refine g_iload_n (pc := 3) dX7_gained_3 rfl ?_
    refine g_invV_r (pc := 4) (As := [_, _]) dX7_gained_4 rfl (r_areIn_f h h1) rfl rfl (shK hS rfl) rfl rfl lk_X7_223 rfl (nb rfl) ⟨nb rfl, nb rfl⟩ rfl ?_
    refine g_if_eq (pc := 7) (tgt := 22) dX7_gained_7 rfl (fun _ => ?_) (fun h7 => absurd (rfl) h7)
    refine g_iconst (pc := 22) (v := 0) dX7_gained_22 rfl ?_
    refine g_iconst (pc := 23) (v := 1) dX7_gained_23 rfl ?_
    refine g_invV_r (pc := 24) (As := [_, _]) dX7_gained_24 rfl (r_isThrown_1 hS) rfl rfl (shK hS rfl) rfl rfl lk_X7_209 rfl (nb rfl) ⟨nb rfl, nb rfl⟩ rfl ?_
    refine g_if_eq (pc := 27) (tgt := 32) dX7_gained_27 rfl (fun h27 => absurd h27 ((by decide))) (fun _ => ?_)
    refine g_iconst (pc := 30) (v := 0) dX7_gained_30 rfl ?_
    refine g_ireturn (pc := 31) dX7_gained_31 rfl rfl ?_
    exact ⟨rfl, rfl⟩
theorem n_lost {s a b : Nat} (h : Rr M n A) (hs : s < 6) (ha : a < n) (hb9 : b < n) : EvR l jX7_lost 4 160 0 0 [.ref 198, .int (nI s), .int (nI a), .int (nI b)] M (.inl (some (.int (if hb (A s a) b = true then pOv (A s) n - pTv (A s) n a b else -1)))) (if hb (A s a) b = true then hdM (thr M 0) 205 n (wOut (tnF (A s) a b) n n) else thr M 0) := by
  have hn := h.2.2.2.1
  have hS := h.1
  have h' := h.thr (x := 0)
  have h2 : Rr (hdM (thr M 0) 205 n (wOut (A s) n n)) n A := h'.hd (Or.inl rfl)
  have q2 := r_pairsTurned (l := l) h2 hs ha hb9
  rw [hdM_2] at q2
  have q1 : EvR l jX7_pairsOf 3 90 0 0 [.ref 198, .int (nI s)] (thr M 0) (.inl (some (.int (pOv (A s) n)))) (hdM (thr M 0) 205 n (wOut (A s) n n)) := r_pairsOf h' hs
  generalize hdM (thr M 0) 205 n (wOut (tnF (A s) a b) n n) = M2 at *
  generalize hdM (thr M 0) 205 n (wOut (A s) n n) = M1 at *
  generalize pOv (A s) n = P1 at *
  generalize pTv (A s) n a b = P2 at *
  refine ev_intro rfl (nb rfl) rfl ?_
  cases h9 : hb (A s a) b with
  | true =>
    rw [if_pos rfl, if_pos rfl]
    refine g_aload_n (pc := 0) dX7_lost_0 rfl trivial ?_
    refine g_aload_n (pc := 1) dX7_lost_1 rfl trivial ?_
    refine g_iload_n (pc := 2) dX7_lost_2 rfl ?_
    refine g_iload_n (pc := 3) dX7_lost_3 rfl ?_
    refine g_invV_r (pc := 4) (As := [_, _]) dX7_lost_4 rfl (r_areIn_t h (in6 hs) (inR_nI ha (by omega))) rfl rfl (shK hS rfl) rfl rfl lk_X7_223 rfl (nb rfl) ⟨nb rfl, nb rfl⟩ rfl ?_
    refine g_if_eq (pc := 7) (tgt := 22) dX7_lost_7 rfl (fun h7 => absurd h7 ((by decide))) (fun _ => ?_)
    refine g_aload_n (pc := 10) dX7_lost_10 rfl trivial ?_
    refine g_iload_n (pc := 11) dX7_lost_11 rfl ?_
    refine g_invV_r (pc := 12) (As := [_]) dX7_lost_12 rfl (r_isNode_t h (inR_nI hb9 (by omega))) rfl rfl (shK hS rfl) rfl rfl lk_X7_220 rfl (nb rfl) ⟨nb rfl, nb rfl⟩ rfl ?_
    refine g_if_eq (pc := 15) (tgt := 22) dX7_lost_15 rfl (fun h15 => absurd h15 ((by decide))) (fun _ => ?_)
    refine g_iconst (pc := 18) (v := 1) dX7_lost_18 rfl ?_
    refine g_goto (pc := 19) (tgt := 23) dX7_lost_19 rfl ?_
    refine g_iconst (pc := 23) (v := 1) dX7_lost_23 rfl ?_
    refine g_invV_r (pc := 24) (As := [_, _]) dX7_lost_24 rfl (r_isThrown_0 hS) rfl rfl (shK hS rfl) rfl rfl lk_X7_209 rfl (nb rfl) ⟨nb rfl, nb rfl⟩ rfl ?_
    refine g_if_eq (pc := 27) (tgt := 32) dX7_lost_27 rfl (fun _ => ?_) (fun h27 => absurd (rfl) h27)
    refine g_aload_n (pc := 32) dX7_lost_32 rfl trivial ?_
    refine g_iload_n (pc := 33) dX7_lost_33 rfl ?_
    refine g_iload_n (pc := 34) dX7_lost_34 rfl ?_
    refine g_invV_r (pc := 35) (As := [_, _]) dX7_lost_35 rfl (r_rowOf h' hs ha) rfl rfl (shK h'.1 rfl) rfl rfl lk_X7_227 rfl (nb rfl) ⟨nb rfl, nb rfl⟩ rfl ?_
    refine g_iload_n (pc := 38) dX7_lost_38 rfl ?_
    refine g_invS_r (pc := 39) (As := [_, _]) dX7_lost_39 rfl (r_one (by omega)) rfl rfl lk_X7_231 rfl (nb rfl) ⟨nb rfl, nb rfl⟩ rfl ?_
    rw [h9]
    refine g_if_ne (pc := 42) (tgt := 49) dX7_lost_42 rfl (fun _ => ?_) (fun h42 => absurd ((by decide)) h42)
    refine g_aload_n (pc := 49) dX7_lost_49 rfl trivial ?_
    refine g_iload_n (pc := 50) dX7_lost_50 rfl ?_
    refine g_invV_r (pc := 51) (As := [_]) dX7_lost_51 rfl (q1) rfl rfl (shK h'.1 rfl) rfl rfl lk_X7_267 rfl (nb rfl) ⟨nb rfl, nb rfl⟩ rfl ?_
    refine g_aload_n (pc := 54) dX7_lost_54 rfl trivial ?_
    refine g_iload_n (pc := 55) dX7_lost_55 rfl ?_
    refine g_iload_n (pc := 56) dX7_lost_56 rfl ?_
    refine g_iload_n (pc := 57) dX7_lost_57 rfl ?_
    refine g_invV_r (pc := 58) (As := [_, _, _]) dX7_lost_58 rfl (q2) rfl rfl (shK h2.1 rfl) rfl rfl lk_X7_284 rfl (nb rfl) ⟨nb rfl, nb rfl⟩ rfl ?_
    refine g_isub (pc := 61) dX7_lost_61 ?_
    refine g_ireturn (pc := 62) dX7_lost_62 rfl rfl ?_
    exact ⟨rfl, rfl⟩
  | false =>
    rw [if_neg (by decide), if_neg (by decide)]
    refine g_aload_n (pc := 0) dX7_lost_0 rfl trivial ?_
    refine g_aload_n (pc := 1) dX7_lost_1 rfl trivial ?_
    refine g_iload_n (pc := 2) dX7_lost_2 rfl ?_
    refine g_iload_n (pc := 3) dX7_lost_3 rfl ?_
    refine g_invV_r (pc := 4) (As := [_, _]) dX7_lost_4 rfl (r_areIn_t h (in6 hs) (inR_nI ha (by omega))) rfl rfl (shK hS rfl) rfl rfl lk_X7_223 rfl (nb rfl) ⟨nb rfl, nb rfl⟩ rfl ?_
    refine g_if_eq (pc := 7) (tgt := 22) dX7_lost_7 rfl (fun h7 => absurd h7 ((by decide))) (fun _ => ?_)
    refine g_aload_n (pc := 10) dX7_lost_10 rfl trivial ?_
    refine g_iload_n (pc := 11) dX7_lost_11 rfl ?_
    refine g_invV_r (pc := 12) (As := [_]) dX7_lost_12 rfl (r_isNode_t h (inR_nI hb9 (by omega))) rfl rfl (shK hS rfl) rfl rfl lk_X7_220 rfl (nb rfl) ⟨nb rfl, nb rfl⟩ rfl ?_
    refine g_if_eq (pc := 15) (tgt := 22) dX7_lost_15 rfl (fun h15 => absurd h15 ((by decide))) (fun _ => ?_)
    refine g_iconst (pc := 18) (v := 1) dX7_lost_18 rfl ?_
    refine g_goto (pc := 19) (tgt := 23) dX7_lost_19 rfl ?_
    refine g_iconst (pc := 23) (v := 1) dX7_lost_23 rfl ?_
    refine g_invV_r (pc := 24) (As := [_, _]) dX7_lost_24 rfl (r_isThrown_0 hS) rfl rfl (shK hS rfl) rfl rfl lk_X7_209 rfl (nb rfl) ⟨nb rfl, nb rfl⟩ rfl ?_
    refine g_if_eq (pc := 27) (tgt := 32) dX7_lost_27 rfl (fun _ => ?_) (fun h27 => absurd (rfl) h27)
    refine g_aload_n (pc := 32) dX7_lost_32 rfl trivial ?_
    refine g_iload_n (pc := 33) dX7_lost_33 rfl ?_
    refine g_iload_n (pc := 34) dX7_lost_34 rfl ?_
    refine g_invV_r (pc := 35) (As := [_, _]) dX7_lost_35 rfl (r_rowOf h' hs ha) rfl rfl (shK h'.1 rfl) rfl rfl lk_X7_227 rfl (nb rfl) ⟨nb rfl, nb rfl⟩ rfl ?_
    refine g_iload_n (pc := 38) dX7_lost_38 rfl ?_
    refine g_invS_r (pc := 39) (As := [_, _]) dX7_lost_39 rfl (r_one (by omega)) rfl rfl lk_X7_231 rfl (nb rfl) ⟨nb rfl, nb rfl⟩ rfl ?_
    rw [h9]
    refine g_if_ne (pc := 42) (tgt := 49) dX7_lost_42 rfl (fun h42 => absurd h42 ((fun z => z rfl))) (fun _ => ?_)
    refine g_iconst (pc := 45) (v := (-1)) dX7_lost_45 rfl ?_
    refine g_goto (pc := 46) (tgt := 62) dX7_lost_46 rfl ?_
    refine g_ireturn (pc := 62) dX7_lost_62 rfl rfl ?_
    exact ⟨rfl, rfl⟩
theorem t_lost {v w u : Int32} (h : Rr M n A) (hx : ¬ (inR v 6 ∧ inR w n ∧ inR u n)) : EvR l jX7_lost 4 160 0 0 [.ref 198, .int v, .int w, .int u] M (.inl (some (.int 0))) (thr M 1) := by
  have hS := h.1
  refine ev_intro rfl (nb rfl) rfl ?_
  by_cases h1 : inR v 6 ∧ inR w n
  · refine g_aload_n (pc := 0) dX7_lost_0 rfl trivial ?_
    refine g_aload_n (pc := 1) dX7_lost_1 rfl trivial ?_
    refine g_iload_n (pc := 2) dX7_lost_2 rfl ?_
    refine g_iload_n (pc := 3) dX7_lost_3 rfl ?_
    refine g_invV_r (pc := 4) (As := [_, _]) dX7_lost_4 rfl (r_areIn_t h h1.1 h1.2) rfl rfl (shK hS rfl) rfl rfl lk_X7_223 rfl (nb rfl) ⟨nb rfl, nb rfl⟩ rfl ?_
    refine g_if_eq (pc := 7) (tgt := 22) dX7_lost_7 rfl (fun h7 => absurd h7 ((by decide))) (fun _ => ?_)
    refine g_aload_n (pc := 10) dX7_lost_10 rfl trivial ?_
    refine g_iload_n (pc := 11) dX7_lost_11 rfl ?_
    refine g_invV_r (pc := 12) (As := [_]) dX7_lost_12 rfl (r_isNode_f h (fun q => hx ⟨h1.1, h1.2, q⟩)) rfl rfl (shK hS rfl) rfl rfl lk_X7_220 rfl (nb rfl) ⟨nb rfl, nb rfl⟩ rfl ?_
    refine g_if_eq (pc := 15) (tgt := 22) dX7_lost_15 rfl (fun _ => ?_) (fun h15 => absurd (rfl) h15)
    refine g_iconst (pc := 22) (v := 0) dX7_lost_22 rfl ?_
    refine g_iconst (pc := 23) (v := 1) dX7_lost_23 rfl ?_
    refine g_invV_r (pc := 24) (As := [_, _]) dX7_lost_24 rfl (r_isThrown_1 hS) rfl rfl (shK hS rfl) rfl rfl lk_X7_209 rfl (nb rfl) ⟨nb rfl, nb rfl⟩ rfl ?_
    refine g_if_eq (pc := 27) (tgt := 32) dX7_lost_27 rfl (fun h27 => absurd h27 ((by decide))) (fun _ => ?_)
    refine g_iconst (pc := 30) (v := 0) dX7_lost_30 rfl ?_
    refine g_ireturn (pc := 31) dX7_lost_31 rfl rfl ?_
    exact ⟨rfl, rfl⟩
  · refine g_aload_n (pc := 0) dX7_lost_0 rfl trivial ?_
    refine g_aload_n (pc := 1) dX7_lost_1 rfl trivial ?_
    refine g_iload_n (pc := 2) dX7_lost_2 rfl ?_
    refine g_iload_n (pc := 3) dX7_lost_3 rfl ?_
    refine g_invV_r (pc := 4) (As := [_, _]) dX7_lost_4 rfl (r_areIn_f h h1) rfl rfl (shK hS rfl) rfl rfl lk_X7_223 rfl (nb rfl) ⟨nb rfl, nb rfl⟩ rfl ?_
    refine g_if_eq (pc := 7) (tgt := 22) dX7_lost_7 rfl (fun _ => ?_) (fun h7 => absurd (rfl) h7)
    refine g_iconst (pc := 22) (v := 0) dX7_lost_22 rfl ?_
    refine g_iconst (pc := 23) (v := 1) dX7_lost_23 rfl ?_
    refine g_invV_r (pc := 24) (As := [_, _]) dX7_lost_24 rfl (r_isThrown_1 hS) rfl rfl (shK hS rfl) rfl rfl lk_X7_209 rfl (nb rfl) ⟨nb rfl, nb rfl⟩ rfl ?_
    refine g_if_eq (pc := 27) (tgt := 32) dX7_lost_27 rfl (fun h27 => absurd h27 ((by decide))) (fun _ => ?_)
    refine g_iconst (pc := 30) (v := 0) dX7_lost_30 rfl ?_
    refine g_ireturn (pc := 31) dX7_lost_31 rfl rfl ?_
    exact ⟨rfl, rfl⟩
/-- the turned bit that makes the most: is it asked for, what it makes -/
def mtC (f : Nat → Int32) (n : Nat) (bit : Bool) (k : Nat) : Bool := decide (k % 32 < n) && (hb (f (k / 32)) (k % 32) == bit)
def mtA (x : Int32) : Int32 := if 0 ≤ x then x else 0 - x
def mtV (f : Nat → Int32) (n k : Nat) : Int32 := mtA (pTv f n (k / 32) (k % 32) - pOv f n)
def mtS (f : Nat → Int32) (n : Nat) (bit : Bool) : Nat → Int32 × Int32
  | 0 => (-1, -1)
  | k + 1 => if mtC f n bit k = true then (if (mtS f n bit k).2 < mtV f n k then nI k else (mtS f n bit k).1, if (mtS f n bit k).2 < mtV f n k then mtV f n k else (mtS f n bit k).2) else mtS f n bit k
def mtH (f : Nat → Int32) (n : Nat) (bit : Bool) : Nat → Nat → Int32
  | 0 => wOut f n n
  | k + 1 => if mtC f n bit k = true then wOut (tnF f (k / 32) (k % 32)) n n else mtH f n bit k
theorem dv32 : ∀ k, k < 1024 → nI k / 32 = nI (k / 32) ∧ nI k - nI k / 32 * 32 = nI (k % 32) := fun k hk => by
  have e : nI k / 32 = nI (k / 32) := (Int32.ofNat_div (a := k) (b := 32) (by omega) (by omega)).symm
  refine ⟨e, ?_⟩
  rw [e, show (32 : Int32) = nI 32 from rfl, nI_mul, nI_sub' (by omega)]
  congr 1
  omega
theorem r_mostTurned {s : Nat} {bit : Bool} (h : Rr M n A) (hs : s < 6) : EvR l jX7_mostTurned 4 130 0 0 [.ref 198, .int (nI s), .int (b1 bit)] M (.inl (some (.int (mtS (A s) n bit (32 * n)).1))) (hdM M 205 n (mtH (A s) n bit (32 * n))) := by
  have hn := h.2.2.2.1
  have hS := h.1
  have q1 : EvR l jX7_pairsOf 3 90 0 0 [.ref 198, .int (nI s)] M (.inl (some (.int (pOv (A s) n)))) (hdM M 205 n (wOut (A s) n n)) := r_pairsOf h hs
  refine ev_intro rfl (nb rfl) rfl ?_
  refine g_aload_n (pc := 0) dX7_mostTurned_0 rfl trivial ?_
  refine g_iload_n (pc := 1) dX7_mostTurned_1 rfl ?_
  refine g_invV_r (pc := 2) (As := [_]) dX7_mostTurned_2 rfl (q1) rfl rfl (shK hS rfl) rfl rfl lk_X7_267 rfl (nb rfl) ⟨nb rfl, nb rfl⟩ rfl ?_
  refine g_istore_n (pc := 5) (lv' := [(0, _), (1, _), (2, _), (3, _)]) dX7_mostTurned_5 (nl rfl) rfl ?_
  refine g_iconst (pc := 6) (v := (-1)) dX7_mostTurned_6 rfl ?_
  refine g_istore (pc := 7) (lv' := [(0, _), (1, _), (2, _), (3, _), (4, _)]) dX7_mostTurned_7 (nl rfl) rfl ?_
  refine g_iconst (pc := 9) (v := (-1)) dX7_mostTurned_9 rfl ?_
  refine g_istore (pc := 10) (lv' := [(0, _), (1, _), (2, _), (3, _), (4, _), (5, _)]) dX7_mostTurned_10 (nl rfl) rfl ?_
  refine g_iconst (pc := 12) (v := 0) dX7_mostTurned_12 rfl ?_
  refine g_istore (pc := 13) (lv' := [(0, _), (1, _), (2, _), (3, _), (4, _), (5, _), (6, _)]) dX7_mostTurned_13 (nl rfl) rfl ?_
  refine go_loop (pc := 15) (32 * n) (fun k => [(0, .ref 198), (1, .int (nI s)), (2, .int (b1 bit)), (3, .int (pOv (A s) n)), (4, .int (mtS (A s) n bit k).1), (5, .int (mtS (A s) n bit k).2), (6, .int (nI k))]) (fun k => hdM M 205 n (mtH (A s) n bit k)) ⟨rfl, rfl, rfl, rfl, rfl, rfl, rfl, trivial⟩ rfl ?_ ?_
  · intro k hk ih
    have h1 : Rr (hdM M 205 n (mtH (A s) n bit k)) n A := h.hd (Or.inl rfl)
    obtain ⟨d1, d2⟩ := dv32 k (by omega)
    rw [mtS, mtH] at ih
    have hlt : k / 32 < n := by omega
    by_cases hm : k % 32 < n
    · have q2 := r_pairsTurned (l := l) h1 hs hlt hm
      rw [hdM_2] at q2
      cases hb9 : hb (A s (k / 32)) (k % 32) == bit with
      | true =>
        have hc : mtC (A s) n bit k = true := by unfold mtC; rw [hb9]; simp [hm]
        rw [if_pos hc, if_pos hc] at ih
        have hbb : hb (A s (k / 32)) (k % 32) = bit := by simpa using hb9
        unfold mtV at ih
        generalize mtS (A s) n bit (32 * n) = X9 at *
        generalize hdM M 205 n (mtH (A s) n bit (32 * n)) = M9 at *
        generalize hdM M 205 n (wOut (tnF (A s) (k / 32) (k % 32)) n n) = M2 at *
        generalize hdM M 205 n (mtH (A s) n bit k) = M1 at *
        generalize mtS (A s) n bit k = x at *
        generalize pTv (A s) n (k / 32) (k % 32) = y at *
        generalize pOv (A s) n = P at *
        refine g_iload (pc := 15) dX7_mostTurned_15 rfl ?_
        refine g_bipush (pc := 17) (v := 32) dX7_mostTurned_17 rfl ?_
        refine g_aload_n (pc := 19) dX7_mostTurned_19 rfl trivial ?_
        refine g_invV_r (pc := 20) (As := []) dX7_mostTurned_20 rfl (r_size h1) rfl rfl (shK h1.1 rfl) rfl rfl lk_X7_71 rfl (nb rfl) ⟨nb rfl, nb rfl⟩ rfl ?_
        refine g_imul (pc := 23) dX7_mostTurned_23 ?_
        rw [show (32 : Int32) = nI 32 from rfl, nI_mul]
        refine g_icmp_ge (pc := 24) (tgt := 117) dX7_mostTurned_24 rfl (fun h24 => absurd h24 (nI_ge hk (by omega))) (fun _ => ?_)
        refine g_iload (pc := 27) dX7_mostTurned_27 rfl ?_
        refine g_bipush (pc := 29) (v := 32) dX7_mostTurned_29 rfl ?_
        refine g_irem (pc := 31) dX7_mostTurned_31 (by decide) ?_
        rw [d2]
        refine g_aload_n (pc := 32) dX7_mostTurned_32 rfl trivial ?_
        refine g_invV_r (pc := 33) (As := []) dX7_mostTurned_33 rfl (r_size h1) rfl rfl (shK h1.1 rfl) rfl rfl lk_X7_71 rfl (nb rfl) ⟨nb rfl, nb rfl⟩ rfl ?_
        refine g_icmp_ge (pc := 36) (tgt := 111) dX7_mostTurned_36 rfl (fun h36 => absurd h36 (nI_ge hm (by omega))) (fun _ => ?_)
        refine g_aload_n (pc := 39) dX7_mostTurned_39 rfl trivial ?_
        refine g_iload_n (pc := 40) dX7_mostTurned_40 rfl ?_
        refine g_iload (pc := 41) dX7_mostTurned_41 rfl ?_
        refine g_bipush (pc := 43) (v := 32) dX7_mostTurned_43 rfl ?_
        refine g_idiv (pc := 45) dX7_mostTurned_45 (by decide) ?_
        rw [d1]
        refine g_invV_r (pc := 46) (As := [_, _]) dX7_mostTurned_46 rfl (r_rowOf h1 hs hlt) rfl rfl (shK h1.1 rfl) rfl rfl lk_X7_227 rfl (nb rfl) ⟨nb rfl, nb rfl⟩ rfl ?_
        refine g_iload (pc := 49) dX7_mostTurned_49 rfl ?_
        refine g_bipush (pc := 51) (v := 32) dX7_mostTurned_51 rfl ?_
        refine g_irem (pc := 53) dX7_mostTurned_53 (by decide) ?_
        rw [d2]
        refine g_invS_r (pc := 54) (As := [_, _]) dX7_mostTurned_54 rfl (r_one (show k % 32 < 32 by omega)) rfl rfl lk_X7_231 rfl (nb rfl) ⟨nb rfl, nb rfl⟩ rfl ?_
        rw [hbb]
        refine g_iload_n (pc := 57) dX7_mostTurned_57 rfl ?_
        refine g_icmp_eq (pc := 58) (tgt := 64) dX7_mostTurned_58 rfl (fun _ => ?_) (fun h58 => absurd (rfl) h58)
        refine g_aload_n (pc := 64) dX7_mostTurned_64 rfl trivial ?_
        refine g_iload_n (pc := 65) dX7_mostTurned_65 rfl ?_
        refine g_iload (pc := 66) dX7_mostTurned_66 rfl ?_
        refine g_bipush (pc := 68) (v := 32) dX7_mostTurned_68 rfl ?_
        refine g_idiv (pc := 70) dX7_mostTurned_70 (by decide) ?_
        rw [d1]
        refine g_iload (pc := 71) dX7_mostTurned_71 rfl ?_
        refine g_bipush (pc := 73) (v := 32) dX7_mostTurned_73 rfl ?_
        refine g_irem (pc := 75) dX7_mostTurned_75 (by decide) ?_
        rw [d2]
        refine g_invV_r (pc := 76) (As := [_, _, _]) dX7_mostTurned_76 rfl (q2) rfl rfl (shK h1.1 rfl) rfl rfl lk_X7_284 rfl (nb rfl) ⟨nb rfl, nb rfl⟩ rfl ?_
        refine g_iload_n (pc := 79) dX7_mostTurned_79 rfl ?_
        refine g_isub (pc := 80) dX7_mostTurned_80 ?_
        refine g_mabs (pc := 81) (y := 0) dX7_mostTurned_81 wd_1623 wd_1624 wd_107 wd_1625 (nb rfl) (nb rfl) ?_
        refine g_istore (pc := 84) (lv' := [(0, _), (1, _), (2, _), (3, _), (4, _), (5, _), (6, _), (7, _)]) dX7_mostTurned_84 (nl rfl) rfl ?_
        refine g_iload (pc := 86) dX7_mostTurned_86 rfl ?_
        refine g_iload (pc := 88) dX7_mostTurned_88 rfl ?_
        refine g_icmp_le (pc := 90) (tgt := 98) dX7_mostTurned_90 rfl (fun h90 => ?_) (fun h90 => ?_)
        · unfold mtA at ih
          rw [if_neg (Int32.not_lt.mpr h90)] at ih
          refine g_iload (pc := 98) dX7_mostTurned_98 rfl ?_
          refine g_istore (pc := 100) (lv' := [(0, _), (1, _), (2, _), (3, _), (4, _), (5, _), (6, _), (7, _)]) dX7_mostTurned_100 (nl rfl) rfl ?_
          refine g_iload (pc := 102) dX7_mostTurned_102 rfl ?_
          refine g_iload (pc := 104) dX7_mostTurned_104 rfl ?_
          refine g_mmax (pc := 106) dX7_mostTurned_106 wd_1626 wd_1627 wd_107 wd_1628 (nb rfl) (nb rfl) ?_
          refine g_istore (pc := 109) (lv' := [(0, _), (1, _), (2, _), (3, _), (4, _), (5, _), (6, _), (7, _)]) dX7_mostTurned_109 (nl rfl) rfl ?_
          refine g_iinc (pc := 111) (lv' := [(0, _), (1, _), (2, _), (3, _), (4, _), (5, _), (6, _), (7, _)]) dX7_mostTurned_111 rfl (nI_1 _) (nl rfl) rfl ?_
          refine g_goto (pc := 114) (tgt := 15) dX7_mostTurned_114 rfl ?_
          exact g_sub (lv' := [(0, _), (1, _), (2, _), (3, _), (4, _), (5, _), (6, _)]) ⟨rfl, rfl, rfl, rfl, rfl, rfl, rfl, trivial⟩ ih
        · unfold mtA at ih
          rw [if_pos (Int32.not_le.mp h90)] at ih
          refine g_iload (pc := 93) dX7_mostTurned_93 rfl ?_
          refine g_goto (pc := 95) (tgt := 100) dX7_mostTurned_95 rfl ?_
          refine g_istore (pc := 100) (lv' := [(0, _), (1, _), (2, _), (3, _), (4, _), (5, _), (6, _), (7, _)]) dX7_mostTurned_100 (nl rfl) rfl ?_
          refine g_iload (pc := 102) dX7_mostTurned_102 rfl ?_
          refine g_iload (pc := 104) dX7_mostTurned_104 rfl ?_
          refine g_mmax (pc := 106) dX7_mostTurned_106 wd_1626 wd_1627 wd_107 wd_1628 (nb rfl) (nb rfl) ?_
          refine g_istore (pc := 109) (lv' := [(0, _), (1, _), (2, _), (3, _), (4, _), (5, _), (6, _), (7, _)]) dX7_mostTurned_109 (nl rfl) rfl ?_
          refine g_iinc (pc := 111) (lv' := [(0, _), (1, _), (2, _), (3, _), (4, _), (5, _), (6, _), (7, _)]) dX7_mostTurned_111 rfl (nI_1 _) (nl rfl) rfl ?_
          refine g_goto (pc := 114) (tgt := 15) dX7_mostTurned_114 rfl ?_
          exact g_sub (lv' := [(0, _), (1, _), (2, _), (3, _), (4, _), (5, _), (6, _)]) ⟨rfl, rfl, rfl, rfl, rfl, rfl, rfl, trivial⟩ ih
      | false =>
        have hc : ¬ mtC (A s) n bit k = true := by unfold mtC; rw [hb9]; simp
        rw [if_neg hc, if_neg hc] at ih
        have hbb : hb (A s (k / 32)) (k % 32) ≠ bit := by simpa using hb9
        generalize mtS (A s) n bit (32 * n) = X9 at *
        generalize hdM M 205 n (mtH (A s) n bit (32 * n)) = M9 at *
        generalize hdM M 205 n (mtH (A s) n bit k) = M1 at *
        generalize mtS (A s) n bit k = x at *
        refine g_iload (pc := 15) dX7_mostTurned_15 rfl ?_
        refine g_bipush (pc := 17) (v := 32) dX7_mostTurned_17 rfl ?_
        refine g_aload_n (pc := 19) dX7_mostTurned_19 rfl trivial ?_
        refine g_invV_r (pc := 20) (As := []) dX7_mostTurned_20 rfl (r_size h1) rfl rfl (shK h1.1 rfl) rfl rfl lk_X7_71 rfl (nb rfl) ⟨nb rfl, nb rfl⟩ rfl ?_
        refine g_imul (pc := 23) dX7_mostTurned_23 ?_
        rw [show (32 : Int32) = nI 32 from rfl, nI_mul]
        refine g_icmp_ge (pc := 24) (tgt := 117) dX7_mostTurned_24 rfl (fun h24 => absurd h24 (nI_ge hk (by omega))) (fun _ => ?_)
        refine g_iload (pc := 27) dX7_mostTurned_27 rfl ?_
        refine g_bipush (pc := 29) (v := 32) dX7_mostTurned_29 rfl ?_
        refine g_irem (pc := 31) dX7_mostTurned_31 (by decide) ?_
        rw [d2]
        refine g_aload_n (pc := 32) dX7_mostTurned_32 rfl trivial ?_
        refine g_invV_r (pc := 33) (As := []) dX7_mostTurned_33 rfl (r_size h1) rfl rfl (shK h1.1 rfl) rfl rfl lk_X7_71 rfl (nb rfl) ⟨nb rfl, nb rfl⟩ rfl ?_
        refine g_icmp_ge (pc := 36) (tgt := 111) dX7_mostTurned_36 rfl (fun h36 => absurd h36 (nI_ge hm (by omega))) (fun _ => ?_)
        refine g_aload_n (pc := 39) dX7_mostTurned_39 rfl trivial ?_
        refine g_iload_n (pc := 40) dX7_mostTurned_40 rfl ?_
        refine g_iload (pc := 41) dX7_mostTurned_41 rfl ?_
        refine g_bipush (pc := 43) (v := 32) dX7_mostTurned_43 rfl ?_
        refine g_idiv (pc := 45) dX7_mostTurned_45 (by decide) ?_
        rw [d1]
        refine g_invV_r (pc := 46) (As := [_, _]) dX7_mostTurned_46 rfl (r_rowOf h1 hs hlt) rfl rfl (shK h1.1 rfl) rfl rfl lk_X7_227 rfl (nb rfl) ⟨nb rfl, nb rfl⟩ rfl ?_
        refine g_iload (pc := 49) dX7_mostTurned_49 rfl ?_
        refine g_bipush (pc := 51) (v := 32) dX7_mostTurned_51 rfl ?_
        refine g_irem (pc := 53) dX7_mostTurned_53 (by decide) ?_
        rw [d2]
        refine g_invS_r (pc := 54) (As := [_, _]) dX7_mostTurned_54 rfl (r_one (show k % 32 < 32 by omega)) rfl rfl lk_X7_231 rfl (nb rfl) ⟨nb rfl, nb rfl⟩ rfl ?_
        refine g_iload_n (pc := 57) dX7_mostTurned_57 rfl ?_
        refine g_icmp_eq (pc := 58) (tgt := 64) dX7_mostTurned_58 rfl (fun h58 => absurd h58 ((fun z => hbb (b1_inj.mp z)))) (fun _ => ?_)
        refine g_goto (pc := 61) (tgt := 111) dX7_mostTurned_61 rfl ?_
        refine g_iinc (pc := 111) (lv' := [(0, _), (1, _), (2, _), (3, _), (4, _), (5, _), (6, _)]) dX7_mostTurned_111 rfl (nI_1 _) (nl rfl) rfl ?_
        refine g_goto (pc := 114) (tgt := 15) dX7_mostTurned_114 rfl ?_
        exact ih
    · have hc : ¬ mtC (A s) n bit k = true := by unfold mtC; simp [hm]
      rw [if_neg hc, if_neg hc] at ih
      generalize mtS (A s) n bit (32 * n) = X9 at *
      generalize hdM M 205 n (mtH (A s) n bit (32 * n)) = M9 at *
      generalize hdM M 205 n (mtH (A s) n bit k) = M1 at *
      generalize mtS (A s) n bit k = x at *
      refine g_iload (pc := 15) dX7_mostTurned_15 rfl ?_
      refine g_bipush (pc := 17) (v := 32) dX7_mostTurned_17 rfl ?_
      refine g_aload_n (pc := 19) dX7_mostTurned_19 rfl trivial ?_
      refine g_invV_r (pc := 20) (As := []) dX7_mostTurned_20 rfl (r_size h1) rfl rfl (shK h1.1 rfl) rfl rfl lk_X7_71 rfl (nb rfl) ⟨nb rfl, nb rfl⟩ rfl ?_
      refine g_imul (pc := 23) dX7_mostTurned_23 ?_
      rw [show (32 : Int32) = nI 32 from rfl, nI_mul]
      refine g_icmp_ge (pc := 24) (tgt := 117) dX7_mostTurned_24 rfl (fun h24 => absurd h24 (nI_ge hk (by omega))) (fun _ => ?_)
      refine g_iload (pc := 27) dX7_mostTurned_27 rfl ?_
      refine g_bipush (pc := 29) (v := 32) dX7_mostTurned_29 rfl ?_
      refine g_irem (pc := 31) dX7_mostTurned_31 (by decide) ?_
      rw [d2]
      refine g_aload_n (pc := 32) dX7_mostTurned_32 rfl trivial ?_
      refine g_invV_r (pc := 33) (As := []) dX7_mostTurned_33 rfl (r_size h1) rfl rfl (shK h1.1 rfl) rfl rfl lk_X7_71 rfl (nb rfl) ⟨nb rfl, nb rfl⟩ rfl ?_
      refine g_icmp_ge (pc := 36) (tgt := 111) dX7_mostTurned_36 rfl (fun _ => ?_) (fun h36 => absurd (nI_le (by omega) (by omega)) h36)
      refine g_iinc (pc := 111) (lv' := [(0, _), (1, _), (2, _), (3, _), (4, _), (5, _), (6, _)]) dX7_mostTurned_111 rfl (nI_1 _) (nl rfl) rfl ?_
      refine g_goto (pc := 114) (tgt := 15) dX7_mostTurned_114 rfl ?_
      exact ih
  · have h1 : Rr (hdM M 205 n (mtH (A s) n bit (32 * n))) n A := h.hd (Or.inl rfl)
    generalize mtS (A s) n bit (32 * n) = X9 at *
    generalize hdM M 205 n (mtH (A s) n bit (32 * n)) = M9 at *
    refine g_iload (pc := 15) dX7_mostTurned_15 rfl ?_
    refine g_bipush (pc := 17) (v := 32) dX7_mostTurned_17 rfl ?_
    refine g_aload_n (pc := 19) dX7_mostTurned_19 rfl trivial ?_
    refine g_invV_r (pc := 20) (As := []) dX7_mostTurned_20 rfl (r_size h1) rfl rfl (shK h1.1 rfl) rfl rfl lk_X7_71 rfl (nb rfl) ⟨nb rfl, nb rfl⟩ rfl ?_
    refine g_imul (pc := 23) dX7_mostTurned_23 ?_
    rw [show (32 : Int32) = nI 32 from rfl, nI_mul]
    refine g_icmp_ge (pc := 24) (tgt := 117) dX7_mostTurned_24 rfl (fun _ => ?_) (fun h24 => absurd (nI_le (Nat.le_refl _) (by omega)) h24)
    refine g_iload (pc := 117) dX7_mostTurned_117 rfl ?_
    refine g_ireturn (pc := 119) dX7_mostTurned_119 rfl rfl ?_
    exact ⟨rfl, rfl⟩
theorem n_bestEdge {s : Nat} (h : Rr M n A) (hs : s < 6) : EvR l jX7_bestEdge 5 160 0 0 [.ref 198, .int (nI s)] M (.inl (some (.int (mtS (A s) n false (32 * n)).1))) (hdM (thr M 0) 205 n (mtH (A s) n false (32 * n))) := by
  have hS := h.1
  have q1 := r_mostTurned (l := l) (bit := false) (h.thr (x := 0)) hs
  refine ev_intro rfl (nb rfl) rfl ?_
  refine g_aload_n (pc := 0) dX7_bestEdge_0 rfl trivial ?_
  refine g_iload_n (pc := 1) dX7_bestEdge_1 rfl ?_
  refine g_invS_r (pc := 2) (As := [_]) dX7_bestEdge_2 rfl (r_isSlot_t (in6 hs)) rfl rfl lk_X7_216 rfl (nb rfl) ⟨nb rfl, nb rfl⟩ rfl ?_
  refine g_iconst (pc := 5) (v := 1) dX7_bestEdge_5 rfl ?_
  refine g_invV_r (pc := 6) (As := [_, _]) dX7_bestEdge_6 rfl (r_isThrown_0 hS) rfl rfl (shK hS rfl) rfl rfl lk_X7_209 rfl (nb rfl) ⟨nb rfl, nb rfl⟩ rfl ?_
  refine g_if_eq (pc := 9) (tgt := 16) dX7_bestEdge_9 rfl (fun _ => ?_) (fun h9 => absurd (rfl) h9)
  refine g_aload_n (pc := 16) dX7_bestEdge_16 rfl trivial ?_
  refine g_iload_n (pc := 17) dX7_bestEdge_17 rfl ?_
  refine g_iconst (pc := 18) (v := 0) dX7_bestEdge_18 rfl ?_
  refine g_invV_r (pc := 19) (As := [_, _]) dX7_bestEdge_19 rfl (q1) rfl rfl (shK (h.thr (x := 0)).1 rfl) rfl rfl lk_X7_294 rfl (nb rfl) ⟨nb rfl, nb rfl⟩ rfl ?_
  refine g_ireturn (pc := 22) dX7_bestEdge_22 rfl rfl ?_
  exact ⟨rfl, rfl⟩
theorem t_bestEdge {v : Int32} (h : Rr M n A) (hx : ¬ inR v 6) : EvR l jX7_bestEdge 5 160 0 0 [.ref 198, .int v] M (.inl (some (.int 0))) (thr M 1) := by
  have hS := h.1
  refine ev_intro rfl (nb rfl) rfl ?_
  refine g_aload_n (pc := 0) dX7_bestEdge_0 rfl trivial ?_
  refine g_iload_n (pc := 1) dX7_bestEdge_1 rfl ?_
  refine g_invS_r (pc := 2) (As := [_]) dX7_bestEdge_2 rfl (r_isSlot_f hx) rfl rfl lk_X7_216 rfl (nb rfl) ⟨nb rfl, nb rfl⟩ rfl ?_
  refine g_iconst (pc := 5) (v := 1) dX7_bestEdge_5 rfl ?_
  refine g_invV_r (pc := 6) (As := [_, _]) dX7_bestEdge_6 rfl (r_isThrown_1 hS) rfl rfl (shK hS rfl) rfl rfl lk_X7_209 rfl (nb rfl) ⟨nb rfl, nb rfl⟩ rfl ?_
  refine g_if_eq (pc := 9) (tgt := 16) dX7_bestEdge_9 rfl (fun h9 => absurd h9 ((by decide))) (fun _ => ?_)
  refine g_iconst (pc := 12) (v := 0) dX7_bestEdge_12 rfl ?_
  refine g_goto (pc := 13) (tgt := 22) dX7_bestEdge_13 rfl ?_
  refine g_ireturn (pc := 22) dX7_bestEdge_22 rfl rfl ?_
  exact ⟨rfl, rfl⟩
theorem n_weakest {s : Nat} (h : Rr M n A) (hs : s < 6) : EvR l jX7_weakest 5 160 0 0 [.ref 198, .int (nI s)] M (.inl (some (.int (mtS (A s) n true (32 * n)).1))) (hdM (thr M 0) 205 n (mtH (A s) n true (32 * n))) := by
  have hS := h.1
  have q1 := r_mostTurned (l := l) (bit := true) (h.thr (x := 0)) hs
  refine ev_intro rfl (nb rfl) rfl ?_
  refine g_aload_n (pc := 0) dX7_weakest_0 rfl trivial ?_
  refine g_iload_n (pc := 1) dX7_weakest_1 rfl ?_
  refine g_invS_r (pc := 2) (As := [_]) dX7_weakest_2 rfl (r_isSlot_t (in6 hs)) rfl rfl lk_X7_216 rfl (nb rfl) ⟨nb rfl, nb rfl⟩ rfl ?_
  refine g_iconst (pc := 5) (v := 1) dX7_weakest_5 rfl ?_
  refine g_invV_r (pc := 6) (As := [_, _]) dX7_weakest_6 rfl (r_isThrown_0 hS) rfl rfl (shK hS rfl) rfl rfl lk_X7_209 rfl (nb rfl) ⟨nb rfl, nb rfl⟩ rfl ?_
  refine g_if_eq (pc := 9) (tgt := 16) dX7_weakest_9 rfl (fun _ => ?_) (fun h9 => absurd (rfl) h9)
  refine g_aload_n (pc := 16) dX7_weakest_16 rfl trivial ?_
  refine g_iload_n (pc := 17) dX7_weakest_17 rfl ?_
  refine g_iconst (pc := 18) (v := 1) dX7_weakest_18 rfl ?_
  refine g_invV_r (pc := 19) (As := [_, _]) dX7_weakest_19 rfl (q1) rfl rfl (shK (h.thr (x := 0)).1 rfl) rfl rfl lk_X7_294 rfl (nb rfl) ⟨nb rfl, nb rfl⟩ rfl ?_
  refine g_ireturn (pc := 22) dX7_weakest_22 rfl rfl ?_
  exact ⟨rfl, rfl⟩
theorem t_weakest {v : Int32} (h : Rr M n A) (hx : ¬ inR v 6) : EvR l jX7_weakest 5 160 0 0 [.ref 198, .int v] M (.inl (some (.int 0))) (thr M 1) := by
  have hS := h.1
  refine ev_intro rfl (nb rfl) rfl ?_
  refine g_aload_n (pc := 0) dX7_weakest_0 rfl trivial ?_
  refine g_iload_n (pc := 1) dX7_weakest_1 rfl ?_
  refine g_invS_r (pc := 2) (As := [_]) dX7_weakest_2 rfl (r_isSlot_f hx) rfl rfl lk_X7_216 rfl (nb rfl) ⟨nb rfl, nb rfl⟩ rfl ?_
  refine g_iconst (pc := 5) (v := 1) dX7_weakest_5 rfl ?_
  refine g_invV_r (pc := 6) (As := [_, _]) dX7_weakest_6 rfl (r_isThrown_1 hS) rfl rfl (shK hS rfl) rfl rfl lk_X7_209 rfl (nb rfl) ⟨nb rfl, nb rfl⟩ rfl ?_
  refine g_if_eq (pc := 9) (tgt := 16) dX7_weakest_9 rfl (fun h9 => absurd h9 ((by decide))) (fun _ => ?_)
  refine g_iconst (pc := 12) (v := 0) dX7_weakest_12 rfl ?_
  refine g_goto (pc := 13) (tgt := 22) dX7_weakest_13 rfl ?_
  refine g_ireturn (pc := 22) dX7_weakest_22 rfl rfl ?_
  exact ⟨rfl, rfl⟩
end
end
-- 282.rt
section
/-! the reference: triangles -/
theorem pcb_trunc {P : Nat → Bool} {n : Nat} : ∀ k, n ≤ k → (∀ i, n ≤ i → P i = false) → pcb P k = pcb P n
  | 0, h, _ => by rw [show n = 0 by omega]
  | k + 1, h, h2 => by
    by_cases e : n = k + 1
    · rw [e]
    · rw [pcb, pcb_trunc k (by omega) h2, h2 k (by omega)]; simp
def tcP (f : Nat → Int32) (a b c : Nat) : Bool := !decide (c = a) && !decide (c = b) && hb (f b) c && hb (f c) a
theorem tc_n {f : Nat → Int32} {n a b : Nat} (hn : n ≤ 32) (ha : a < 32) (hb9 : b < 32) : bcJ (f b &&& (colOf f a n &&& (bitI a ^^^ -1)) &&& (bitI b ^^^ -1)) = nI (pcb (tcP f a b) n) := by
  rw [bcJ_n, pcN_b]
  congr 1
  have h1 : pcb (hb (f b &&& (colOf f a n &&& (bitI a ^^^ -1)) &&& (bitI b ^^^ -1))) 32 = pcb (fun c => decide (c < n) && tcP f a b c) 32 := by
    apply pcb_congr
    intro i hi
    rw [hb_and, hb_and, hb_and, hb_not hi, hb_not hi, hb_bitI ha, hb_bitI hb9, hb_colOf n hn]
    unfold tcP
    cases decide (i = a) <;> cases decide (i = b) <;> cases hb (f b) i <;> cases hb (f i) a <;> cases decide (i < n) <;> rfl
  rw [h1, pcb_trunc 32 hn (fun i hi => by simp; omega)]
  apply pcb_congr
  intro i hi
  simp [hi]
section
variable {l : Launch} {M : Mem} {n : Nat} {A : Nat → Nat → Int32}
theorem n_triangles {s : Nat} (h : Rr M n A) (hs : s < 6) : EvR l jX7_triangles 4 160 0 0 [.ref 198, .int (nI s)] M (.inl (some (.int (trO (A s) n n)))) (thr M 0) := by
  have hn := h.2.2.2.1
  have hS := h.1
  have h' := h.thr (x := 0)
  have htc := fun a b (ha : a < n) (hb9 : b < n) => tc_n (f := A s) (n := n) (a := a) (b := b) hn (by omega) (by omega)
  have hrow := fun k (hk : k < n) => r_rowOf (l := l) h' hs hk
  refine ev_intro rfl (nb rfl) rfl ?_
  refine g_aload_n (pc := 0) dX7_triangles_0 rfl trivial ?_
  refine g_iload_n (pc := 1) dX7_triangles_1 rfl ?_
  refine g_invS_r (pc := 2) (As := [_]) dX7_triangles_2 rfl (r_isSlot_t (in6 hs)) rfl rfl lk_X7_216 rfl (nb rfl) ⟨nb rfl, nb rfl⟩ rfl ?_
  refine g_iconst (pc := 5) (v := 1) dX7_triangles_5 rfl ?_
  refine g_invV_r (pc := 6) (As := [_, _]) dX7_triangles_6 rfl (r_isThrown_0 hS) rfl rfl (shK hS rfl) rfl rfl lk_X7_209 rfl (nb rfl) ⟨nb rfl, nb rfl⟩ rfl ?_
  refine g_if_eq (pc := 9) (tgt := 14) dX7_triangles_9 rfl (fun _ => ?_) (fun h9 => absurd (rfl) h9)
  refine g_iconst (pc := 14) (v := 0) dX7_triangles_14 rfl ?_
  refine g_istore_n (pc := 15) (lv' := [(0, _), (1, _), (2, _)]) dX7_triangles_15 (nl rfl) rfl ?_
  refine g_iconst (pc := 16) (v := 0) dX7_triangles_16 rfl ?_
  refine g_istore_n (pc := 17) (lv' := [(0, _), (1, _), (2, _), (3, _)]) dX7_triangles_17 (nl rfl) rfl ?_
  refine go_loop (pc := 18) n (fun i => [(0, .ref 198), (1, .int (nI s)), (2, .int (trO (A s) n i)), (3, .int (nI i))]) (fun _ => thr M 0) ⟨rfl, rfl, rfl, rfl, trivial⟩ rfl ?_ ?_
  · intro a ha iha
    rw [trO] at iha
    generalize trO (A s) n n = X9 at *
    generalize trO (A s) n a = x0 at *
    refine g_iload_n (pc := 18) dX7_triangles_18 rfl ?_
    refine g_aload_n (pc := 19) dX7_triangles_19 rfl trivial ?_
    refine g_invV_r (pc := 20) (As := []) dX7_triangles_20 rfl (r_size h') rfl rfl (shK hS rfl) rfl rfl lk_X7_71 rfl (nb rfl) ⟨nb rfl, nb rfl⟩ rfl ?_
    refine g_icmp_ge (pc := 23) (tgt := 141) dX7_triangles_23 rfl (fun h23 => absurd h23 (nI_ge ha (by omega))) (fun _ => ?_)
    refine g_iconst (pc := 26) (v := 0) dX7_triangles_26 rfl ?_
    refine g_istore (pc := 27) (lv' := [(0, _), (1, _), (2, _), (3, _), (4, _)]) dX7_triangles_27 (nl rfl) rfl ?_
    refine go_loop (pc := 29) n (fun i => [(0, .ref 198), (1, .int (nI s)), (2, .int (trI (A s) n a x0 i)), (3, .int (nI a)), (4, .int (nI i))]) (fun _ => thr M 0) ⟨rfl, rfl, rfl, rfl, rfl, trivial⟩ rfl ?_ ?_
    · intro b hb9 ihb
      rw [trI, htc a b ha hb9] at ihb
      generalize trI (A s) n a x0 b = x1 at *
      have h129 : ∀ v c, v = x1 ∨ True → Go l jX7_triangles 4 160 0 0 (fun r' M' => r' = .inl (some (.int X9)) ∧ M' = thr M 0) 29 [(0, .ref 198), (1, .int (nI s)), (2, .int v), (3, .int (nI a)), (4, .int (nI (b + 1)))] [] 0 0 (thr M 0) → Go l jX7_triangles 4 160 0 0 (fun r' M' => r' = .inl (some (.int X9)) ∧ M' = thr M 0) 129 [(0, .ref 198), (1, .int (nI s)), (2, .int v), (3, .int (nI a)), (4, .int (nI b)), (5, .int (nI c))] [] 0 0 (thr M 0) := by
        intro v c _ hh
        refine g_iinc (pc := 129) (lv' := [(0, _), (1, _), (2, _), (3, _), (4, _), (5, _)]) dX7_triangles_129 rfl (nI_1 _) (nl rfl) rfl ?_
        refine g_goto (pc := 132) (tgt := 29) dX7_triangles_132 rfl ?_
        exact g_sub (lv' := [(0, _), (1, _), (2, _), (3, _), (4, _)]) ⟨rfl, rfl, rfl, rfl, rfl, trivial⟩ hh
      by_cases hab : a = b
      · rw [if_pos hab] at ihb
        have h9 := h129 x1 0 (Or.inr trivial) ihb
        refine g_iload (pc := 29) dX7_triangles_29 rfl ?_
        refine g_aload_n (pc := 31) dX7_triangles_31 rfl trivial ?_
        refine g_invV_r (pc := 32) (As := []) dX7_triangles_32 rfl (r_size h') rfl rfl (shK hS rfl) rfl rfl lk_X7_71 rfl (nb rfl) ⟨nb rfl, nb rfl⟩ rfl ?_
        refine g_icmp_ge (pc := 35) (tgt := 135) dX7_triangles_35 rfl (fun h35 => absurd h35 (nI_ge hb9 (by omega))) (fun _ => ?_)
        refine g_iconst (pc := 38) (v := 0) dX7_triangles_38 rfl ?_
        refine g_istore (pc := 39) (lv' := [(0, _), (1, _), (2, _), (3, _), (4, _), (5, _)]) dX7_triangles_39 (nl rfl) rfl ?_
        refine g_iload (pc := 41) dX7_triangles_41 rfl ?_
        refine g_aload_n (pc := 43) dX7_triangles_43 rfl trivial ?_
        refine g_invV_r (pc := 44) (As := []) dX7_triangles_44 rfl (r_size h') rfl rfl (shK hS rfl) rfl rfl lk_X7_71 rfl (nb rfl) ⟨nb rfl, nb rfl⟩ rfl ?_
        refine g_icmp_ge (pc := 47) (tgt := 129) dX7_triangles_47 rfl (fun h47 => absurd h47 (nI_ge (show 0 < n by omega) (by omega))) (fun _ => ?_)
        refine g_iload_n (pc := 50) dX7_triangles_50 rfl ?_
        refine g_iload (pc := 51) dX7_triangles_51 rfl ?_
        refine g_icmp_eq (pc := 53) (tgt := 129) dX7_triangles_53 rfl (fun _ => ?_) (fun h53 => absurd ((by rw [hab])) h53)
        exact h9
      · rw [if_neg hab] at ihb
        have hne : ¬ nI a = nI b := fun z => hab ((nI_eq (by omega) (by omega)).mp z)
        cases h4 : hb (A s a) b with
        | false =>
          rw [if_neg (by rw [h4]; decide)] at ihb
          have h9 := h129 x1 0 (Or.inr trivial) ihb
          refine g_iload (pc := 29) dX7_triangles_29 rfl ?_
          refine g_aload_n (pc := 31) dX7_triangles_31 rfl trivial ?_
          refine g_invV_r (pc := 32) (As := []) dX7_triangles_32 rfl (r_size h') rfl rfl (shK hS rfl) rfl rfl lk_X7_71 rfl (nb rfl) ⟨nb rfl, nb rfl⟩ rfl ?_
          refine g_icmp_ge (pc := 35) (tgt := 135) dX7_triangles_35 rfl (fun h35 => absurd h35 (nI_ge hb9 (by omega))) (fun _ => ?_)
          refine g_iconst (pc := 38) (v := 0) dX7_triangles_38 rfl ?_
          refine g_istore (pc := 39) (lv' := [(0, _), (1, _), (2, _), (3, _), (4, _), (5, _)]) dX7_triangles_39 (nl rfl) rfl ?_
          refine g_iload (pc := 41) dX7_triangles_41 rfl ?_
          refine g_aload_n (pc := 43) dX7_triangles_43 rfl trivial ?_
          refine g_invV_r (pc := 44) (As := []) dX7_triangles_44 rfl (r_size h') rfl rfl (shK hS rfl) rfl rfl lk_X7_71 rfl (nb rfl) ⟨nb rfl, nb rfl⟩ rfl ?_
          refine g_icmp_ge (pc := 47) (tgt := 129) dX7_triangles_47 rfl (fun h47 => absurd h47 (nI_ge (show 0 < n by omega) (by omega))) (fun _ => ?_)
          refine g_iload_n (pc := 50) dX7_triangles_50 rfl ?_
          refine g_iload (pc := 51) dX7_triangles_51 rfl ?_
          refine g_icmp_eq (pc := 53) (tgt := 129) dX7_triangles_53 rfl (fun h53 => absurd h53 (hne)) (fun _ => ?_)
          refine g_aload_n (pc := 56) dX7_triangles_56 rfl trivial ?_
          refine g_iload_n (pc := 57) dX7_triangles_57 rfl ?_
          refine g_iload_n (pc := 58) dX7_triangles_58 rfl ?_
          refine g_invV_r (pc := 59) (As := [_, _]) dX7_triangles_59 rfl ((hrow a ha)) rfl rfl (shK hS rfl) rfl rfl lk_X7_227 rfl (nb rfl) ⟨nb rfl, nb rfl⟩ rfl ?_
          refine g_iload (pc := 62) dX7_triangles_62 rfl ?_
          refine g_invS_r (pc := 64) (As := [_, _]) dX7_triangles_64 rfl (r_one (show b < 32 by omega)) rfl rfl lk_X7_231 rfl (nb rfl) ⟨nb rfl, nb rfl⟩ rfl ?_
          rw [h4]
          refine g_iconst (pc := 67) (v := 1) dX7_triangles_67 rfl ?_
          refine g_icmp_ne (pc := 68) (tgt := 129) dX7_triangles_68 rfl (fun _ => ?_) (fun h68 => absurd ((by decide)) h68)
          exact h9
        | true =>
          rw [if_pos h4] at ihb
          refine g_iload (pc := 29) dX7_triangles_29 rfl ?_
          refine g_aload_n (pc := 31) dX7_triangles_31 rfl trivial ?_
          refine g_invV_r (pc := 32) (As := []) dX7_triangles_32 rfl (r_size h') rfl rfl (shK hS rfl) rfl rfl lk_X7_71 rfl (nb rfl) ⟨nb rfl, nb rfl⟩ rfl ?_
          refine g_icmp_ge (pc := 35) (tgt := 135) dX7_triangles_35 rfl (fun h35 => absurd h35 (nI_ge hb9 (by omega))) (fun _ => ?_)
          refine g_iconst (pc := 38) (v := 0) dX7_triangles_38 rfl ?_
          refine g_istore (pc := 39) (lv' := [(0, _), (1, _), (2, _), (3, _), (4, _), (5, _)]) dX7_triangles_39 (nl rfl) rfl ?_
          refine go_loop (pc := 41) n (fun i => [(0, .ref 198), (1, .int (nI s)), (2, .int (x1 + nI (pcb (tcP (A s) a b) i))), (3, .int (nI a)), (4, .int (nI b)), (5, .int (nI i))]) (fun _ => thr M 0) ⟨rfl, rfl, by show some (Value.int x1) = some (.int (x1 + 0)); rw [Int32.add_zero], rfl, rfl, rfl, trivial⟩ rfl ?_ ?_
          · intro c hc ihc
            rw [pcb] at ihc
            generalize pcb (tcP (A s) a b) n = P9 at *
            have hcP : tcP (A s) a b c = (!decide (c = a) && !decide (c = b) && hb (A s b) c && hb (A s c) a) := rfl
            generalize tcP (A s) a b c = w at *
            generalize pcb (tcP (A s) a b) c = P1 at *
            have hadd : ∀ (m : Nat), x1 + nI P1 + nI m = x1 + nI (P1 + m) := fun m => by rw [Int32.add_assoc, nI_add]
            have ha0 := hadd 0
            have ha1 := hadd 1
            by_cases hca : c = a
            · have hw : w = false := by rw [hcP]; simp [hca]
              rw [hw] at ihc
              refine g_iload (pc := 41) dX7_triangles_41 rfl ?_
              refine g_aload_n (pc := 43) dX7_triangles_43 rfl trivial ?_
              refine g_invV_r (pc := 44) (As := []) dX7_triangles_44 rfl (r_size h') rfl rfl (shK hS rfl) rfl rfl lk_X7_71 rfl (nb rfl) ⟨nb rfl, nb rfl⟩ rfl ?_
              refine g_icmp_ge (pc := 47) (tgt := 129) dX7_triangles_47 rfl (fun h47 => absurd h47 (nI_ge hc (by omega))) (fun _ => ?_)
              refine g_iload_n (pc := 50) dX7_triangles_50 rfl ?_
              refine g_iload (pc := 51) dX7_triangles_51 rfl ?_
              refine g_icmp_eq (pc := 53) (tgt := 129) dX7_triangles_53 rfl (fun h53 => absurd h53 (hne)) (fun _ => ?_)
              refine g_aload_n (pc := 56) dX7_triangles_56 rfl trivial ?_
              refine g_iload_n (pc := 57) dX7_triangles_57 rfl ?_
              refine g_iload_n (pc := 58) dX7_triangles_58 rfl ?_
              refine g_invV_r (pc := 59) (As := [_, _]) dX7_triangles_59 rfl ((hrow a ha)) rfl rfl (shK hS rfl) rfl rfl lk_X7_227 rfl (nb rfl) ⟨nb rfl, nb rfl⟩ rfl ?_
              refine g_iload (pc := 62) dX7_triangles_62 rfl ?_
              refine g_invS_r (pc := 64) (As := [_, _]) dX7_triangles_64 rfl (r_one (show b < 32 by omega)) rfl rfl lk_X7_231 rfl (nb rfl) ⟨nb rfl, nb rfl⟩ rfl ?_
              rw [h4]
              refine g_iconst (pc := 67) (v := 1) dX7_triangles_67 rfl ?_
              refine g_icmp_ne (pc := 68) (tgt := 129) dX7_triangles_68 rfl (fun h68 => absurd h68 ((fun z => z rfl))) (fun _ => ?_)
              refine g_iload_n (pc := 71) dX7_triangles_71 rfl ?_
              refine g_iload (pc := 72) dX7_triangles_72 rfl ?_
              refine g_iload_n (pc := 74) dX7_triangles_74 rfl ?_
              refine g_icmp_eq (pc := 75) (tgt := 120) dX7_triangles_75 rfl (fun _ => ?_) (fun h75 => absurd ((by rw [hca])) h75)
              refine g_iconst (pc := 120) (v := 0) dX7_triangles_120 rfl ?_
              refine g_iadd (pc := 121) dX7_triangles_121 ?_
              rw [show (0 : Int32) = nI 0 from rfl, ha0]
              refine g_istore_n (pc := 122) (lv' := [(0, _), (1, _), (2, _), (3, _), (4, _), (5, _)]) dX7_triangles_122 (nl rfl) rfl ?_
              refine g_iinc (pc := 123) (lv' := [(0, _), (1, _), (2, _), (3, _), (4, _), (5, _)]) dX7_triangles_123 rfl (nI_1 _) (nl rfl) rfl ?_
              refine g_goto (pc := 126) (tgt := 41) dX7_triangles_126 rfl ?_
              exact ihc
            · have hca' : ¬ nI c = nI a := fun z => hca ((nI_eq (by omega) (by omega)).mp z)
              by_cases hcb : c = b
              · have hw : w = false := by rw [hcP]; simp [hcb]
                rw [hw] at ihc
                refine g_iload (pc := 41) dX7_triangles_41 rfl ?_
                refine g_aload_n (pc := 43) dX7_triangles_43 rfl trivial ?_
                refine g_invV_r (pc := 44) (As := []) dX7_triangles_44 rfl (r_size h') rfl rfl (shK hS rfl) rfl rfl lk_X7_71 rfl (nb rfl) ⟨nb rfl, nb rfl⟩ rfl ?_
                refine g_icmp_ge (pc := 47) (tgt := 129) dX7_triangles_47 rfl (fun h47 => absurd h47 (nI_ge hc (by omega))) (fun _ => ?_)
                refine g_iload_n (pc := 50) dX7_triangles_50 rfl ?_
                refine g_iload (pc := 51) dX7_triangles_51 rfl ?_
                refine g_icmp_eq (pc := 53) (tgt := 129) dX7_triangles_53 rfl (fun h53 => absurd h53 (hne)) (fun _ => ?_)
                refine g_aload_n (pc := 56) dX7_triangles_56 rfl trivial ?_
                refine g_iload_n (pc := 57) dX7_triangles_57 rfl ?_
                refine g_iload_n (pc := 58) dX7_triangles_58 rfl ?_
                refine g_invV_r (pc := 59) (As := [_, _]) dX7_triangles_59 rfl ((hrow a ha)) rfl rfl (shK hS rfl) rfl rfl lk_X7_227 rfl (nb rfl) ⟨nb rfl, nb rfl⟩ rfl ?_
                refine g_iload (pc := 62) dX7_triangles_62 rfl ?_
                refine g_invS_r (pc := 64) (As := [_, _]) dX7_triangles_64 rfl (r_one (show b < 32 by omega)) rfl rfl lk_X7_231 rfl (nb rfl) ⟨nb rfl, nb rfl⟩ rfl ?_
                rw [h4]
                refine g_iconst (pc := 67) (v := 1) dX7_triangles_67 rfl ?_
                refine g_icmp_ne (pc := 68) (tgt := 129) dX7_triangles_68 rfl (fun h68 => absurd h68 ((fun z => z rfl))) (fun _ => ?_)
                refine g_iload_n (pc := 71) dX7_triangles_71 rfl ?_
                refine g_iload (pc := 72) dX7_triangles_72 rfl ?_
                refine g_iload_n (pc := 74) dX7_triangles_74 rfl ?_
                refine g_icmp_eq (pc := 75) (tgt := 120) dX7_triangles_75 rfl (fun h75 => absurd h75 (hca')) (fun _ => ?_)
                refine g_iload (pc := 78) dX7_triangles_78 rfl ?_
                refine g_iload (pc := 80) dX7_triangles_80 rfl ?_
                refine g_icmp_eq (pc := 82) (tgt := 120) dX7_triangles_82 rfl (fun _ => ?_) (fun h82 => absurd ((by rw [hcb])) h82)
                refine g_iconst (pc := 120) (v := 0) dX7_triangles_120 rfl ?_
                refine g_iadd (pc := 121) dX7_triangles_121 ?_
                rw [show (0 : Int32) = nI 0 from rfl, ha0]
                refine g_istore_n (pc := 122) (lv' := [(0, _), (1, _), (2, _), (3, _), (4, _), (5, _)]) dX7_triangles_122 (nl rfl) rfl ?_
                refine g_iinc (pc := 123) (lv' := [(0, _), (1, _), (2, _), (3, _), (4, _), (5, _)]) dX7_triangles_123 rfl (nI_1 _) (nl rfl) rfl ?_
                refine g_goto (pc := 126) (tgt := 41) dX7_triangles_126 rfl ?_
                exact ihc
              · have hcb' : ¬ nI c = nI b := fun z => hcb ((nI_eq (by omega) (by omega)).mp z)
                cases h5 : hb (A s b) c with
                | false =>
                  have hw : w = false := by rw [hcP, h5]; simp
                  rw [hw] at ihc
                  refine g_iload (pc := 41) dX7_triangles_41 rfl ?_
                  refine g_aload_n (pc := 43) dX7_triangles_43 rfl trivial ?_
                  refine g_invV_r (pc := 44) (As := []) dX7_triangles_44 rfl (r_size h') rfl rfl (shK hS rfl) rfl rfl lk_X7_71 rfl (nb rfl) ⟨nb rfl, nb rfl⟩ rfl ?_
                  refine g_icmp_ge (pc := 47) (tgt := 129) dX7_triangles_47 rfl (fun h47 => absurd h47 (nI_ge hc (by omega))) (fun _ => ?_)
                  refine g_iload_n (pc := 50) dX7_triangles_50 rfl ?_
                  refine g_iload (pc := 51) dX7_triangles_51 rfl ?_
                  refine g_icmp_eq (pc := 53) (tgt := 129) dX7_triangles_53 rfl (fun h53 => absurd h53 (hne)) (fun _ => ?_)
                  refine g_aload_n (pc := 56) dX7_triangles_56 rfl trivial ?_
                  refine g_iload_n (pc := 57) dX7_triangles_57 rfl ?_
                  refine g_iload_n (pc := 58) dX7_triangles_58 rfl ?_
                  refine g_invV_r (pc := 59) (As := [_, _]) dX7_triangles_59 rfl ((hrow a ha)) rfl rfl (shK hS rfl) rfl rfl lk_X7_227 rfl (nb rfl) ⟨nb rfl, nb rfl⟩ rfl ?_
                  refine g_iload (pc := 62) dX7_triangles_62 rfl ?_
                  refine g_invS_r (pc := 64) (As := [_, _]) dX7_triangles_64 rfl (r_one (show b < 32 by omega)) rfl rfl lk_X7_231 rfl (nb rfl) ⟨nb rfl, nb rfl⟩ rfl ?_
                  rw [h4]
                  refine g_iconst (pc := 67) (v := 1) dX7_triangles_67 rfl ?_
                  refine g_icmp_ne (pc := 68) (tgt := 129) dX7_triangles_68 rfl (fun h68 => absurd h68 ((fun z => z rfl))) (fun _ => ?_)
                  refine g_iload_n (pc := 71) dX7_triangles_71 rfl ?_
                  refine g_iload (pc := 72) dX7_triangles_72 rfl ?_
                  refine g_iload_n (pc := 74) dX7_triangles_74 rfl ?_
                  refine g_icmp_eq (pc := 75) (tgt := 120) dX7_triangles_75 rfl (fun h75 => absurd h75 (hca')) (fun _ => ?_)
                  refine g_iload (pc := 78) dX7_triangles_78 rfl ?_
                  refine g_iload (pc := 80) dX7_triangles_80 rfl ?_
                  refine g_icmp_eq (pc := 82) (tgt := 120) dX7_triangles_82 rfl (fun h82 => absurd h82 (hcb')) (fun _ => ?_)
                  refine g_aload_n (pc := 85) dX7_triangles_85 rfl trivial ?_
                  refine g_iload_n (pc := 86) dX7_triangles_86 rfl ?_
                  refine g_iload (pc := 87) dX7_triangles_87 rfl ?_
                  refine g_invV_r (pc := 89) (As := [_, _]) dX7_triangles_89 rfl ((hrow b hb9)) rfl rfl (shK hS rfl) rfl rfl lk_X7_227 rfl (nb rfl) ⟨nb rfl, nb rfl⟩ rfl ?_
                  refine g_iload (pc := 92) dX7_triangles_92 rfl ?_
                  refine g_invS_r (pc := 94) (As := [_, _]) dX7_triangles_94 rfl (r_one (show c < 32 by omega)) rfl rfl lk_X7_231 rfl (nb rfl) ⟨nb rfl, nb rfl⟩ rfl ?_
                  rw [h5]
                  refine g_iconst (pc := 97) (v := 1) dX7_triangles_97 rfl ?_
                  refine g_icmp_ne (pc := 98) (tgt := 120) dX7_triangles_98 rfl (fun _ => ?_) (fun h98 => absurd ((by decide)) h98)
                  refine g_iconst (pc := 120) (v := 0) dX7_triangles_120 rfl ?_
                  refine g_iadd (pc := 121) dX7_triangles_121 ?_
                  rw [show (0 : Int32) = nI 0 from rfl, ha0]
                  refine g_istore_n (pc := 122) (lv' := [(0, _), (1, _), (2, _), (3, _), (4, _), (5, _)]) dX7_triangles_122 (nl rfl) rfl ?_
                  refine g_iinc (pc := 123) (lv' := [(0, _), (1, _), (2, _), (3, _), (4, _), (5, _)]) dX7_triangles_123 rfl (nI_1 _) (nl rfl) rfl ?_
                  refine g_goto (pc := 126) (tgt := 41) dX7_triangles_126 rfl ?_
                  exact ihc
                | true =>
                  cases h6 : hb (A s c) a with
                  | false =>
                    have hw : w = false := by rw [hcP, h6]; simp
                    rw [hw] at ihc
                    refine g_iload (pc := 41) dX7_triangles_41 rfl ?_
                    refine g_aload_n (pc := 43) dX7_triangles_43 rfl trivial ?_
                    refine g_invV_r (pc := 44) (As := []) dX7_triangles_44 rfl (r_size h') rfl rfl (shK hS rfl) rfl rfl lk_X7_71 rfl (nb rfl) ⟨nb rfl, nb rfl⟩ rfl ?_
                    refine g_icmp_ge (pc := 47) (tgt := 129) dX7_triangles_47 rfl (fun h47 => absurd h47 (nI_ge hc (by omega))) (fun _ => ?_)
                    refine g_iload_n (pc := 50) dX7_triangles_50 rfl ?_
                    refine g_iload (pc := 51) dX7_triangles_51 rfl ?_
                    refine g_icmp_eq (pc := 53) (tgt := 129) dX7_triangles_53 rfl (fun h53 => absurd h53 (hne)) (fun _ => ?_)
                    refine g_aload_n (pc := 56) dX7_triangles_56 rfl trivial ?_
                    refine g_iload_n (pc := 57) dX7_triangles_57 rfl ?_
                    refine g_iload_n (pc := 58) dX7_triangles_58 rfl ?_
                    refine g_invV_r (pc := 59) (As := [_, _]) dX7_triangles_59 rfl ((hrow a ha)) rfl rfl (shK hS rfl) rfl rfl lk_X7_227 rfl (nb rfl) ⟨nb rfl, nb rfl⟩ rfl ?_
                    refine g_iload (pc := 62) dX7_triangles_62 rfl ?_
                    refine g_invS_r (pc := 64) (As := [_, _]) dX7_triangles_64 rfl (r_one (show b < 32 by omega)) rfl rfl lk_X7_231 rfl (nb rfl) ⟨nb rfl, nb rfl⟩ rfl ?_
                    rw [h4]
                    refine g_iconst (pc := 67) (v := 1) dX7_triangles_67 rfl ?_
                    refine g_icmp_ne (pc := 68) (tgt := 129) dX7_triangles_68 rfl (fun h68 => absurd h68 ((fun z => z rfl))) (fun _ => ?_)
                    refine g_iload_n (pc := 71) dX7_triangles_71 rfl ?_
                    refine g_iload (pc := 72) dX7_triangles_72 rfl ?_
                    refine g_iload_n (pc := 74) dX7_triangles_74 rfl ?_
                    refine g_icmp_eq (pc := 75) (tgt := 120) dX7_triangles_75 rfl (fun h75 => absurd h75 (hca')) (fun _ => ?_)
                    refine g_iload (pc := 78) dX7_triangles_78 rfl ?_
                    refine g_iload (pc := 80) dX7_triangles_80 rfl ?_
                    refine g_icmp_eq (pc := 82) (tgt := 120) dX7_triangles_82 rfl (fun h82 => absurd h82 (hcb')) (fun _ => ?_)
                    refine g_aload_n (pc := 85) dX7_triangles_85 rfl trivial ?_
                    refine g_iload_n (pc := 86) dX7_triangles_86 rfl ?_
                    refine g_iload (pc := 87) dX7_triangles_87 rfl ?_
                    refine g_invV_r (pc := 89) (As := [_, _]) dX7_triangles_89 rfl ((hrow b hb9)) rfl rfl (shK hS rfl) rfl rfl lk_X7_227 rfl (nb rfl) ⟨nb rfl, nb rfl⟩ rfl ?_
                    refine g_iload (pc := 92) dX7_triangles_92 rfl ?_
                    refine g_invS_r (pc := 94) (As := [_, _]) dX7_triangles_94 rfl (r_one (show c < 32 by omega)) rfl rfl lk_X7_231 rfl (nb rfl) ⟨nb rfl, nb rfl⟩ rfl ?_
                    rw [h5]
                    refine g_iconst (pc := 97) (v := 1) dX7_triangles_97 rfl ?_
                    refine g_icmp_ne (pc := 98) (tgt := 120) dX7_triangles_98 rfl (fun h98 => absurd h98 ((fun z => z rfl))) (fun _ => ?_)
                    refine g_aload_n (pc := 101) dX7_triangles_101 rfl trivial ?_
                    refine g_iload_n (pc := 102) dX7_triangles_102 rfl ?_
                    refine g_iload (pc := 103) dX7_triangles_103 rfl ?_
                    refine g_invV_r (pc := 105) (As := [_, _]) dX7_triangles_105 rfl ((hrow c hc)) rfl rfl (shK hS rfl) rfl rfl lk_X7_227 rfl (nb rfl) ⟨nb rfl, nb rfl⟩ rfl ?_
                    refine g_iload_n (pc := 108) dX7_triangles_108 rfl ?_
                    refine g_invS_r (pc := 109) (As := [_, _]) dX7_triangles_109 rfl (r_one (show a < 32 by omega)) rfl rfl lk_X7_231 rfl (nb rfl) ⟨nb rfl, nb rfl⟩ rfl ?_
                    rw [h6]
                    refine g_iconst (pc := 112) (v := 1) dX7_triangles_112 rfl ?_
                    refine g_icmp_ne (pc := 113) (tgt := 120) dX7_triangles_113 rfl (fun _ => ?_) (fun h113 => absurd ((by decide)) h113)
                    refine g_iconst (pc := 120) (v := 0) dX7_triangles_120 rfl ?_
                    refine g_iadd (pc := 121) dX7_triangles_121 ?_
                    rw [show (0 : Int32) = nI 0 from rfl, ha0]
                    refine g_istore_n (pc := 122) (lv' := [(0, _), (1, _), (2, _), (3, _), (4, _), (5, _)]) dX7_triangles_122 (nl rfl) rfl ?_
                    refine g_iinc (pc := 123) (lv' := [(0, _), (1, _), (2, _), (3, _), (4, _), (5, _)]) dX7_triangles_123 rfl (nI_1 _) (nl rfl) rfl ?_
                    refine g_goto (pc := 126) (tgt := 41) dX7_triangles_126 rfl ?_
                    exact ihc
                  | true =>
                    have hw : w = true := by rw [hcP, h5, h6]; simp [hca, hcb]
                    rw [hw] at ihc
                    refine g_iload (pc := 41) dX7_triangles_41 rfl ?_
                    refine g_aload_n (pc := 43) dX7_triangles_43 rfl trivial ?_
                    refine g_invV_r (pc := 44) (As := []) dX7_triangles_44 rfl (r_size h') rfl rfl (shK hS rfl) rfl rfl lk_X7_71 rfl (nb rfl) ⟨nb rfl, nb rfl⟩ rfl ?_
                    refine g_icmp_ge (pc := 47) (tgt := 129) dX7_triangles_47 rfl (fun h47 => absurd h47 (nI_ge hc (by omega))) (fun _ => ?_)
                    refine g_iload_n (pc := 50) dX7_triangles_50 rfl ?_
                    refine g_iload (pc := 51) dX7_triangles_51 rfl ?_
                    refine g_icmp_eq (pc := 53) (tgt := 129) dX7_triangles_53 rfl (fun h53 => absurd h53 (hne)) (fun _ => ?_)
                    refine g_aload_n (pc := 56) dX7_triangles_56 rfl trivial ?_
                    refine g_iload_n (pc := 57) dX7_triangles_57 rfl ?_
                    refine g_iload_n (pc := 58) dX7_triangles_58 rfl ?_
                    refine g_invV_r (pc := 59) (As := [_, _]) dX7_triangles_59 rfl ((hrow a ha)) rfl rfl (shK hS rfl) rfl rfl lk_X7_227 rfl (nb rfl) ⟨nb rfl, nb rfl⟩ rfl ?_
                    refine g_iload (pc := 62) dX7_triangles_62 rfl ?_
                    refine g_invS_r (pc := 64) (As := [_, _]) dX7_triangles_64 rfl (r_one (show b < 32 by omega)) rfl rfl lk_X7_231 rfl (nb rfl) ⟨nb rfl, nb rfl⟩ rfl ?_
                    rw [h4]
                    refine g_iconst (pc := 67) (v := 1) dX7_triangles_67 rfl ?_
                    refine g_icmp_ne (pc := 68) (tgt := 129) dX7_triangles_68 rfl (fun h68 => absurd h68 ((fun z => z rfl))) (fun _ => ?_)
                    refine g_iload_n (pc := 71) dX7_triangles_71 rfl ?_
                    refine g_iload (pc := 72) dX7_triangles_72 rfl ?_
                    refine g_iload_n (pc := 74) dX7_triangles_74 rfl ?_
                    refine g_icmp_eq (pc := 75) (tgt := 120) dX7_triangles_75 rfl (fun h75 => absurd h75 (hca')) (fun _ => ?_)
                    refine g_iload (pc := 78) dX7_triangles_78 rfl ?_
                    refine g_iload (pc := 80) dX7_triangles_80 rfl ?_
                    refine g_icmp_eq (pc := 82) (tgt := 120) dX7_triangles_82 rfl (fun h82 => absurd h82 (hcb')) (fun _ => ?_)
                    refine g_aload_n (pc := 85) dX7_triangles_85 rfl trivial ?_
                    refine g_iload_n (pc := 86) dX7_triangles_86 rfl ?_
                    refine g_iload (pc := 87) dX7_triangles_87 rfl ?_
                    refine g_invV_r (pc := 89) (As := [_, _]) dX7_triangles_89 rfl ((hrow b hb9)) rfl rfl (shK hS rfl) rfl rfl lk_X7_227 rfl (nb rfl) ⟨nb rfl, nb rfl⟩ rfl ?_
                    refine g_iload (pc := 92) dX7_triangles_92 rfl ?_
                    refine g_invS_r (pc := 94) (As := [_, _]) dX7_triangles_94 rfl (r_one (show c < 32 by omega)) rfl rfl lk_X7_231 rfl (nb rfl) ⟨nb rfl, nb rfl⟩ rfl ?_
                    rw [h5]
                    refine g_iconst (pc := 97) (v := 1) dX7_triangles_97 rfl ?_
                    refine g_icmp_ne (pc := 98) (tgt := 120) dX7_triangles_98 rfl (fun h98 => absurd h98 ((fun z => z rfl))) (fun _ => ?_)
                    refine g_aload_n (pc := 101) dX7_triangles_101 rfl trivial ?_
                    refine g_iload_n (pc := 102) dX7_triangles_102 rfl ?_
                    refine g_iload (pc := 103) dX7_triangles_103 rfl ?_
                    refine g_invV_r (pc := 105) (As := [_, _]) dX7_triangles_105 rfl ((hrow c hc)) rfl rfl (shK hS rfl) rfl rfl lk_X7_227 rfl (nb rfl) ⟨nb rfl, nb rfl⟩ rfl ?_
                    refine g_iload_n (pc := 108) dX7_triangles_108 rfl ?_
                    refine g_invS_r (pc := 109) (As := [_, _]) dX7_triangles_109 rfl (r_one (show a < 32 by omega)) rfl rfl lk_X7_231 rfl (nb rfl) ⟨nb rfl, nb rfl⟩ rfl ?_
                    rw [h6]
                    refine g_iconst (pc := 112) (v := 1) dX7_triangles_112 rfl ?_
                    refine g_icmp_ne (pc := 113) (tgt := 120) dX7_triangles_113 rfl (fun h113 => absurd h113 ((fun z => z rfl))) (fun _ => ?_)
                    refine g_iconst (pc := 116) (v := 1) dX7_triangles_116 rfl ?_
                    refine g_goto (pc := 117) (tgt := 121) dX7_triangles_117 rfl ?_
                    refine g_iadd (pc := 121) dX7_triangles_121 ?_
                    rw [show (1 : Int32) = nI 1 from rfl, ha1]
                    refine g_istore_n (pc := 122) (lv' := [(0, _), (1, _), (2, _), (3, _), (4, _), (5, _)]) dX7_triangles_122 (nl rfl) rfl ?_
                    refine g_iinc (pc := 123) (lv' := [(0, _), (1, _), (2, _), (3, _), (4, _), (5, _)]) dX7_triangles_123 rfl (nI_1 _) (nl rfl) rfl ?_
                    refine g_goto (pc := 126) (tgt := 41) dX7_triangles_126 rfl ?_
                    exact ihc
          · have h9 := h129 _ n (Or.inr trivial) ihb
            refine g_iload (pc := 41) dX7_triangles_41 rfl ?_
            refine g_aload_n (pc := 43) dX7_triangles_43 rfl trivial ?_
            refine g_invV_r (pc := 44) (As := []) dX7_triangles_44 rfl (r_size h') rfl rfl (shK hS rfl) rfl rfl lk_X7_71 rfl (nb rfl) ⟨nb rfl, nb rfl⟩ rfl ?_
            refine g_icmp_ge (pc := 47) (tgt := 129) dX7_triangles_47 rfl (fun _ => ?_) (fun h47 => absurd (nI_le (Nat.le_refl _) (by omega)) h47)
            exact h9
    · refine g_iload (pc := 29) dX7_triangles_29 rfl ?_
      refine g_aload_n (pc := 31) dX7_triangles_31 rfl trivial ?_
      refine g_invV_r (pc := 32) (As := []) dX7_triangles_32 rfl (r_size h') rfl rfl (shK hS rfl) rfl rfl lk_X7_71 rfl (nb rfl) ⟨nb rfl, nb rfl⟩ rfl ?_
      refine g_icmp_ge (pc := 35) (tgt := 135) dX7_triangles_35 rfl (fun _ => ?_) (fun h35 => absurd (nI_le (Nat.le_refl _) (by omega)) h35)
      refine g_iinc (pc := 135) (lv' := [(0, _), (1, _), (2, _), (3, _), (4, _)]) dX7_triangles_135 rfl (nI_1 _) (nl rfl) rfl ?_
      refine g_goto (pc := 138) (tgt := 18) dX7_triangles_138 rfl ?_
      exact g_sub (lv' := [(0, _), (1, _), (2, _), (3, _)]) ⟨rfl, rfl, rfl, rfl, trivial⟩ iha
  · refine g_iload_n (pc := 18) dX7_triangles_18 rfl ?_
    refine g_aload_n (pc := 19) dX7_triangles_19 rfl trivial ?_
    refine g_invV_r (pc := 20) (As := []) dX7_triangles_20 rfl (r_size h') rfl rfl (shK hS rfl) rfl rfl lk_X7_71 rfl (nb rfl) ⟨nb rfl, nb rfl⟩ rfl ?_
    refine g_icmp_ge (pc := 23) (tgt := 141) dX7_triangles_23 rfl (fun _ => ?_) (fun h23 => absurd (nI_le (Nat.le_refl _) (by omega)) h23)
    refine g_iload_n (pc := 141) dX7_triangles_141 rfl ?_
    refine g_ireturn (pc := 142) dX7_triangles_142 rfl rfl ?_
    exact ⟨rfl, rfl⟩
theorem t_triangles {v : Int32} (h : Rr M n A) (hx : ¬ inR v 6) : EvR l jX7_triangles 4 160 0 0 [.ref 198, .int v] M (.inl (some (.int 0))) (thr M 1) := by
  have hS := h.1
  refine ev_intro rfl (nb rfl) rfl ?_
  refine g_aload_n (pc := 0) dX7_triangles_0 rfl trivial ?_
  refine g_iload_n (pc := 1) dX7_triangles_1 rfl ?_
  refine g_invS_r (pc := 2) (As := [_]) dX7_triangles_2 rfl (r_isSlot_f hx) rfl rfl lk_X7_216 rfl (nb rfl) ⟨nb rfl, nb rfl⟩ rfl ?_
  refine g_iconst (pc := 5) (v := 1) dX7_triangles_5 rfl ?_
  refine g_invV_r (pc := 6) (As := [_, _]) dX7_triangles_6 rfl (r_isThrown_1 hS) rfl rfl (shK hS rfl) rfl rfl lk_X7_209 rfl (nb rfl) ⟨nb rfl, nb rfl⟩ rfl ?_
  refine g_if_eq (pc := 9) (tgt := 14) dX7_triangles_9 rfl (fun h9 => absurd h9 ((by decide))) (fun _ => ?_)
  refine g_iconst (pc := 12) (v := 0) dX7_triangles_12 rfl ?_
  refine g_ireturn (pc := 13) dX7_triangles_13 rfl rfl ?_
  exact ⟨rfl, rfl⟩
end
end
-- 29.re
section
/-! the reference: elimination: hand 205, beside 209, pivots 210, how many 198.22 -/
theorem swp_comm (f : Nat → Int32) (a b : Nat) : swp f a b = swp f b a := by
  unfold swp
  by_cases h : a = b
  · subst h; rfl
  · exact fs_comm f _ _ h
section
variable {l : Launch} {M : Mem} {n : Nat} {A : Nat → Nat → Int32}
def rbM (M : Mem) (n : Nat) (s : ES) : Mem := sI (sI (sL (sL M 205 (wr (mL M 205) (uR s.1) n)) 209 (wr (mL M 209) (uR s.2.1) n)) 210 s.2.2.1) 198 (fun_set (mI M 198) 22 (nI s.2.2.2))
theorem sL_sI (M : Mem) (i j : Nat) (f : Nat → Int32) (g : Nat → Int64) : sL (sI M i f) j g = sI (sL M j g) i f := rfl
theorem sL_comm {M : Mem} {i j : Nat} {f g : Nat → Int64} (h : i ≠ j) : sL (sL M i f) j g = sL (sL M j g) i f := by simp only [sL, mL, fs_comm _ _ _ h]
theorem sI_comm {M : Mem} {i j : Nat} {f g : Nat → Int32} (h : i ≠ j) : sI (sI M i f) j g = sI (sI M j g) i f := by simp only [sI, mI, fs_comm _ _ _ h]
theorem rb_l0 (s : ES) : mL (rbM M n s) 205 = wr (mL M 205) (uR s.1) n := (sL_ne (M := sL M 205 (wr (mL M 205) (uR s.1) n)) (a := 209) (b := 205) (f := wr (mL M 209) (uR s.2.1) n) (by decide)).trans (sL_self M 205 _)
theorem rb_r0 (s : ES) : mL (rbM M n s) 209 = wr (mL M 209) (uR s.2.1) n := sL_self (sL M 205 (wr (mL M 205) (uR s.1) n)) 209 _
theorem rb_p (s : ES) : mI (rbM M n s) 210 = s.2.2.1 := by unfold rbM; rw [sI_ne (by decide), sI_self]
theorem rb_c0 (s : ES) : mI (rbM M n s) 198 = fun_set (mI M 198) 22 (nI s.2.2.2) := by unfold rbM; rw [sI_self]
theorem rb_l {s : ES} {i : Nat} (hi : i < n) : mL (rbM M n s) 205 i = uL (s.1 i) := by rw [rb_l0, wr_lt hi]; rfl
theorem rb_r {s : ES} {i : Nat} (hi : i < n) : mL (rbM M n s) 209 i = uL (s.2.1 i) := by rw [rb_r0, wr_lt hi]; rfl
theorem rb_c (s : ES) : mI (rbM M n s) 198 22 = nI s.2.2.2 := by rw [rb_c0, fs_self]
theorem rb_n (s : ES) : mL (rbM M n s) 199 = mL M 199 := (sL_ne (M := sL M 205 (wr (mL M 205) (uR s.1) n)) (a := 209) (b := 199) (f := wr (mL M 209) (uR s.2.1) n) (by decide)).trans (sL_ne (by decide))
theorem rb_R (h : Rr M n A) (s : ES) : Rr (rbM M n s) n A := ⟨h.1, by rw [rb_n]; exact h.2.1, h.2.2.1, h.2.2.2.1, fun q r hq hr => by rw [rb_n]; exact h.2.2.2.2 q r hq hr⟩
theorem rb_setL {s : ES} {i : Nat} {v : Int32} (hi : i < n) : pL (rbM M n s) 205 i (uL v) = rbM M n (fun_set s.1 i v, s.2) := by
  show sL (rbM M n s) 205 (fun_set (mL (rbM M n s) 205) i (uL v)) = _
  rw [rb_l0, wr_set hi]
  unfold rbM
  rw [sL_sI, sL_sI, sL_comm (show 209 ≠ 205 by decide), sL_2]
theorem rb_setR {s : ES} {i : Nat} {v : Int32} (hi : i < n) : pL (rbM M n s) 209 i (uL v) = rbM M n (s.1, fun_set s.2.1 i v, s.2.2) := by
  show sL (rbM M n s) 209 (fun_set (mL (rbM M n s) 209) i (uL v)) = _
  rw [rb_r0, wr_set hi]
  unfold rbM
  rw [sL_sI, sL_sI, sL_2]
theorem rb_setP {s : ES} {i : Nat} {v : Int32} : pI (rbM M n s) 210 i v = rbM M n (s.1, s.2.1, fun_set s.2.2.1 i v, s.2.2.2) := by
  show sI (rbM M n s) 210 (fun_set (mI (rbM M n s) 210) i v) = _
  rw [rb_p]
  unfold rbM
  rw [sI_comm (show 198 ≠ 210 by decide), sI_2]
theorem rb_setC {s : ES} {c : Nat} : pI (rbM M n s) 198 22 (nI c) = rbM M n (s.1, s.2.1, s.2.2.1, c) := by
  show sI (rbM M n s) 198 (fun_set (mI (rbM M n s) 198) 22 (nI c)) = _
  rw [rb_c0, fs_twice]
  unfold rbM
  rw [sI_2]
theorem r_changes {s : ES} {a b : Nat} (h : Rr M n A) (ha : a < n) (hb9 : b < n) : EvR l jX7_changes 0 0 0 0 [.ref 198, .int (nI a), .int (nI b)] (rbM M n s) (.inl none) (rbM M n (swp s.1 a b, swp s.2.1 a b, s.2.2)) := by
  have hn := h.2.2.2.1
  have hS : Shp (rbM M n s) := h.1
  have e1 := rb_l (M := M) (s := s) ha
  have e2 := rb_l (M := M) (s := s) hb9
  have e3 := rb_r (M := M) (s := s) ha
  have s1 := rb_setL (M := M) (s := s) (v := s.1 b) ha
  obtain ⟨s1', hs1⟩ : ∃ t : ES, t = (fun_set s.1 a (s.1 b), s.2) := ⟨_, rfl⟩
  rw [← hs1] at s1
  have hS1 : Shp (rbM M n s1') := h.1
  have e4 : mL (rbM M n s1') 209 b = uL (s.2.1 b) := by rw [hs1]; exact rb_r hb9
  have s2 := rb_setR (M := M) (s := s1') (v := s.2.1 b) ha
  obtain ⟨s2', hs2⟩ : ∃ t : ES, t = (s1'.1, fun_set s1'.2.1 a (s.2.1 b), s1'.2.2) := ⟨_, rfl⟩
  rw [← hs2] at s2
  have hS2 : Shp (rbM M n s2') := h.1
  have s3 := rb_setL (M := M) (s := s2') (v := s.1 a) hb9
  obtain ⟨s3', hs3⟩ : ∃ t : ES, t = (fun_set s2'.1 b (s.1 a), s2'.2) := ⟨_, rfl⟩
  rw [← hs3] at s3
  have hS3 : Shp (rbM M n s3') := h.1
  have s4 := rb_setR (M := M) (s := s3') (v := s.2.1 a) hb9
  have e9 : (s3'.1, fun_set s3'.2.1 b (s.2.1 a), s3'.2.2) = (swp s.1 a b, swp s.2.1 a b, s.2.2) := by rw [hs3, hs2, hs1]; rfl
  rw [e9] at s4
  generalize (swp s.1 a b, swp s.2.1 a b, s.2.2) = s9 at *
  refine ev_intro rfl (nb rfl) rfl ?_
  refine g_aload_n (pc := 0) dX7_changes_0 rfl trivial ?_
  refine g_getf (pc := 1) dX7_changes_1 fk_X7_34 (shK hS rfl) (fv_arr (shR hS rfl)) ?_
  refine g_iload_n (pc := 4) dX7_changes_4 rfl ?_
  refine g_laload (pc := 5) dX7_changes_5 (shK hS rfl) rfl (show a < 32 by omega) (nl rfl) ?_
  rw [e1]
  refine g_lstore_n (pc := 6) (lv' := [(0, _), (1, _), (2, _), (3, _)]) dX7_changes_6 (nl rfl) rfl ?_
  refine g_aload_n (pc := 7) dX7_changes_7 rfl trivial ?_
  refine g_getf (pc := 8) dX7_changes_8 fk_X7_47 (shK hS rfl) (fv_arr (shR hS rfl)) ?_
  refine g_iload_n (pc := 11) dX7_changes_11 rfl ?_
  refine g_laload (pc := 12) dX7_changes_12 (shK hS rfl) rfl (show a < 32 by omega) (nl rfl) ?_
  rw [e3]
  refine g_lstore (pc := 13) (lv' := [(0, _), (1, _), (2, _), (3, _), (5, _)]) dX7_changes_13 (nl rfl) rfl ?_
  refine g_aload_n (pc := 15) dX7_changes_15 rfl trivial ?_
  refine g_getf (pc := 16) dX7_changes_16 fk_X7_34 (shK hS rfl) (fv_arr (shR hS rfl)) ?_
  refine g_iload_n (pc := 19) dX7_changes_19 rfl ?_
  refine g_aload_n (pc := 20) dX7_changes_20 rfl trivial ?_
  refine g_getf (pc := 21) dX7_changes_21 fk_X7_34 (shK hS rfl) (fv_arr (shR hS rfl)) ?_
  refine g_iload_n (pc := 24) dX7_changes_24 rfl ?_
  refine g_laload (pc := 25) dX7_changes_25 (shK hS rfl) rfl (show b < 32 by omega) (nl rfl) ?_
  rw [e2]
  refine g_lastore (pc := 26) dX7_changes_26 (shK hS rfl) rfl (show a < 32 by omega) (nl rfl) ?_
  refine go_cast s1 ?_
  refine g_aload_n (pc := 27) dX7_changes_27 rfl trivial ?_
  refine g_getf (pc := 28) dX7_changes_28 fk_X7_47 (shK hS1 rfl) (fv_arr (shR hS1 rfl)) ?_
  refine g_iload_n (pc := 31) dX7_changes_31 rfl ?_
  refine g_aload_n (pc := 32) dX7_changes_32 rfl trivial ?_
  refine g_getf (pc := 33) dX7_changes_33 fk_X7_47 (shK hS1 rfl) (fv_arr (shR hS1 rfl)) ?_
  refine g_iload_n (pc := 36) dX7_changes_36 rfl ?_
  refine g_laload (pc := 37) dX7_changes_37 (shK hS1 rfl) rfl (show b < 32 by omega) (nl rfl) ?_
  rw [e4]
  refine g_lastore (pc := 38) dX7_changes_38 (shK hS1 rfl) rfl (show a < 32 by omega) (nl rfl) ?_
  refine go_cast s2 ?_
  refine g_aload_n (pc := 39) dX7_changes_39 rfl trivial ?_
  refine g_getf (pc := 40) dX7_changes_40 fk_X7_34 (shK hS2 rfl) (fv_arr (shR hS2 rfl)) ?_
  refine g_iload_n (pc := 43) dX7_changes_43 rfl ?_
  refine g_lload_n (pc := 44) dX7_changes_44 rfl ?_
  refine g_lastore (pc := 45) dX7_changes_45 (shK hS2 rfl) rfl (show b < 32 by omega) (nl rfl) ?_
  refine go_cast s3 ?_
  refine g_aload_n (pc := 46) dX7_changes_46 rfl trivial ?_
  refine g_getf (pc := 47) dX7_changes_47 fk_X7_47 (shK hS3 rfl) (fv_arr (shR hS3 rfl)) ?_
  refine g_iload_n (pc := 50) dX7_changes_50 rfl ?_
  refine g_lload (pc := 51) dX7_changes_51 rfl ?_
  refine g_lastore (pc := 53) dX7_changes_53 (shK hS3 rfl) rfl (show b < 32 by omega) (nl rfl) ?_
  refine go_cast s4 ?_
  refine g_return (pc := 54) dX7_changes_54 rfl ?_
  exact ⟨rfl, rfl⟩
/-- the rows that are tried for a pivot -/
theorem rnt_s (lf : Nat → Int32) (c d r : Nat) : rnt lf c (d + 1) r = if hb (lf r) c = true then some r else rnt lf c d (r + 1) := rfl
theorem r_reduces {s : Nat} {R : Nat → Int32} (h : Rr M n A) (hs : s < 6) (hR : ∀ i, i < n → mL M 209 i = uL (R i)) : EvR l jX7_reduces 2 60 0 0 [.ref 198, .int (nI s)] M (.inl none) (rbM M n (elIt n (A s, R, mI M 210, 0) n)) := by
  have hn := h.2.2.2.1
  have hS := h.1
  have q1 := r_takes (l := l) (x := 205) h hs (Or.inl rfl)
  have h1 : Rr (hdM M 205 n (A s)) n A := h.hd (Or.inl rfl)
  have e0 : pI (hdM M 205 n (A s)) 198 22 (nI 0) = rbM M n (A s, R, mI M 210, 0) := by
    have e1 : wr (mL M 209) (uR R) n = mL M 209 := by
      funext k
      simp only [wr, uR]
      split
      · rw [hR k (by assumption)]
      · rfl
    unfold rbM
    simp only
    rw [e1, ← sL_eq (M := sL M 205 (wr (mL M 205) (uR (A s)) n)) (a := 209) (sL_ne (by decide)).symm, ← sI_eq (M := sL M 205 (wr (mL M 205) (uR (A s)) n)) (a := 210) rfl]
    rfl
  generalize hdM M 205 n (A s) = M1 at *
  refine ev_intro rfl (nb rfl) rfl ?_
  refine g_aload_n (pc := 0) dX7_reduces_0 rfl trivial ?_
  refine g_iload_n (pc := 1) dX7_reduces_1 rfl ?_
  refine g_aload_n (pc := 2) dX7_reduces_2 rfl trivial ?_
  refine g_getf (pc := 3) dX7_reduces_3 fk_X7_34 (shK hS rfl) (fv_arr (shR hS rfl)) ?_
  refine g_invV_r (pc := 6) (As := [_, _]) dX7_reduces_6 rfl (q1) rfl rfl (shK hS rfl) rfl rfl lk_X7_252 rfl (nb rfl) ⟨nb rfl, nb rfl⟩ rfl ?_
  refine g_aload_n (pc := 9) dX7_reduces_9 rfl trivial ?_
  refine g_iconst (pc := 10) (v := 0) dX7_reduces_10 rfl ?_
  refine g_putI (pc := 11) dX7_reduces_11 fp_X7_297 (shK h1.1 rfl) ⟨rfl, rfl⟩ (fun _ _ _ _ => rfl) ?_
  refine g_iconst (pc := 14) (v := 0) dX7_reduces_14 rfl ?_
  refine g_istore_n (pc := 15) (lv' := [(0, _), (1, _), (2, _)]) dX7_reduces_15 (nl rfl) rfl ?_
  refine go_loop (pc := 16) n (fun c => [(0, .ref 198), (1, .int (nI s)), (2, .int (nI c))]) (fun c => rbM M n (elIt n (A s, R, mI M 210, 0) c)) ⟨rfl, rfl, rfl, trivial⟩ e0 ?_ ?_
  · intro c hc ih
    have hcnt := elIt_c n (A s, R, mI M 210, 0) c
    rw [elIt] at ih
    generalize elIt n (A s, R, mI M 210, 0) c = z at ih hcnt ⊢
    simp only [Nat.zero_add] at hcnt
    have h2 : Rr (rbM M n z) n A := rb_R h z
    have ec0 := rb_c (M := M) (n := n) z
    have hnext : Go l jX7_reduces 2 60 0 0 (fun r' M' => r' = .inl none ∧ M' = rbM M n (elIt n (A s, R, mI M 210, 0) n)) 176 [(0, .ref 198), (1, .int (nI s)), (2, .int (nI c))] [] 0 0 (rbM M n (elStep n c z)) := by
      refine g_iinc (pc := 176) (lv' := [(0, _), (1, _), (2, _)]) dX7_reduces_176 rfl (nI_1 _) (nl rfl) rfl ?_
      refine g_goto (pc := 179) (tgt := 16) dX7_reduces_179 rfl ?_
      exact ih
    generalize elIt n (A s, R, mI M 210, 0) n = Z9 at *
    refine g_iload_n (pc := 16) dX7_reduces_16 rfl ?_
    refine g_aload_n (pc := 17) dX7_reduces_17 rfl trivial ?_
    refine g_invV_r (pc := 18) (As := []) dX7_reduces_18 rfl (r_size h2) rfl rfl (shK hS rfl) rfl rfl lk_X7_71 rfl (nb rfl) ⟨nb rfl, nb rfl⟩ rfl ?_
    refine g_icmp_ge (pc := 21) (tgt := 182) dX7_reduces_21 rfl (fun h21 => absurd h21 (nI_ge hc (by omega))) (fun _ => ?_)
    refine g_aload_n (pc := 24) dX7_reduces_24 rfl trivial ?_
    refine g_getf (pc := 25) (v := .int _) dX7_reduces_25 fk_X7_297 (shK h2.1 rfl) (fun _ => congrArg Value.int ((rb_c z))) ?_
    refine g_istore_n (pc := 28) (lv' := [(0, _), (1, _), (2, _), (3, _)]) dX7_reduces_28 (nl rfl) rfl ?_
    refine go_while (pc := 29) (σ := Nat) (fun q => z.2.2.2 ≤ q ∧ q ≤ n ∧ rnt z.1 c (n - q) q = rnt z.1 c (n - z.2.2.2) z.2.2.2) (fun q => n - q) (fun q => [(0, .ref 198), (1, .int (nI s)), (2, .int (nI c)), (3, .int (nI q))]) (fun q => rbM M n z) z.2.2.2 ⟨rfl, rfl, rfl, rfl, trivial⟩ rfl ⟨Nat.le_refl _, by omega, rfl⟩ ?_
    rintro q ⟨a0, a1, a2⟩ ih2
    by_cases hq : q < n
    · obtain ⟨d, hd⟩ : ∃ d, n - q = d + 1 := ⟨n - q - 1, by omega⟩
      have hd' : n - (q + 1) = d := by omega
      rw [hd, rnt_s] at a2
      cases h4 : hb (z.1 q) c with
      | false =>
        rw [h4, if_neg (by decide)] at a2
        refine g_iload_n (pc := 29) dX7_reduces_29 rfl ?_
        refine g_aload_n (pc := 30) dX7_reduces_30 rfl trivial ?_
        refine g_invV_r (pc := 31) (As := []) dX7_reduces_31 rfl (r_size h2) rfl rfl (shK hS rfl) rfl rfl lk_X7_71 rfl (nb rfl) ⟨nb rfl, nb rfl⟩ rfl ?_
        refine g_icmp_ge (pc := 34) (tgt := 56) dX7_reduces_34 rfl (fun h34 => absurd h34 (nI_ge hq (by omega))) (fun _ => ?_)
        refine g_aload_n (pc := 37) dX7_reduces_37 rfl trivial ?_
        refine g_getf (pc := 38) dX7_reduces_38 fk_X7_34 (shK h2.1 rfl) (fv_arr (shR h2.1 rfl)) ?_
        refine g_iload_n (pc := 41) dX7_reduces_41 rfl ?_
        refine g_laload (pc := 42) dX7_reduces_42 (shK h2.1 rfl) rfl (by omega) (nl rfl) ?_
        rw [rb_l hq]
        refine g_iload_n (pc := 43) dX7_reduces_43 rfl ?_
        refine g_invS_r (pc := 44) (As := [_, _]) dX7_reduces_44 rfl (r_one (show c < 32 by omega)) rfl rfl lk_X7_231 rfl (nb rfl) ⟨nb rfl, nb rfl⟩ rfl ?_
        rw [h4]
        refine g_if_ne (pc := 47) (tgt := 56) dX7_reduces_47 rfl (fun h47 => absurd h47 ((fun y => y rfl))) (fun _ => ?_)
        refine g_iinc (pc := 50) (lv' := [(0, _), (1, _), (2, _), (3, _)]) dX7_reduces_50 rfl (nI_1 _) (nl rfl) rfl ?_
        refine g_goto (pc := 53) (tgt := 29) dX7_reduces_53 rfl ?_
        exact ih2 (q + 1) ⟨by omega, by omega, by rw [hd']; exact a2⟩ (by omega)
      | true =>
        rw [h4, if_pos rfl] at a2
        have hes : elStep n c z = ((clG z.2.2.2 c (swp z.1 z.2.2.2 q) (swp z.2.1 z.2.2.2 q) n).1, (clG z.2.2.2 c (swp z.1 z.2.2.2 q) (swp z.2.1 z.2.2.2 q) n).2, fun_set z.2.2.1 z.2.2.2 (nI c), z.2.2.2 + 1) := by
          unfold elStep; rw [← a2]; simp only; rw [swp_comm z.1 q, swp_comm z.2.1 q]
        rw [hes] at hnext
        have q3 := r_changes (l := l) (s := z) h (show z.2.2.2 < n by omega) hq
        generalize swp z.1 z.2.2.2 q = lf at *
        generalize swp z.2.1 z.2.2.2 q = rt at *
        have hp : z.2.2.2 < n := by omega
        have hz2 : z.2.2 = (z.2.2.1, z.2.2.2) := rfl
        generalize z.2.2.1 = pv at *
        generalize z.2.2.2 = p at *
        rw [hz2] at q3
        have h3 : Rr (rbM M n (lf, rt, pv, p)) n A := rb_R h _
        refine g_iload_n (pc := 29) dX7_reduces_29 rfl ?_
        refine g_aload_n (pc := 30) dX7_reduces_30 rfl trivial ?_
        refine g_invV_r (pc := 31) (As := []) dX7_reduces_31 rfl (r_size h2) rfl rfl (shK hS rfl) rfl rfl lk_X7_71 rfl (nb rfl) ⟨nb rfl, nb rfl⟩ rfl ?_
        refine g_icmp_ge (pc := 34) (tgt := 56) dX7_reduces_34 rfl (fun h34 => absurd h34 (nI_ge hq (by omega))) (fun _ => ?_)
        refine g_aload_n (pc := 37) dX7_reduces_37 rfl trivial ?_
        refine g_getf (pc := 38) dX7_reduces_38 fk_X7_34 (shK h2.1 rfl) (fv_arr (shR h2.1 rfl)) ?_
        refine g_iload_n (pc := 41) dX7_reduces_41 rfl ?_
        refine g_laload (pc := 42) dX7_reduces_42 (shK h2.1 rfl) rfl (by omega) (nl rfl) ?_
        rw [rb_l hq]
        refine g_iload_n (pc := 43) dX7_reduces_43 rfl ?_
        refine g_invS_r (pc := 44) (As := [_, _]) dX7_reduces_44 rfl (r_one (show c < 32 by omega)) rfl rfl lk_X7_231 rfl (nb rfl) ⟨nb rfl, nb rfl⟩ rfl ?_
        rw [h4]
        refine g_if_ne (pc := 47) (tgt := 56) dX7_reduces_47 rfl (fun _ => ?_) (fun h47 => absurd ((by decide)) h47)
        refine g_iload_n (pc := 56) dX7_reduces_56 rfl ?_
        refine g_aload_n (pc := 57) dX7_reduces_57 rfl trivial ?_
        refine g_invV_r (pc := 58) (As := []) dX7_reduces_58 rfl (r_size h2) rfl rfl (shK hS rfl) rfl rfl lk_X7_71 rfl (nb rfl) ⟨nb rfl, nb rfl⟩ rfl ?_
        refine g_icmp_ne (pc := 61) (tgt := 67) dX7_reduces_61 rfl (fun _ => ?_) (fun h61 => absurd ((fun y => by have := (nI_eq (by omega) (by omega)).mp y; omega)) h61)
        refine g_aload_n (pc := 67) dX7_reduces_67 rfl trivial ?_
        refine g_aload_n (pc := 68) dX7_reduces_68 rfl trivial ?_
        refine g_getf (pc := 69) (v := .int _) dX7_reduces_69 fk_X7_297 (shK h2.1 rfl) (fun _ => congrArg Value.int (ec0)) ?_
        refine g_iload_n (pc := 72) dX7_reduces_72 rfl ?_
        refine g_invV_r (pc := 73) (As := [_, _]) dX7_reduces_73 rfl (q3) rfl rfl (shK h2.1 rfl) rfl rfl lk_X7_300 rfl (nb rfl) ⟨nb rfl, nb rfl⟩ rfl ?_
        refine g_iconst (pc := 76) (v := 0) dX7_reduces_76 rfl ?_
        refine g_istore (pc := 77) (lv' := [(0, _), (1, _), (2, _), (3, _), (4, _)]) dX7_reduces_77 (nl rfl) rfl ?_
        refine go_loop (pc := 79) n (fun k => [(0, .ref 198), (1, .int (nI s)), (2, .int (nI c)), (4, .int (nI k))]) (fun k => rbM M n ((clG p c lf rt k).1, (clG p c lf rt k).2, pv, p)) ⟨rfl, rfl, rfl, rfl, trivial⟩ rfl ?_ ?_
        · intro k hk ihk
          rw [clG] at ihk
          have h5 : Rr (rbM M n ((clG p c lf rt k).1, (clG p c lf rt k).2, pv, p)) n A := rb_R h _
          generalize clG p c lf rt k = g at *
          have ec : mI (rbM M n (g.1, g.2, pv, p)) 198 22 = nI p := rb_c _
          by_cases hkp : k = p
          · rw [if_neg (fun y => y.1 hkp)] at ihk
            refine g_iload (pc := 79) dX7_reduces_79 rfl ?_
            refine g_aload_n (pc := 81) dX7_reduces_81 rfl trivial ?_
            refine g_invV_r (pc := 82) (As := []) dX7_reduces_82 rfl (r_size h5) rfl rfl (shK hS rfl) rfl rfl lk_X7_71 rfl (nb rfl) ⟨nb rfl, nb rfl⟩ rfl ?_
            refine g_icmp_ge (pc := 85) (tgt := 156) dX7_reduces_85 rfl (fun h85 => absurd h85 (nI_ge hk (by omega))) (fun _ => ?_)
            refine g_iload (pc := 88) dX7_reduces_88 rfl ?_
            refine g_aload_n (pc := 90) dX7_reduces_90 rfl trivial ?_
            refine g_getf (pc := 91) (v := .int _) dX7_reduces_91 fk_X7_297 (shK h5.1 rfl) (fun _ => congrArg Value.int (ec)) ?_
            refine g_icmp_eq (pc := 94) (tgt := 150) dX7_reduces_94 rfl (fun _ => ?_) (fun h94 => absurd ((by rw [hkp])) h94)
            refine g_iinc (pc := 150) (lv' := [(0, _), (1, _), (2, _), (4, _)]) dX7_reduces_150 rfl (nI_1 _) (nl rfl) rfl ?_
            refine g_goto (pc := 153) (tgt := 79) dX7_reduces_153 rfl ?_
            exact ihk
          · have hne : ¬ nI k = nI p := fun y => hkp ((nI_eq (by omega) (by omega)).mp y)
            cases h6 : hb (g.1 k) c with
            | false =>
              rw [if_neg (fun y => by rw [h6] at y; cases y.2)] at ihk
              refine g_iload (pc := 79) dX7_reduces_79 rfl ?_
              refine g_aload_n (pc := 81) dX7_reduces_81 rfl trivial ?_
              refine g_invV_r (pc := 82) (As := []) dX7_reduces_82 rfl (r_size h5) rfl rfl (shK hS rfl) rfl rfl lk_X7_71 rfl (nb rfl) ⟨nb rfl, nb rfl⟩ rfl ?_
              refine g_icmp_ge (pc := 85) (tgt := 156) dX7_reduces_85 rfl (fun h85 => absurd h85 (nI_ge hk (by omega))) (fun _ => ?_)
              refine g_iload (pc := 88) dX7_reduces_88 rfl ?_
              refine g_aload_n (pc := 90) dX7_reduces_90 rfl trivial ?_
              refine g_getf (pc := 91) (v := .int _) dX7_reduces_91 fk_X7_297 (shK h5.1 rfl) (fun _ => congrArg Value.int (ec)) ?_
              refine g_icmp_eq (pc := 94) (tgt := 150) dX7_reduces_94 rfl (fun h94 => absurd h94 (hne)) (fun _ => ?_)
              refine g_aload_n (pc := 97) dX7_reduces_97 rfl trivial ?_
              refine g_getf (pc := 98) dX7_reduces_98 fk_X7_34 (shK h5.1 rfl) (fv_arr (shR h5.1 rfl)) ?_
              refine g_iload (pc := 101) dX7_reduces_101 rfl ?_
              refine g_laload (pc := 103) dX7_reduces_103 (shK h5.1 rfl) rfl (by omega) (nl rfl) ?_
              rw [rb_l hk]
              refine g_iload_n (pc := 104) dX7_reduces_104 rfl ?_
              refine g_invS_r (pc := 105) (As := [_, _]) dX7_reduces_105 rfl (r_one (show c < 32 by omega)) rfl rfl lk_X7_231 rfl (nb rfl) ⟨nb rfl, nb rfl⟩ rfl ?_
              rw [h6]
              refine g_iconst (pc := 108) (v := 1) dX7_reduces_108 rfl ?_
              refine g_icmp_ne (pc := 109) (tgt := 150) dX7_reduces_109 rfl (fun _ => ?_) (fun h109 => absurd ((by decide)) h109)
              refine g_iinc (pc := 150) (lv' := [(0, _), (1, _), (2, _), (4, _)]) dX7_reduces_150 rfl (nI_1 _) (nl rfl) rfl ?_
              refine g_goto (pc := 153) (tgt := 79) dX7_reduces_153 rfl ?_
              exact ihk
            | true =>
              rw [if_pos ⟨hkp, h6⟩] at ihk
              have t1 := rb_setL (M := M) (s := (g.1, g.2, pv, p)) (v := g.1 k ^^^ g.1 p) hk
              have t2 := rb_setR (M := M) (s := (fun_set g.1 k (g.1 k ^^^ g.1 p), g.2, pv, p)) (v := g.2 k ^^^ g.2 p) hk
              simp only at t1 t2
              have h7 : Rr (rbM M n (fun_set g.1 k (g.1 k ^^^ g.1 p), g.2, pv, p)) n A := rb_R h _
              have ec7 : mI (rbM M n (fun_set g.1 k (g.1 k ^^^ g.1 p), g.2, pv, p)) 198 22 = nI p := rb_c _
              have e71 := rb_r (M := M) (s := (fun_set g.1 k (g.1 k ^^^ g.1 p), g.2, pv, p)) hk
              have e72 := rb_r (M := M) (s := (fun_set g.1 k (g.1 k ^^^ g.1 p), g.2, pv, p)) hp
              have e51 := rb_l (M := M) (s := (g.1, g.2, pv, p)) hk
              have e52 := rb_l (M := M) (s := (g.1, g.2, pv, p)) hp
              simp only at ihk e71 e72 e51 e52
              generalize rbM M n (fun_set g.1 k (g.1 k ^^^ g.1 p), g.2, pv, p) = M7 at *
              generalize rbM M n (fun_set g.1 k (g.1 k ^^^ g.1 p), fun_set g.2 k (g.2 k ^^^ g.2 p), pv, p) = M8 at *
              generalize rbM M n (g.1, g.2, pv, p) = M5 at *
              refine g_iload (pc := 79) dX7_reduces_79 rfl ?_
              refine g_aload_n (pc := 81) dX7_reduces_81 rfl trivial ?_
              refine g_invV_r (pc := 82) (As := []) dX7_reduces_82 rfl (r_size h5) rfl rfl (shK h5.1 rfl) rfl rfl lk_X7_71 rfl (nb rfl) ⟨nb rfl, nb rfl⟩ rfl ?_
              refine g_icmp_ge (pc := 85) (tgt := 156) dX7_reduces_85 rfl (fun h85 => absurd h85 (nI_ge hk (by omega))) (fun _ => ?_)
              refine g_iload (pc := 88) dX7_reduces_88 rfl ?_
              refine g_aload_n (pc := 90) dX7_reduces_90 rfl trivial ?_
              refine g_getf (pc := 91) (v := .int _) dX7_reduces_91 fk_X7_297 (shK h5.1 rfl) (fun _ => congrArg Value.int (ec)) ?_
              refine g_icmp_eq (pc := 94) (tgt := 150) dX7_reduces_94 rfl (fun h94 => absurd h94 (hne)) (fun _ => ?_)
              refine g_aload_n (pc := 97) dX7_reduces_97 rfl trivial ?_
              refine g_getf (pc := 98) dX7_reduces_98 fk_X7_34 (shK h5.1 rfl) (fv_arr (shR h5.1 rfl)) ?_
              refine g_iload (pc := 101) dX7_reduces_101 rfl ?_
              refine g_laload (pc := 103) dX7_reduces_103 (shK h5.1 rfl) rfl (by omega) (nl rfl) ?_
              rw [e51]
              refine g_iload_n (pc := 104) dX7_reduces_104 rfl ?_
              refine g_invS_r (pc := 105) (As := [_, _]) dX7_reduces_105 rfl (r_one (show c < 32 by omega)) rfl rfl lk_X7_231 rfl (nb rfl) ⟨nb rfl, nb rfl⟩ rfl ?_
              rw [h6]
              refine g_iconst (pc := 108) (v := 1) dX7_reduces_108 rfl ?_
              refine g_icmp_ne (pc := 109) (tgt := 150) dX7_reduces_109 rfl (fun h109 => absurd h109 ((fun y => y rfl))) (fun _ => ?_)
              refine g_aload_n (pc := 112) dX7_reduces_112 rfl trivial ?_
              refine g_getf (pc := 113) dX7_reduces_113 fk_X7_34 (shK h5.1 rfl) (fv_arr (shR h5.1 rfl)) ?_
              refine g_iload (pc := 116) dX7_reduces_116 rfl ?_
              refine g_dup2_11 (pc := 118) dX7_reduces_118 rfl rfl ?_
              refine g_laload (pc := 119) dX7_reduces_119 (shK h5.1 rfl) rfl (by omega) (nl rfl) ?_
              rw [e51]
              refine g_aload_n (pc := 120) dX7_reduces_120 rfl trivial ?_
              refine g_getf (pc := 121) dX7_reduces_121 fk_X7_34 (shK h5.1 rfl) (fv_arr (shR h5.1 rfl)) ?_
              refine g_aload_n (pc := 124) dX7_reduces_124 rfl trivial ?_
              refine g_getf (pc := 125) (v := .int _) dX7_reduces_125 fk_X7_297 (shK h5.1 rfl) (fun _ => congrArg Value.int (ec)) ?_
              refine g_laload (pc := 128) dX7_reduces_128 (shK h5.1 rfl) rfl (by omega) (nl rfl) ?_
              rw [e52]
              refine g_lxor (pc := 129) dX7_reduces_129 ?_
              rw [uL_xor]
              refine g_lastore (pc := 130) dX7_reduces_130 (shK h5.1 rfl) rfl (by omega) (nl rfl) ?_
              refine go_cast t1 ?_
              refine g_aload_n (pc := 131) dX7_reduces_131 rfl trivial ?_
              refine g_getf (pc := 132) dX7_reduces_132 fk_X7_47 (shK h7.1 rfl) (fv_arr (shR h7.1 rfl)) ?_
              refine g_iload (pc := 135) dX7_reduces_135 rfl ?_
              refine g_dup2_11 (pc := 137) dX7_reduces_137 rfl rfl ?_
              refine g_laload (pc := 138) dX7_reduces_138 (shK h7.1 rfl) rfl (by omega) (nl rfl) ?_
              rw [e71]
              refine g_aload_n (pc := 139) dX7_reduces_139 rfl trivial ?_
              refine g_getf (pc := 140) dX7_reduces_140 fk_X7_47 (shK h7.1 rfl) (fv_arr (shR h7.1 rfl)) ?_
              refine g_aload_n (pc := 143) dX7_reduces_143 rfl trivial ?_
              refine g_getf (pc := 144) (v := .int _) dX7_reduces_144 fk_X7_297 (shK h7.1 rfl) (fun _ => congrArg Value.int (ec7)) ?_
              refine g_laload (pc := 147) dX7_reduces_147 (shK h7.1 rfl) rfl (by omega) (nl rfl) ?_
              rw [e72]
              refine g_lxor (pc := 148) dX7_reduces_148 ?_
              rw [uL_xor]
              refine g_lastore (pc := 149) dX7_reduces_149 (shK h7.1 rfl) rfl (by omega) (nl rfl) ?_
              refine go_cast t2 ?_
              refine g_iinc (pc := 150) (lv' := [(0, _), (1, _), (2, _), (4, _)]) dX7_reduces_150 rfl (nI_1 _) (nl rfl) rfl ?_
              refine g_goto (pc := 153) (tgt := 79) dX7_reduces_153 rfl ?_
              exact ihk
        · have h5 : Rr (rbM M n ((clG p c lf rt n).1, (clG p c lf rt n).2, pv, p)) n A := rb_R h _
          have ec : mI (rbM M n ((clG p c lf rt n).1, (clG p c lf rt n).2, pv, p)) 198 22 = nI p := rb_c _
          have t1 := rb_setP (M := M) (n := n) (s := ((clG p c lf rt n).1, (clG p c lf rt n).2, pv, p)) (i := p) (v := nI c)
          have t2 := rb_setC (M := M) (n := n) (s := ((clG p c lf rt n).1, (clG p c lf rt n).2, fun_set pv p (nI c), p)) (c := p + 1)
          simp only at t1 t2
          have h7 : Rr (rbM M n ((clG p c lf rt n).1, (clG p c lf rt n).2, fun_set pv p (nI c), p)) n A := rb_R h _
          have ec7 : mI (rbM M n ((clG p c lf rt n).1, (clG p c lf rt n).2, fun_set pv p (nI c), p)) 198 22 = nI p := rb_c _
          generalize rbM M n ((clG p c lf rt n).1, (clG p c lf rt n).2, fun_set pv p (nI c), p + 1) = M8 at *
          generalize rbM M n ((clG p c lf rt n).1, (clG p c lf rt n).2, fun_set pv p (nI c), p) = M7 at *
          generalize rbM M n ((clG p c lf rt n).1, (clG p c lf rt n).2, pv, p) = M5 at *
          refine g_iload (pc := 79) dX7_reduces_79 rfl ?_
          refine g_aload_n (pc := 81) dX7_reduces_81 rfl trivial ?_
          refine g_invV_r (pc := 82) (As := []) dX7_reduces_82 rfl (r_size h5) rfl rfl (shK h5.1 rfl) rfl rfl lk_X7_71 rfl (nb rfl) ⟨nb rfl, nb rfl⟩ rfl ?_
          refine g_icmp_ge (pc := 85) (tgt := 156) dX7_reduces_85 rfl (fun _ => ?_) (fun h85 => absurd (nI_le (Nat.le_refl _) (by omega)) h85)
          refine g_aload_n (pc := 156) dX7_reduces_156 rfl trivial ?_
          refine g_getf (pc := 157) dX7_reduces_157 fk_X7_50 (shK h5.1 rfl) (fv_arr (shR h5.1 rfl)) ?_
          refine g_aload_n (pc := 160) dX7_reduces_160 rfl trivial ?_
          refine g_getf (pc := 161) (v := .int _) dX7_reduces_161 fk_X7_297 (shK h5.1 rfl) (fun _ => congrArg Value.int (ec)) ?_
          refine g_iload_n (pc := 164) dX7_reduces_164 rfl ?_
          refine g_iastore (pc := 165) dX7_reduces_165 (shK h5.1 rfl) rfl (show p < 32 by omega) (nl rfl) ?_
          refine go_cast t1 ?_
          refine g_aload_n (pc := 166) dX7_reduces_166 rfl trivial ?_
          refine g_dup (pc := 167) dX7_reduces_167 rfl ?_
          refine g_getf (pc := 168) (v := .int _) dX7_reduces_168 fk_X7_297 (shK h7.1 rfl) (fun _ => congrArg Value.int (ec7)) ?_
          refine g_iconst (pc := 171) (v := 1) dX7_reduces_171 rfl ?_
          refine g_iadd (pc := 172) dX7_reduces_172 ?_
          rw [nI_1]
          refine g_putI (pc := 173) dX7_reduces_173 fp_X7_297 (shK h7.1 rfl) ⟨rfl, rfl⟩ (fun _ _ _ _ => rfl) ?_
          refine go_cast t2 ?_
          exact g_sub (lv' := [(0, _), (1, _), (2, _)]) ⟨rfl, rfl, rfl, trivial⟩ hnext
    · have hq' : q = n := by omega
      subst hq'
      rw [Nat.sub_self] at a2
      have hes : elStep q c z = z := by
        unfold elStep; rw [← a2]; rfl
      rw [hes] at hnext
      refine g_iload_n (pc := 29) dX7_reduces_29 rfl ?_
      refine g_aload_n (pc := 30) dX7_reduces_30 rfl trivial ?_
      refine g_invV_r (pc := 31) (As := []) dX7_reduces_31 rfl (r_size h2) rfl rfl (shK hS rfl) rfl rfl lk_X7_71 rfl (nb rfl) ⟨nb rfl, nb rfl⟩ rfl ?_
      refine g_icmp_ge (pc := 34) (tgt := 56) dX7_reduces_34 rfl (fun _ => ?_) (fun h34 => absurd (nI_le (Nat.le_refl _) (by omega)) h34)
      refine g_iload_n (pc := 56) dX7_reduces_56 rfl ?_
      refine g_aload_n (pc := 57) dX7_reduces_57 rfl trivial ?_
      refine g_invV_r (pc := 58) (As := []) dX7_reduces_58 rfl (r_size h2) rfl rfl (shK hS rfl) rfl rfl lk_X7_71 rfl (nb rfl) ⟨nb rfl, nb rfl⟩ rfl ?_
      refine g_icmp_ne (pc := 61) (tgt := 67) dX7_reduces_61 rfl (fun h61 => absurd h61 ((fun y => y rfl))) (fun _ => ?_)
      refine g_goto (pc := 64) (tgt := 176) dX7_reduces_64 rfl ?_
      exact g_sub (lv' := [(0, _), (1, _), (2, _)]) ⟨rfl, rfl, rfl, trivial⟩ hnext
  · have h2 : Rr (rbM M n (elIt n (A s, R, mI M 210, 0) n)) n A := rb_R h _
    generalize rbM M n (elIt n (A s, R, mI M 210, 0) n) = M9 at *
    refine g_iload_n (pc := 16) dX7_reduces_16 rfl ?_
    refine g_aload_n (pc := 17) dX7_reduces_17 rfl trivial ?_
    refine g_invV_r (pc := 18) (As := []) dX7_reduces_18 rfl (r_size h2) rfl rfl (shK h2.1 rfl) rfl rfl lk_X7_71 rfl (nb rfl) ⟨nb rfl, nb rfl⟩ rfl ?_
    refine g_icmp_ge (pc := 21) (tgt := 182) dX7_reduces_21 rfl (fun _ => ?_) (fun h21 => absurd (nI_le (Nat.le_refl _) (by omega)) h21)
    refine g_return (pc := 182) dX7_reduces_182 rfl ?_
    exact ⟨rfl, rfl⟩
end
end
-- 291.rs
section
/-! the reference: ranks, solutions -/
theorem b1_xor (a b : Bool) : b1 a ^^^ b1 b = b1 (Bool.xor a b) := by cases a <;> cases b <;> decide
/-- right sides are bits, pivots are columns -/
def eOk (n : Nat) (s : ES) : Prop := (∀ r, r < n → ∃ b, s.2.1 r = b1 b) ∧ ∀ j, j < s.2.2.2 → ∃ c, c < n ∧ s.2.2.1 j = nI c
theorem swp_ok {n a b : Nat} {f : Nat → Int32} (ha : a < n) (hb9 : b < n) (h : ∀ r, r < n → ∃ z, f r = b1 z) : ∀ r, r < n → ∃ z, swp f a b r = b1 z := by
  intro r hr
  unfold swp fun_set
  by_cases h1 : r = b
  · rw [if_pos h1]; exact h a ha
  · rw [if_neg h1]
    by_cases h2 : r = a
    · rw [if_pos h2]; exact h b hb9
    · rw [if_neg h2]; exact h r hr
theorem clG_ok {n t c : Nat} {lf rt : Nat → Int32} (ht : t < n) (h : ∀ r, r < n → ∃ b, rt r = b1 b) : ∀ k, ∀ r, r < n → ∃ b, (clG t c lf rt k).2 r = b1 b
  | 0, r, hr => h r hr
  | k + 1, r, hr => by
    rw [clG]
    by_cases h1 : k ≠ t ∧ hb ((clG t c lf rt k).1 k) c = true
    · rw [if_pos h1]
      simp only [fun_set]
      by_cases h2 : r = k
      · rw [if_pos h2]
        obtain ⟨b, hb1⟩ := clG_ok (c := c) (lf := lf) ht h k k (by omega)
        obtain ⟨b', hb2⟩ := clG_ok (c := c) (lf := lf) ht h k t ht
        exact ⟨_, by rw [hb1, hb2, b1_xor]⟩
      · rw [if_neg h2]; exact clG_ok ht h k r hr
    · rw [if_neg h1]; exact clG_ok ht h k r hr
theorem elStep_ok {n c : Nat} {s : ES} (hc : c < n) (h : eOk n s) (hcnt : s.2.2.2 ≤ c) : eOk n (elStep n c s) := by
  unfold elStep
  have hq := rnt_lt s.1 c (n - s.2.2.2) s.2.2.2
  cases hr9 : rnt s.1 c (n - s.2.2.2) s.2.2.2 with
  | none => exact h
  | some q =>
    have := hq q hr9
    refine ⟨clG_ok (by omega) (swp_ok (by omega) (by omega) h.1) n, fun j hj => ?_⟩
    simp only [fun_set] at hj ⊢
    by_cases h1 : j = s.2.2.2
    · rw [if_pos h1]; exact ⟨c, hc, rfl⟩
    · rw [if_neg h1]; exact h.2 j (by omega)
theorem elIt_ok {n : Nat} {s : ES} (h : eOk n s) (h0 : s.2.2.2 = 0) : ∀ c, c ≤ n → eOk n (elIt n s c)
  | 0, _ => h
  | c + 1, hc => by
    have := elIt_c n s c
    rw [elIt]; exact elStep_ok (by omega) (elIt_ok h h0 c (by omega)) (by omega)
theorem sh_b1' : ∀ b : Bool, ∀ c, c < 32 → uL (b1 b) <<< ((nI c).toInt64 &&& 63) = uL (b1 b <<< (nI c &&& 31)) := by decide +kernel
theorem hl_one (y : Int64) {c : Nat} (hc : c < 32) : y >>> ((nI c).toInt64 &&& 63) &&& 1 = uL (b1 (hb y.toInt32 c)) := hl_ext fun i hi => by
  have e : hb y.toInt32 c = hl y c := by
    unfold hb hl
    rw [Int64.toBitVec_toInt32, BitVec.getLsbD_signExtend]
    simp [hc, show c < 64 by omega]
  rw [hl_and, hl_shr _ (by omega) i hi, hl_uL, hb_b1, e]
  by_cases h0 : i = 0
  · subst h0
    rw [if_pos (by omega), show hl 1 0 = true by decide]
    simp
  · rw [(by decide +kernel : ∀ i, i < 64 → i ≠ 0 → hl 1 i = false) i hi h0]
    simp [h0]
theorem uL_m1 (x : Int32) : uL x ≠ -1 := fun h => by
  have h1 := msb_uL x
  rw [h] at h1
  exact absurd h1 (by decide)
section
variable {l : Launch} {M : Mem} {n : Nat} {A : Nat → Nat → Int32}
theorem rb_sL {f : Nat → Int64} {s : ES} : rbM (sL M 209 (wr (mL M 209) f n)) n s = rbM M n s := by
  unfold rbM
  rw [sL_self, sL_ne (show 205 ≠ 209 by decide), wr_wr, sL_comm (show 209 ≠ 205 by decide), sL_2]
def solR (M : Mem) (n : Nat) (f : Nat → Int32) (x : Int32) : ES := elIt n (f, fun i => us x (nI i) &&& 1, mI M 210, 0) n
theorem solR_ok (M : Mem) {n : Nat} (f : Nat → Int32) (x : Int32) (hn : n ≤ 32) : eOk n (solR M n f x) := elIt_ok ⟨fun r hr => ⟨_, bit32 x (by omega)⟩, fun j hj => by simp at hj⟩ rfl n (Nat.le_refl _)
theorem r_solved {s : Nat} {y : Int64} (h : Rr M n A) (hs : s < 6) : EvR l jX7_solved 3 90 0 0 [.ref 198, .int (nI s), .long y] M (.inl (some (.long (if solvB (solR M n (A s) y.toInt32) (n - (solR M n (A s) y.toInt32).2.2.2) (solR M n (A s) y.toInt32).2.2.2 = true then uL (solF (solR M n (A s) y.toInt32) (solR M n (A s) y.toInt32).2.2.2) else -1)))) (rbM M n (solR M n (A s) y.toInt32)) := by
  have hn := h.2.2.2.1
  have hS := h.1
  have hok := solR_ok M (A s) y.toInt32 hn
  have hcnt : (solR M n (A s) y.toInt32).2.2.2 ≤ n := by have := elIt_c n (A s, fun i => us y.toInt32 (nI i) &&& 1, mI M 210, 0) n; unfold solR; simp only at this; omega
  obtain ⟨R, hR⟩ : ∃ R : Nat → Int32, R = fun i => us y.toInt32 (nI i) &&& 1 := ⟨_, rfl⟩
  have hRi : ∀ i, i < n → R i = b1 (hb y.toInt32 i) := fun i hi => by rw [hR]; exact bit32 _ (by omega)
  have h1 : Rr (sL M 209 (wr (mL M 209) (uR R) n)) n A := h.sL (by decide)
  have q1 := r_reduces (l := l) (R := R) h1 hs (fun i hi => by rw [sL_self, wr_lt hi]; rfl)
  rw [rb_sL] at q1
  have q1 : EvR l jX7_reduces 2 60 0 0 [.ref 198, .int (nI s)] (sL M 209 (wr (mL M 209) (uR R) n)) (.inl none) (rbM M n (solR M n (A s) y.toInt32)) := by rw [hR] at q1 ⊢; exact q1
  have h2 := rb_R h (solR M n (A s) y.toInt32)
  generalize solR M n (A s) y.toInt32 = E at *
  have el2 := fun i (hi : i < n) => rb_r (M := M) (s := E) hi
  have ep := rb_p (M := M) (n := n) E
  have ec := rb_c (M := M) (n := n) E
  generalize rbM M n E = M2 at *
  refine ev_intro rfl (nb rfl) rfl ?_
  refine g_iconst (pc := 0) (v := 0) dX7_solved_0 rfl ?_
  refine g_istore (pc := 1) (lv' := [(0, _), (1, _), (2, _), (4, _)]) dX7_solved_1 (nl rfl) rfl ?_
  refine go_loop (pc := 3) n (fun i => [(0, .ref 198), (1, .int (nI s)), (2, .long y), (4, .int (nI i))]) (fun i => sL M 209 (wr (mL M 209) (uR R) i)) ⟨rfl, rfl, rfl, rfl, trivial⟩ (sL_eq (wr_0 _ _)) ?_ ?_
  · intro i hi ih
    have h3 : Rr (sL M 209 (wr (mL M 209) (uR R) i)) n A := h.sL (by decide)
    refine g_iload (pc := 3) dX7_solved_3 rfl ?_
    refine g_aload_n (pc := 5) dX7_solved_5 rfl trivial ?_
    refine g_invV_r (pc := 6) (As := []) dX7_solved_6 rfl (r_size h3) rfl rfl (shK hS rfl) rfl rfl lk_X7_71 rfl (nb rfl) ⟨nb rfl, nb rfl⟩ rfl ?_
    refine g_icmp_ge (pc := 9) (tgt := 31) dX7_solved_9 rfl (fun h9 => absurd h9 (nI_ge hi (by omega))) (fun _ => ?_)
    refine g_aload_n (pc := 12) dX7_solved_12 rfl trivial ?_
    refine g_getf (pc := 13) dX7_solved_13 fk_X7_47 (shK h3.1 rfl) (fv_arr (shR h3.1 rfl)) ?_
    refine g_iload (pc := 16) dX7_solved_16 rfl ?_
    refine g_lload_n (pc := 18) dX7_solved_18 rfl ?_
    refine g_iload (pc := 19) dX7_solved_19 rfl ?_
    refine g_lshr (pc := 21) dX7_solved_21 rfl ?_
    refine g_lconst (pc := 22) (v := 1) dX7_solved_22 rfl ?_
    refine g_land (pc := 23) dX7_solved_23 ?_
    rw [hl_one y (by omega), ← hRi i hi]
    refine g_lastore (pc := 24) dX7_solved_24 (shK h3.1 rfl) rfl (by omega) (nl rfl) ?_
    refine g_iinc (pc := 25) (lv' := [(0, _), (1, _), (2, _), (4, _)]) dX7_solved_25 rfl (nI_1 _) (nl rfl) rfl ?_
    refine g_goto (pc := 28) (tgt := 3) dX7_solved_28 rfl ?_
    exact go_cast (sL_st (wr_s _ (uR R) i)) ih
  · refine g_iload (pc := 3) dX7_solved_3 rfl ?_
    refine g_aload_n (pc := 5) dX7_solved_5 rfl trivial ?_
    refine g_invV_r (pc := 6) (As := []) dX7_solved_6 rfl (r_size h1) rfl rfl (shK hS rfl) rfl rfl lk_X7_71 rfl (nb rfl) ⟨nb rfl, nb rfl⟩ rfl ?_
    refine g_icmp_ge (pc := 9) (tgt := 31) dX7_solved_9 rfl (fun _ => ?_) (fun h9 => absurd (nI_le (Nat.le_refl _) (by omega)) h9)
    refine g_aload_n (pc := 31) dX7_solved_31 rfl trivial ?_
    refine g_iload_n (pc := 32) dX7_solved_32 rfl ?_
    refine g_invV_r (pc := 33) (As := [_]) dX7_solved_33 rfl (q1) rfl rfl (shK h1.1 rfl) rfl rfl lk_X7_303 rfl (nb rfl) ⟨nb rfl, nb rfl⟩ rfl ?_
    refine g_lconst (pc := 36) (v := 0) dX7_solved_36 rfl ?_
    refine g_lstore (pc := 37) (lv' := [(0, _), (1, _), (2, _), (4, _)]) dX7_solved_37 (nl rfl) rfl ?_
    refine g_iconst (pc := 39) (v := 0) dX7_solved_39 rfl ?_
    refine g_istore (pc := 40) (lv' := [(0, _), (1, _), (2, _), (4, _), (6, _)]) dX7_solved_40 (nl rfl) rfl ?_
    refine go_loop (pc := 42) E.2.2.2 (fun i => [(0, .ref 198), (1, .int (nI s)), (4, .long (uL (solF E i))), (6, .int (nI i))]) (fun _ => M2) ⟨rfl, rfl, by show some (Value.long 0) = some (.long (uL 0)); rw [uL_0], rfl, trivial⟩ rfl ?_ ?_
    · intro i hi ih
      obtain ⟨b, hb1⟩ := hok.1 i (by omega)
      obtain ⟨c, hc, hpc⟩ := hok.2 i hi
      rw [solF, hpc, hb1] at ih
      refine g_iload (pc := 42) dX7_solved_42 rfl ?_
      refine g_aload_n (pc := 44) dX7_solved_44 rfl trivial ?_
      refine g_invV_r (pc := 45) (As := []) dX7_solved_45 rfl (r_size h2) rfl rfl (shK h2.1 rfl) rfl rfl lk_X7_71 rfl (nb rfl) ⟨nb rfl, nb rfl⟩ rfl ?_
      refine g_icmp_ge (pc := 48) (tgt := 105) dX7_solved_48 rfl (fun h48 => absurd h48 (nI_ge (show i < n by omega) (by omega))) (fun _ => ?_)
      refine g_iload (pc := 51) dX7_solved_51 rfl ?_
      refine g_aload_n (pc := 53) dX7_solved_53 rfl trivial ?_
      refine g_getf (pc := 54) (v := .int _) dX7_solved_54 fk_X7_297 (shK h2.1 rfl) (fun _ => congrArg Value.int (ec)) ?_
      refine g_icmp_ge (pc := 57) (tgt := 83) dX7_solved_57 rfl (fun h57 => absurd h57 (nI_ge hi (by omega))) (fun _ => ?_)
      refine g_lload (pc := 60) dX7_solved_60 rfl ?_
      refine g_aload_n (pc := 62) dX7_solved_62 rfl trivial ?_
      refine g_getf (pc := 63) dX7_solved_63 fk_X7_47 (shK h2.1 rfl) (fv_arr (shR h2.1 rfl)) ?_
      refine g_iload (pc := 66) dX7_solved_66 rfl ?_
      refine g_laload (pc := 68) dX7_solved_68 (shK h2.1 rfl) rfl (by omega) (nl rfl) ?_
      rw [el2 i (by omega), hb1]
      refine g_aload_n (pc := 69) dX7_solved_69 rfl trivial ?_
      refine g_getf (pc := 70) dX7_solved_70 fk_X7_50 (shK h2.1 rfl) (fv_arr (shR h2.1 rfl)) ?_
      refine g_iload (pc := 73) dX7_solved_73 rfl ?_
      refine g_iaload (pc := 75) dX7_solved_75 (shK h2.1 rfl) rfl (by omega) (nl rfl) ?_
      rw [ep, hpc]
      refine g_lshl (pc := 76) dX7_solved_76 rfl ?_
      rw [sh_b1' b c (by omega)]
      refine g_lor (pc := 77) dX7_solved_77 ?_
      rw [uL_or]
      refine g_lstore (pc := 78) (lv' := [(0, _), (1, _), (4, _), (6, _)]) dX7_solved_78 (nl rfl) rfl ?_
      refine g_goto (pc := 80) (tgt := 99) dX7_solved_80 rfl ?_
      refine g_iinc (pc := 99) (lv' := [(0, _), (1, _), (4, _), (6, _)]) dX7_solved_99 rfl (nI_1 _) (nl rfl) rfl ?_
      refine g_goto (pc := 102) (tgt := 42) dX7_solved_102 rfl ?_
      exact ih
    · generalize uL (solF E E.2.2.2) = X at *
      refine go_while (pc := 42) (σ := Nat) (fun q => E.2.2.2 ≤ q ∧ q ≤ n ∧ solvB E (n - q) q = solvB E (n - E.2.2.2) E.2.2.2) (fun q => n - q) (fun q => [(0, .ref 198), (1, .int (nI s)), (4, .long X), (6, .int (nI q))]) (fun _ => M2) E.2.2.2 ⟨rfl, rfl, rfl, rfl, trivial⟩ rfl ⟨Nat.le_refl _, hcnt, rfl⟩ ?_
      rintro q ⟨a0, a1, a2⟩ ih
      rw [← a2]
      by_cases hq : q < n
      · obtain ⟨d, hd⟩ : ∃ d, n - q = d + 1 := ⟨n - q - 1, by omega⟩
        have hd' : n - (q + 1) = d := by omega
        rw [hd, solvB] at a2 ⊢
        obtain ⟨b, hb1⟩ := hok.1 q hq
        cases b with
        | false =>
          have hb0 : E.2.1 q = 0 := hb1
          rw [if_pos hb0] at a2 ⊢
          rw [← a2] at ih
          refine g_iload (pc := 42) dX7_solved_42 rfl ?_
          refine g_aload_n (pc := 44) dX7_solved_44 rfl trivial ?_
          refine g_invV_r (pc := 45) (As := []) dX7_solved_45 rfl (r_size h2) rfl rfl (shK h2.1 rfl) rfl rfl lk_X7_71 rfl (nb rfl) ⟨nb rfl, nb rfl⟩ rfl ?_
          refine g_icmp_ge (pc := 48) (tgt := 105) dX7_solved_48 rfl (fun h48 => absurd h48 (nI_ge hq (by omega))) (fun _ => ?_)
          refine g_iload (pc := 51) dX7_solved_51 rfl ?_
          refine g_aload_n (pc := 53) dX7_solved_53 rfl trivial ?_
          refine g_getf (pc := 54) (v := .int _) dX7_solved_54 fk_X7_297 (shK h2.1 rfl) (fun _ => congrArg Value.int (ec)) ?_
          refine g_icmp_ge (pc := 57) (tgt := 83) dX7_solved_57 rfl (fun _ => ?_) (fun h57 => absurd (nI_le a0 (by omega)) h57)
          refine g_aload_n (pc := 83) dX7_solved_83 rfl trivial ?_
          refine g_getf (pc := 84) dX7_solved_84 fk_X7_47 (shK h2.1 rfl) (fv_arr (shR h2.1 rfl)) ?_
          refine g_iload (pc := 87) dX7_solved_87 rfl ?_
          refine g_laload (pc := 89) dX7_solved_89 (shK h2.1 rfl) rfl (by omega) (nl rfl) ?_
          rw [el2 q hq, hb1]
          refine g_lconst (pc := 90) (v := 1) dX7_solved_90 rfl ?_
          refine g_lcmp (pc := 91) dX7_solved_91 ?_
          refine g_if_ne (pc := 92) (tgt := 99) dX7_solved_92 rfl (fun _ => ?_) (fun h92 => absurd ((by decide)) h92)
          refine g_iinc (pc := 99) (lv' := [(0, _), (1, _), (4, _), (6, _)]) dX7_solved_99 rfl (nI_1 _) (nl rfl) rfl ?_
          refine g_goto (pc := 102) (tgt := 42) dX7_solved_102 rfl ?_
          exact ih (q + 1) ⟨by omega, by omega, by rw [hd']⟩ (by omega)
        | true =>
          have hb0 : ¬ E.2.1 q = 0 := by rw [hb1]; decide
          rw [if_neg hb0]
          refine g_iload (pc := 42) dX7_solved_42 rfl ?_
          refine g_aload_n (pc := 44) dX7_solved_44 rfl trivial ?_
          refine g_invV_r (pc := 45) (As := []) dX7_solved_45 rfl (r_size h2) rfl rfl (shK h2.1 rfl) rfl rfl lk_X7_71 rfl (nb rfl) ⟨nb rfl, nb rfl⟩ rfl ?_
          refine g_icmp_ge (pc := 48) (tgt := 105) dX7_solved_48 rfl (fun h48 => absurd h48 (nI_ge hq (by omega))) (fun _ => ?_)
          refine g_iload (pc := 51) dX7_solved_51 rfl ?_
          refine g_aload_n (pc := 53) dX7_solved_53 rfl trivial ?_
          refine g_getf (pc := 54) (v := .int _) dX7_solved_54 fk_X7_297 (shK h2.1 rfl) (fun _ => congrArg Value.int (ec)) ?_
          refine g_icmp_ge (pc := 57) (tgt := 83) dX7_solved_57 rfl (fun _ => ?_) (fun h57 => absurd (nI_le a0 (by omega)) h57)
          refine g_aload_n (pc := 83) dX7_solved_83 rfl trivial ?_
          refine g_getf (pc := 84) dX7_solved_84 fk_X7_47 (shK h2.1 rfl) (fv_arr (shR h2.1 rfl)) ?_
          refine g_iload (pc := 87) dX7_solved_87 rfl ?_
          refine g_laload (pc := 89) dX7_solved_89 (shK h2.1 rfl) rfl (by omega) (nl rfl) ?_
          rw [el2 q hq, hb1]
          refine g_lconst (pc := 90) (v := 1) dX7_solved_90 rfl ?_
          refine g_lcmp (pc := 91) dX7_solved_91 ?_
          refine g_if_ne (pc := 92) (tgt := 99) dX7_solved_92 rfl (fun h92 => absurd h92 ((by decide))) (fun _ => ?_)
          refine g_ldc2 (pc := 95) dX7_solved_95 wd_1657 ?_
          refine g_lreturn (pc := 98) dX7_solved_98 rfl ?_
          exact ⟨rfl, rfl⟩
      · have hq' : q = n := by omega
        subst hq'
        rw [Nat.sub_self, solvB, if_pos rfl]
        refine g_iload (pc := 42) dX7_solved_42 rfl ?_
        refine g_aload_n (pc := 44) dX7_solved_44 rfl trivial ?_
        refine g_invV_r (pc := 45) (As := []) dX7_solved_45 rfl (r_size h2) rfl rfl (shK h2.1 rfl) rfl rfl lk_X7_71 rfl (nb rfl) ⟨nb rfl, nb rfl⟩ rfl ?_
        refine g_icmp_ge (pc := 48) (tgt := 105) dX7_solved_48 rfl (fun _ => ?_) (fun h48 => absurd (nI_le (Nat.le_refl _) (by omega)) h48)
        refine g_lload (pc := 105) dX7_solved_105 rfl ?_
        refine g_lreturn (pc := 107) dX7_solved_107 rfl ?_
        exact ⟨rfl, rfl⟩
theorem n_solve {s : Nat} {y : Int64} (h : Rr M n A) (hs : s < 6) : EvR l jX7_solve 4 160 0 0 [.ref 198, .int (nI s), .long y] M (.inl (some (.long (if solvB (solR (thr M 0) n (A s) y.toInt32) (n - (solR (thr M 0) n (A s) y.toInt32).2.2.2) (solR (thr M 0) n (A s) y.toInt32).2.2.2 = true then uL (solF (solR (thr M 0) n (A s) y.toInt32) (solR (thr M 0) n (A s) y.toInt32).2.2.2) else -1)))) (rbM (thr M 0) n (solR (thr M 0) n (A s) y.toInt32)) := by
  have hS := h.1
  have q1 := r_solved (l := l) (y := y) (h.thr (x := 0)) hs
  generalize solR (thr M 0) n (A s) y.toInt32 = E at *
  refine ev_intro rfl (nb rfl) rfl ?_
  refine g_aload_n (pc := 0) dX7_solve_0 rfl trivial ?_
  refine g_iload_n (pc := 1) dX7_solve_1 rfl ?_
  refine g_invS_r (pc := 2) (As := [_]) dX7_solve_2 rfl (r_isSlot_t (in6 hs)) rfl rfl lk_X7_216 rfl (nb rfl) ⟨nb rfl, nb rfl⟩ rfl ?_
  refine g_iconst (pc := 5) (v := 1) dX7_solve_5 rfl ?_
  refine g_invV_r (pc := 6) (As := [_, _]) dX7_solve_6 rfl (r_isThrown_0 hS) rfl rfl (shK hS rfl) rfl rfl lk_X7_209 rfl (nb rfl) ⟨nb rfl, nb rfl⟩ rfl ?_
  refine g_if_eq (pc := 9) (tgt := 16) dX7_solve_9 rfl (fun _ => ?_) (fun h9 => absurd (rfl) h9)
  refine g_aload_n (pc := 16) dX7_solve_16 rfl trivial ?_
  refine g_iload_n (pc := 17) dX7_solve_17 rfl ?_
  refine g_lload_n (pc := 18) dX7_solve_18 rfl ?_
  refine g_invV_r (pc := 19) (As := [_, _]) dX7_solve_19 rfl (q1) rfl rfl (shK (h.thr (x := 0)).1 rfl) rfl rfl lk_X7_308 rfl (nb rfl) ⟨nb rfl, nb rfl⟩ rfl ?_
  refine g_lreturn (pc := 22) dX7_solve_22 rfl ?_
  exact ⟨rfl, rfl⟩
theorem t_solve {v : Int32} {y : Int64} (h : Rr M n A) (hx : ¬ inR v 6) : EvR l jX7_solve 4 160 0 0 [.ref 198, .int v, .long y] M (.inl (some (.long 0))) (thr M 1) := by
  have hS := h.1
  refine ev_intro rfl (nb rfl) rfl ?_
  refine g_aload_n (pc := 0) dX7_solve_0 rfl trivial ?_
  refine g_iload_n (pc := 1) dX7_solve_1 rfl ?_
  refine g_invS_r (pc := 2) (As := [_]) dX7_solve_2 rfl (r_isSlot_f hx) rfl rfl lk_X7_216 rfl (nb rfl) ⟨nb rfl, nb rfl⟩ rfl ?_
  refine g_iconst (pc := 5) (v := 1) dX7_solve_5 rfl ?_
  refine g_invV_r (pc := 6) (As := [_, _]) dX7_solve_6 rfl (r_isThrown_1 hS) rfl rfl (shK hS rfl) rfl rfl lk_X7_209 rfl (nb rfl) ⟨nb rfl, nb rfl⟩ rfl ?_
  refine g_if_eq (pc := 9) (tgt := 16) dX7_solve_9 rfl (fun h9 => absurd h9 ((by decide))) (fun _ => ?_)
  refine g_lconst (pc := 12) (v := 0) dX7_solve_12 rfl ?_
  refine g_goto (pc := 13) (tgt := 22) dX7_solve_13 rfl ?_
  refine g_lreturn (pc := 22) dX7_solve_22 rfl ?_
  exact ⟨rfl, rfl⟩
theorem n_freedom {s : Nat} {y : Int64} (h : Rr M n A) (hs : s < 6) : EvR l jX7_freedom 4 160 0 0 [.ref 198, .int (nI s), .long y] M (.inl (some (.int (if solvB (solR (thr M 0) n (A s) y.toInt32) (n - (solR (thr M 0) n (A s) y.toInt32).2.2.2) (solR (thr M 0) n (A s) y.toInt32).2.2.2 = true then nI n - nI (solR (thr M 0) n (A s) y.toInt32).2.2.2 else -1)))) (rbM (thr M 0) n (solR (thr M 0) n (A s) y.toInt32)) := by
  have hS := h.1
  have q1 := r_solved (l := l) (y := y) (h.thr (x := 0)) hs
  have h2 := rb_R (h.thr (x := 0)) (solR (thr M 0) n (A s) y.toInt32)
  have ec := rb_c (M := thr M 0) (n := n) (solR (thr M 0) n (A s) y.toInt32)
  generalize solR (thr M 0) n (A s) y.toInt32 = E at *
  generalize rbM (thr M 0) n E = M2 at *
  refine ev_intro rfl (nb rfl) rfl ?_
  cases hb9 : solvB E (n - E.2.2.2) E.2.2.2 with
  | true =>
    rw [hb9, if_pos rfl] at q1
    rw [if_pos rfl]
    refine g_aload_n (pc := 0) dX7_freedom_0 rfl trivial ?_
    refine g_iload_n (pc := 1) dX7_freedom_1 rfl ?_
    refine g_invS_r (pc := 2) (As := [_]) dX7_freedom_2 rfl (r_isSlot_t (in6 hs)) rfl rfl lk_X7_216 rfl (nb rfl) ⟨nb rfl, nb rfl⟩ rfl ?_
    refine g_iconst (pc := 5) (v := 1) dX7_freedom_5 rfl ?_
    refine g_invV_r (pc := 6) (As := [_, _]) dX7_freedom_6 rfl (r_isThrown_0 hS) rfl rfl (shK hS rfl) rfl rfl lk_X7_209 rfl (nb rfl) ⟨nb rfl, nb rfl⟩ rfl ?_
    refine g_if_eq (pc := 9) (tgt := 14) dX7_freedom_9 rfl (fun _ => ?_) (fun h9 => absurd (rfl) h9)
    refine g_aload_n (pc := 14) dX7_freedom_14 rfl trivial ?_
    refine g_iload_n (pc := 15) dX7_freedom_15 rfl ?_
    refine g_lload_n (pc := 16) dX7_freedom_16 rfl ?_
    refine g_invV_r (pc := 17) (As := [_, _]) dX7_freedom_17 rfl (q1) rfl rfl (shK (h.thr (x := 0)).1 rfl) rfl rfl lk_X7_308 rfl (nb rfl) ⟨nb rfl, nb rfl⟩ rfl ?_
    refine g_ldc2 (pc := 20) dX7_freedom_20 wd_1657 ?_
    refine g_lcmp (pc := 23) dX7_freedom_23 ?_
    refine g_if_ne (pc := 24) (tgt := 31) dX7_freedom_24 rfl (fun _ => ?_) (fun h24 => absurd ((fun z => uL_m1 _ ((lg_cmp_eq _ _).mp z))) h24)
    refine g_aload_n (pc := 31) dX7_freedom_31 rfl trivial ?_
    refine g_invV_r (pc := 32) (As := []) dX7_freedom_32 rfl (r_size h2) rfl rfl (shK h2.1 rfl) rfl rfl lk_X7_71 rfl (nb rfl) ⟨nb rfl, nb rfl⟩ rfl ?_
    refine g_aload_n (pc := 35) dX7_freedom_35 rfl trivial ?_
    refine g_getf (pc := 36) (v := .int _) dX7_freedom_36 fk_X7_297 (shK h2.1 rfl) (fun _ => congrArg Value.int (ec)) ?_
    refine g_isub (pc := 39) dX7_freedom_39 ?_
    refine g_ireturn (pc := 40) dX7_freedom_40 rfl rfl ?_
    exact ⟨rfl, rfl⟩
  | false =>
    rw [hb9, if_neg (by decide)] at q1
    rw [if_neg (by decide)]
    refine g_aload_n (pc := 0) dX7_freedom_0 rfl trivial ?_
    refine g_iload_n (pc := 1) dX7_freedom_1 rfl ?_
    refine g_invS_r (pc := 2) (As := [_]) dX7_freedom_2 rfl (r_isSlot_t (in6 hs)) rfl rfl lk_X7_216 rfl (nb rfl) ⟨nb rfl, nb rfl⟩ rfl ?_
    refine g_iconst (pc := 5) (v := 1) dX7_freedom_5 rfl ?_
    refine g_invV_r (pc := 6) (As := [_, _]) dX7_freedom_6 rfl (r_isThrown_0 hS) rfl rfl (shK hS rfl) rfl rfl lk_X7_209 rfl (nb rfl) ⟨nb rfl, nb rfl⟩ rfl ?_
    refine g_if_eq (pc := 9) (tgt := 14) dX7_freedom_9 rfl (fun _ => ?_) (fun h9 => absurd (rfl) h9)
    refine g_aload_n (pc := 14) dX7_freedom_14 rfl trivial ?_
    refine g_iload_n (pc := 15) dX7_freedom_15 rfl ?_
    refine g_lload_n (pc := 16) dX7_freedom_16 rfl ?_
    refine g_invV_r (pc := 17) (As := [_, _]) dX7_freedom_17 rfl (q1) rfl rfl (shK (h.thr (x := 0)).1 rfl) rfl rfl lk_X7_308 rfl (nb rfl) ⟨nb rfl, nb rfl⟩ rfl ?_
    refine g_ldc2 (pc := 20) dX7_freedom_20 wd_1657 ?_
    refine g_lcmp (pc := 23) dX7_freedom_23 ?_
    refine g_if_ne (pc := 24) (tgt := 31) dX7_freedom_24 rfl (fun h24 => absurd h24 ((by decide))) (fun _ => ?_)
    refine g_iconst (pc := 27) (v := (-1)) dX7_freedom_27 rfl ?_
    refine g_goto (pc := 28) (tgt := 40) dX7_freedom_28 rfl ?_
    refine g_ireturn (pc := 40) dX7_freedom_40 rfl rfl ?_
    exact ⟨rfl, rfl⟩
theorem t_freedom {v : Int32} {y : Int64} (h : Rr M n A) (hx : ¬ inR v 6) : EvR l jX7_freedom 4 160 0 0 [.ref 198, .int v, .long y] M (.inl (some (.int 0))) (thr M 1) := by
  have hS := h.1
  refine ev_intro rfl (nb rfl) rfl ?_
  refine g_aload_n (pc := 0) dX7_freedom_0 rfl trivial ?_
  refine g_iload_n (pc := 1) dX7_freedom_1 rfl ?_
  refine g_invS_r (pc := 2) (As := [_]) dX7_freedom_2 rfl (r_isSlot_f hx) rfl rfl lk_X7_216 rfl (nb rfl) ⟨nb rfl, nb rfl⟩ rfl ?_
  refine g_iconst (pc := 5) (v := 1) dX7_freedom_5 rfl ?_
  refine g_invV_r (pc := 6) (As := [_, _]) dX7_freedom_6 rfl (r_isThrown_1 hS) rfl rfl (shK hS rfl) rfl rfl lk_X7_209 rfl (nb rfl) ⟨nb rfl, nb rfl⟩ rfl ?_
  refine g_if_eq (pc := 9) (tgt := 14) dX7_freedom_9 rfl (fun h9 => absurd h9 ((by decide))) (fun _ => ?_)
  refine g_iconst (pc := 12) (v := 0) dX7_freedom_12 rfl ?_
  refine g_ireturn (pc := 13) dX7_freedom_13 rfl rfl ?_
  exact ⟨rfl, rfl⟩
/-- what lies beside holds rows -/
def bsOk (M : Mem) : Prop := ∀ i, i < 32 → mL M 209 i = uL (mL M 209 i).toInt32
def bsR (M : Mem) : Nat → Int32 := fun i => (mL M 209 i).toInt32
def rkR (M : Mem) (n : Nat) (f : Nat → Int32) : ES := elIt n (f, bsR M, mI M 210, 0) n
theorem rkR_c (M : Mem) (n : Nat) (f : Nat → Int32) : (rkR M n f).2.2.2 ≤ n := by
  have := elIt_c n (f, bsR M, mI M 210, 0) n
  unfold rkR; simp only at this; omega
theorem n_fieldRank {s : Nat} (h : Rr M n A) (hbs : bsOk M) (hs : s < 6) : EvR l jX7_fieldRank 4 160 0 0 [.ref 198, .int (nI s)] M (.inl (some (.int (nI (rkR (thr M 0) n (A s)).2.2.2)))) (rbM (thr M 0) n (rkR (thr M 0) n (A s))) := by
  have hS := h.1
  have hn := h.2.2.2.1
  have q1 : EvR l jX7_reduces 2 60 0 0 [.ref 198, .int (nI s)] (thr M 0) (.inl none) (rbM (thr M 0) n (rkR (thr M 0) n (A s))) := r_reduces (R := bsR M) (h.thr (x := 0)) hs (fun i hi => hbs i (by omega))
  have h2 := rb_R (h.thr (x := 0)) (rkR (thr M 0) n (A s))
  have ec := rb_c (M := thr M 0) (n := n) (rkR (thr M 0) n (A s))
  generalize rkR (thr M 0) n (A s) = E at *
  generalize rbM (thr M 0) n E = M2 at *
  refine ev_intro rfl (nb rfl) rfl ?_
  refine g_aload_n (pc := 0) dX7_fieldRank_0 rfl trivial ?_
  refine g_iload_n (pc := 1) dX7_fieldRank_1 rfl ?_
  refine g_invS_r (pc := 2) (As := [_]) dX7_fieldRank_2 rfl (r_isSlot_t (in6 hs)) rfl rfl lk_X7_216 rfl (nb rfl) ⟨nb rfl, nb rfl⟩ rfl ?_
  refine g_iconst (pc := 5) (v := 1) dX7_fieldRank_5 rfl ?_
  refine g_invV_r (pc := 6) (As := [_, _]) dX7_fieldRank_6 rfl (r_isThrown_0 hS) rfl rfl (shK hS rfl) rfl rfl lk_X7_209 rfl (nb rfl) ⟨nb rfl, nb rfl⟩ rfl ?_
  refine g_if_eq (pc := 9) (tgt := 14) dX7_fieldRank_9 rfl (fun _ => ?_) (fun h9 => absurd (rfl) h9)
  refine g_aload_n (pc := 14) dX7_fieldRank_14 rfl trivial ?_
  refine g_iload_n (pc := 15) dX7_fieldRank_15 rfl ?_
  refine g_invV_r (pc := 16) (As := [_]) dX7_fieldRank_16 rfl (q1) rfl rfl (shK (h.thr (x := 0)).1 rfl) rfl rfl lk_X7_303 rfl (nb rfl) ⟨nb rfl, nb rfl⟩ rfl ?_
  refine g_aload_n (pc := 19) dX7_fieldRank_19 rfl trivial ?_
  refine g_getf (pc := 20) (v := .int _) dX7_fieldRank_20 fk_X7_297 (shK h2.1 rfl) (fun _ => congrArg Value.int (ec)) ?_
  refine g_ireturn (pc := 23) dX7_fieldRank_23 rfl rfl ?_
  exact ⟨rfl, rfl⟩
theorem t_fieldRank {v : Int32} (h : Rr M n A) (hx : ¬ inR v 6) : EvR l jX7_fieldRank 4 160 0 0 [.ref 198, .int v] M (.inl (some (.int 0))) (thr M 1) := by
  have hS := h.1
  refine ev_intro rfl (nb rfl) rfl ?_
  refine g_aload_n (pc := 0) dX7_fieldRank_0 rfl trivial ?_
  refine g_iload_n (pc := 1) dX7_fieldRank_1 rfl ?_
  refine g_invS_r (pc := 2) (As := [_]) dX7_fieldRank_2 rfl (r_isSlot_f hx) rfl rfl lk_X7_216 rfl (nb rfl) ⟨nb rfl, nb rfl⟩ rfl ?_
  refine g_iconst (pc := 5) (v := 1) dX7_fieldRank_5 rfl ?_
  refine g_invV_r (pc := 6) (As := [_, _]) dX7_fieldRank_6 rfl (r_isThrown_1 hS) rfl rfl (shK hS rfl) rfl rfl lk_X7_209 rfl (nb rfl) ⟨nb rfl, nb rfl⟩ rfl ?_
  refine g_if_eq (pc := 9) (tgt := 14) dX7_fieldRank_9 rfl (fun h9 => absurd h9 ((by decide))) (fun _ => ?_)
  refine g_iconst (pc := 12) (v := 0) dX7_fieldRank_12 rfl ?_
  refine g_ireturn (pc := 13) dX7_fieldRank_13 rfl rfl ?_
  exact ⟨rfl, rfl⟩
theorem n_pivot {s : Nat} {x : Int32} (h : Rr M n A) (hbs : bsOk M) (hs : s < 6) : EvR l jX7_pivot 4 160 0 0 [.ref 198, .int (nI s), .int x] M (.inl (some (.int (if ¬ x < 0 ∧ x < nI (rkR (thr M 0) n (A s)).2.2.2 then (rkR (thr M 0) n (A s)).2.2.1 x.toNatClampNeg else -1)))) (rbM (thr M 0) n (rkR (thr M 0) n (A s))) := by
  have hS := h.1
  have hn := h.2.2.2.1
  have q1 : EvR l jX7_reduces 2 60 0 0 [.ref 198, .int (nI s)] (thr M 0) (.inl none) (rbM (thr M 0) n (rkR (thr M 0) n (A s))) := r_reduces (R := bsR M) (h.thr (x := 0)) hs (fun i hi => hbs i (by omega))
  have h2 := rb_R (h.thr (x := 0)) (rkR (thr M 0) n (A s))
  have hcn := rkR_c (thr M 0) n (A s)
  have ec := rb_c (M := thr M 0) (n := n) (rkR (thr M 0) n (A s))
  have ep := rb_p (M := thr M 0) (n := n) (rkR (thr M 0) n (A s))
  generalize rkR (thr M 0) n (A s) = E at *
  generalize rbM (thr M 0) n E = M2 at *
  have hlim : (¬ x < 0 ∧ x < nI E.2.2.2) ↔ (0 ≤ x.toInt64 ∧ x.toInt64 ≤ (nI E.2.2.2 - 1).toInt64) := by
    rw [show (0 : Int64) = (0 : Int32).toInt64 from rfl, le_long, le_long, Int32.not_lt]
    refine and_congr Iff.rfl ?_
    cases hE : E.2.2.2 with
    | zero => rw [show nI 0 - 1 = -1 from rfl, show nI 0 = 0 from rfl, Int32.lt_iff_toInt_lt, Int32.le_iff_toInt_le, show (0 : Int32).toInt = 0 from rfl, show (-1 : Int32).toInt = -1 from rfl]; omega
    | succ c => rw [nI_pred, Int32.lt_iff_toInt_lt, Int32.le_iff_toInt_le, nI_toInt (by omega), nI_toInt (by omega)]; omega
  refine ev_intro rfl (nb rfl) rfl ?_
  by_cases hx : ¬ x < 0 ∧ x < nI E.2.2.2
  · rw [if_pos hx]
    have h9 := hlim.mp hx
    obtain ⟨i, hi, rfl⟩ := inR_of hx (by omega)
    rw [nI_clamp (by omega)]
    refine g_aload_n (pc := 0) dX7_pivot_0 rfl trivial ?_
    refine g_iload_n (pc := 1) dX7_pivot_1 rfl ?_
    refine g_invS_r (pc := 2) (As := [_]) dX7_pivot_2 rfl (r_isSlot_t (in6 hs)) rfl rfl lk_X7_216 rfl (nb rfl) ⟨nb rfl, nb rfl⟩ rfl ?_
    refine g_iconst (pc := 5) (v := 1) dX7_pivot_5 rfl ?_
    refine g_invV_r (pc := 6) (As := [_, _]) dX7_pivot_6 rfl (r_isThrown_0 hS) rfl rfl (shK hS rfl) rfl rfl lk_X7_209 rfl (nb rfl) ⟨nb rfl, nb rfl⟩ rfl ?_
    refine g_if_eq (pc := 9) (tgt := 14) dX7_pivot_9 rfl (fun _ => ?_) (fun h9 => absurd (rfl) h9)
    refine g_aload_n (pc := 14) dX7_pivot_14 rfl trivial ?_
    refine g_iload_n (pc := 15) dX7_pivot_15 rfl ?_
    refine g_invV_r (pc := 16) (As := [_]) dX7_pivot_16 rfl (q1) rfl rfl (shK (h.thr (x := 0)).1 rfl) rfl rfl lk_X7_303 rfl (nb rfl) ⟨nb rfl, nb rfl⟩ rfl ?_
    refine g_iload_n (pc := 19) dX7_pivot_19 rfl ?_
    refine g_i2l (pc := 20) dX7_pivot_20 rfl ?_
    refine g_lconst (pc := 21) (v := 0) dX7_pivot_21 rfl ?_
    refine g_aload_n (pc := 22) dX7_pivot_22 rfl trivial ?_
    refine g_getf (pc := 23) (v := .int _) dX7_pivot_23 fk_X7_297 (shK h2.1 rfl) (fun _ => congrArg Value.int (ec)) ?_
    refine g_iconst (pc := 26) (v := 1) dX7_pivot_26 rfl ?_
    refine g_isub (pc := 27) dX7_pivot_27 ?_
    refine g_i2l (pc := 28) dX7_pivot_28 rfl ?_
    refine g_invS_r (pc := 29) (As := [_, _, _]) dX7_pivot_29 rfl (r_in_t h9.1 h9.2) rfl rfl lk_X7_67 rfl (nb rfl) ⟨nb rfl, nb rfl⟩ rfl ?_
    refine g_if_eq (pc := 32) (tgt := 44) dX7_pivot_32 rfl (fun h32 => absurd h32 ((by decide))) (fun _ => ?_)
    refine g_aload_n (pc := 35) dX7_pivot_35 rfl trivial ?_
    refine g_getf (pc := 36) dX7_pivot_36 fk_X7_50 (shK h2.1 rfl) (fv_arr (shR h2.1 rfl)) ?_
    refine g_iload_n (pc := 39) dX7_pivot_39 rfl ?_
    refine g_iaload (pc := 40) dX7_pivot_40 (shK h2.1 rfl) rfl (by omega) (nl rfl) ?_
    rw [ep]
    refine g_goto (pc := 41) (tgt := 45) dX7_pivot_41 rfl ?_
    refine g_ireturn (pc := 45) dX7_pivot_45 rfl rfl ?_
    exact ⟨rfl, rfl⟩
  · rw [if_neg hx]
    refine g_aload_n (pc := 0) dX7_pivot_0 rfl trivial ?_
    refine g_iload_n (pc := 1) dX7_pivot_1 rfl ?_
    refine g_invS_r (pc := 2) (As := [_]) dX7_pivot_2 rfl (r_isSlot_t (in6 hs)) rfl rfl lk_X7_216 rfl (nb rfl) ⟨nb rfl, nb rfl⟩ rfl ?_
    refine g_iconst (pc := 5) (v := 1) dX7_pivot_5 rfl ?_
    refine g_invV_r (pc := 6) (As := [_, _]) dX7_pivot_6 rfl (r_isThrown_0 hS) rfl rfl (shK hS rfl) rfl rfl lk_X7_209 rfl (nb rfl) ⟨nb rfl, nb rfl⟩ rfl ?_
    refine g_if_eq (pc := 9) (tgt := 14) dX7_pivot_9 rfl (fun _ => ?_) (fun h9 => absurd (rfl) h9)
    refine g_aload_n (pc := 14) dX7_pivot_14 rfl trivial ?_
    refine g_iload_n (pc := 15) dX7_pivot_15 rfl ?_
    refine g_invV_r (pc := 16) (As := [_]) dX7_pivot_16 rfl (q1) rfl rfl (shK (h.thr (x := 0)).1 rfl) rfl rfl lk_X7_303 rfl (nb rfl) ⟨nb rfl, nb rfl⟩ rfl ?_
    refine g_iload_n (pc := 19) dX7_pivot_19 rfl ?_
    refine g_i2l (pc := 20) dX7_pivot_20 rfl ?_
    refine g_lconst (pc := 21) (v := 0) dX7_pivot_21 rfl ?_
    refine g_aload_n (pc := 22) dX7_pivot_22 rfl trivial ?_
    refine g_getf (pc := 23) (v := .int _) dX7_pivot_23 fk_X7_297 (shK h2.1 rfl) (fun _ => congrArg Value.int (ec)) ?_
    refine g_iconst (pc := 26) (v := 1) dX7_pivot_26 rfl ?_
    refine g_isub (pc := 27) dX7_pivot_27 ?_
    refine g_i2l (pc := 28) dX7_pivot_28 rfl ?_
    refine g_invS_r (pc := 29) (As := [_, _, _]) dX7_pivot_29 rfl (r_in_f (fun z => hx (hlim.mpr z))) rfl rfl lk_X7_67 rfl (nb rfl) ⟨nb rfl, nb rfl⟩ rfl ?_
    refine g_if_eq (pc := 32) (tgt := 44) dX7_pivot_32 rfl (fun _ => ?_) (fun h32 => absurd (rfl) h32)
    refine g_iconst (pc := 44) (v := (-1)) dX7_pivot_44 rfl ?_
    refine g_ireturn (pc := 45) dX7_pivot_45 rfl rfl ?_
    exact ⟨rfl, rfl⟩
theorem t_pivot {v x : Int32} (h : Rr M n A) (hx : ¬ inR v 6) : EvR l jX7_pivot 4 160 0 0 [.ref 198, .int v, .int x] M (.inl (some (.int 0))) (thr M 1) := by
  have hS := h.1
  refine ev_intro rfl (nb rfl) rfl ?_
  refine g_aload_n (pc := 0) dX7_pivot_0 rfl trivial ?_
  refine g_iload_n (pc := 1) dX7_pivot_1 rfl ?_
  refine g_invS_r (pc := 2) (As := [_]) dX7_pivot_2 rfl (r_isSlot_f hx) rfl rfl lk_X7_216 rfl (nb rfl) ⟨nb rfl, nb rfl⟩ rfl ?_
  refine g_iconst (pc := 5) (v := 1) dX7_pivot_5 rfl ?_
  refine g_invV_r (pc := 6) (As := [_, _]) dX7_pivot_6 rfl (r_isThrown_1 hS) rfl rfl (shK hS rfl) rfl rfl lk_X7_209 rfl (nb rfl) ⟨nb rfl, nb rfl⟩ rfl ?_
  refine g_if_eq (pc := 9) (tgt := 14) dX7_pivot_9 rfl (fun h9 => absurd h9 ((by decide))) (fun _ => ?_)
  refine g_iconst (pc := 12) (v := 0) dX7_pivot_12 rfl ?_
  refine g_ireturn (pc := 13) dX7_pivot_13 rfl rfl ?_
  exact ⟨rfl, rfl⟩
end
end
-- 30.ru
section
/-! the reference: what changes its state -/
section
variable {l : Launch} {M : Mem} {n c : Nat} {A : Nat → Nat → Int32}
/-- copies k numbers from place h of u to place t of w -/
def cpF (w : Nat → Int64) (t : Nat) (u : Nat → Int64) (h k : Nat) : Nat → Int64 := fun i => if 220 * t ≤ i ∧ i < 220 * t + k then u (i - 220 * t + 220 * h) else w i
theorem cpF_0 (w u : Nat → Int64) (t h : Nat) : cpF w t u h 0 = w := by funext i; unfold cpF; rw [if_neg (by omega)]
theorem cpF_s (w u : Nat → Int64) (t h k : Nat) : fun_set (cpF w t u h k) (220 * t + k) (u (220 * h + k)) = cpF w t u h (k + 1) := by
  funext i
  unfold cpF fun_set
  dsimp only
  by_cases h1 : i = 220 * t + k
  · rw [if_pos h1, if_pos (by omega)]; congr 1; omega
  · rw [if_neg h1]
    by_cases h2 : 220 * t ≤ i ∧ i < 220 * t + k
    · rw [if_pos h2, if_pos (by omega)]
    · rw [if_neg h2, if_neg (by omega)]
theorem ix220 (t k : Nat) : 220 * nI t + nI k = nI (220 * t + k) := by rw [show (220 : Int32) = nI 220 from rfl, nI_mul, nI_add]
theorem r_copies {x y lx ly h t : Nat} (hkx : (mK M)[x]? = some (kL lx)) (hky : (mK M)[y]? = some (kL ly)) (hxy : x ≠ y) (h1 : 220 * h + 220 ≤ lx) (h2 : 220 * t + 220 ≤ ly) (h3 : lx < 3000) (h4 : ly < 3000) : EvR l jX7_copies 0 0 0 0 [.ref x, .int (nI h), .ref y, .int (nI t)] M (.inl none) (sL M y (cpF (mL M y) t (mL M x) h 220)) := by
  refine ev_intro rfl (nb rfl) rfl ?_
  refine g_iconst (pc := 0) (v := 0) dX7_copies_0 rfl ?_
  refine g_istore (pc := 1) (lv' := [(0, _), (1, _), (2, _), (3, _), (4, _)]) dX7_copies_1 (nl rfl) rfl ?_
  refine go_loop (pc := 3) 220 (fun i => [(0, .ref x), (1, .int (nI h)), (2, .ref y), (3, .int (nI t)), (4, .int (nI i))]) (fun i => sL M y (cpF (mL M y) t (mL M x) h i)) ⟨rfl, rfl, rfl, rfl, rfl, trivial⟩ (sL_eq (cpF_0 _ _ _ _)) ?_ ?_
  · intro i hi ih
    have hkx2 : (mK (sL M y (cpF (mL M y) t (mL M x) h i)))[x]? = some (kL lx) := hkx
    have hky2 : (mK (sL M y (cpF (mL M y) t (mL M x) h i)))[y]? = some (kL ly) := hky
    refine g_iload (pc := 3) dX7_copies_3 rfl ?_
    refine g_sipush (pc := 5) (v := 220) dX7_copies_5 rfl ?_
    refine g_icmp_ge (pc := 8) (tgt := 37) dX7_copies_8 rfl (fun h8 => absurd h8 (nI_ge (b := 220) hi (by decide))) (fun _ => ?_)
    refine g_aload_n (pc := 11) dX7_copies_11 rfl trivial ?_
    refine g_sipush (pc := 12) (v := 220) dX7_copies_12 rfl ?_
    refine g_iload_n (pc := 15) dX7_copies_15 rfl ?_
    refine g_imul (pc := 16) dX7_copies_16 ?_
    refine g_iload (pc := 17) dX7_copies_17 rfl ?_
    refine g_iadd (pc := 19) dX7_copies_19 ?_
    rw [ix220]
    refine g_aload_n (pc := 20) dX7_copies_20 rfl trivial ?_
    refine g_sipush (pc := 21) (v := 220) dX7_copies_21 rfl ?_
    refine g_iload_n (pc := 24) dX7_copies_24 rfl ?_
    refine g_imul (pc := 25) dX7_copies_25 ?_
    refine g_iload (pc := 26) dX7_copies_26 rfl ?_
    refine g_iadd (pc := 28) dX7_copies_28 ?_
    rw [ix220]
    refine g_laload (pc := 29) dX7_copies_29 hkx2 rfl (show 220 * h + i < lx by omega) (by omega) ?_
    rw [sL_ne hxy]
    refine g_lastore (pc := 30) dX7_copies_30 hky2 rfl (show 220 * t + i < ly by omega) (by omega) ?_
    refine g_iinc (pc := 31) (lv' := [(0, _), (1, _), (2, _), (3, _), (4, _)]) dX7_copies_31 rfl (nI_1 _) (nl rfl) rfl ?_
    refine g_goto (pc := 34) (tgt := 3) dX7_copies_34 rfl ?_
    exact go_cast (sL_st (cpF_s _ _ t h i)) ih
  · refine g_iload (pc := 3) dX7_copies_3 rfl ?_
    refine g_sipush (pc := 5) (v := 220) dX7_copies_5 rfl ?_
    refine g_icmp_ge (pc := 8) (tgt := 37) dX7_copies_8 rfl (fun _ => ?_) (fun h8 => absurd (nI_le (Nat.le_refl 220) (by decide)) h8)
    refine g_return (pc := 37) dX7_copies_37 rfl ?_
    exact ⟨rfl, rfl⟩
/-- the reference before an action: c actions can be taken back -/
def Pu (M : Mem) (n : Nat) (A : Nat → Nat → Int32) (c : Nat) : Prop := Rr M n A ∧ mI M 198 5 = nI c ∧ c ≤ 8
def shF (w : Nat → Int64) (k : Nat) : Nat → Int64 := fun i => if i < k then w (i + 220) else w i
theorem shF_0 (w : Nat → Int64) : shF w 0 = w := by funext i; unfold shF; rw [if_neg (by omega)]
theorem shF_s (w : Nat → Int64) (k : Nat) : fun_set (shF w k) k (w (k + 220)) = shF w (k + 1) := by
  funext i
  unfold shF fun_set
  dsimp only
  by_cases h1 : i = k
  · rw [if_pos h1, if_pos (by omega), h1]
  · rw [if_neg h1]
    by_cases h2 : i < k
    · rw [if_pos h2, if_pos (by omega)]
    · rw [if_neg h2, if_neg (by omega)]
/-- the past: where the next one goes, what is there then -/
def paC (c : Nat) : Nat := if c = 8 then 7 else c
def paW (w : Nat → Int64) (c : Nat) : Nat → Int64 := if c = 8 then shF w 1540 else w
def kepM (M : Mem) (c : Nat) : Mem := pI (sL M 201 (cpF (paW (mL M 201) c) (paC c) (mL M 199) 0 220)) 198 5 (nI (paC c + 1))
theorem pI_2 (M : Mem) (i k : Nat) (x y : Int32) : pI (pI M i k x) i k y = pI M i k y := sI_st (fs_twice _ _ _ _)
theorem kepM_R (h : Rr M n A) : Rr (kepM M c) n A := h.sL (x := 201) (by decide)
theorem kepM_n : mL (kepM M c) 199 = mL M 199 := sL_ne (by decide)
theorem r_keeps (h : Rr M n A) (hc : mI M 198 5 = nI c) (hc8 : c ≤ 8) : EvR l jX7_keeps 1 30 0 0 [.ref 198] M (.inl none) (kepM M c) := by
  have hS := h.1
  refine ev_intro rfl (nb rfl) rfl ?_
  by_cases h8 : c = 8
  · subst h8
    have ek : kepM M 8 = pI (sL M 201 (cpF (shF (mL M 201) 1540) 7 (mL M 199) 0 220)) 198 5 (nI 8) := rfl
    rw [ek]
    refine g_aload_n (pc := 0) dX7_keeps_0 rfl trivial ?_
    refine g_getf (pc := 1) (v := .int _) dX7_keeps_1 fk_X7_201 (shK hS rfl) (fun _ => congrArg Value.int (hc)) ?_
    refine g_bipush (pc := 4) (v := 8) dX7_keeps_4 rfl ?_
    refine g_icmp_ne (pc := 6) (tgt := 50) dX7_keeps_6 rfl (fun h6 => absurd h6 ((fun z => z rfl))) (fun _ => ?_)
    refine g_iconst (pc := 9) (v := 0) dX7_keeps_9 rfl ?_
    refine g_istore_n (pc := 10) (lv' := [(0, _), (1, _)]) dX7_keeps_10 (nl rfl) rfl ?_
    refine go_loop (pc := 11) 1540 (fun i => [(0, .ref 198), (1, .int (nI i))]) (fun i => sL M 201 (shF (mL M 201) i)) ⟨rfl, rfl, trivial⟩ (sL_eq (shF_0 _)) ?_ ?_
    · intro i hi ih
      have hS1 : Shp (sL M 201 (shF (mL M 201) i)) := hS
      refine g_iload_n (pc := 11) dX7_keeps_11 rfl ?_
      refine g_sipush (pc := 12) (v := 1540) dX7_keeps_12 rfl ?_
      refine g_icmp_ge (pc := 15) (tgt := 40) dX7_keeps_15 rfl (fun h15 => absurd h15 (nI_ge (b := 1540) hi (by decide))) (fun _ => ?_)
      refine g_aload_n (pc := 18) dX7_keeps_18 rfl trivial ?_
      refine g_getf (pc := 19) dX7_keeps_19 fk_X7_16 (shK hS1 rfl) (fv_arr (shR hS1 rfl)) ?_
      refine g_iload_n (pc := 22) dX7_keeps_22 rfl ?_
      refine g_aload_n (pc := 23) dX7_keeps_23 rfl trivial ?_
      refine g_getf (pc := 24) dX7_keeps_24 fk_X7_16 (shK hS1 rfl) (fv_arr (shR hS1 rfl)) ?_
      refine g_iload_n (pc := 27) dX7_keeps_27 rfl ?_
      refine g_sipush (pc := 28) (v := 220) dX7_keeps_28 rfl ?_
      refine g_iadd (pc := 31) dX7_keeps_31 ?_
      rw [show (220 : Int32) = nI 220 from rfl, nI_add]
      refine g_laload (pc := 32) dX7_keeps_32 (shK hS1 rfl) rfl (show i + 220 < 1760 by omega) (nl rfl) ?_
      rw [sL_self, show shF (mL M 201) i (i + 220) = mL M 201 (i + 220) by unfold shF; rw [if_neg (by omega)]]
      refine g_lastore (pc := 33) dX7_keeps_33 (shK hS1 rfl) rfl (show i < 1760 by omega) (nl rfl) ?_
      refine g_iinc (pc := 34) (lv' := [(0, _), (1, _)]) dX7_keeps_34 rfl (nI_1 _) (nl rfl) rfl ?_
      refine g_goto (pc := 37) (tgt := 11) dX7_keeps_37 rfl ?_
      exact go_cast (sL_st (shF_s _ i)) ih
    · have hS1 : Shp (sL M 201 (shF (mL M 201) 1540)) := hS
      have hS2 : Shp (pI (sL M 201 (shF (mL M 201) 1540)) 198 5 (nI 7)) := hS
      have q1 := r_copies (l := l) (M := pI (sL M 201 (shF (mL M 201) 1540)) 198 5 (nI 7)) (x := 199) (y := 201) (h := 0) (t := 7) (shK hS2 rfl) (shK hS2 rfl) (by decide) (by decide) (by decide) (by decide) (by decide)
      have e9 : pI (sL (pI (sL M 201 (shF (mL M 201) 1540)) 198 5 (nI 7)) 201 (cpF (mL (pI (sL M 201 (shF (mL M 201) 1540)) 198 5 (nI 7)) 201) 7 (mL (pI (sL M 201 (shF (mL M 201) 1540)) 198 5 (nI 7)) 199) 0 220)) 198 5 (nI 8) = pI (sL M 201 (cpF (shF (mL M 201) 1540) 7 (mL M 199) 0 220)) 198 5 (nI 8) := by
        have a1 : mL (pI (sL M 201 (shF (mL M 201) 1540)) 198 5 (nI 7)) 201 = shF (mL M 201) 1540 := sL_self M 201 _
        have a2 : mL (pI (sL M 201 (shF (mL M 201) 1540)) 198 5 (nI 7)) 199 = mL M 199 := sL_ne (by decide)
        rw [a1, a2]
        generalize shF (mL M 201) 1540 = w
        generalize cpF w 7 (mL M 199) 0 220 = w2
        have a3 : sL (pI (sL M 201 w) 198 5 (nI 7)) 201 w2 = pI (sL (sL M 201 w) 201 w2) 198 5 (nI 7) := rfl
        rw [a3, sL_2, pI_2]
      have hS3 : Shp (sL (pI (sL M 201 (shF (mL M 201) 1540)) 198 5 (nI 7)) 201 (cpF (mL (pI (sL M 201 (shF (mL M 201) 1540)) 198 5 (nI 7)) 201) 7 (mL (pI (sL M 201 (shF (mL M 201) 1540)) 198 5 (nI 7)) 199) 0 220)) := hS
      have hc3 : mI (sL (pI (sL M 201 (shF (mL M 201) 1540)) 198 5 (nI 7)) 201 (cpF (mL (pI (sL M 201 (shF (mL M 201) 1540)) 198 5 (nI 7)) 201) 7 (mL (pI (sL M 201 (shF (mL M 201) 1540)) 198 5 (nI 7)) 199) 0 220)) 198 5 = nI 7 := pI_self (sL M 201 (shF (mL M 201) 1540)) 198 5 (nI 7)
      have hc1 : mI (sL M 201 (shF (mL M 201) 1540)) 198 5 = nI 8 := hc
      have hc2 : mI (pI (sL M 201 (shF (mL M 201) 1540)) 198 5 (nI 7)) 198 5 = nI 7 := pI_self _ _ _ _
      have e1 : pI (sL M 201 (shF (mL M 201) 1540)) 198 5 (nI 8 - 1) = pI (sL M 201 (shF (mL M 201) 1540)) 198 5 (nI 7) := by rw [show nI 8 - 1 = nI 7 from nI_pred 7]
      generalize sL (pI (sL M 201 (shF (mL M 201) 1540)) 198 5 (nI 7)) 201 (cpF (mL (pI (sL M 201 (shF (mL M 201) 1540)) 198 5 (nI 7)) 201) 7 (mL (pI (sL M 201 (shF (mL M 201) 1540)) 198 5 (nI 7)) 199) 0 220) = M3 at *
      generalize hM2 : pI (sL M 201 (shF (mL M 201) 1540)) 198 5 (nI 7) = M2 at *
      generalize hM1 : sL M 201 (shF (mL M 201) 1540) = M1 at *
      refine g_iload_n (pc := 11) dX7_keeps_11 rfl ?_
      refine g_sipush (pc := 12) (v := 1540) dX7_keeps_12 rfl ?_
      refine g_icmp_ge (pc := 15) (tgt := 40) dX7_keeps_15 rfl (fun _ => ?_) (fun h15 => absurd (nI_le (Nat.le_refl 1540) (by decide)) h15)
      refine g_aload_n (pc := 40) dX7_keeps_40 rfl trivial ?_
      refine g_dup (pc := 41) dX7_keeps_41 rfl ?_
      refine g_getf (pc := 42) (v := .int _) dX7_keeps_42 fk_X7_201 (shK hS1 rfl) (fun _ => congrArg Value.int (hc1)) ?_
      refine g_iconst (pc := 45) (v := 1) dX7_keeps_45 rfl ?_
      refine g_isub (pc := 46) dX7_keeps_46 ?_
      refine g_putI (pc := 47) dX7_keeps_47 fp_X7_201 (shK hS1 rfl) ⟨rfl, rfl⟩ (fun _ _ _ _ => rfl) ?_
      refine go_cast e1 ?_
      refine g_aload_n (pc := 50) dX7_keeps_50 rfl trivial ?_
      refine g_getf (pc := 51) dX7_keeps_51 fk_X7_9 (shK hS2 rfl) (fv_arr (shR hS2 rfl)) ?_
      refine g_iconst (pc := 54) (v := 0) dX7_keeps_54 rfl ?_
      refine g_aload_n (pc := 55) dX7_keeps_55 rfl trivial ?_
      refine g_getf (pc := 56) dX7_keeps_56 fk_X7_16 (shK hS2 rfl) (fv_arr (shR hS2 rfl)) ?_
      refine g_aload_n (pc := 59) dX7_keeps_59 rfl trivial ?_
      refine g_getf (pc := 60) (v := .int _) dX7_keeps_60 fk_X7_201 (shK hS2 rfl) (fun _ => congrArg Value.int (hc2)) ?_
      refine g_invS_r (pc := 63) (As := [_, _, _, _]) dX7_keeps_63 rfl (q1) rfl rfl lk_X7_198 rfl (nb rfl) ⟨nb rfl, nb rfl⟩ rfl ?_
      refine g_aload_n (pc := 66) dX7_keeps_66 rfl trivial ?_
      refine g_dup (pc := 67) dX7_keeps_67 rfl ?_
      refine g_getf (pc := 68) (v := .int _) dX7_keeps_68 fk_X7_201 (shK hS3 rfl) (fun _ => congrArg Value.int (hc3)) ?_
      refine g_iconst (pc := 71) (v := 1) dX7_keeps_71 rfl ?_
      refine g_iadd (pc := 72) dX7_keeps_72 ?_
      rw [nI_1]
      refine g_putI (pc := 73) dX7_keeps_73 fp_X7_201 (shK hS3 rfl) ⟨rfl, rfl⟩ (fun _ _ _ _ => rfl) ?_
      refine go_cast e9 ?_
      refine g_return (pc := 76) dX7_keeps_76 rfl ?_
      exact ⟨rfl, rfl⟩
  · have ek : kepM M c = pI (sL M 201 (cpF (mL M 201) c (mL M 199) 0 220)) 198 5 (nI (c + 1)) := by unfold kepM paW paC; rw [if_neg h8, if_neg h8]
    rw [ek]
    have q1 := r_copies (l := l) (M := M) (x := 199) (y := 201) (h := 0) (t := c) (shK hS rfl) (shK hS rfl) (by decide) (by decide) (by omega) (by decide) (by decide)
    have hS2 : Shp (sL M 201 (cpF (mL M 201) c (mL M 199) 0 220)) := hS
    have hc2 : mI (sL M 201 (cpF (mL M 201) c (mL M 199) 0 220)) 198 5 = nI c := hc
    generalize sL M 201 (cpF (mL M 201) c (mL M 199) 0 220) = M2 at *
    refine g_aload_n (pc := 0) dX7_keeps_0 rfl trivial ?_
    refine g_getf (pc := 1) (v := .int _) dX7_keeps_1 fk_X7_201 (shK hS rfl) (fun _ => congrArg Value.int (hc)) ?_
    refine g_bipush (pc := 4) (v := 8) dX7_keeps_4 rfl ?_
    refine g_icmp_ne (pc := 6) (tgt := 50) dX7_keeps_6 rfl (fun _ => ?_) (fun h6 => absurd ((fun z => h8 ((nI_eq (b := 8) (by omega) (by decide)).mp z))) h6)
    refine g_aload_n (pc := 50) dX7_keeps_50 rfl trivial ?_
    refine g_getf (pc := 51) dX7_keeps_51 fk_X7_9 (shK hS rfl) (fv_arr (shR hS rfl)) ?_
    refine g_iconst (pc := 54) (v := 0) dX7_keeps_54 rfl ?_
    refine g_aload_n (pc := 55) dX7_keeps_55 rfl trivial ?_
    refine g_getf (pc := 56) dX7_keeps_56 fk_X7_16 (shK hS rfl) (fv_arr (shR hS rfl)) ?_
    refine g_aload_n (pc := 59) dX7_keeps_59 rfl trivial ?_
    refine g_getf (pc := 60) (v := .int _) dX7_keeps_60 fk_X7_201 (shK hS rfl) (fun _ => congrArg Value.int (hc)) ?_
    refine g_invS_r (pc := 63) (As := [_, _, _, _]) dX7_keeps_63 rfl (q1) rfl rfl lk_X7_198 rfl (nb rfl) ⟨nb rfl, nb rfl⟩ rfl ?_
    refine g_aload_n (pc := 66) dX7_keeps_66 rfl trivial ?_
    refine g_dup (pc := 67) dX7_keeps_67 rfl ?_
    refine g_getf (pc := 68) (v := .int _) dX7_keeps_68 fk_X7_201 (shK hS2 rfl) (fun _ => congrArg Value.int (hc2)) ?_
    refine g_iconst (pc := 71) (v := 1) dX7_keeps_71 rfl ?_
    refine g_iadd (pc := 72) dX7_keeps_72 ?_
    rw [nI_1]
    refine g_putI (pc := 73) dX7_keeps_73 fp_X7_201 (shK hS2 rfl) ⟨rfl, rfl⟩ (fun _ _ _ _ => rfl) ?_
    refine g_return (pc := 76) dX7_keeps_76 rfl ?_
    exact ⟨rfl, rfl⟩
/-- the numbers of a slot's closure -/
def lkM (M : Mem) (s : Nat) (x : Int32) : Mem := if mL M 199 (4 + s) = 1 then pL (pL M 199 (10 + s) x.toInt64) 199 (16 + s) (mL M 199 (16 + s) + x.toInt64) else M
def anM (M : Mem) (s : Nat) (x : Int32) : Mem := pL (lkM M s x) 199 (22 + s) (mL (lkM M s x) 199 (22 + s) + mL M 199 (4 + s))
theorem pL_k {i k j : Nat} {x : Int64} (h : j ≠ k) : mL (pL M i k x) i j = mL M i j := by simp only [pL, sL, mL, fs_self, fs_ne _ _ h]
theorem pL_self (M : Mem) (i k : Nat) (x : Int64) : mL (pL M i k x) i k = x := by simp only [pL, sL, mL, fs_self]
theorem pL_i {i k j : Nat} {x : Int64} (h : j ≠ i) : mL (pL M i k x) j = mL M j := by simp only [pL, sL, mL, fs_ne _ _ h]
/-- a number behind the size and ahead of the rows, or the size as it was -/
theorem Rr.pL {k : Nat} {x : Int64} (h : Rr M n A) (hk : 0 < k ∧ k < 28) : Rr (pL M 199 k x) n A := ⟨h.1, by rw [pL_k (by omega)]; exact h.2.1, h.2.2.1, h.2.2.2.1, fun s r hs hr => by rw [pL_k (by omega)]; exact h.2.2.2.2 s r hs hr⟩
theorem lkM_R {s : Nat} {x : Int32} (h : Rr M n A) (hs : s < 6) : Rr (lkM M s x) n A := by
  unfold lkM
  split
  · exact (h.pL (by omega)).pL (by omega)
  · exact h
theorem anM_R {s : Nat} {x : Int32} (h : Rr M n A) (hs : s < 6) : Rr (anM M s x) n A := by unfold anM; exact (lkM_R h hs).pL (by omega)
theorem r_looks {s : Nat} {x : Int32} (h : Rr M n A) (hs : s < 6) : EvR l jX7_looks 0 0 0 0 [.ref 198, .int (nI s), .int x] M (.inl none) (lkM M s x) := by
  have hS := h.1
  have i4 : 4 + nI s = nI (4 + s) := nI_add 4 s
  have i10 : 10 + nI s = nI (10 + s) := nI_add 10 s
  have i16 : 16 + nI s = nI (16 + s) := nI_add 16 s
  refine ev_intro rfl (nb rfl) rfl ?_
  unfold lkM
  by_cases h1 : mL M 199 (4 + s) = 1
  · rw [if_pos h1]
    have hS1 : Shp (pL M 199 (10 + s) x.toInt64) := hS
    have e1 : mL (pL M 199 (10 + s) x.toInt64) 199 (16 + s) = mL M 199 (16 + s) := pL_k (by omega)
    generalize hM1 : pL M 199 (10 + s) x.toInt64 = M1 at *
    refine g_aload_n (pc := 0) dX7_looks_0 rfl trivial ?_
    refine g_getf (pc := 1) dX7_looks_1 fk_X7_9 (shK hS rfl) (fv_arr (shR hS rfl)) ?_
    refine g_iconst (pc := 4) (v := 4) dX7_looks_4 rfl ?_
    refine g_iload_n (pc := 5) dX7_looks_5 rfl ?_
    refine g_iadd (pc := 6) dX7_looks_6 ?_
    rw [i4]
    refine g_laload (pc := 7) dX7_looks_7 (shK hS rfl) rfl (show 4 + s < 220 by omega) (nl rfl) ?_
    rw [h1]
    refine g_lconst (pc := 8) (v := 1) dX7_looks_8 rfl ?_
    refine g_lcmp (pc := 9) dX7_looks_9 ?_
    refine g_if_ne (pc := 10) (tgt := 38) dX7_looks_10 rfl (fun h10 => absurd h10 ((by decide))) (fun _ => ?_)
    refine g_aload_n (pc := 13) dX7_looks_13 rfl trivial ?_
    refine g_getf (pc := 14) dX7_looks_14 fk_X7_9 (shK hS rfl) (fv_arr (shR hS rfl)) ?_
    refine g_bipush (pc := 17) (v := 10) dX7_looks_17 rfl ?_
    refine g_iload_n (pc := 19) dX7_looks_19 rfl ?_
    refine g_iadd (pc := 20) dX7_looks_20 ?_
    rw [i10]
    refine g_iload_n (pc := 21) dX7_looks_21 rfl ?_
    refine g_i2l (pc := 22) dX7_looks_22 rfl ?_
    refine g_lastore (pc := 23) dX7_looks_23 (shK hS rfl) rfl (show 10 + s < 220 by omega) (nl rfl) ?_
    refine go_cast hM1 ?_
    refine g_aload_n (pc := 24) dX7_looks_24 rfl trivial ?_
    refine g_getf (pc := 25) dX7_looks_25 fk_X7_9 (shK hS1 rfl) (fv_arr (shR hS1 rfl)) ?_
    refine g_bipush (pc := 28) (v := 16) dX7_looks_28 rfl ?_
    refine g_iload_n (pc := 30) dX7_looks_30 rfl ?_
    refine g_iadd (pc := 31) dX7_looks_31 ?_
    rw [i16]
    refine g_dup2_11 (pc := 32) dX7_looks_32 rfl rfl ?_
    refine g_laload (pc := 33) dX7_looks_33 (shK hS1 rfl) rfl (show 16 + s < 220 by omega) (nl rfl) ?_
    rw [e1]
    refine g_iload_n (pc := 34) dX7_looks_34 rfl ?_
    refine g_i2l (pc := 35) dX7_looks_35 rfl ?_
    refine g_ladd (pc := 36) dX7_looks_36 ?_
    refine g_lastore (pc := 37) dX7_looks_37 (shK hS1 rfl) rfl (show 16 + s < 220 by omega) (nl rfl) ?_
    refine g_return (pc := 38) dX7_looks_38 rfl ?_
    exact ⟨rfl, rfl⟩
  · rw [if_neg h1]
    refine g_aload_n (pc := 0) dX7_looks_0 rfl trivial ?_
    refine g_getf (pc := 1) dX7_looks_1 fk_X7_9 (shK hS rfl) (fv_arr (shR hS rfl)) ?_
    refine g_iconst (pc := 4) (v := 4) dX7_looks_4 rfl ?_
    refine g_iload_n (pc := 5) dX7_looks_5 rfl ?_
    refine g_iadd (pc := 6) dX7_looks_6 ?_
    rw [i4]
    refine g_laload (pc := 7) dX7_looks_7 (shK hS rfl) rfl (show 4 + s < 220 by omega) (nl rfl) ?_
    refine g_lconst (pc := 8) (v := 1) dX7_looks_8 rfl ?_
    refine g_lcmp (pc := 9) dX7_looks_9 ?_
    refine g_if_ne (pc := 10) (tgt := 38) dX7_looks_10 rfl (fun _ => ?_) (fun h10 => absurd ((fun z => h1 ((lg_cmp_eq _ _).mp z))) h10)
    refine g_return (pc := 38) dX7_looks_38 rfl ?_
    exact ⟨rfl, rfl⟩
theorem lkM_4 {s : Nat} {x : Int32} : mL (lkM M s x) 199 (4 + s) = mL M 199 (4 + s) := by
  unfold lkM
  split
  · rw [pL_k (by omega), pL_k (by omega)]
  · rfl
theorem r_madeAnew {s : Nat} (h : Rr M n A) (hs : s < 6) : EvR l jX7_madeAnew 1 30 0 0 [.ref 198, .int (nI s)] M (.inl none) (anM M s (nI n)) := by
  have hS := h.1
  have q1 := r_looks (l := l) (x := nI n) h hs
  have h1 := lkM_R (x := nI n) h hs
  have e4 := lkM_4 (M := M) (s := s) (x := nI n)
  have i4 : 4 + nI s = nI (4 + s) := nI_add 4 s
  have i22 : 22 + nI s = nI (22 + s) := nI_add 22 s
  refine ev_intro rfl (nb rfl) rfl ?_
  unfold anM
  generalize lkM M s (nI n) = M1 at *
  refine g_aload_n (pc := 0) dX7_madeAnew_0 rfl trivial ?_
  refine g_iload_n (pc := 1) dX7_madeAnew_1 rfl ?_
  refine g_aload_n (pc := 2) dX7_madeAnew_2 rfl trivial ?_
  refine g_invV_r (pc := 3) (As := []) dX7_madeAnew_3 rfl (r_size h) rfl rfl (shK hS rfl) rfl rfl lk_X7_71 rfl (nb rfl) ⟨nb rfl, nb rfl⟩ rfl ?_
  refine g_invV_r (pc := 6) (As := [_, _]) dX7_madeAnew_6 rfl (q1) rfl rfl (shK hS rfl) rfl rfl lk_X7_312 rfl (nb rfl) ⟨nb rfl, nb rfl⟩ rfl ?_
  refine g_aload_n (pc := 9) dX7_madeAnew_9 rfl trivial ?_
  refine g_getf (pc := 10) dX7_madeAnew_10 fk_X7_9 (shK h1.1 rfl) (fv_arr (shR h1.1 rfl)) ?_
  refine g_bipush (pc := 13) (v := 22) dX7_madeAnew_13 rfl ?_
  refine g_iload_n (pc := 15) dX7_madeAnew_15 rfl ?_
  refine g_iadd (pc := 16) dX7_madeAnew_16 ?_
  rw [i22]
  refine g_dup2_11 (pc := 17) dX7_madeAnew_17 rfl rfl ?_
  refine g_laload (pc := 18) dX7_madeAnew_18 (shK h1.1 rfl) rfl (show 22 + s < 220 by omega) (nl rfl) ?_
  refine g_aload_n (pc := 19) dX7_madeAnew_19 rfl trivial ?_
  refine g_getf (pc := 20) dX7_madeAnew_20 fk_X7_9 (shK h1.1 rfl) (fv_arr (shR h1.1 rfl)) ?_
  refine g_iconst (pc := 23) (v := 4) dX7_madeAnew_23 rfl ?_
  refine g_iload_n (pc := 24) dX7_madeAnew_24 rfl ?_
  refine g_iadd (pc := 25) dX7_madeAnew_25 ?_
  rw [i4]
  refine g_laload (pc := 26) dX7_madeAnew_26 (shK h1.1 rfl) rfl (show 4 + s < 220 by omega) (nl rfl) ?_
  rw [e4]
  refine g_ladd (pc := 27) dX7_madeAnew_27 ?_
  refine g_lastore (pc := 28) dX7_madeAnew_28 (shK h1.1 rfl) rfl (show 22 + s < 220 by omega) (nl rfl) ?_
  refine g_return (pc := 29) dX7_madeAnew_29 rfl ?_
  exact ⟨rfl, rfl⟩
/-- k rows of a slot -/
def lyF (u : Nat → Int64) (t : Nat) (f : Nat → Int32) (k : Nat) : Nat → Int64 := fun i => if 28 + 32 * t ≤ i ∧ i < 28 + 32 * t + k then uL (f (i - (28 + 32 * t))) else u i
theorem lyF_0 (u : Nat → Int64) (t : Nat) (f : Nat → Int32) : lyF u t f 0 = u := by funext i; unfold lyF; rw [if_neg (by omega)]
theorem lyF_s (u : Nat → Int64) (t : Nat) (f : Nat → Int32) (k : Nat) : fun_set (lyF u t f k) (28 + 32 * t + k) (uL (f k)) = lyF u t f (k + 1) := by
  funext i
  unfold lyF fun_set
  dsimp only
  by_cases h1 : i = 28 + 32 * t + k
  · rw [if_pos h1, if_pos (by omega)]; congr 2; omega
  · rw [if_neg h1]
    by_cases h2 : 28 + 32 * t ≤ i ∧ i < 28 + 32 * t + k
    · rw [if_pos h2, if_pos (by omega)]
    · rw [if_neg h2, if_neg (by omega)]
def lyM (M : Mem) (t n : Nat) (f : Nat → Int32) : Mem := sL M 199 (lyF (mL M 199) t f n)
theorem lyM_R {t k : Nat} {f : Nat → Int32} (h : Rr M n A) (ht : t < 6) (hk : k ≤ n) : Rr (lyM M t k f) n (fun_set A t (wr (A t) f k)) := by
  have hn := h.2.2.2.1
  have e : mL (lyM M t k f) 199 = lyF (mL M 199) t f k := sL_self M 199 _
  refine ⟨h.1, ?_, h.2.2.1, hn, fun s r hs hr => ?_⟩
  · rw [e]; unfold lyF; rw [if_neg (by omega)]; exact h.2.1
  · rw [e]; unfold lyF fun_set
    by_cases h1 : s = t
    · subst h1
      rw [if_pos rfl]
      by_cases h2 : r < k
      · rw [if_pos (by omega), wr_lt h2]; congr 2; omega
      · rw [if_neg (by omega), wr_ge (by omega)]; exact h.2.2.2.2 s r hs hr
    · rw [if_neg h1, if_neg (by omega)]; exact h.2.2.2.2 s r hs hr
theorem lyM_R' {t : Nat} {f : Nat → Int32} (h : Rr M n A) (ht : t < 6) : Rr (lyM M t n f) n (fun_set A t f) := by
  have h1 := lyM_R (f := f) h ht (Nat.le_refl n)
  refine ⟨h1.1, h1.2.1, h1.2.2.1, h1.2.2.2.1, fun s r hs hr => ?_⟩
  rw [h1.2.2.2.2 s r hs hr]
  unfold fun_set
  by_cases e : s = t
  · rw [if_pos e, if_pos e, wr_lt hr]
  · rw [if_neg e, if_neg e]
theorem r_setsRow {s r : Nat} {x : Int64} (hS : Shp M) (hs : s < 6) (hr : r < 32) : EvR l jX7_setsRow 0 0 0 0 [.ref 198, .int (nI s), .int (nI r), .long x] M (.inl none) (pL M 199 (28 + 32 * s + r) x) := by
  refine ev_intro rfl (nb rfl) rfl ?_
  refine g_aload_n (pc := 0) dX7_setsRow_0 rfl trivial ?_
  refine g_getf (pc := 1) dX7_setsRow_1 fk_X7_9 (shK hS rfl) (fv_arr (shR hS rfl)) ?_
  refine g_bipush (pc := 4) (v := 28) dX7_setsRow_4 rfl ?_
  refine g_bipush (pc := 6) (v := 32) dX7_setsRow_6 rfl ?_
  refine g_iload_n (pc := 8) dX7_setsRow_8 rfl ?_
  refine g_imul (pc := 9) dX7_setsRow_9 ?_
  refine g_iadd (pc := 10) dX7_setsRow_10 ?_
  refine g_iload_n (pc := 11) dX7_setsRow_11 rfl ?_
  refine g_iadd (pc := 12) dX7_setsRow_12 ?_
  rw [ixR]
  refine g_lload_n (pc := 13) dX7_setsRow_13 rfl ?_
  refine g_lastore (pc := 14) dX7_setsRow_14 (shK hS rfl) rfl (show 28 + 32 * s + r < 220 by omega) (nl rfl) ?_
  refine g_return (pc := 15) dX7_setsRow_15 rfl ?_
  exact ⟨rfl, rfl⟩
/-- rows become a slot's matrix -/
def lsM (M : Mem) (t n : Nat) (f : Nat → Int32) : Mem := anM (lyM M t n f) t (nI n)
theorem lsM_R {t : Nat} {f : Nat → Int32} (h : Rr M n A) (ht : t < 6) : Rr (lsM M t n f) n (fun_set A t f) := anM_R (lyM_R' h ht) ht
theorem r_lays {x t : Nat} {f : Nat → Int32} (h : Rr M n A) (ht : t < 6) (hkx : (mK M)[x]? = some (kL 32)) (hx : x ≠ 199) (hf : ∀ i, i < n → mL M x i = uL (f i)) : EvR l jX7_lays 2 60 0 0 [.ref 198, .ref x, .int (nI t)] M (.inl (some (.int (onesF f n)))) (lsM M t n f) := by
  have hS := h.1
  have hn := h.2.2.2.1
  have q1 := r_madeAnew (l := l) (lyM_R' (f := f) h ht) ht
  have h2 := lsM_R (f := f) h ht
  have q2 := r_onesOf (l := l) h2 ht
  rw [show fun_set A t f t = f from fs_self A t f] at q2
  have h1 := lyM_R' (f := f) h ht
  have q1 : EvR l jX7_madeAnew 1 30 0 0 [.ref 198, .int (nI t)] (lyM M t n f) (.inl none) (lsM M t n f) := q1
  generalize lsM M t n f = M2 at *
  refine ev_intro rfl (nb rfl) rfl ?_
  refine g_iconst (pc := 0) (v := 0) dX7_lays_0 rfl ?_
  refine g_istore_n (pc := 1) (lv' := [(0, _), (1, _), (2, _), (3, _)]) dX7_lays_1 (nl rfl) rfl ?_
  refine go_loop (pc := 2) n (fun i => [(0, .ref 198), (1, .ref x), (2, .int (nI t)), (3, .int (nI i))]) (fun i => lyM M t i f) ⟨rfl, rfl, rfl, rfl, trivial⟩ (sL_eq (lyF_0 _ _ _)) ?_ ?_
  · intro i hi ih
    have h3 := lyM_R (f := f) (k := i) h ht (by omega)
    have q3 := r_setsRow (l := l) (x := uL (f i)) (r := i) h3.1 ht (by omega)
    have e3 : pL (lyM M t i f) 199 (28 + 32 * t + i) (uL (f i)) = lyM M t (i + 1) f := sL_st (lyF_s _ _ _ i)
    rw [e3] at q3
    have e4 : mL (lyM M t i f) x i = uL (f i) := by rw [show mL (lyM M t i f) x = mL M x from sL_ne hx]; exact hf i hi
    have hkx3 : (mK (lyM M t i f))[x]? = some (kL 32) := hkx
    generalize lyM M t (i + 1) f = M4 at *
    generalize lyM M t i f = M3 at *
    refine g_iload_n (pc := 2) dX7_lays_2 rfl ?_
    refine g_aload_n (pc := 3) dX7_lays_3 rfl trivial ?_
    refine g_invV_r (pc := 4) (As := []) dX7_lays_4 rfl (r_size h3) rfl rfl (shK h3.1 rfl) rfl rfl lk_X7_71 rfl (nb rfl) ⟨nb rfl, nb rfl⟩ rfl ?_
    refine g_icmp_ge (pc := 7) (tgt := 25) dX7_lays_7 rfl (fun h7 => absurd h7 (nI_ge hi (by omega))) (fun _ => ?_)
    refine g_aload_n (pc := 10) dX7_lays_10 rfl trivial ?_
    refine g_iload_n (pc := 11) dX7_lays_11 rfl ?_
    refine g_iload_n (pc := 12) dX7_lays_12 rfl ?_
    refine g_aload_n (pc := 13) dX7_lays_13 rfl trivial ?_
    refine g_iload_n (pc := 14) dX7_lays_14 rfl ?_
    refine g_laload (pc := 15) dX7_lays_15 hkx3 rfl (by omega) (nl rfl) ?_
    rw [e4]
    refine g_invV_r (pc := 16) (As := [_, _, _]) dX7_lays_16 rfl (q3) rfl rfl (shK h3.1 rfl) rfl rfl lk_X7_318 rfl (nb rfl) ⟨nb rfl, nb rfl⟩ rfl ?_
    refine g_iinc (pc := 19) (lv' := [(0, _), (1, _), (2, _), (3, _)]) dX7_lays_19 rfl (nI_1 _) (nl rfl) rfl ?_
    refine g_goto (pc := 22) (tgt := 2) dX7_lays_22 rfl ?_
    exact ih
  · generalize lyM M t n f = M3 at *
    refine g_iload_n (pc := 2) dX7_lays_2 rfl ?_
    refine g_aload_n (pc := 3) dX7_lays_3 rfl trivial ?_
    refine g_invV_r (pc := 4) (As := []) dX7_lays_4 rfl (r_size h1) rfl rfl (shK h1.1 rfl) rfl rfl lk_X7_71 rfl (nb rfl) ⟨nb rfl, nb rfl⟩ rfl ?_
    refine g_icmp_ge (pc := 7) (tgt := 25) dX7_lays_7 rfl (fun _ => ?_) (fun h7 => absurd (nI_le (Nat.le_refl _) (by omega)) h7)
    refine g_aload_n (pc := 25) dX7_lays_25 rfl trivial ?_
    refine g_iload_n (pc := 26) dX7_lays_26 rfl ?_
    refine g_invV_r (pc := 27) (As := [_]) dX7_lays_27 rfl (q1) rfl rfl (shK h1.1 rfl) rfl rfl lk_X7_204 rfl (nb rfl) ⟨nb rfl, nb rfl⟩ rfl ?_
    refine g_aload_n (pc := 30) dX7_lays_30 rfl trivial ?_
    refine g_iload_n (pc := 31) dX7_lays_31 rfl ?_
    refine g_invV_r (pc := 32) (As := [_]) dX7_lays_32 rfl (q2) rfl rfl (shK h2.1 rfl) rfl rfl lk_X7_238 rfl (nb rfl) ⟨nb rfl, nb rfl⟩ rfl ?_
    refine g_ireturn (pc := 35) dX7_lays_35 rfl rfl ?_
    exact ⟨rfl, rfl⟩
end
end
-- 301.ru
section
/-! the reference: rows set, copied, turned, combined -/
section
variable {l : Launch} {M : Mem} {n c : Nat} {A : Nat → Nat → Int32}
/-- behind the keeping: what an action begins with -/
def k0M (M : Mem) (c : Nat) : Mem := kepM (thr M 0) c
theorem k0M_R (h : Rr M n A) : Rr (k0M M c) n A := kepM_R h.thr
theorem r_k0 (h : Rr M n A) (hc : mI M 198 5 = nI c) (hc8 : c ≤ 8) : EvR l jX7_keeps 1 30 0 0 [.ref 198] (thr M 0) (.inl none) (k0M M c) := r_keeps h.thr ((pI_k (by decide)).trans hc) hc8
/-- one row -/
def srM (M : Mem) (s r : Nat) (v : Int32) : Mem := pL M 199 (28 + 32 * s + r) (uL v)
theorem srM_R {s r : Nat} {v : Int32} (h : Rr M n A) (hs : s < 6) (hr : r < n) : Rr (srM M s r v) n (fun_set A s (fun_set (A s) r v)) := by
  have hn := h.2.2.2.1
  refine ⟨h.1, ?_, h.2.2.1, hn, fun s' r' hs' hr' => ?_⟩
  · unfold srM; rw [pL_k (by omega)]; exact h.2.1
  · unfold srM fun_set
    by_cases h1 : s' = s
    · subst h1
      by_cases h2 : r' = r
      · subst h2; rw [pL_self, if_pos rfl, if_pos rfl]
      · rw [pL_k (by omega), if_pos rfl, if_neg h2]; exact h.2.2.2.2 s' r' hs' hr'
    · rw [pL_k (by omega), if_neg h1]; exact h.2.2.2.2 s' r' hs' hr'
theorem n_setRow {s r : Nat} {x : Int64} (h : Rr M n A) (hc : mI M 198 5 = nI c) (hc8 : c ≤ 8) (hs : s < 6) (hr : r < n) : EvR l jX7_setRow 4 160 0 0 [.ref 198, .int (nI s), .int (nI r), .long x] M (.inl (some (.int (bcJ (A s r ^^^ (x.toInt32 &&& lowM n)))))) (anM (srM (k0M M c) s r (x.toInt32 &&& lowM n)) s (nI n)) := by
  have hn := h.2.2.2.1
  have hS := h.1
  have q1 := r_k0 (l := l) h hc hc8
  have h1 : Rr (k0M M c) n A := k0M_R h
  have q2 := r_setsRow (l := l) (x := uL (x.toInt32 &&& lowM n)) (r := r) h1.1 hs (by omega)
  have q2 : EvR l jX7_setsRow 0 0 0 0 [.ref 198, .int (nI s), .int (nI r), .long (uL (x.toInt32 &&& lowM n))] (k0M M c) (.inl none) (srM (k0M M c) s r (x.toInt32 &&& lowM n)) := q2
  have h2 := srM_R (v := x.toInt32 &&& lowM n) h1 hs hr
  have q3 := r_madeAnew (l := l) h2 hs
  generalize anM (srM (k0M M c) s r (x.toInt32 &&& lowM n)) s (nI n) = M3 at *
  generalize srM (k0M M c) s r (x.toInt32 &&& lowM n) = M2 at *
  generalize k0M M c = M1 at *
  refine ev_intro rfl (nb rfl) rfl ?_
  refine g_aload_n (pc := 0) dX7_setRow_0 rfl trivial ?_
  refine g_aload_n (pc := 1) dX7_setRow_1 rfl trivial ?_
  refine g_iload_n (pc := 2) dX7_setRow_2 rfl ?_
  refine g_iload_n (pc := 3) dX7_setRow_3 rfl ?_
  refine g_invV_r (pc := 4) (As := [_, _]) dX7_setRow_4 rfl (r_areIn_t h (in6 hs) (inR_nI hr (by omega))) rfl rfl (shK hS rfl) rfl rfl lk_X7_223 rfl (nb rfl) ⟨nb rfl, nb rfl⟩ rfl ?_
  refine g_iconst (pc := 7) (v := 1) dX7_setRow_7 rfl ?_
  refine g_invV_r (pc := 8) (As := [_, _]) dX7_setRow_8 rfl (r_isThrown_0 hS) rfl rfl (shK hS rfl) rfl rfl lk_X7_209 rfl (nb rfl) ⟨nb rfl, nb rfl⟩ rfl ?_
  refine g_if_eq (pc := 11) (tgt := 16) dX7_setRow_11 rfl (fun _ => ?_) (fun h11 => absurd (rfl) h11)
  refine g_aload_n (pc := 16) dX7_setRow_16 rfl trivial ?_
  refine g_invV_r (pc := 17) (As := []) dX7_setRow_17 rfl (q1) rfl rfl (shK (h.thr (x := 0)).1 rfl) rfl rfl lk_X7_315 rfl (nb rfl) ⟨nb rfl, nb rfl⟩ rfl ?_
  refine g_aload_n (pc := 20) dX7_setRow_20 rfl trivial ?_
  refine g_iload_n (pc := 21) dX7_setRow_21 rfl ?_
  refine g_iload_n (pc := 22) dX7_setRow_22 rfl ?_
  refine g_invV_r (pc := 23) (As := [_, _]) dX7_setRow_23 rfl (r_rowOf h1 hs hr) rfl rfl (shK h1.1 rfl) rfl rfl lk_X7_227 rfl (nb rfl) ⟨nb rfl, nb rfl⟩ rfl ?_
  refine g_lload_n (pc := 26) dX7_setRow_26 rfl ?_
  refine g_aload_n (pc := 27) dX7_setRow_27 rfl trivial ?_
  refine g_invV_r (pc := 28) (As := []) dX7_setRow_28 rfl (r_all h1) rfl rfl (shK h1.1 rfl) rfl rfl lk_X7_245 rfl (nb rfl) ⟨nb rfl, nb rfl⟩ rfl ?_
  refine g_land (pc := 31) dX7_setRow_31 ?_
  rw [uL_low]
  refine g_lxor (pc := 32) dX7_setRow_32 ?_
  rw [uL_xor]
  refine g_invS_r (pc := 33) (As := [_]) dX7_setRow_33 rfl (r_bitsOf) rfl rfl lk_X7_234 rfl (nb rfl) ⟨nb rfl, nb rfl⟩ rfl ?_
  refine g_istore (pc := 36) (lv' := [(0, _), (1, _), (2, _), (3, _), (5, _)]) dX7_setRow_36 (nl rfl) rfl ?_
  refine g_aload_n (pc := 38) dX7_setRow_38 rfl trivial ?_
  refine g_iload_n (pc := 39) dX7_setRow_39 rfl ?_
  refine g_iload_n (pc := 40) dX7_setRow_40 rfl ?_
  refine g_lload_n (pc := 41) dX7_setRow_41 rfl ?_
  refine g_aload_n (pc := 42) dX7_setRow_42 rfl trivial ?_
  refine g_invV_r (pc := 43) (As := []) dX7_setRow_43 rfl (r_all h1) rfl rfl (shK h1.1 rfl) rfl rfl lk_X7_245 rfl (nb rfl) ⟨nb rfl, nb rfl⟩ rfl ?_
  refine g_land (pc := 46) dX7_setRow_46 ?_
  rw [uL_low]
  refine g_invV_r (pc := 47) (As := [_, _, _]) dX7_setRow_47 rfl (q2) rfl rfl (shK h1.1 rfl) rfl rfl lk_X7_318 rfl (nb rfl) ⟨nb rfl, nb rfl⟩ rfl ?_
  refine g_aload_n (pc := 50) dX7_setRow_50 rfl trivial ?_
  refine g_iload_n (pc := 51) dX7_setRow_51 rfl ?_
  refine g_invV_r (pc := 52) (As := [_]) dX7_setRow_52 rfl (q3) rfl rfl (shK h2.1 rfl) rfl rfl lk_X7_204 rfl (nb rfl) ⟨nb rfl, nb rfl⟩ rfl ?_
  refine g_iload (pc := 55) dX7_setRow_55 rfl ?_
  refine g_ireturn (pc := 57) dX7_setRow_57 rfl rfl ?_
  exact ⟨rfl, rfl⟩
theorem t_setRow {v w : Int32} {x : Int64} (h : Rr M n A) (hx : ¬ (inR v 6 ∧ inR w n)) : EvR l jX7_setRow 4 160 0 0 [.ref 198, .int v, .int w, .long x] M (.inl (some (.int 0))) (thr M 1) := by
  have hS := h.1
  refine ev_intro rfl (nb rfl) rfl ?_
  refine g_aload_n (pc := 0) dX7_setRow_0 rfl trivial ?_
  refine g_aload_n (pc := 1) dX7_setRow_1 rfl trivial ?_
  refine g_iload_n (pc := 2) dX7_setRow_2 rfl ?_
  refine g_iload_n (pc := 3) dX7_setRow_3 rfl ?_
  refine g_invV_r (pc := 4) (As := [_, _]) dX7_setRow_4 rfl (r_areIn_f h hx) rfl rfl (shK hS rfl) rfl rfl lk_X7_223 rfl (nb rfl) ⟨nb rfl, nb rfl⟩ rfl ?_
  refine g_iconst (pc := 7) (v := 1) dX7_setRow_7 rfl ?_
  refine g_invV_r (pc := 8) (As := [_, _]) dX7_setRow_8 rfl (r_isThrown_1 hS) rfl rfl (shK hS rfl) rfl rfl lk_X7_209 rfl (nb rfl) ⟨nb rfl, nb rfl⟩ rfl ?_
  refine g_if_eq (pc := 11) (tgt := 16) dX7_setRow_11 rfl (fun h11 => absurd h11 ((by decide))) (fun _ => ?_)
  refine g_iconst (pc := 14) (v := 0) dX7_setRow_14 rfl ?_
  refine g_ireturn (pc := 15) dX7_setRow_15 rfl rfl ?_
  exact ⟨rfl, rfl⟩
theorem n_copy {s t : Nat} (h : Rr M n A) (hc : mI M 198 5 = nI c) (hc8 : c ≤ 8) (hs : s < 6) (ht : t < 6) : EvR l jX7_copy 4 160 0 0 [.ref 198, .int (nI s), .int (nI t)] M (.inl (some (.int (onesF (A s) n)))) (lsM (hdM (k0M M c) 205 n (A s)) t n (A s)) := by
  have hn := h.2.2.2.1
  have hS := h.1
  have q1 := r_k0 (l := l) h hc hc8
  have h1 : Rr (k0M M c) n A := k0M_R h
  have q2 := r_takes (l := l) (x := 205) h1 hs (Or.inl rfl)
  have h2 : Rr (hdM (k0M M c) 205 n (A s)) n A := h1.hd (Or.inl rfl)
  have q3 := r_lays (l := l) (x := 205) (f := A s) h2 ht (shK h2.1 rfl) (by decide) (fun i hi => hdM_at hi)
  generalize lsM (hdM (k0M M c) 205 n (A s)) t n (A s) = M3 at *
  generalize hdM (k0M M c) 205 n (A s) = M2 at *
  generalize k0M M c = M1 at *
  refine ev_intro rfl (nb rfl) rfl ?_
  refine g_aload_n (pc := 0) dX7_copy_0 rfl trivial ?_
  refine g_iload_n (pc := 1) dX7_copy_1 rfl ?_
  refine g_invS_r (pc := 2) (As := [_]) dX7_copy_2 rfl (r_isSlot_t (in6 hs)) rfl rfl lk_X7_216 rfl (nb rfl) ⟨nb rfl, nb rfl⟩ rfl ?_
  refine g_if_eq (pc := 5) (tgt := 19) dX7_copy_5 rfl (fun h5 => absurd h5 ((by decide))) (fun _ => ?_)
  refine g_iload_n (pc := 8) dX7_copy_8 rfl ?_
  refine g_invS_r (pc := 9) (As := [_]) dX7_copy_9 rfl (r_isSlot_t (in6 ht)) rfl rfl lk_X7_216 rfl (nb rfl) ⟨nb rfl, nb rfl⟩ rfl ?_
  refine g_if_eq (pc := 12) (tgt := 19) dX7_copy_12 rfl (fun h12 => absurd h12 ((by decide))) (fun _ => ?_)
  refine g_iconst (pc := 15) (v := 1) dX7_copy_15 rfl ?_
  refine g_goto (pc := 16) (tgt := 20) dX7_copy_16 rfl ?_
  refine g_iconst (pc := 20) (v := 1) dX7_copy_20 rfl ?_
  refine g_invV_r (pc := 21) (As := [_, _]) dX7_copy_21 rfl (r_isThrown_0 hS) rfl rfl (shK hS rfl) rfl rfl lk_X7_209 rfl (nb rfl) ⟨nb rfl, nb rfl⟩ rfl ?_
  refine g_if_eq (pc := 24) (tgt := 29) dX7_copy_24 rfl (fun _ => ?_) (fun h24 => absurd (rfl) h24)
  refine g_aload_n (pc := 29) dX7_copy_29 rfl trivial ?_
  refine g_invV_r (pc := 30) (As := []) dX7_copy_30 rfl (q1) rfl rfl (shK (h.thr (x := 0)).1 rfl) rfl rfl lk_X7_315 rfl (nb rfl) ⟨nb rfl, nb rfl⟩ rfl ?_
  refine g_aload_n (pc := 33) dX7_copy_33 rfl trivial ?_
  refine g_iload_n (pc := 34) dX7_copy_34 rfl ?_
  refine g_aload_n (pc := 35) dX7_copy_35 rfl trivial ?_
  refine g_getf (pc := 36) dX7_copy_36 fk_X7_34 (shK h1.1 rfl) (fv_arr (shR h1.1 rfl)) ?_
  refine g_invV_r (pc := 39) (As := [_, _]) dX7_copy_39 rfl (q2) rfl rfl (shK h1.1 rfl) rfl rfl lk_X7_252 rfl (nb rfl) ⟨nb rfl, nb rfl⟩ rfl ?_
  refine g_aload_n (pc := 42) dX7_copy_42 rfl trivial ?_
  refine g_aload_n (pc := 43) dX7_copy_43 rfl trivial ?_
  refine g_getf (pc := 44) dX7_copy_44 fk_X7_34 (shK h2.1 rfl) (fv_arr (shR h2.1 rfl)) ?_
  refine g_iload_n (pc := 47) dX7_copy_47 rfl ?_
  refine g_invV_r (pc := 48) (As := [_, _]) dX7_copy_48 rfl (q3) rfl rfl (shK h2.1 rfl) rfl rfl lk_X7_322 rfl (nb rfl) ⟨nb rfl, nb rfl⟩ rfl ?_
  refine g_ireturn (pc := 51) dX7_copy_51 rfl rfl ?_
  exact ⟨rfl, rfl⟩
theorem t_copy {v w : Int32} (h : Rr M n A) (hx : ¬ (inR v 6 ∧ inR w 6)) : EvR l jX7_copy 4 160 0 0 [.ref 198, .int v, .int w] M (.inl (some (.int 0))) (thr M 1) := by
  have hS := h.1
  refine ev_intro rfl (nb rfl) rfl ?_
  by_cases h1 : inR v 6
  · refine g_aload_n (pc := 0) dX7_copy_0 rfl trivial ?_
    refine g_iload_n (pc := 1) dX7_copy_1 rfl ?_
    refine g_invS_r (pc := 2) (As := [_]) dX7_copy_2 rfl (r_isSlot_t h1) rfl rfl lk_X7_216 rfl (nb rfl) ⟨nb rfl, nb rfl⟩ rfl ?_
    refine g_if_eq (pc := 5) (tgt := 19) dX7_copy_5 rfl (fun h5 => absurd h5 ((by decide))) (fun _ => ?_)
    refine g_iload_n (pc := 8) dX7_copy_8 rfl ?_
    refine g_invS_r (pc := 9) (As := [_]) dX7_copy_9 rfl (r_isSlot_f (fun q => hx ⟨h1, q⟩)) rfl rfl lk_X7_216 rfl (nb rfl) ⟨nb rfl, nb rfl⟩ rfl ?_
    refine g_if_eq (pc := 12) (tgt := 19) dX7_copy_12 rfl (fun _ => ?_) (fun h12 => absurd (rfl) h12)
    refine g_iconst (pc := 19) (v := 0) dX7_copy_19 rfl ?_
    refine g_iconst (pc := 20) (v := 1) dX7_copy_20 rfl ?_
    refine g_invV_r (pc := 21) (As := [_, _]) dX7_copy_21 rfl (r_isThrown_1 hS) rfl rfl (shK hS rfl) rfl rfl lk_X7_209 rfl (nb rfl) ⟨nb rfl, nb rfl⟩ rfl ?_
    refine g_if_eq (pc := 24) (tgt := 29) dX7_copy_24 rfl (fun h24 => absurd h24 ((by decide))) (fun _ => ?_)
    refine g_iconst (pc := 27) (v := 0) dX7_copy_27 rfl ?_
    refine g_ireturn (pc := 28) dX7_copy_28 rfl rfl ?_
    exact ⟨rfl, rfl⟩
  · refine g_aload_n (pc := 0) dX7_copy_0 rfl trivial ?_
    refine g_iload_n (pc := 1) dX7_copy_1 rfl ?_
    refine g_invS_r (pc := 2) (As := [_]) dX7_copy_2 rfl (r_isSlot_f h1) rfl rfl lk_X7_216 rfl (nb rfl) ⟨nb rfl, nb rfl⟩ rfl ?_
    refine g_if_eq (pc := 5) (tgt := 19) dX7_copy_5 rfl (fun _ => ?_) (fun h5 => absurd (rfl) h5)
    refine g_iconst (pc := 19) (v := 0) dX7_copy_19 rfl ?_
    refine g_iconst (pc := 20) (v := 1) dX7_copy_20 rfl ?_
    refine g_invV_r (pc := 21) (As := [_, _]) dX7_copy_21 rfl (r_isThrown_1 hS) rfl rfl (shK hS rfl) rfl rfl lk_X7_209 rfl (nb rfl) ⟨nb rfl, nb rfl⟩ rfl ?_
    refine g_if_eq (pc := 24) (tgt := 29) dX7_copy_24 rfl (fun h24 => absurd h24 ((by decide))) (fun _ => ?_)
    refine g_iconst (pc := 27) (v := 0) dX7_copy_27 rfl ?_
    refine g_ireturn (pc := 28) dX7_copy_28 rfl rfl ?_
    exact ⟨rfl, rfl⟩
theorem sh_b1i : ∀ b : Bool, ∀ c, c < 32 → (b1 b).toInt64 <<< ((nI c).toInt64 &&& 63) = uL (b1 b <<< (nI c &&& 31)) := by decide +kernel
def trF (f : Nat → Int32) (n : Nat) : Nat → Int32 := fun r => colOf f r n
theorem n_transpose {s t : Nat} (h : Rr M n A) (hc : mI M 198 5 = nI c) (hc8 : c ≤ 8) (hs : s < 6) (ht : t < 6) : EvR l jX7_transpose 4 160 0 0 [.ref 198, .int (nI s), .int (nI t)] M (.inl (some (.int (onesF (trF (A s) n) n)))) (lsM (hdM (k0M M c) 205 n (trF (A s) n)) t n (trF (A s) n)) := by
  have hn := h.2.2.2.1
  have hS := h.1
  have q1 := r_k0 (l := l) h hc hc8
  have h1 : Rr (k0M M c) n A := k0M_R h
  have h2 : Rr (hdM (k0M M c) 205 n (trF (A s) n)) n A := h1.hd (Or.inl rfl)
  have q3 := r_lays (l := l) (x := 205) (f := trF (A s) n) h2 ht (shK h2.1 rfl) (by decide) (fun i hi => hdM_at hi)
  generalize lsM (hdM (k0M M c) 205 n (trF (A s) n)) t n (trF (A s) n) = M3 at *
  generalize k0M M c = M1 at *
  refine ev_intro rfl (nb rfl) rfl ?_
  refine g_aload_n (pc := 0) dX7_transpose_0 rfl trivial ?_
  refine g_iload_n (pc := 1) dX7_transpose_1 rfl ?_
  refine g_invS_r (pc := 2) (As := [_]) dX7_transpose_2 rfl (r_isSlot_t (in6 hs)) rfl rfl lk_X7_216 rfl (nb rfl) ⟨nb rfl, nb rfl⟩ rfl ?_
  refine g_if_eq (pc := 5) (tgt := 19) dX7_transpose_5 rfl (fun h5 => absurd h5 ((by decide))) (fun _ => ?_)
  refine g_iload_n (pc := 8) dX7_transpose_8 rfl ?_
  refine g_invS_r (pc := 9) (As := [_]) dX7_transpose_9 rfl (r_isSlot_t (in6 ht)) rfl rfl lk_X7_216 rfl (nb rfl) ⟨nb rfl, nb rfl⟩ rfl ?_
  refine g_if_eq (pc := 12) (tgt := 19) dX7_transpose_12 rfl (fun h12 => absurd h12 ((by decide))) (fun _ => ?_)
  refine g_iconst (pc := 15) (v := 1) dX7_transpose_15 rfl ?_
  refine g_goto (pc := 16) (tgt := 20) dX7_transpose_16 rfl ?_
  refine g_iconst (pc := 20) (v := 1) dX7_transpose_20 rfl ?_
  refine g_invV_r (pc := 21) (As := [_, _]) dX7_transpose_21 rfl (r_isThrown_0 hS) rfl rfl (shK hS rfl) rfl rfl lk_X7_209 rfl (nb rfl) ⟨nb rfl, nb rfl⟩ rfl ?_
  refine g_if_eq (pc := 24) (tgt := 29) dX7_transpose_24 rfl (fun _ => ?_) (fun h24 => absurd (rfl) h24)
  refine g_aload_n (pc := 29) dX7_transpose_29 rfl trivial ?_
  refine g_invV_r (pc := 30) (As := []) dX7_transpose_30 rfl (q1) rfl rfl (shK (h.thr (x := 0)).1 rfl) rfl rfl lk_X7_315 rfl (nb rfl) ⟨nb rfl, nb rfl⟩ rfl ?_
  refine g_iconst (pc := 33) (v := 0) dX7_transpose_33 rfl ?_
  refine g_istore_n (pc := 34) (lv' := [(0, _), (1, _), (2, _), (3, _)]) dX7_transpose_34 (nl rfl) rfl ?_
  refine go_loop (pc := 35) n (fun i => [(0, .ref 198), (1, .int (nI s)), (2, .int (nI t)), (3, .int (nI i))]) (fun i => sL M1 205 (wr (mL M1 205) (uR (trF (A s) n)) i)) ⟨rfl, rfl, rfl, rfl, trivial⟩ (sL_eq (wr_0 _ _)) ?_ ?_
  · intro r hr ih
    have h4 : Rr (sL M1 205 (wr (mL M1 205) (uR (trF (A s) n)) r)) n A := h1.sL (by decide)
    have ew : wr (mL M1 205) (uR (trF (A s) n)) (r + 1) = fun_set (wr (mL M1 205) (uR (trF (A s) n)) r) r (uL (colOf (A s) r n)) := (wr_s _ _ _).symm
    rw [ew] at ih
    generalize wr (mL M1 205) (uR (trF (A s) n)) r = g at *
    refine g_iload_n (pc := 35) dX7_transpose_35 rfl ?_
    refine g_aload_n (pc := 36) dX7_transpose_36 rfl trivial ?_
    refine g_invV_r (pc := 37) (As := []) dX7_transpose_37 rfl (r_size h4) rfl rfl (shK h4.1 rfl) rfl rfl lk_X7_71 rfl (nb rfl) ⟨nb rfl, nb rfl⟩ rfl ?_
    refine g_icmp_ge (pc := 40) (tgt := 98) dX7_transpose_40 rfl (fun h40 => absurd h40 (nI_ge hr (by omega))) (fun _ => ?_)
    refine g_aload_n (pc := 43) dX7_transpose_43 rfl trivial ?_
    refine g_getf (pc := 44) dX7_transpose_44 fk_X7_34 (shK h4.1 rfl) (fv_arr (shR h4.1 rfl)) ?_
    refine g_iload_n (pc := 47) dX7_transpose_47 rfl ?_
    refine g_lconst (pc := 48) (v := 0) dX7_transpose_48 rfl ?_
    refine g_lastore (pc := 49) dX7_transpose_49 (shK h4.1 rfl) rfl (by omega) (nl rfl) ?_
    refine g_iconst (pc := 50) (v := 0) dX7_transpose_50 rfl ?_
    refine g_istore (pc := 51) (lv' := [(0, _), (1, _), (2, _), (3, _), (4, _)]) dX7_transpose_51 (nl rfl) rfl ?_
    refine go_loop (pc := 53) n (fun i => [(0, .ref 198), (1, .int (nI s)), (2, .int (nI t)), (3, .int (nI r)), (4, .int (nI i))]) (fun i => sL M1 205 (fun_set g r (uL (colOf (A s) r i)))) ⟨rfl, rfl, rfl, rfl, rfl, trivial⟩ (sL_st (by rw [colOf, uL_0])) ?_ ?_
    · intro i hi ih2
      have h5 : Rr (sL M1 205 (fun_set g r (uL (colOf (A s) r i)))) n A := h1.sL (by decide)
      have e5 : mL (sL M1 205 (fun_set g r (uL (colOf (A s) r i)))) 205 r = uL (colOf (A s) r i) := by rw [sL_self, fs_self]
      rw [colOf] at ih2
      generalize colOf (A s) r i = x at *
      refine g_iload (pc := 53) dX7_transpose_53 rfl ?_
      refine g_aload_n (pc := 55) dX7_transpose_55 rfl trivial ?_
      refine g_invV_r (pc := 56) (As := []) dX7_transpose_56 rfl (r_size h5) rfl rfl (shK h5.1 rfl) rfl rfl lk_X7_71 rfl (nb rfl) ⟨nb rfl, nb rfl⟩ rfl ?_
      refine g_icmp_ge (pc := 59) (tgt := 92) dX7_transpose_59 rfl (fun h59 => absurd h59 (nI_ge hi (by omega))) (fun _ => ?_)
      refine g_aload_n (pc := 62) dX7_transpose_62 rfl trivial ?_
      refine g_getf (pc := 63) dX7_transpose_63 fk_X7_34 (shK h5.1 rfl) (fv_arr (shR h5.1 rfl)) ?_
      refine g_iload_n (pc := 66) dX7_transpose_66 rfl ?_
      refine g_dup2_11 (pc := 67) dX7_transpose_67 rfl rfl ?_
      refine g_laload (pc := 68) dX7_transpose_68 (shK h5.1 rfl) rfl (by omega) (nl rfl) ?_
      rw [e5]
      refine g_aload_n (pc := 69) dX7_transpose_69 rfl trivial ?_
      refine g_iload_n (pc := 70) dX7_transpose_70 rfl ?_
      refine g_iload (pc := 71) dX7_transpose_71 rfl ?_
      refine g_invV_r (pc := 73) (As := [_, _]) dX7_transpose_73 rfl (r_rowOf h5 hs hi) rfl rfl (shK h5.1 rfl) rfl rfl lk_X7_227 rfl (nb rfl) ⟨nb rfl, nb rfl⟩ rfl ?_
      refine g_iload_n (pc := 76) dX7_transpose_76 rfl ?_
      refine g_invS_r (pc := 77) (As := [_, _]) dX7_transpose_77 rfl (r_one (show r < 32 by omega)) rfl rfl lk_X7_231 rfl (nb rfl) ⟨nb rfl, nb rfl⟩ rfl ?_
      refine g_i2l (pc := 80) dX7_transpose_80 rfl ?_
      refine g_iload (pc := 81) dX7_transpose_81 rfl ?_
      refine g_lshl (pc := 83) dX7_transpose_83 rfl ?_
      rw [sh_b1i _ i (by omega)]
      refine g_lor (pc := 84) dX7_transpose_84 ?_
      rw [uL_or]
      refine g_lastore (pc := 85) dX7_transpose_85 (shK h5.1 rfl) rfl (by omega) (nl rfl) ?_
      refine g_iinc (pc := 86) (lv' := [(0, _), (1, _), (2, _), (3, _), (4, _)]) dX7_transpose_86 rfl (nI_1 _) (nl rfl) rfl ?_
      refine g_goto (pc := 89) (tgt := 53) dX7_transpose_89 rfl ?_
      exact go_cast (sL_st (by rw [fs_twice])) ih2
    · have h5 : Rr (sL M1 205 (fun_set g r (uL (colOf (A s) r n)))) n A := h1.sL (by decide)
      refine g_iload (pc := 53) dX7_transpose_53 rfl ?_
      refine g_aload_n (pc := 55) dX7_transpose_55 rfl trivial ?_
      refine g_invV_r (pc := 56) (As := []) dX7_transpose_56 rfl (r_size h5) rfl rfl (shK h5.1 rfl) rfl rfl lk_X7_71 rfl (nb rfl) ⟨nb rfl, nb rfl⟩ rfl ?_
      refine g_icmp_ge (pc := 59) (tgt := 92) dX7_transpose_59 rfl (fun _ => ?_) (fun h59 => absurd (nI_le (Nat.le_refl _) (by omega)) h59)
      refine g_iinc (pc := 92) (lv' := [(0, _), (1, _), (2, _), (3, _), (4, _)]) dX7_transpose_92 rfl (nI_1 _) (nl rfl) rfl ?_
      refine g_goto (pc := 95) (tgt := 35) dX7_transpose_95 rfl ?_
      exact g_sub (lv' := [(0, _), (1, _), (2, _), (3, _)]) ⟨rfl, rfl, rfl, rfl, trivial⟩ ih
  · have h2 : Rr (sL M1 205 (wr (mL M1 205) (uR (trF (A s) n)) n)) n A := h2
    have q3 : EvR l jX7_lays 2 60 0 0 [.ref 198, .ref 205, .int (nI t)] (sL M1 205 (wr (mL M1 205) (uR (trF (A s) n)) n)) (.inl (some (.int (onesF (trF (A s) n) n)))) M3 := q3
    generalize sL M1 205 (wr (mL M1 205) (uR (trF (A s) n)) n) = M2 at *
    refine g_iload_n (pc := 35) dX7_transpose_35 rfl ?_
    refine g_aload_n (pc := 36) dX7_transpose_36 rfl trivial ?_
    refine g_invV_r (pc := 37) (As := []) dX7_transpose_37 rfl (r_size h2) rfl rfl (shK h2.1 rfl) rfl rfl lk_X7_71 rfl (nb rfl) ⟨nb rfl, nb rfl⟩ rfl ?_
    refine g_icmp_ge (pc := 40) (tgt := 98) dX7_transpose_40 rfl (fun _ => ?_) (fun h40 => absurd (nI_le (Nat.le_refl _) (by omega)) h40)
    refine g_aload_n (pc := 98) dX7_transpose_98 rfl trivial ?_
    refine g_aload_n (pc := 99) dX7_transpose_99 rfl trivial ?_
    refine g_getf (pc := 100) dX7_transpose_100 fk_X7_34 (shK h2.1 rfl) (fv_arr (shR h2.1 rfl)) ?_
    refine g_iload_n (pc := 103) dX7_transpose_103 rfl ?_
    refine g_invV_r (pc := 104) (As := [_, _]) dX7_transpose_104 rfl (q3) rfl rfl (shK h2.1 rfl) rfl rfl lk_X7_322 rfl (nb rfl) ⟨nb rfl, nb rfl⟩ rfl ?_
    refine g_ireturn (pc := 107) dX7_transpose_107 rfl rfl ?_
    exact ⟨rfl, rfl⟩
theorem t_transpose {v w : Int32} (h : Rr M n A) (hx : ¬ (inR v 6 ∧ inR w 6)) : EvR l jX7_transpose 4 160 0 0 [.ref 198, .int v, .int w] M (.inl (some (.int 0))) (thr M 1) := by
  have hS := h.1
  refine ev_intro rfl (nb rfl) rfl ?_
  by_cases h1 : inR v 6
  · refine g_aload_n (pc := 0) dX7_transpose_0 rfl trivial ?_
    refine g_iload_n (pc := 1) dX7_transpose_1 rfl ?_
    refine g_invS_r (pc := 2) (As := [_]) dX7_transpose_2 rfl (r_isSlot_t h1) rfl rfl lk_X7_216 rfl (nb rfl) ⟨nb rfl, nb rfl⟩ rfl ?_
    refine g_if_eq (pc := 5) (tgt := 19) dX7_transpose_5 rfl (fun h5 => absurd h5 ((by decide))) (fun _ => ?_)
    refine g_iload_n (pc := 8) dX7_transpose_8 rfl ?_
    refine g_invS_r (pc := 9) (As := [_]) dX7_transpose_9 rfl (r_isSlot_f (fun q => hx ⟨h1, q⟩)) rfl rfl lk_X7_216 rfl (nb rfl) ⟨nb rfl, nb rfl⟩ rfl ?_
    refine g_if_eq (pc := 12) (tgt := 19) dX7_transpose_12 rfl (fun _ => ?_) (fun h12 => absurd (rfl) h12)
    refine g_iconst (pc := 19) (v := 0) dX7_transpose_19 rfl ?_
    refine g_iconst (pc := 20) (v := 1) dX7_transpose_20 rfl ?_
    refine g_invV_r (pc := 21) (As := [_, _]) dX7_transpose_21 rfl (r_isThrown_1 hS) rfl rfl (shK hS rfl) rfl rfl lk_X7_209 rfl (nb rfl) ⟨nb rfl, nb rfl⟩ rfl ?_
    refine g_if_eq (pc := 24) (tgt := 29) dX7_transpose_24 rfl (fun h24 => absurd h24 ((by decide))) (fun _ => ?_)
    refine g_iconst (pc := 27) (v := 0) dX7_transpose_27 rfl ?_
    refine g_ireturn (pc := 28) dX7_transpose_28 rfl rfl ?_
    exact ⟨rfl, rfl⟩
  · refine g_aload_n (pc := 0) dX7_transpose_0 rfl trivial ?_
    refine g_iload_n (pc := 1) dX7_transpose_1 rfl ?_
    refine g_invS_r (pc := 2) (As := [_]) dX7_transpose_2 rfl (r_isSlot_f h1) rfl rfl lk_X7_216 rfl (nb rfl) ⟨nb rfl, nb rfl⟩ rfl ?_
    refine g_if_eq (pc := 5) (tgt := 19) dX7_transpose_5 rfl (fun _ => ?_) (fun h5 => absurd (rfl) h5)
    refine g_iconst (pc := 19) (v := 0) dX7_transpose_19 rfl ?_
    refine g_iconst (pc := 20) (v := 1) dX7_transpose_20 rfl ?_
    refine g_invV_r (pc := 21) (As := [_, _]) dX7_transpose_21 rfl (r_isThrown_1 hS) rfl rfl (shK hS rfl) rfl rfl lk_X7_209 rfl (nb rfl) ⟨nb rfl, nb rfl⟩ rfl ?_
    refine g_if_eq (pc := 24) (tgt := 29) dX7_transpose_24 rfl (fun h24 => absurd h24 ((by decide))) (fun _ => ?_)
    refine g_iconst (pc := 27) (v := 0) dX7_transpose_27 rfl ?_
    refine g_ireturn (pc := 28) dX7_transpose_28 rfl rfl ?_
    exact ⟨rfl, rfl⟩
theorem n_close {s t : Nat} (h : Rr M n A) (hc : mI M 198 5 = nI c) (hc8 : c ≤ 8) (hs : s < 6) (ht : t < 6) : EvR l jX7_close 4 160 0 0 [.ref 198, .int (nI s), .int (nI t)] M (.inl (some (.int (onesF (wOut (A s) n n) n)))) (lsM (hdM (k0M M c) 205 n (wOut (A s) n n)) t n (wOut (A s) n n)) := by
  have hn := h.2.2.2.1
  have hS := h.1
  have q1 := r_k0 (l := l) h hc hc8
  have h1 : Rr (k0M M c) n A := k0M_R h
  have q2 := r_closure (l := l) h1 hs
  have h2 : Rr (hdM (k0M M c) 205 n (wOut (A s) n n)) n A := h1.hd (Or.inl rfl)
  have q3 := r_lays (l := l) (x := 205) (f := wOut (A s) n n) h2 ht (shK h2.1 rfl) (by decide) (fun i hi => hdM_at hi)
  generalize lsM (hdM (k0M M c) 205 n (wOut (A s) n n)) t n (wOut (A s) n n) = M3 at *
  generalize hdM (k0M M c) 205 n (wOut (A s) n n) = M2 at *
  generalize k0M M c = M1 at *
  refine ev_intro rfl (nb rfl) rfl ?_
  refine g_aload_n (pc := 0) dX7_close_0 rfl trivial ?_
  refine g_iload_n (pc := 1) dX7_close_1 rfl ?_
  refine g_invS_r (pc := 2) (As := [_]) dX7_close_2 rfl (r_isSlot_t (in6 hs)) rfl rfl lk_X7_216 rfl (nb rfl) ⟨nb rfl, nb rfl⟩ rfl ?_
  refine g_if_eq (pc := 5) (tgt := 19) dX7_close_5 rfl (fun h5 => absurd h5 ((by decide))) (fun _ => ?_)
  refine g_iload_n (pc := 8) dX7_close_8 rfl ?_
  refine g_invS_r (pc := 9) (As := [_]) dX7_close_9 rfl (r_isSlot_t (in6 ht)) rfl rfl lk_X7_216 rfl (nb rfl) ⟨nb rfl, nb rfl⟩ rfl ?_
  refine g_if_eq (pc := 12) (tgt := 19) dX7_close_12 rfl (fun h12 => absurd h12 ((by decide))) (fun _ => ?_)
  refine g_iconst (pc := 15) (v := 1) dX7_close_15 rfl ?_
  refine g_goto (pc := 16) (tgt := 20) dX7_close_16 rfl ?_
  refine g_iconst (pc := 20) (v := 1) dX7_close_20 rfl ?_
  refine g_invV_r (pc := 21) (As := [_, _]) dX7_close_21 rfl (r_isThrown_0 hS) rfl rfl (shK hS rfl) rfl rfl lk_X7_209 rfl (nb rfl) ⟨nb rfl, nb rfl⟩ rfl ?_
  refine g_if_eq (pc := 24) (tgt := 29) dX7_close_24 rfl (fun _ => ?_) (fun h24 => absurd (rfl) h24)
  refine g_aload_n (pc := 29) dX7_close_29 rfl trivial ?_
  refine g_invV_r (pc := 30) (As := []) dX7_close_30 rfl (q1) rfl rfl (shK (h.thr (x := 0)).1 rfl) rfl rfl lk_X7_315 rfl (nb rfl) ⟨nb rfl, nb rfl⟩ rfl ?_
  refine g_aload_n (pc := 33) dX7_close_33 rfl trivial ?_
  refine g_iload_n (pc := 34) dX7_close_34 rfl ?_
  refine g_invV_r (pc := 35) (As := [_]) dX7_close_35 rfl (q2) rfl rfl (shK h1.1 rfl) rfl rfl lk_X7_260 rfl (nb rfl) ⟨nb rfl, nb rfl⟩ rfl ?_
  refine g_aload_n (pc := 38) dX7_close_38 rfl trivial ?_
  refine g_aload_n (pc := 39) dX7_close_39 rfl trivial ?_
  refine g_getf (pc := 40) dX7_close_40 fk_X7_34 (shK h2.1 rfl) (fv_arr (shR h2.1 rfl)) ?_
  refine g_iload_n (pc := 43) dX7_close_43 rfl ?_
  refine g_invV_r (pc := 44) (As := [_, _]) dX7_close_44 rfl (q3) rfl rfl (shK h2.1 rfl) rfl rfl lk_X7_322 rfl (nb rfl) ⟨nb rfl, nb rfl⟩ rfl ?_
  refine g_ireturn (pc := 47) dX7_close_47 rfl rfl ?_
  exact ⟨rfl, rfl⟩
theorem t_close {v w : Int32} (h : Rr M n A) (hx : ¬ (inR v 6 ∧ inR w 6)) : EvR l jX7_close 4 160 0 0 [.ref 198, .int v, .int w] M (.inl (some (.int 0))) (thr M 1) := by
  have hS := h.1
  refine ev_intro rfl (nb rfl) rfl ?_
  by_cases h1 : inR v 6
  · refine g_aload_n (pc := 0) dX7_close_0 rfl trivial ?_
    refine g_iload_n (pc := 1) dX7_close_1 rfl ?_
    refine g_invS_r (pc := 2) (As := [_]) dX7_close_2 rfl (r_isSlot_t h1) rfl rfl lk_X7_216 rfl (nb rfl) ⟨nb rfl, nb rfl⟩ rfl ?_
    refine g_if_eq (pc := 5) (tgt := 19) dX7_close_5 rfl (fun h5 => absurd h5 ((by decide))) (fun _ => ?_)
    refine g_iload_n (pc := 8) dX7_close_8 rfl ?_
    refine g_invS_r (pc := 9) (As := [_]) dX7_close_9 rfl (r_isSlot_f (fun q => hx ⟨h1, q⟩)) rfl rfl lk_X7_216 rfl (nb rfl) ⟨nb rfl, nb rfl⟩ rfl ?_
    refine g_if_eq (pc := 12) (tgt := 19) dX7_close_12 rfl (fun _ => ?_) (fun h12 => absurd (rfl) h12)
    refine g_iconst (pc := 19) (v := 0) dX7_close_19 rfl ?_
    refine g_iconst (pc := 20) (v := 1) dX7_close_20 rfl ?_
    refine g_invV_r (pc := 21) (As := [_, _]) dX7_close_21 rfl (r_isThrown_1 hS) rfl rfl (shK hS rfl) rfl rfl lk_X7_209 rfl (nb rfl) ⟨nb rfl, nb rfl⟩ rfl ?_
    refine g_if_eq (pc := 24) (tgt := 29) dX7_close_24 rfl (fun h24 => absurd h24 ((by decide))) (fun _ => ?_)
    refine g_iconst (pc := 27) (v := 0) dX7_close_27 rfl ?_
    refine g_ireturn (pc := 28) dX7_close_28 rfl rfl ?_
    exact ⟨rfl, rfl⟩
  · refine g_aload_n (pc := 0) dX7_close_0 rfl trivial ?_
    refine g_iload_n (pc := 1) dX7_close_1 rfl ?_
    refine g_invS_r (pc := 2) (As := [_]) dX7_close_2 rfl (r_isSlot_f h1) rfl rfl lk_X7_216 rfl (nb rfl) ⟨nb rfl, nb rfl⟩ rfl ?_
    refine g_if_eq (pc := 5) (tgt := 19) dX7_close_5 rfl (fun _ => ?_) (fun h5 => absurd (rfl) h5)
    refine g_iconst (pc := 19) (v := 0) dX7_close_19 rfl ?_
    refine g_iconst (pc := 20) (v := 1) dX7_close_20 rfl ?_
    refine g_invV_r (pc := 21) (As := [_, _]) dX7_close_21 rfl (r_isThrown_1 hS) rfl rfl (shK hS rfl) rfl rfl lk_X7_209 rfl (nb rfl) ⟨nb rfl, nb rfl⟩ rfl ?_
    refine g_if_eq (pc := 24) (tgt := 29) dX7_close_24 rfl (fun h24 => absurd h24 ((by decide))) (fun _ => ?_)
    refine g_iconst (pc := 27) (v := 0) dX7_close_27 rfl ?_
    refine g_ireturn (pc := 28) dX7_close_28 rfl rfl ?_
    exact ⟨rfl, rfl⟩
theorem r_combined {x y : Int32} {how : Nat} (hh : how < 4) : EvR l jX7_combined 0 0 0 0 [.long (uL x), .long (uL y), .int (nI how)] M (.inl (some (.long (uL (comb x y how))))) M := by
  refine ev_intro rfl (nb rfl) rfl ?_
  rcases (by omega : how = 0 ∨ how = 1 ∨ how = 2 ∨ how = 3) with rfl | rfl | rfl | rfl
  · refine g_iload (pc := 0) dX7_combined_0 rfl ?_
    refine g_tableIn (pc := 2) (tgt := 28) (off := 26) dX7_combined_2 (by decide) (by decide) (by decide) (by decide) ?_
    refine g_lload_n (pc := 28) dX7_combined_28 rfl ?_
    refine g_lload_n (pc := 29) dX7_combined_29 rfl ?_
    refine g_land (pc := 30) dX7_combined_30 ?_
    rw [uL_and]
    refine g_lreturn (pc := 31) dX7_combined_31 rfl ?_
    exact ⟨rfl, rfl⟩
  · refine g_iload (pc := 0) dX7_combined_0 rfl ?_
    refine g_tableIn (pc := 2) (tgt := 32) (off := 30) dX7_combined_2 (by decide) (by decide) (by decide) (by decide) ?_
    refine g_lload_n (pc := 32) dX7_combined_32 rfl ?_
    refine g_lload_n (pc := 33) dX7_combined_33 rfl ?_
    refine g_lor (pc := 34) dX7_combined_34 ?_
    rw [uL_or]
    refine g_lreturn (pc := 35) dX7_combined_35 rfl ?_
    exact ⟨rfl, rfl⟩
  · refine g_iload (pc := 0) dX7_combined_0 rfl ?_
    refine g_tableIn (pc := 2) (tgt := 36) (off := 34) dX7_combined_2 (by decide) (by decide) (by decide) (by decide) ?_
    refine g_lload_n (pc := 36) dX7_combined_36 rfl ?_
    refine g_lload_n (pc := 37) dX7_combined_37 rfl ?_
    refine g_lxor (pc := 38) dX7_combined_38 ?_
    rw [uL_xor]
    refine g_lreturn (pc := 39) dX7_combined_39 rfl ?_
    exact ⟨rfl, rfl⟩
  · refine g_iload (pc := 0) dX7_combined_0 rfl ?_
    refine g_tableOut (pc := 2) (tgt := 40) dX7_combined_2 (by decide) (by decide) ?_
    refine g_lload_n (pc := 40) dX7_combined_40 rfl ?_
    refine g_lload_n (pc := 41) dX7_combined_41 rfl ?_
    refine g_ldc2 (pc := 42) dX7_combined_42 wd_1657 ?_
    refine g_lxor (pc := 45) dX7_combined_45 ?_
    refine g_land (pc := 46) dX7_combined_46 ?_
    rw [uL_not]
    refine g_lreturn (pc := 47) dX7_combined_47 rfl ?_
    exact ⟨rfl, rfl⟩
def cbF (f g : Nat → Int32) (how : Nat) : Nat → Int32 := fun r => comb (f r) (g r) how
theorem n_combine {a b t how : Nat} (h : Rr M n A) (hc : mI M 198 5 = nI c) (hc8 : c ≤ 8) (ha : a < 6) (hb9 : b < 6) (ht : t < 6) (hh : how < 4) : EvR l jX7_combine 4 160 0 0 [.ref 198, .int (nI a), .int (nI b), .int (nI t), .int (nI how)] M (.inl (some (.int (onesF (cbF (A a) (A b) how) n)))) (lsM (hdM (k0M M c) 205 n (cbF (A a) (A b) how)) t n (cbF (A a) (A b) how)) := by
  have hn := h.2.2.2.1
  have hS := h.1
  have h' := h.thr (x := 0)
  have hhow : (0 : Int64) ≤ (nI how).toInt64 ∧ (nI how).toInt64 ≤ lN 3 := (inR_long (k := 3) (by decide)).mpr (inR_nI (by omega) (by decide))
  have q1 : EvR l jX7_keeps 1 30 0 0 [.ref 198] (thr M 0) (.inl none) (k0M M c) := r_k0 (l := l) h hc hc8
  have e2 : thr (thr M 0) 0 = thr M 0 := thr_2
  have h1 : Rr (k0M M c) n A := k0M_R h
  have h2 : Rr (hdM (k0M M c) 205 n (cbF (A a) (A b) how)) n A := h1.hd (Or.inl rfl)
  have q3 := r_lays (l := l) (x := 205) (f := cbF (A a) (A b) how) h2 ht (shK h2.1 rfl) (by decide) (fun i hi => hdM_at hi)
  generalize lsM (hdM (k0M M c) 205 n (cbF (A a) (A b) how)) t n (cbF (A a) (A b) how) = M3 at *
  generalize k0M M c = M1 at *
  refine ev_intro rfl (nb rfl) rfl ?_
  refine g_aload_n (pc := 0) dX7_combine_0 rfl trivial ?_
  refine g_iload_n (pc := 1) dX7_combine_1 rfl ?_
  refine g_invS_r (pc := 2) (As := [_]) dX7_combine_2 rfl (r_isSlot_t (in6 ha)) rfl rfl lk_X7_216 rfl (nb rfl) ⟨nb rfl, nb rfl⟩ rfl ?_
  refine g_if_eq (pc := 5) (tgt := 26) dX7_combine_5 rfl (fun h5 => absurd h5 ((by decide))) (fun _ => ?_)
  refine g_iload_n (pc := 8) dX7_combine_8 rfl ?_
  refine g_invS_r (pc := 9) (As := [_]) dX7_combine_9 rfl (r_isSlot_t (in6 hb9)) rfl rfl lk_X7_216 rfl (nb rfl) ⟨nb rfl, nb rfl⟩ rfl ?_
  refine g_if_eq (pc := 12) (tgt := 26) dX7_combine_12 rfl (fun h12 => absurd h12 ((by decide))) (fun _ => ?_)
  refine g_iload_n (pc := 15) dX7_combine_15 rfl ?_
  refine g_invS_r (pc := 16) (As := [_]) dX7_combine_16 rfl (r_isSlot_t (in6 ht)) rfl rfl lk_X7_216 rfl (nb rfl) ⟨nb rfl, nb rfl⟩ rfl ?_
  refine g_if_eq (pc := 19) (tgt := 26) dX7_combine_19 rfl (fun h19 => absurd h19 ((by decide))) (fun _ => ?_)
  refine g_iconst (pc := 22) (v := 1) dX7_combine_22 rfl ?_
  refine g_goto (pc := 23) (tgt := 27) dX7_combine_23 rfl ?_
  refine g_iconst (pc := 27) (v := 1) dX7_combine_27 rfl ?_
  refine g_invV_r (pc := 28) (As := [_, _]) dX7_combine_28 rfl (r_isThrown_0 hS) rfl rfl (shK hS rfl) rfl rfl lk_X7_209 rfl (nb rfl) ⟨nb rfl, nb rfl⟩ rfl ?_
  refine g_if_ne (pc := 31) (tgt := 52) dX7_combine_31 rfl (fun h31 => absurd h31 ((fun z => z rfl))) (fun _ => ?_)
  refine g_aload_n (pc := 34) dX7_combine_34 rfl trivial ?_
  refine g_iload (pc := 35) dX7_combine_35 rfl ?_
  refine g_i2l (pc := 37) dX7_combine_37 rfl ?_
  refine g_lconst (pc := 38) (v := 0) dX7_combine_38 rfl ?_
  refine g_ldc2 (pc := 39) dX7_combine_39 wd_1424 ?_
  refine g_invS_r (pc := 42) (As := [_, _, _]) dX7_combine_42 rfl (r_in_t hhow.1 hhow.2) rfl rfl lk_X7_67 rfl (nb rfl) ⟨nb rfl, nb rfl⟩ rfl ?_
  refine g_iconst (pc := 45) (v := 2) dX7_combine_45 rfl ?_
  refine g_invV_r (pc := 46) (As := [_, _]) dX7_combine_46 rfl (r_isThrown_0 h'.1) rfl rfl (shK hS rfl) rfl rfl lk_X7_209 rfl (nb rfl) ⟨nb rfl, nb rfl⟩ rfl ?_
  refine go_cast e2 ?_
  refine g_if_eq (pc := 49) (tgt := 54) dX7_combine_49 rfl (fun _ => ?_) (fun h49 => absurd (rfl) h49)
  refine g_aload_n (pc := 54) dX7_combine_54 rfl trivial ?_
  refine g_invV_r (pc := 55) (As := []) dX7_combine_55 rfl (q1) rfl rfl (shK (h.thr (x := 0)).1 rfl) rfl rfl lk_X7_315 rfl (nb rfl) ⟨nb rfl, nb rfl⟩ rfl ?_
  refine g_iconst (pc := 58) (v := 0) dX7_combine_58 rfl ?_
  refine g_istore (pc := 59) (lv' := [(0, _), (1, _), (2, _), (3, _), (4, _), (5, _)]) dX7_combine_59 (nl rfl) rfl ?_
  refine go_loop (pc := 61) n (fun i => [(0, .ref 198), (1, .int (nI a)), (2, .int (nI b)), (3, .int (nI t)), (4, .int (nI how)), (5, .int (nI i))]) (fun i => sL M1 205 (wr (mL M1 205) (uR (cbF (A a) (A b) how)) i)) ⟨rfl, rfl, rfl, rfl, rfl, rfl, trivial⟩ (sL_eq (wr_0 _ _)) ?_ ?_
  · intro i hi ih
    have h4 : Rr (sL M1 205 (wr (mL M1 205) (uR (cbF (A a) (A b) how)) i)) n A := h1.sL (by decide)
    refine g_iload (pc := 61) dX7_combine_61 rfl ?_
    refine g_aload_n (pc := 63) dX7_combine_63 rfl trivial ?_
    refine g_invV_r (pc := 64) (As := []) dX7_combine_64 rfl (r_size h4) rfl rfl (shK h4.1 rfl) rfl rfl lk_X7_71 rfl (nb rfl) ⟨nb rfl, nb rfl⟩ rfl ?_
    refine g_icmp_ge (pc := 67) (tgt := 102) dX7_combine_67 rfl (fun h67 => absurd h67 (nI_ge hi (by omega))) (fun _ => ?_)
    refine g_aload_n (pc := 70) dX7_combine_70 rfl trivial ?_
    refine g_getf (pc := 71) dX7_combine_71 fk_X7_34 (shK h4.1 rfl) (fv_arr (shR h4.1 rfl)) ?_
    refine g_iload (pc := 74) dX7_combine_74 rfl ?_
    refine g_aload_n (pc := 76) dX7_combine_76 rfl trivial ?_
    refine g_iload_n (pc := 77) dX7_combine_77 rfl ?_
    refine g_iload (pc := 78) dX7_combine_78 rfl ?_
    refine g_invV_r (pc := 80) (As := [_, _]) dX7_combine_80 rfl (r_rowOf h4 ha hi) rfl rfl (shK h4.1 rfl) rfl rfl lk_X7_227 rfl (nb rfl) ⟨nb rfl, nb rfl⟩ rfl ?_
    refine g_aload_n (pc := 83) dX7_combine_83 rfl trivial ?_
    refine g_iload_n (pc := 84) dX7_combine_84 rfl ?_
    refine g_iload (pc := 85) dX7_combine_85 rfl ?_
    refine g_invV_r (pc := 87) (As := [_, _]) dX7_combine_87 rfl (r_rowOf h4 hb9 hi) rfl rfl (shK h4.1 rfl) rfl rfl lk_X7_227 rfl (nb rfl) ⟨nb rfl, nb rfl⟩ rfl ?_
    refine g_iload (pc := 90) dX7_combine_90 rfl ?_
    refine g_invS_r (pc := 92) (As := [_, _, _]) dX7_combine_92 rfl (r_combined hh) rfl rfl lk_X7_326 rfl (nb rfl) ⟨nb rfl, nb rfl⟩ rfl ?_
    refine g_lastore (pc := 95) dX7_combine_95 (shK h4.1 rfl) rfl (by omega) (nl rfl) ?_
    refine g_iinc (pc := 96) (lv' := [(0, _), (1, _), (2, _), (3, _), (4, _), (5, _)]) dX7_combine_96 rfl (nI_1 _) (nl rfl) rfl ?_
    refine g_goto (pc := 99) (tgt := 61) dX7_combine_99 rfl ?_
    exact go_cast (sL_st (wr_s _ (uR (cbF (A a) (A b) how)) i)) ih
  · have h2 : Rr (sL M1 205 (wr (mL M1 205) (uR (cbF (A a) (A b) how)) n)) n A := h2
    have q3 : EvR l jX7_lays 2 60 0 0 [.ref 198, .ref 205, .int (nI t)] (sL M1 205 (wr (mL M1 205) (uR (cbF (A a) (A b) how)) n)) (.inl (some (.int (onesF (cbF (A a) (A b) how) n)))) M3 := q3
    generalize sL M1 205 (wr (mL M1 205) (uR (cbF (A a) (A b) how)) n) = M2 at *
    refine g_iload (pc := 61) dX7_combine_61 rfl ?_
    refine g_aload_n (pc := 63) dX7_combine_63 rfl trivial ?_
    refine g_invV_r (pc := 64) (As := []) dX7_combine_64 rfl (r_size h2) rfl rfl (shK h2.1 rfl) rfl rfl lk_X7_71 rfl (nb rfl) ⟨nb rfl, nb rfl⟩ rfl ?_
    refine g_icmp_ge (pc := 67) (tgt := 102) dX7_combine_67 rfl (fun _ => ?_) (fun h67 => absurd (nI_le (Nat.le_refl _) (by omega)) h67)
    refine g_aload_n (pc := 102) dX7_combine_102 rfl trivial ?_
    refine g_aload_n (pc := 103) dX7_combine_103 rfl trivial ?_
    refine g_getf (pc := 104) dX7_combine_104 fk_X7_34 (shK h2.1 rfl) (fv_arr (shR h2.1 rfl)) ?_
    refine g_iload_n (pc := 107) dX7_combine_107 rfl ?_
    refine g_invV_r (pc := 108) (As := [_, _]) dX7_combine_108 rfl (q3) rfl rfl (shK h2.1 rfl) rfl rfl lk_X7_322 rfl (nb rfl) ⟨nb rfl, nb rfl⟩ rfl ?_
    refine g_ireturn (pc := 111) dX7_combine_111 rfl rfl ?_
    exact ⟨rfl, rfl⟩
theorem t_combine {v w u x : Int32} (h : Rr M n A) (hx : ¬ (inR v 6 ∧ inR w 6 ∧ inR u 6)) : EvR l jX7_combine 4 160 0 0 [.ref 198, .int v, .int w, .int u, .int x] M (.inl (some (.int 0))) (thr M 1) := by
  have hS := h.1
  refine ev_intro rfl (nb rfl) rfl ?_
  by_cases h1 : inR v 6
  · by_cases h2 : inR w 6
    · refine g_aload_n (pc := 0) dX7_combine_0 rfl trivial ?_
      refine g_iload_n (pc := 1) dX7_combine_1 rfl ?_
      refine g_invS_r (pc := 2) (As := [_]) dX7_combine_2 rfl (r_isSlot_t h1) rfl rfl lk_X7_216 rfl (nb rfl) ⟨nb rfl, nb rfl⟩ rfl ?_
      refine g_if_eq (pc := 5) (tgt := 26) dX7_combine_5 rfl (fun h5 => absurd h5 ((by decide))) (fun _ => ?_)
      refine g_iload_n (pc := 8) dX7_combine_8 rfl ?_
      refine g_invS_r (pc := 9) (As := [_]) dX7_combine_9 rfl (r_isSlot_t h2) rfl rfl lk_X7_216 rfl (nb rfl) ⟨nb rfl, nb rfl⟩ rfl ?_
      refine g_if_eq (pc := 12) (tgt := 26) dX7_combine_12 rfl (fun h12 => absurd h12 ((by decide))) (fun _ => ?_)
      refine g_iload_n (pc := 15) dX7_combine_15 rfl ?_
      refine g_invS_r (pc := 16) (As := [_]) dX7_combine_16 rfl (r_isSlot_f (fun q => hx ⟨h1, h2, q⟩)) rfl rfl lk_X7_216 rfl (nb rfl) ⟨nb rfl, nb rfl⟩ rfl ?_
      refine g_if_eq (pc := 19) (tgt := 26) dX7_combine_19 rfl (fun _ => ?_) (fun h19 => absurd (rfl) h19)
      refine g_iconst (pc := 26) (v := 0) dX7_combine_26 rfl ?_
      refine g_iconst (pc := 27) (v := 1) dX7_combine_27 rfl ?_
      refine g_invV_r (pc := 28) (As := [_, _]) dX7_combine_28 rfl (r_isThrown_1 hS) rfl rfl (shK hS rfl) rfl rfl lk_X7_209 rfl (nb rfl) ⟨nb rfl, nb rfl⟩ rfl ?_
      refine g_if_ne (pc := 31) (tgt := 52) dX7_combine_31 rfl (fun _ => ?_) (fun h31 => absurd ((by decide)) h31)
      refine g_iconst (pc := 52) (v := 0) dX7_combine_52 rfl ?_
      refine g_ireturn (pc := 53) dX7_combine_53 rfl rfl ?_
      exact ⟨rfl, rfl⟩
    · refine g_aload_n (pc := 0) dX7_combine_0 rfl trivial ?_
      refine g_iload_n (pc := 1) dX7_combine_1 rfl ?_
      refine g_invS_r (pc := 2) (As := [_]) dX7_combine_2 rfl (r_isSlot_t h1) rfl rfl lk_X7_216 rfl (nb rfl) ⟨nb rfl, nb rfl⟩ rfl ?_
      refine g_if_eq (pc := 5) (tgt := 26) dX7_combine_5 rfl (fun h5 => absurd h5 ((by decide))) (fun _ => ?_)
      refine g_iload_n (pc := 8) dX7_combine_8 rfl ?_
      refine g_invS_r (pc := 9) (As := [_]) dX7_combine_9 rfl (r_isSlot_f h2) rfl rfl lk_X7_216 rfl (nb rfl) ⟨nb rfl, nb rfl⟩ rfl ?_
      refine g_if_eq (pc := 12) (tgt := 26) dX7_combine_12 rfl (fun _ => ?_) (fun h12 => absurd (rfl) h12)
      refine g_iconst (pc := 26) (v := 0) dX7_combine_26 rfl ?_
      refine g_iconst (pc := 27) (v := 1) dX7_combine_27 rfl ?_
      refine g_invV_r (pc := 28) (As := [_, _]) dX7_combine_28 rfl (r_isThrown_1 hS) rfl rfl (shK hS rfl) rfl rfl lk_X7_209 rfl (nb rfl) ⟨nb rfl, nb rfl⟩ rfl ?_
      refine g_if_ne (pc := 31) (tgt := 52) dX7_combine_31 rfl (fun _ => ?_) (fun h31 => absurd ((by decide)) h31)
      refine g_iconst (pc := 52) (v := 0) dX7_combine_52 rfl ?_
      refine g_ireturn (pc := 53) dX7_combine_53 rfl rfl ?_
      exact ⟨rfl, rfl⟩
  · refine g_aload_n (pc := 0) dX7_combine_0 rfl trivial ?_
    refine g_iload_n (pc := 1) dX7_combine_1 rfl ?_
    refine g_invS_r (pc := 2) (As := [_]) dX7_combine_2 rfl (r_isSlot_f h1) rfl rfl lk_X7_216 rfl (nb rfl) ⟨nb rfl, nb rfl⟩ rfl ?_
    refine g_if_eq (pc := 5) (tgt := 26) dX7_combine_5 rfl (fun _ => ?_) (fun h5 => absurd (rfl) h5)
    refine g_iconst (pc := 26) (v := 0) dX7_combine_26 rfl ?_
    refine g_iconst (pc := 27) (v := 1) dX7_combine_27 rfl ?_
    refine g_invV_r (pc := 28) (As := [_, _]) dX7_combine_28 rfl (r_isThrown_1 hS) rfl rfl (shK hS rfl) rfl rfl lk_X7_209 rfl (nb rfl) ⟨nb rfl, nb rfl⟩ rfl ?_
    refine g_if_ne (pc := 31) (tgt := 52) dX7_combine_31 rfl (fun _ => ?_) (fun h31 => absurd ((by decide)) h31)
    refine g_iconst (pc := 52) (v := 0) dX7_combine_52 rfl ?_
    refine g_ireturn (pc := 53) dX7_combine_53 rfl rfl ?_
    exact ⟨rfl, rfl⟩
theorem u_combine' {v w u x : Int32} (h : Rr M n A) (h1 : inR v 6) (h2 : inR w 6) (h3 : inR u 6) (hx : ¬ (¬ x < 0 ∧ x ≤ 3)) : EvR l jX7_combine 4 160 0 0 [.ref 198, .int v, .int w, .int u, .int x] M (.inl (some (.int 0))) (thr M 2) := by
  have hS := h.1
  have h' := h.thr (x := 0)
  have h4 : ¬ ((0 : Int64) ≤ x.toInt64 ∧ x.toInt64 ≤ lN 3) := fun q => hx ((inR_le (k := 3) (by decide)).mpr ((inR_long (k := 3) (by decide)).mp q))
  refine ev_intro rfl (nb rfl) rfl ?_
  refine g_aload_n (pc := 0) dX7_combine_0 rfl trivial ?_
  refine g_iload_n (pc := 1) dX7_combine_1 rfl ?_
  refine g_invS_r (pc := 2) (As := [_]) dX7_combine_2 rfl (r_isSlot_t h1) rfl rfl lk_X7_216 rfl (nb rfl) ⟨nb rfl, nb rfl⟩ rfl ?_
  refine g_if_eq (pc := 5) (tgt := 26) dX7_combine_5 rfl (fun h5 => absurd h5 ((by decide))) (fun _ => ?_)
  refine g_iload_n (pc := 8) dX7_combine_8 rfl ?_
  refine g_invS_r (pc := 9) (As := [_]) dX7_combine_9 rfl (r_isSlot_t h2) rfl rfl lk_X7_216 rfl (nb rfl) ⟨nb rfl, nb rfl⟩ rfl ?_
  refine g_if_eq (pc := 12) (tgt := 26) dX7_combine_12 rfl (fun h12 => absurd h12 ((by decide))) (fun _ => ?_)
  refine g_iload_n (pc := 15) dX7_combine_15 rfl ?_
  refine g_invS_r (pc := 16) (As := [_]) dX7_combine_16 rfl (r_isSlot_t h3) rfl rfl lk_X7_216 rfl (nb rfl) ⟨nb rfl, nb rfl⟩ rfl ?_
  refine g_if_eq (pc := 19) (tgt := 26) dX7_combine_19 rfl (fun h19 => absurd h19 ((by decide))) (fun _ => ?_)
  refine g_iconst (pc := 22) (v := 1) dX7_combine_22 rfl ?_
  refine g_goto (pc := 23) (tgt := 27) dX7_combine_23 rfl ?_
  refine g_iconst (pc := 27) (v := 1) dX7_combine_27 rfl ?_
  refine g_invV_r (pc := 28) (As := [_, _]) dX7_combine_28 rfl (r_isThrown_0 hS) rfl rfl (shK hS rfl) rfl rfl lk_X7_209 rfl (nb rfl) ⟨nb rfl, nb rfl⟩ rfl ?_
  refine g_if_ne (pc := 31) (tgt := 52) dX7_combine_31 rfl (fun h31 => absurd h31 ((fun z => z rfl))) (fun _ => ?_)
  refine g_aload_n (pc := 34) dX7_combine_34 rfl trivial ?_
  refine g_iload (pc := 35) dX7_combine_35 rfl ?_
  refine g_i2l (pc := 37) dX7_combine_37 rfl ?_
  refine g_lconst (pc := 38) (v := 0) dX7_combine_38 rfl ?_
  refine g_ldc2 (pc := 39) dX7_combine_39 wd_1424 ?_
  refine g_invS_r (pc := 42) (As := [_, _, _]) dX7_combine_42 rfl (r_in_f h4) rfl rfl lk_X7_67 rfl (nb rfl) ⟨nb rfl, nb rfl⟩ rfl ?_
  refine g_iconst (pc := 45) (v := 2) dX7_combine_45 rfl ?_
  refine g_invV_r (pc := 46) (As := [_, _]) dX7_combine_46 rfl (r_isThrown_1 h'.1) rfl rfl (shK hS rfl) rfl rfl lk_X7_209 rfl (nb rfl) ⟨nb rfl, nb rfl⟩ rfl ?_
  refine g_if_eq (pc := 49) (tgt := 54) dX7_combine_49 rfl (fun h49 => absurd h49 ((by decide))) (fun _ => ?_)
  refine g_iconst (pc := 52) (v := 0) dX7_combine_52 rfl ?_
  refine g_ireturn (pc := 53) dX7_combine_53 rfl rfl ?_
  exact ⟨rfl, thr_2⟩
end
end
-- 302.ru
section
/-! the reference: places changed, closures kept, numbers, snapshots, output -/
section
variable {l : Launch} {M : Mem} {n c : Nat} {A : Nat → Nat → Int32}
theorem r_exchanged {x : Int32} {a b : Nat} (ha : a < 32) (hb9 : b < 32) : EvR l jX7_exchanged 1 30 0 0 [.long (uL x), .int (nI a), .int (nI b)] M (.inl (some (.long (uL (exch x a b))))) M := by
  have e : exch x a b = if Bool.xor (hb x a) (hb x b) = true then x ^^^ (bitI a ^^^ bitI b) else x ^^^ 0 := by
    unfold exch
    cases hb x a <;> cases hb x b
    · rw [if_pos rfl, if_neg (by decide), Int32.xor_zero]
    · rw [if_neg (by decide), if_pos (by decide), Int32.xor_assoc]
    · rw [if_neg (by decide), if_pos (by decide), Int32.xor_assoc]
    · rw [if_pos rfl, if_neg (by decide), Int32.xor_zero]
  rw [e]
  refine ev_intro rfl (nb rfl) rfl ?_
  cases h9 : Bool.xor (hb x a) (hb x b) with
  | true =>
    rw [if_pos rfl]
    refine g_lload_n (pc := 0) dX7_exchanged_0 rfl ?_
    refine g_iload_n (pc := 1) dX7_exchanged_1 rfl ?_
    refine g_invS_r (pc := 2) (As := [_, _]) dX7_exchanged_2 rfl (r_one ha) rfl rfl lk_X7_231 rfl (nb rfl) ⟨nb rfl, nb rfl⟩ rfl ?_
    refine g_lload_n (pc := 5) dX7_exchanged_5 rfl ?_
    refine g_iload_n (pc := 6) dX7_exchanged_6 rfl ?_
    refine g_invS_r (pc := 7) (As := [_, _]) dX7_exchanged_7 rfl (r_one hb9) rfl rfl lk_X7_231 rfl (nb rfl) ⟨nb rfl, nb rfl⟩ rfl ?_
    refine g_ixor (pc := 10) dX7_exchanged_10 ?_
    rw [b1_xor, h9]
    refine g_istore (pc := 11) (lv' := [(0, _), (2, _), (3, _), (4, _)]) dX7_exchanged_11 (nl rfl) rfl ?_
    refine g_lload_n (pc := 13) dX7_exchanged_13 rfl ?_
    refine g_iload (pc := 14) dX7_exchanged_14 rfl ?_
    refine g_iconst (pc := 16) (v := 1) dX7_exchanged_16 rfl ?_
    refine g_icmp_ne (pc := 17) (tgt := 30) dX7_exchanged_17 rfl (fun h17 => absurd h17 ((fun z => z rfl))) (fun _ => ?_)
    refine g_lconst (pc := 20) (v := 1) dX7_exchanged_20 rfl ?_
    refine g_iload_n (pc := 21) dX7_exchanged_21 rfl ?_
    refine g_lshl (pc := 22) dX7_exchanged_22 rfl ?_
    rw [sh_bit a ha]
    refine g_lconst (pc := 23) (v := 1) dX7_exchanged_23 rfl ?_
    refine g_iload_n (pc := 24) dX7_exchanged_24 rfl ?_
    refine g_lshl (pc := 25) dX7_exchanged_25 rfl ?_
    rw [sh_bit b hb9]
    refine g_lxor (pc := 26) dX7_exchanged_26 ?_
    rw [uL_xor]
    refine g_goto (pc := 27) (tgt := 31) dX7_exchanged_27 rfl ?_
    refine g_lxor (pc := 31) dX7_exchanged_31 ?_
    rw [uL_xor]
    refine g_lreturn (pc := 32) dX7_exchanged_32 rfl ?_
    exact ⟨rfl, rfl⟩
  | false =>
    rw [if_neg (by decide)]
    refine g_lload_n (pc := 0) dX7_exchanged_0 rfl ?_
    refine g_iload_n (pc := 1) dX7_exchanged_1 rfl ?_
    refine g_invS_r (pc := 2) (As := [_, _]) dX7_exchanged_2 rfl (r_one ha) rfl rfl lk_X7_231 rfl (nb rfl) ⟨nb rfl, nb rfl⟩ rfl ?_
    refine g_lload_n (pc := 5) dX7_exchanged_5 rfl ?_
    refine g_iload_n (pc := 6) dX7_exchanged_6 rfl ?_
    refine g_invS_r (pc := 7) (As := [_, _]) dX7_exchanged_7 rfl (r_one hb9) rfl rfl lk_X7_231 rfl (nb rfl) ⟨nb rfl, nb rfl⟩ rfl ?_
    refine g_ixor (pc := 10) dX7_exchanged_10 ?_
    rw [b1_xor, h9]
    refine g_istore (pc := 11) (lv' := [(0, _), (2, _), (3, _), (4, _)]) dX7_exchanged_11 (nl rfl) rfl ?_
    refine g_lload_n (pc := 13) dX7_exchanged_13 rfl ?_
    refine g_iload (pc := 14) dX7_exchanged_14 rfl ?_
    refine g_iconst (pc := 16) (v := 1) dX7_exchanged_16 rfl ?_
    refine g_icmp_ne (pc := 17) (tgt := 30) dX7_exchanged_17 rfl (fun _ => ?_) (fun h17 => absurd ((by decide)) h17)
    refine g_lconst (pc := 30) (v := 0) dX7_exchanged_30 rfl ?_
    refine g_lxor (pc := 31) dX7_exchanged_31 ?_
    rw [← uL_0, uL_xor]
    refine g_lreturn (pc := 32) dX7_exchanged_32 rfl ?_
    exact ⟨rfl, rfl⟩
theorem n_exchange {s a b : Nat} (h : Rr M n A) (hc : mI M 198 5 = nI c) (hc8 : c ≤ 8) (hs : s < 6) (ha : a < n) (hb9 : b < n) : EvR l jX7_exchange 4 160 0 0 [.ref 198, .int (nI s), .int (nI a), .int (nI b)] M (.inl (some (.int (exC (A s) a b n)))) (lsM (hdM (k0M M c) 205 n (exF (A s) a b)) s n (exF (A s) a b)) := by
  have hn := h.2.2.2.1
  have hS := h.1
  have q1 := r_k0 (l := l) h hc hc8
  have h1 : Rr (k0M M c) n A := k0M_R h
  have h2 : Rr (hdM (k0M M c) 205 n (exF (A s) a b)) n A := h1.hd (Or.inl rfl)
  have q3 := r_lays (l := l) (x := 205) (f := exF (A s) a b) h2 hs (shK h2.1 rfl) (by decide) (fun i hi => hdM_at hi)
  obtain ⟨f, hf⟩ : ∃ f, f = A s := ⟨_, rfl⟩
  rw [← hf]
  rw [← hf] at q3 h2
  have hrow : ∀ (M' : Mem) (h' : Rr M' n A) k (hk : k < n), EvR l jX7_rowOf 0 0 0 0 [.ref 198, .int (nI s), .int (nI k)] M' (.inl (some (.long (uL (f k))))) M' := fun M' h' k hk => by rw [hf]; exact r_rowOf h' hs hk
  have hg1 : ∀ i, exF f a b i = exch (f (srcN a b i)) a b := fun i => rfl
  have hsucc : ∀ i, exC f a b (i + 1) = exC f a b i + bcJ (exF f a b i ^^^ f i) := fun i => rfl
  have h00 : exC f a b 0 = 0 := rfl
  generalize exC f a b = EC at *
  generalize exF f a b = g at *
  generalize lsM (hdM (k0M M c) 205 n g) s n g = M3 at *
  generalize k0M M c = M1 at *
  refine ev_intro rfl (nb rfl) rfl ?_
  refine g_aload_n (pc := 0) dX7_exchange_0 rfl trivial ?_
  refine g_aload_n (pc := 1) dX7_exchange_1 rfl trivial ?_
  refine g_iload_n (pc := 2) dX7_exchange_2 rfl ?_
  refine g_iload_n (pc := 3) dX7_exchange_3 rfl ?_
  refine g_invV_r (pc := 4) (As := [_, _]) dX7_exchange_4 rfl (r_areIn_t h (in6 hs) (inR_nI ha (by omega))) rfl rfl (shK hS rfl) rfl rfl lk_X7_223 rfl (nb rfl) ⟨nb rfl, nb rfl⟩ rfl ?_
  refine g_if_eq (pc := 7) (tgt := 22) dX7_exchange_7 rfl (fun h7 => absurd h7 ((by decide))) (fun _ => ?_)
  refine g_aload_n (pc := 10) dX7_exchange_10 rfl trivial ?_
  refine g_iload_n (pc := 11) dX7_exchange_11 rfl ?_
  refine g_invV_r (pc := 12) (As := [_]) dX7_exchange_12 rfl (r_isNode_t h (inR_nI hb9 (by omega))) rfl rfl (shK hS rfl) rfl rfl lk_X7_220 rfl (nb rfl) ⟨nb rfl, nb rfl⟩ rfl ?_
  refine g_if_eq (pc := 15) (tgt := 22) dX7_exchange_15 rfl (fun h15 => absurd h15 ((by decide))) (fun _ => ?_)
  refine g_iconst (pc := 18) (v := 1) dX7_exchange_18 rfl ?_
  refine g_goto (pc := 19) (tgt := 23) dX7_exchange_19 rfl ?_
  refine g_iconst (pc := 23) (v := 1) dX7_exchange_23 rfl ?_
  refine g_invV_r (pc := 24) (As := [_, _]) dX7_exchange_24 rfl (r_isThrown_0 hS) rfl rfl (shK hS rfl) rfl rfl lk_X7_209 rfl (nb rfl) ⟨nb rfl, nb rfl⟩ rfl ?_
  refine g_if_eq (pc := 27) (tgt := 32) dX7_exchange_27 rfl (fun _ => ?_) (fun h27 => absurd (rfl) h27)
  refine g_aload_n (pc := 32) dX7_exchange_32 rfl trivial ?_
  refine g_invV_r (pc := 33) (As := []) dX7_exchange_33 rfl (q1) rfl rfl (shK (h.thr (x := 0)).1 rfl) rfl rfl lk_X7_315 rfl (nb rfl) ⟨nb rfl, nb rfl⟩ rfl ?_
  refine g_iconst (pc := 36) (v := 0) dX7_exchange_36 rfl ?_
  refine g_istore (pc := 37) (lv' := [(0, _), (1, _), (2, _), (3, _), (4, _)]) dX7_exchange_37 (nl rfl) rfl ?_
  refine g_iconst (pc := 39) (v := 0) dX7_exchange_39 rfl ?_
  refine g_istore (pc := 40) (lv' := [(0, _), (1, _), (2, _), (3, _), (4, _), (5, _)]) dX7_exchange_40 (nl rfl) rfl ?_
  refine go_loop (pc := 42) n (fun i => [(0, .ref 198), (1, .int (nI s)), (2, .int (nI a)), (3, .int (nI b)), (4, .int (EC i)), (5, .int (nI i))]) (fun i => sL M1 205 (wr (mL M1 205) (uR g) i)) ⟨rfl, rfl, rfl, rfl, by rw [h00]; rfl, rfl, trivial⟩ (sL_eq (wr_0 _ _)) ?_ ?_
  · intro i hi ih
    have h4 : Rr (sL M1 205 (wr (mL M1 205) (uR g) i)) n A := h1.sL (by decide)
    have h5 : Rr (sL M1 205 (wr (mL M1 205) (uR g) (i + 1))) n A := h1.sL (by decide)
    have e5 : mL (sL M1 205 (wr (mL M1 205) (uR g) (i + 1))) 205 i = uL (g i) := by rw [sL_self, wr_lt (by omega)]; rfl
    have est : pL (sL M1 205 (wr (mL M1 205) (uR g) i)) 205 i (uL (g i)) = sL M1 205 (wr (mL M1 205) (uR g) (i + 1)) := sL_st (wr_s _ (uR g) i)
    rw [hsucc i] at ih
    have hgi := hg1 i
    generalize EC i = x0 at *
    generalize g i = y at *
    generalize sL M1 205 (wr (mL M1 205) (uR g) (i + 1)) = M5 at *
    generalize sL M1 205 (wr (mL M1 205) (uR g) i) = M4 at *
    have hend : ∀ j, j < n → y = exch (f j) a b → Go l jX7_exchange 4 160 0 0 (fun r' M' => r' = .inl (some (.int (EC n))) ∧ M' = M3) 73 [(0, .ref 198), (1, .int (nI s)), (2, .int (nI a)), (3, .int (nI b)), (4, .int x0), (5, .int (nI i))] [.int (nI j)] 0 0 M4 := by
      intro j hj hy
      refine g_istore (pc := 73) (lv' := [(0, _), (1, _), (2, _), (3, _), (4, _), (5, _), (6, _)]) dX7_exchange_73 (nl rfl) rfl ?_
      refine g_aload_n (pc := 75) dX7_exchange_75 rfl trivial ?_
      refine g_getf (pc := 76) dX7_exchange_76 fk_X7_34 (shK h4.1 rfl) (fv_arr (shR h4.1 rfl)) ?_
      refine g_iload (pc := 79) dX7_exchange_79 rfl ?_
      refine g_aload_n (pc := 81) dX7_exchange_81 rfl trivial ?_
      refine g_iload_n (pc := 82) dX7_exchange_82 rfl ?_
      refine g_iload (pc := 83) dX7_exchange_83 rfl ?_
      refine g_invV_r (pc := 85) (As := [_, _]) dX7_exchange_85 rfl ((hrow M4 h4 j hj)) rfl rfl (shK h4.1 rfl) rfl rfl lk_X7_227 rfl (nb rfl) ⟨nb rfl, nb rfl⟩ rfl ?_
      refine g_iload_n (pc := 88) dX7_exchange_88 rfl ?_
      refine g_iload_n (pc := 89) dX7_exchange_89 rfl ?_
      refine g_invS_r (pc := 90) (As := [_, _, _]) dX7_exchange_90 rfl (r_exchanged (x := f j) (show a < 32 by omega) (show b < 32 by omega)) rfl rfl lk_X7_347 rfl (nb rfl) ⟨nb rfl, nb rfl⟩ rfl ?_
      rw [← hy]
      refine g_lastore (pc := 93) dX7_exchange_93 (shK h4.1 rfl) rfl (by omega) (nl rfl) ?_
      refine go_cast est ?_
      refine g_iload (pc := 94) dX7_exchange_94 rfl ?_
      refine g_aload_n (pc := 96) dX7_exchange_96 rfl trivial ?_
      refine g_getf (pc := 97) dX7_exchange_97 fk_X7_34 (shK h5.1 rfl) (fv_arr (shR h5.1 rfl)) ?_
      refine g_iload (pc := 100) dX7_exchange_100 rfl ?_
      refine g_laload (pc := 102) dX7_exchange_102 (shK h5.1 rfl) rfl (by omega) (nl rfl) ?_
      rw [e5]
      refine g_aload_n (pc := 103) dX7_exchange_103 rfl trivial ?_
      refine g_iload_n (pc := 104) dX7_exchange_104 rfl ?_
      refine g_iload (pc := 105) dX7_exchange_105 rfl ?_
      refine g_invV_r (pc := 107) (As := [_, _]) dX7_exchange_107 rfl ((hrow M5 h5 i hi)) rfl rfl (shK h5.1 rfl) rfl rfl lk_X7_227 rfl (nb rfl) ⟨nb rfl, nb rfl⟩ rfl ?_
      refine g_lxor (pc := 110) dX7_exchange_110 ?_
      rw [uL_xor]
      refine g_invS_r (pc := 111) (As := [_]) dX7_exchange_111 rfl (r_bitsOf) rfl rfl lk_X7_234 rfl (nb rfl) ⟨nb rfl, nb rfl⟩ rfl ?_
      refine g_iadd (pc := 114) dX7_exchange_114 ?_
      refine g_istore (pc := 115) (lv' := [(0, _), (1, _), (2, _), (3, _), (4, _), (5, _), (6, _)]) dX7_exchange_115 (nl rfl) rfl ?_
      refine g_iinc (pc := 117) (lv' := [(0, _), (1, _), (2, _), (3, _), (4, _), (5, _), (6, _)]) dX7_exchange_117 rfl (nI_1 _) (nl rfl) rfl ?_
      refine g_goto (pc := 120) (tgt := 42) dX7_exchange_120 rfl ?_
      exact g_sub (lv' := [(0, _), (1, _), (2, _), (3, _), (4, _), (5, _)]) ⟨rfl, rfl, rfl, rfl, rfl, rfl, trivial⟩ ih
    unfold srcN at hgi
    by_cases hia : i = a
    · rw [if_pos hia] at hgi
      refine g_iload (pc := 42) dX7_exchange_42 rfl ?_
      refine g_aload_n (pc := 44) dX7_exchange_44 rfl trivial ?_
      refine g_invV_r (pc := 45) (As := []) dX7_exchange_45 rfl (r_size h4) rfl rfl (shK h4.1 rfl) rfl rfl lk_X7_71 rfl (nb rfl) ⟨nb rfl, nb rfl⟩ rfl ?_
      refine g_icmp_ge (pc := 48) (tgt := 123) dX7_exchange_48 rfl (fun h48 => absurd h48 (nI_ge hi (by omega))) (fun _ => ?_)
      refine g_iload (pc := 51) dX7_exchange_51 rfl ?_
      refine g_iload_n (pc := 53) dX7_exchange_53 rfl ?_
      refine g_icmp_ne (pc := 54) (tgt := 61) dX7_exchange_54 rfl (fun h54 => absurd h54 ((fun z => z (by rw [hia])))) (fun _ => ?_)
      refine g_iload_n (pc := 57) dX7_exchange_57 rfl ?_
      refine g_goto (pc := 58) (tgt := 73) dX7_exchange_58 rfl ?_
      exact hend _ (by omega) hgi
    · rw [if_neg hia] at hgi
      by_cases hib : i = b
      · rw [if_pos hib] at hgi
        refine g_iload (pc := 42) dX7_exchange_42 rfl ?_
        refine g_aload_n (pc := 44) dX7_exchange_44 rfl trivial ?_
        refine g_invV_r (pc := 45) (As := []) dX7_exchange_45 rfl (r_size h4) rfl rfl (shK h4.1 rfl) rfl rfl lk_X7_71 rfl (nb rfl) ⟨nb rfl, nb rfl⟩ rfl ?_
        refine g_icmp_ge (pc := 48) (tgt := 123) dX7_exchange_48 rfl (fun h48 => absurd h48 (nI_ge hi (by omega))) (fun _ => ?_)
        refine g_iload (pc := 51) dX7_exchange_51 rfl ?_
        refine g_iload_n (pc := 53) dX7_exchange_53 rfl ?_
        refine g_icmp_ne (pc := 54) (tgt := 61) dX7_exchange_54 rfl (fun _ => ?_) (fun h54 => absurd ((fun z => hia ((nI_eq (by omega) (by omega)).mp z))) h54)
        refine g_iload (pc := 61) dX7_exchange_61 rfl ?_
        refine g_iload_n (pc := 63) dX7_exchange_63 rfl ?_
        refine g_icmp_ne (pc := 64) (tgt := 71) dX7_exchange_64 rfl (fun h64 => absurd h64 ((fun z => z (by rw [hib])))) (fun _ => ?_)
        refine g_iload_n (pc := 67) dX7_exchange_67 rfl ?_
        refine g_goto (pc := 68) (tgt := 73) dX7_exchange_68 rfl ?_
        exact hend _ (by omega) hgi
      · rw [if_neg hib] at hgi
        refine g_iload (pc := 42) dX7_exchange_42 rfl ?_
        refine g_aload_n (pc := 44) dX7_exchange_44 rfl trivial ?_
        refine g_invV_r (pc := 45) (As := []) dX7_exchange_45 rfl (r_size h4) rfl rfl (shK h4.1 rfl) rfl rfl lk_X7_71 rfl (nb rfl) ⟨nb rfl, nb rfl⟩ rfl ?_
        refine g_icmp_ge (pc := 48) (tgt := 123) dX7_exchange_48 rfl (fun h48 => absurd h48 (nI_ge hi (by omega))) (fun _ => ?_)
        refine g_iload (pc := 51) dX7_exchange_51 rfl ?_
        refine g_iload_n (pc := 53) dX7_exchange_53 rfl ?_
        refine g_icmp_ne (pc := 54) (tgt := 61) dX7_exchange_54 rfl (fun _ => ?_) (fun h54 => absurd ((fun z => hia ((nI_eq (by omega) (by omega)).mp z))) h54)
        refine g_iload (pc := 61) dX7_exchange_61 rfl ?_
        refine g_iload_n (pc := 63) dX7_exchange_63 rfl ?_
        refine g_icmp_ne (pc := 64) (tgt := 71) dX7_exchange_64 rfl (fun _ => ?_) (fun h64 => absurd ((fun z => hib ((nI_eq (by omega) (by omega)).mp z))) h64)
        refine g_iload (pc := 71) dX7_exchange_71 rfl ?_
        exact hend _ (by omega) hgi
  · have h2 : Rr (sL M1 205 (wr (mL M1 205) (uR g) n)) n A := h2
    have q3 : EvR l jX7_lays 2 60 0 0 [.ref 198, .ref 205, .int (nI s)] (sL M1 205 (wr (mL M1 205) (uR g) n)) (.inl (some (.int (onesF g n)))) M3 := q3
    generalize sL M1 205 (wr (mL M1 205) (uR g) n) = M2 at *
    refine g_iload (pc := 42) dX7_exchange_42 rfl ?_
    refine g_aload_n (pc := 44) dX7_exchange_44 rfl trivial ?_
    refine g_invV_r (pc := 45) (As := []) dX7_exchange_45 rfl (r_size h2) rfl rfl (shK h2.1 rfl) rfl rfl lk_X7_71 rfl (nb rfl) ⟨nb rfl, nb rfl⟩ rfl ?_
    refine g_icmp_ge (pc := 48) (tgt := 123) dX7_exchange_48 rfl (fun _ => ?_) (fun h48 => absurd (nI_le (Nat.le_refl _) (by omega)) h48)
    refine g_aload_n (pc := 123) dX7_exchange_123 rfl trivial ?_
    refine g_aload_n (pc := 124) dX7_exchange_124 rfl trivial ?_
    refine g_getf (pc := 125) dX7_exchange_125 fk_X7_34 (shK h2.1 rfl) (fv_arr (shR h2.1 rfl)) ?_
    refine g_iload_n (pc := 128) dX7_exchange_128 rfl ?_
    refine g_invV_r (pc := 129) (As := [_, _]) dX7_exchange_129 rfl (q3) rfl rfl (shK h2.1 rfl) rfl rfl lk_X7_322 rfl (nb rfl) ⟨nb rfl, nb rfl⟩ rfl ?_
    refine g_istore (pc := 132) (lv' := [(0, _), (1, _), (2, _), (3, _), (4, _), (5, _)]) dX7_exchange_132 (nl rfl) rfl ?_
    refine g_iload (pc := 134) dX7_exchange_134 rfl ?_
    refine g_ireturn (pc := 136) dX7_exchange_136 rfl rfl ?_
    exact ⟨rfl, rfl⟩
theorem t_exchange {v w u : Int32} (h : Rr M n A) (hx : ¬ (inR v 6 ∧ inR w n ∧ inR u n)) : EvR l jX7_exchange 4 160 0 0 [.ref 198, .int v, .int w, .int u] M (.inl (some (.int 0))) (thr M 1) := by
  have hS := h.1
  refine ev_intro rfl (nb rfl) rfl ?_
  by_cases h1 : inR v 6 ∧ inR w n
  · refine g_aload_n (pc := 0) dX7_exchange_0 rfl trivial ?_
    refine g_aload_n (pc := 1) dX7_exchange_1 rfl trivial ?_
    refine g_iload_n (pc := 2) dX7_exchange_2 rfl ?_
    refine g_iload_n (pc := 3) dX7_exchange_3 rfl ?_
    refine g_invV_r (pc := 4) (As := [_, _]) dX7_exchange_4 rfl (r_areIn_t h h1.1 h1.2) rfl rfl (shK hS rfl) rfl rfl lk_X7_223 rfl (nb rfl) ⟨nb rfl, nb rfl⟩ rfl ?_
    refine g_if_eq (pc := 7) (tgt := 22) dX7_exchange_7 rfl (fun h7 => absurd h7 ((by decide))) (fun _ => ?_)
    refine g_aload_n (pc := 10) dX7_exchange_10 rfl trivial ?_
    refine g_iload_n (pc := 11) dX7_exchange_11 rfl ?_
    refine g_invV_r (pc := 12) (As := [_]) dX7_exchange_12 rfl (r_isNode_f h (fun q => hx ⟨h1.1, h1.2, q⟩)) rfl rfl (shK hS rfl) rfl rfl lk_X7_220 rfl (nb rfl) ⟨nb rfl, nb rfl⟩ rfl ?_
    refine g_if_eq (pc := 15) (tgt := 22) dX7_exchange_15 rfl (fun _ => ?_) (fun h15 => absurd (rfl) h15)
    refine g_iconst (pc := 22) (v := 0) dX7_exchange_22 rfl ?_
    refine g_iconst (pc := 23) (v := 1) dX7_exchange_23 rfl ?_
    refine g_invV_r (pc := 24) (As := [_, _]) dX7_exchange_24 rfl (r_isThrown_1 hS) rfl rfl (shK hS rfl) rfl rfl lk_X7_209 rfl (nb rfl) ⟨nb rfl, nb rfl⟩ rfl ?_
    refine g_if_eq (pc := 27) (tgt := 32) dX7_exchange_27 rfl (fun h27 => absurd h27 ((by decide))) (fun _ => ?_)
    refine g_iconst (pc := 30) (v := 0) dX7_exchange_30 rfl ?_
    refine g_ireturn (pc := 31) dX7_exchange_31 rfl rfl ?_
    exact ⟨rfl, rfl⟩
  · refine g_aload_n (pc := 0) dX7_exchange_0 rfl trivial ?_
    refine g_aload_n (pc := 1) dX7_exchange_1 rfl trivial ?_
    refine g_iload_n (pc := 2) dX7_exchange_2 rfl ?_
    refine g_iload_n (pc := 3) dX7_exchange_3 rfl ?_
    refine g_invV_r (pc := 4) (As := [_, _]) dX7_exchange_4 rfl (r_areIn_f h h1) rfl rfl (shK hS rfl) rfl rfl lk_X7_223 rfl (nb rfl) ⟨nb rfl, nb rfl⟩ rfl ?_
    refine g_if_eq (pc := 7) (tgt := 22) dX7_exchange_7 rfl (fun _ => ?_) (fun h7 => absurd (rfl) h7)
    refine g_iconst (pc := 22) (v := 0) dX7_exchange_22 rfl ?_
    refine g_iconst (pc := 23) (v := 1) dX7_exchange_23 rfl ?_
    refine g_invV_r (pc := 24) (As := [_, _]) dX7_exchange_24 rfl (r_isThrown_1 hS) rfl rfl (shK hS rfl) rfl rfl lk_X7_209 rfl (nb rfl) ⟨nb rfl, nb rfl⟩ rfl ?_
    refine g_if_eq (pc := 27) (tgt := 32) dX7_exchange_27 rfl (fun h27 => absurd h27 ((by decide))) (fun _ => ?_)
    refine g_iconst (pc := 30) (v := 0) dX7_exchange_30 rfl ?_
    refine g_ireturn (pc := 31) dX7_exchange_31 rfl rfl ?_
    exact ⟨rfl, rfl⟩
def kmI (u : Nat → Int64) : Nat → Int32
  | 0 => 0
  | k + 1 => kmI u k + (u (4 + k)).toInt32
theorem r_keptMany (hS : Shp M) : EvR l jX7_keptMany 0 0 0 0 [.ref 198] M (.inl (some (.int (kmI (mL M 199) 6)))) M := by
  refine ev_intro rfl (nb rfl) rfl ?_
  refine g_iconst (pc := 0) (v := 0) dX7_keptMany_0 rfl ?_
  refine g_istore_n (pc := 1) (lv' := [(0, _), (1, _)]) dX7_keptMany_1 (nl rfl) rfl ?_
  refine g_iconst (pc := 2) (v := 0) dX7_keptMany_2 rfl ?_
  refine g_istore_n (pc := 3) (lv' := [(0, _), (1, _), (2, _)]) dX7_keptMany_3 (nl rfl) rfl ?_
  refine go_loop (pc := 4) 6 (fun i => [(0, .ref 198), (1, .int (kmI (mL M 199) i)), (2, .int (nI i))]) (fun i => M) ⟨rfl, rfl, rfl, trivial⟩ rfl ?_ ?_
  · intro i hi ih
    have i4 : 4 + nI i = nI (4 + i) := nI_add 4 i
    generalize kmI (mL M 199) 6 = X at *
    rw [kmI] at ih
    refine g_iload_n (pc := 4) dX7_keptMany_4 rfl ?_
    refine g_bipush (pc := 5) (v := 6) dX7_keptMany_5 rfl ?_
    refine g_icmp_ge (pc := 7) (tgt := 28) dX7_keptMany_7 rfl (fun h7 => absurd h7 (nI_ge (b := 6) hi (by decide))) (fun _ => ?_)
    refine g_iload_n (pc := 10) dX7_keptMany_10 rfl ?_
    refine g_aload_n (pc := 11) dX7_keptMany_11 rfl trivial ?_
    refine g_getf (pc := 12) dX7_keptMany_12 fk_X7_9 (shK hS rfl) (fv_arr (shR hS rfl)) ?_
    refine g_iconst (pc := 15) (v := 4) dX7_keptMany_15 rfl ?_
    refine g_iload_n (pc := 16) dX7_keptMany_16 rfl ?_
    refine g_iadd (pc := 17) dX7_keptMany_17 ?_
    rw [i4]
    refine g_laload (pc := 18) dX7_keptMany_18 (shK hS rfl) rfl (show 4 + i < 220 by omega) (nl rfl) ?_
    refine g_l2i (pc := 19) dX7_keptMany_19 rfl ?_
    refine g_iadd (pc := 20) dX7_keptMany_20 ?_
    refine g_istore_n (pc := 21) (lv' := [(0, _), (1, _), (2, _)]) dX7_keptMany_21 (nl rfl) rfl ?_
    refine g_iinc (pc := 22) (lv' := [(0, _), (1, _), (2, _)]) dX7_keptMany_22 rfl (nI_1 _) (nl rfl) rfl ?_
    refine g_goto (pc := 25) (tgt := 4) dX7_keptMany_25 rfl ?_
    exact ih
  · refine g_iload_n (pc := 4) dX7_keptMany_4 rfl ?_
    refine g_bipush (pc := 5) (v := 6) dX7_keptMany_5 rfl ?_
    refine g_icmp_ge (pc := 7) (tgt := 28) dX7_keptMany_7 rfl (fun _ => ?_) (fun h7 => absurd (nI_le (Nat.le_refl 6) (by decide)) h7)
    refine g_iload_n (pc := 28) dX7_keptMany_28 rfl ?_
    refine g_ireturn (pc := 29) dX7_keptMany_29 rfl rfl ?_
    exact ⟨rfl, rfl⟩
def b1L (b : Bool) : Int64 := match b with
  | true => 1
  | false => 0
/-- a slot's closure is kept from now on, or no longer -/
def kpS (M : Mem) (s : Nat) (b : Bool) : Mem := pL M 199 (4 + s) (b1L b)
theorem n_keep {s : Nat} {b : Bool} (h : Rr M n A) (hc : mI M 198 5 = nI c) (hc8 : c ≤ 8) (hs : s < 6) : EvR l jX7_keep 4 160 0 0 [.ref 198, .int (nI s), .int (b1 b)] M (.inl (some (.int (kmI (mL (anM (kpS (k0M M c) s b) s (nI n)) 199) 6)))) (anM (kpS (k0M M c) s b) s (nI n)) := by
  have hn := h.2.2.2.1
  have hS := h.1
  have i4 : 4 + nI s = nI (4 + s) := nI_add 4 s
  have q1 := r_k0 (l := l) h hc hc8
  have h1 : Rr (k0M M c) n A := k0M_R h
  have h2 : Rr (kpS (k0M M c) s b) n A := h1.pL (by omega)
  have q2 := r_madeAnew (l := l) h2 hs
  have h3 := anM_R (x := nI n) h2 hs
  have e2 : pL (k0M M c) 199 (4 + s) (b1L b) = kpS (k0M M c) s b := rfl
  generalize anM (kpS (k0M M c) s b) s (nI n) = M3 at *
  generalize kpS (k0M M c) s b = M2 at *
  generalize k0M M c = M1 at *
  refine ev_intro rfl (nb rfl) rfl ?_
  cases b with
  | true =>
    refine g_aload_n (pc := 0) dX7_keep_0 rfl trivial ?_
    refine g_iload_n (pc := 1) dX7_keep_1 rfl ?_
    refine g_invS_r (pc := 2) (As := [_]) dX7_keep_2 rfl (r_isSlot_t (in6 hs)) rfl rfl lk_X7_216 rfl (nb rfl) ⟨nb rfl, nb rfl⟩ rfl ?_
    refine g_iconst (pc := 5) (v := 1) dX7_keep_5 rfl ?_
    refine g_invV_r (pc := 6) (As := [_, _]) dX7_keep_6 rfl (r_isThrown_0 hS) rfl rfl (shK hS rfl) rfl rfl lk_X7_209 rfl (nb rfl) ⟨nb rfl, nb rfl⟩ rfl ?_
    refine g_if_eq (pc := 9) (tgt := 14) dX7_keep_9 rfl (fun _ => ?_) (fun h9 => absurd (rfl) h9)
    refine g_aload_n (pc := 14) dX7_keep_14 rfl trivial ?_
    refine g_invV_r (pc := 15) (As := []) dX7_keep_15 rfl (q1) rfl rfl (shK (h.thr (x := 0)).1 rfl) rfl rfl lk_X7_315 rfl (nb rfl) ⟨nb rfl, nb rfl⟩ rfl ?_
    refine g_aload_n (pc := 18) dX7_keep_18 rfl trivial ?_
    refine g_getf (pc := 19) dX7_keep_19 fk_X7_9 (shK h1.1 rfl) (fv_arr (shR h1.1 rfl)) ?_
    refine g_iconst (pc := 22) (v := 4) dX7_keep_22 rfl ?_
    refine g_iload_n (pc := 23) dX7_keep_23 rfl ?_
    refine g_iadd (pc := 24) dX7_keep_24 ?_
    rw [i4]
    refine g_iload_n (pc := 25) dX7_keep_25 rfl ?_
    refine g_if_eq (pc := 26) (tgt := 33) dX7_keep_26 rfl (fun h26 => absurd h26 ((by decide))) (fun _ => ?_)
    refine g_lconst (pc := 29) (v := 1) dX7_keep_29 rfl ?_
    refine g_goto (pc := 30) (tgt := 34) dX7_keep_30 rfl ?_
    refine g_lastore (pc := 34) dX7_keep_34 (shK h1.1 rfl) rfl (show 4 + s < 220 by omega) (nl rfl) ?_
    refine go_cast e2 ?_
    refine g_aload_n (pc := 35) dX7_keep_35 rfl trivial ?_
    refine g_iload_n (pc := 36) dX7_keep_36 rfl ?_
    refine g_invV_r (pc := 37) (As := [_]) dX7_keep_37 rfl (q2) rfl rfl (shK h2.1 rfl) rfl rfl lk_X7_204 rfl (nb rfl) ⟨nb rfl, nb rfl⟩ rfl ?_
    refine g_aload_n (pc := 40) dX7_keep_40 rfl trivial ?_
    refine g_invV_r (pc := 41) (As := []) dX7_keep_41 rfl (r_keptMany h3.1) rfl rfl (shK h3.1 rfl) rfl rfl lk_X7_213 rfl (nb rfl) ⟨nb rfl, nb rfl⟩ rfl ?_
    refine g_ireturn (pc := 44) dX7_keep_44 rfl rfl ?_
    exact ⟨rfl, rfl⟩
  | false =>
    refine g_aload_n (pc := 0) dX7_keep_0 rfl trivial ?_
    refine g_iload_n (pc := 1) dX7_keep_1 rfl ?_
    refine g_invS_r (pc := 2) (As := [_]) dX7_keep_2 rfl (r_isSlot_t (in6 hs)) rfl rfl lk_X7_216 rfl (nb rfl) ⟨nb rfl, nb rfl⟩ rfl ?_
    refine g_iconst (pc := 5) (v := 1) dX7_keep_5 rfl ?_
    refine g_invV_r (pc := 6) (As := [_, _]) dX7_keep_6 rfl (r_isThrown_0 hS) rfl rfl (shK hS rfl) rfl rfl lk_X7_209 rfl (nb rfl) ⟨nb rfl, nb rfl⟩ rfl ?_
    refine g_if_eq (pc := 9) (tgt := 14) dX7_keep_9 rfl (fun _ => ?_) (fun h9 => absurd (rfl) h9)
    refine g_aload_n (pc := 14) dX7_keep_14 rfl trivial ?_
    refine g_invV_r (pc := 15) (As := []) dX7_keep_15 rfl (q1) rfl rfl (shK (h.thr (x := 0)).1 rfl) rfl rfl lk_X7_315 rfl (nb rfl) ⟨nb rfl, nb rfl⟩ rfl ?_
    refine g_aload_n (pc := 18) dX7_keep_18 rfl trivial ?_
    refine g_getf (pc := 19) dX7_keep_19 fk_X7_9 (shK h1.1 rfl) (fv_arr (shR h1.1 rfl)) ?_
    refine g_iconst (pc := 22) (v := 4) dX7_keep_22 rfl ?_
    refine g_iload_n (pc := 23) dX7_keep_23 rfl ?_
    refine g_iadd (pc := 24) dX7_keep_24 ?_
    rw [i4]
    refine g_iload_n (pc := 25) dX7_keep_25 rfl ?_
    refine g_if_eq (pc := 26) (tgt := 33) dX7_keep_26 rfl (fun _ => ?_) (fun h26 => absurd (rfl) h26)
    refine g_lconst (pc := 33) (v := 0) dX7_keep_33 rfl ?_
    refine g_lastore (pc := 34) dX7_keep_34 (shK h1.1 rfl) rfl (show 4 + s < 220 by omega) (nl rfl) ?_
    refine go_cast e2 ?_
    refine g_aload_n (pc := 35) dX7_keep_35 rfl trivial ?_
    refine g_iload_n (pc := 36) dX7_keep_36 rfl ?_
    refine g_invV_r (pc := 37) (As := [_]) dX7_keep_37 rfl (q2) rfl rfl (shK h2.1 rfl) rfl rfl lk_X7_204 rfl (nb rfl) ⟨nb rfl, nb rfl⟩ rfl ?_
    refine g_aload_n (pc := 40) dX7_keep_40 rfl trivial ?_
    refine g_invV_r (pc := 41) (As := []) dX7_keep_41 rfl (r_keptMany h3.1) rfl rfl (shK h3.1 rfl) rfl rfl lk_X7_213 rfl (nb rfl) ⟨nb rfl, nb rfl⟩ rfl ?_
    refine g_ireturn (pc := 44) dX7_keep_44 rfl rfl ?_
    exact ⟨rfl, rfl⟩
theorem t_keep {v w : Int32} (h : Rr M n A) (hx : ¬ inR v 6) : EvR l jX7_keep 4 160 0 0 [.ref 198, .int v, .int w] M (.inl (some (.int 0))) (thr M 1) := by
  have hS := h.1
  refine ev_intro rfl (nb rfl) rfl ?_
  refine g_aload_n (pc := 0) dX7_keep_0 rfl trivial ?_
  refine g_iload_n (pc := 1) dX7_keep_1 rfl ?_
  refine g_invS_r (pc := 2) (As := [_]) dX7_keep_2 rfl (r_isSlot_f hx) rfl rfl lk_X7_216 rfl (nb rfl) ⟨nb rfl, nb rfl⟩ rfl ?_
  refine g_iconst (pc := 5) (v := 1) dX7_keep_5 rfl ?_
  refine g_invV_r (pc := 6) (As := [_, _]) dX7_keep_6 rfl (r_isThrown_1 hS) rfl rfl (shK hS rfl) rfl rfl lk_X7_209 rfl (nb rfl) ⟨nb rfl, nb rfl⟩ rfl ?_
  refine g_if_eq (pc := 9) (tgt := 14) dX7_keep_9 rfl (fun h9 => absurd h9 ((by decide))) (fun _ => ?_)
  refine g_iconst (pc := 12) (v := 0) dX7_keep_12 rfl ?_
  refine g_ireturn (pc := 13) dX7_keep_13 rfl rfl ?_
  exact ⟨rfl, rfl⟩
theorem lim_long {x : Int32} {a b : Int32} : (a.toInt64 ≤ x.toInt64 ∧ x.toInt64 ≤ b.toInt64) ↔ (¬ x < a ∧ x ≤ b) := by
  rw [le_long, le_long, Int32.not_lt]
theorem n_setBlock {x : Int32} (h : Rr M n A) (hc : mI M 198 5 = nI c) (hc8 : c ≤ 8) (hx : ¬ x < 1 ∧ x ≤ 8) : EvR l jX7_setBlock 4 160 0 0 [.ref 198, .int x] M (.inl (some (.int (mL M 199 1).toInt32))) (pL (k0M M c) 199 1 x.toInt64) := by
  have hS := h.1
  obtain ⟨a1, a2⟩ := (lim_long (a := 1) (b := 8)).mpr hx
  have q1 := r_k0 (l := l) h hc hc8
  have h1 : Rr (k0M M c) n A := k0M_R h
  have e1 : mL (k0M M c) 199 = mL M 199 := kepM_n
  have h2 : Rr (pL (k0M M c) 199 1 x.toInt64) n A := h1.pL (by decide)
  generalize k0M M c = M1 at *
  refine ev_intro rfl (nb rfl) rfl ?_
  refine g_aload_n (pc := 0) dX7_setBlock_0 rfl trivial ?_
  refine g_iload_n (pc := 1) dX7_setBlock_1 rfl ?_
  refine g_i2l (pc := 2) dX7_setBlock_2 rfl ?_
  refine g_lconst (pc := 3) (v := 1) dX7_setBlock_3 rfl ?_
  refine g_ldc2 (pc := 4) dX7_setBlock_4 wd_1757 ?_
  refine g_invS_r (pc := 7) (As := [_, _, _]) dX7_setBlock_7 rfl (r_in_t a1 a2) rfl rfl lk_X7_67 rfl (nb rfl) ⟨nb rfl, nb rfl⟩ rfl ?_
  refine g_iconst (pc := 10) (v := 1) dX7_setBlock_10 rfl ?_
  refine g_invV_r (pc := 11) (As := [_, _]) dX7_setBlock_11 rfl (r_isThrown_0 hS) rfl rfl (shK hS rfl) rfl rfl lk_X7_209 rfl (nb rfl) ⟨nb rfl, nb rfl⟩ rfl ?_
  refine g_if_eq (pc := 14) (tgt := 19) dX7_setBlock_14 rfl (fun _ => ?_) (fun h14 => absurd (rfl) h14)
  refine g_aload_n (pc := 19) dX7_setBlock_19 rfl trivial ?_
  refine g_invV_r (pc := 20) (As := []) dX7_setBlock_20 rfl (q1) rfl rfl (shK (h.thr (x := 0)).1 rfl) rfl rfl lk_X7_315 rfl (nb rfl) ⟨nb rfl, nb rfl⟩ rfl ?_
  refine g_aload_n (pc := 23) dX7_setBlock_23 rfl trivial ?_
  refine g_getf (pc := 24) dX7_setBlock_24 fk_X7_9 (shK h1.1 rfl) (fv_arr (shR h1.1 rfl)) ?_
  refine g_iconst (pc := 27) (v := 1) dX7_setBlock_27 rfl ?_
  refine g_laload (pc := 28) dX7_setBlock_28 (shK h1.1 rfl) rfl (by decide) (nl rfl) ?_
  rw [e1]
  refine g_l2i (pc := 29) dX7_setBlock_29 rfl ?_
  refine g_istore_n (pc := 30) (lv' := [(0, _), (1, _), (2, _)]) dX7_setBlock_30 (nl rfl) rfl ?_
  refine g_aload_n (pc := 31) dX7_setBlock_31 rfl trivial ?_
  refine g_getf (pc := 32) dX7_setBlock_32 fk_X7_9 (shK h1.1 rfl) (fv_arr (shR h1.1 rfl)) ?_
  refine g_iconst (pc := 35) (v := 1) dX7_setBlock_35 rfl ?_
  refine g_iload_n (pc := 36) dX7_setBlock_36 rfl ?_
  refine g_i2l (pc := 37) dX7_setBlock_37 rfl ?_
  refine g_lastore (pc := 38) dX7_setBlock_38 (shK h1.1 rfl) rfl (by decide) (nl rfl) ?_
  refine g_iload_n (pc := 39) dX7_setBlock_39 rfl ?_
  refine g_ireturn (pc := 40) dX7_setBlock_40 rfl rfl ?_
  exact ⟨rfl, rfl⟩
theorem t_setBlock {x : Int32} (hS : Shp M) (hx : ¬ (¬ x < 1 ∧ x ≤ 8)) : EvR l jX7_setBlock 4 160 0 0 [.ref 198, .int x] M (.inl (some (.int 0))) (thr M 1) := by
  refine ev_intro rfl (nb rfl) rfl ?_
  refine g_aload_n (pc := 0) dX7_setBlock_0 rfl trivial ?_
  refine g_iload_n (pc := 1) dX7_setBlock_1 rfl ?_
  refine g_i2l (pc := 2) dX7_setBlock_2 rfl ?_
  refine g_lconst (pc := 3) (v := 1) dX7_setBlock_3 rfl ?_
  refine g_ldc2 (pc := 4) dX7_setBlock_4 wd_1757 ?_
  refine g_invS_r (pc := 7) (As := [_, _, _]) dX7_setBlock_7 rfl (r_in_f (fun z => hx ((lim_long (a := 1) (b := 8)).mp z))) rfl rfl lk_X7_67 rfl (nb rfl) ⟨nb rfl, nb rfl⟩ rfl ?_
  refine g_iconst (pc := 10) (v := 1) dX7_setBlock_10 rfl ?_
  refine g_invV_r (pc := 11) (As := [_, _]) dX7_setBlock_11 rfl (r_isThrown_1 hS) rfl rfl (shK hS rfl) rfl rfl lk_X7_209 rfl (nb rfl) ⟨nb rfl, nb rfl⟩ rfl ?_
  refine g_if_eq (pc := 14) (tgt := 19) dX7_setBlock_14 rfl (fun h14 => absurd h14 ((by decide))) (fun _ => ?_)
  refine g_iconst (pc := 17) (v := 0) dX7_setBlock_17 rfl ?_
  refine g_ireturn (pc := 18) dX7_setBlock_18 rfl rfl ?_
  exact ⟨rfl, rfl⟩
theorem n_kept {s w : Nat} (h : Rr M n A) (hs : s < 6) (hw : w < 3) : EvR l jX7_kept 4 160 0 0 [.ref 198, .int (nI s), .int (nI w)] M (.inl (some (.int (if mL M 199 (4 + s) = 0 then -1 else (mL M 199 (10 + 6 * w + s)).toInt32)))) (thr M 0) := by
  have hS := h.1
  have h' := h.thr (x := 0)
  have i4 : 4 + nI s = nI (4 + s) := nI_add 4 s
  have i10 : 10 + 6 * nI w + nI s = nI (10 + 6 * w + s) := by rw [show (6 : Int32) = nI 6 from rfl, nI_mul, show (10 : Int32) = nI 10 from rfl, nI_add, nI_add]
  have e2 : thr (thr M 0) 0 = thr M 0 := thr_2
  have hl2 : (0 : Int64) ≤ (nI w).toInt64 ∧ (nI w).toInt64 ≤ 2 := (lim_long (a := 0) (b := 2)).mpr ⟨nI_pos (by omega), nI_le (b := 2) (by omega) (by decide)⟩
  refine ev_intro rfl (nb rfl) rfl ?_
  by_cases h1 : mL M 199 (4 + s) = 0
  · rw [if_pos h1]
    refine g_aload_n (pc := 0) dX7_kept_0 rfl trivial ?_
    refine g_iload_n (pc := 1) dX7_kept_1 rfl ?_
    refine g_invS_r (pc := 2) (As := [_]) dX7_kept_2 rfl (r_isSlot_t (in6 hs)) rfl rfl lk_X7_216 rfl (nb rfl) ⟨nb rfl, nb rfl⟩ rfl ?_
    refine g_iconst (pc := 5) (v := 1) dX7_kept_5 rfl ?_
    refine g_invV_r (pc := 6) (As := [_, _]) dX7_kept_6 rfl (r_isThrown_0 hS) rfl rfl (shK hS rfl) rfl rfl lk_X7_209 rfl (nb rfl) ⟨nb rfl, nb rfl⟩ rfl ?_
    refine g_if_ne (pc := 9) (tgt := 29) dX7_kept_9 rfl (fun h9 => absurd h9 ((fun z => z rfl))) (fun _ => ?_)
    refine g_aload_n (pc := 12) dX7_kept_12 rfl trivial ?_
    refine g_iload_n (pc := 13) dX7_kept_13 rfl ?_
    refine g_i2l (pc := 14) dX7_kept_14 rfl ?_
    refine g_lconst (pc := 15) (v := 0) dX7_kept_15 rfl ?_
    refine g_ldc2 (pc := 16) dX7_kept_16 wd_1762 ?_
    refine g_invS_r (pc := 19) (As := [_, _, _]) dX7_kept_19 rfl (r_in_t hl2.1 hl2.2) rfl rfl lk_X7_67 rfl (nb rfl) ⟨nb rfl, nb rfl⟩ rfl ?_
    refine g_iconst (pc := 22) (v := 2) dX7_kept_22 rfl ?_
    refine g_invV_r (pc := 23) (As := [_, _]) dX7_kept_23 rfl (r_isThrown_0 h'.1) rfl rfl (shK hS rfl) rfl rfl lk_X7_209 rfl (nb rfl) ⟨nb rfl, nb rfl⟩ rfl ?_
    refine go_cast e2 ?_
    refine g_if_eq (pc := 26) (tgt := 31) dX7_kept_26 rfl (fun _ => ?_) (fun h26 => absurd (rfl) h26)
    refine g_aload_n (pc := 31) dX7_kept_31 rfl trivial ?_
    refine g_getf (pc := 32) dX7_kept_32 fk_X7_9 (shK h'.1 rfl) (fv_arr (shR h'.1 rfl)) ?_
    refine g_iconst (pc := 35) (v := 4) dX7_kept_35 rfl ?_
    refine g_iload_n (pc := 36) dX7_kept_36 rfl ?_
    refine g_iadd (pc := 37) dX7_kept_37 ?_
    rw [i4]
    refine g_laload (pc := 38) dX7_kept_38 (shK h'.1 rfl) rfl (show 4 + s < 220 by omega) (nl rfl) ?_
    rw [show mL (thr M 0) 199 (4 + s) = 0 from h1]
    refine g_lconst (pc := 39) (v := 0) dX7_kept_39 rfl ?_
    refine g_lcmp (pc := 40) dX7_kept_40 ?_
    refine g_if_ne (pc := 41) (tgt := 48) dX7_kept_41 rfl (fun h41 => absurd h41 ((by decide))) (fun _ => ?_)
    refine g_iconst (pc := 44) (v := (-1)) dX7_kept_44 rfl ?_
    refine g_goto (pc := 45) (tgt := 63) dX7_kept_45 rfl ?_
    refine g_ireturn (pc := 63) dX7_kept_63 rfl rfl ?_
    exact ⟨rfl, rfl⟩
  · rw [if_neg h1]
    refine g_aload_n (pc := 0) dX7_kept_0 rfl trivial ?_
    refine g_iload_n (pc := 1) dX7_kept_1 rfl ?_
    refine g_invS_r (pc := 2) (As := [_]) dX7_kept_2 rfl (r_isSlot_t (in6 hs)) rfl rfl lk_X7_216 rfl (nb rfl) ⟨nb rfl, nb rfl⟩ rfl ?_
    refine g_iconst (pc := 5) (v := 1) dX7_kept_5 rfl ?_
    refine g_invV_r (pc := 6) (As := [_, _]) dX7_kept_6 rfl (r_isThrown_0 hS) rfl rfl (shK hS rfl) rfl rfl lk_X7_209 rfl (nb rfl) ⟨nb rfl, nb rfl⟩ rfl ?_
    refine g_if_ne (pc := 9) (tgt := 29) dX7_kept_9 rfl (fun h9 => absurd h9 ((fun z => z rfl))) (fun _ => ?_)
    refine g_aload_n (pc := 12) dX7_kept_12 rfl trivial ?_
    refine g_iload_n (pc := 13) dX7_kept_13 rfl ?_
    refine g_i2l (pc := 14) dX7_kept_14 rfl ?_
    refine g_lconst (pc := 15) (v := 0) dX7_kept_15 rfl ?_
    refine g_ldc2 (pc := 16) dX7_kept_16 wd_1762 ?_
    refine g_invS_r (pc := 19) (As := [_, _, _]) dX7_kept_19 rfl (r_in_t hl2.1 hl2.2) rfl rfl lk_X7_67 rfl (nb rfl) ⟨nb rfl, nb rfl⟩ rfl ?_
    refine g_iconst (pc := 22) (v := 2) dX7_kept_22 rfl ?_
    refine g_invV_r (pc := 23) (As := [_, _]) dX7_kept_23 rfl (r_isThrown_0 h'.1) rfl rfl (shK hS rfl) rfl rfl lk_X7_209 rfl (nb rfl) ⟨nb rfl, nb rfl⟩ rfl ?_
    refine go_cast e2 ?_
    refine g_if_eq (pc := 26) (tgt := 31) dX7_kept_26 rfl (fun _ => ?_) (fun h26 => absurd (rfl) h26)
    refine g_aload_n (pc := 31) dX7_kept_31 rfl trivial ?_
    refine g_getf (pc := 32) dX7_kept_32 fk_X7_9 (shK h'.1 rfl) (fv_arr (shR h'.1 rfl)) ?_
    refine g_iconst (pc := 35) (v := 4) dX7_kept_35 rfl ?_
    refine g_iload_n (pc := 36) dX7_kept_36 rfl ?_
    refine g_iadd (pc := 37) dX7_kept_37 ?_
    rw [i4]
    refine g_laload (pc := 38) dX7_kept_38 (shK h'.1 rfl) rfl (show 4 + s < 220 by omega) (nl rfl) ?_
    refine g_lconst (pc := 39) (v := 0) dX7_kept_39 rfl ?_
    refine g_lcmp (pc := 40) dX7_kept_40 ?_
    refine g_if_ne (pc := 41) (tgt := 48) dX7_kept_41 rfl (fun _ => ?_) (fun h41 => absurd ((fun z => h1 ((lg_cmp_eq _ _).mp z))) h41)
    refine g_aload_n (pc := 48) dX7_kept_48 rfl trivial ?_
    refine g_getf (pc := 49) dX7_kept_49 fk_X7_9 (shK h'.1 rfl) (fv_arr (shR h'.1 rfl)) ?_
    refine g_bipush (pc := 52) (v := 10) dX7_kept_52 rfl ?_
    refine g_bipush (pc := 54) (v := 6) dX7_kept_54 rfl ?_
    refine g_iload_n (pc := 56) dX7_kept_56 rfl ?_
    refine g_imul (pc := 57) dX7_kept_57 ?_
    refine g_iadd (pc := 58) dX7_kept_58 ?_
    refine g_iload_n (pc := 59) dX7_kept_59 rfl ?_
    refine g_iadd (pc := 60) dX7_kept_60 ?_
    rw [i10]
    refine g_laload (pc := 61) dX7_kept_61 (shK h'.1 rfl) rfl (show 10 + 6 * w + s < 220 by omega) (nl rfl) ?_
    refine g_l2i (pc := 62) dX7_kept_62 rfl ?_
    refine g_ireturn (pc := 63) dX7_kept_63 rfl rfl ?_
    exact ⟨rfl, rfl⟩
theorem t_kept {v w : Int32} (h : Rr M n A) (hx : ¬ inR v 6) : EvR l jX7_kept 4 160 0 0 [.ref 198, .int v, .int w] M (.inl (some (.int 0))) (thr M 1) := by
  have hS := h.1
  refine ev_intro rfl (nb rfl) rfl ?_
  refine g_aload_n (pc := 0) dX7_kept_0 rfl trivial ?_
  refine g_iload_n (pc := 1) dX7_kept_1 rfl ?_
  refine g_invS_r (pc := 2) (As := [_]) dX7_kept_2 rfl (r_isSlot_f hx) rfl rfl lk_X7_216 rfl (nb rfl) ⟨nb rfl, nb rfl⟩ rfl ?_
  refine g_iconst (pc := 5) (v := 1) dX7_kept_5 rfl ?_
  refine g_invV_r (pc := 6) (As := [_, _]) dX7_kept_6 rfl (r_isThrown_1 hS) rfl rfl (shK hS rfl) rfl rfl lk_X7_209 rfl (nb rfl) ⟨nb rfl, nb rfl⟩ rfl ?_
  refine g_if_ne (pc := 9) (tgt := 29) dX7_kept_9 rfl (fun _ => ?_) (fun h9 => absurd ((by decide)) h9)
  refine g_iconst (pc := 29) (v := 0) dX7_kept_29 rfl ?_
  refine g_ireturn (pc := 30) dX7_kept_30 rfl rfl ?_
  exact ⟨rfl, rfl⟩
theorem u_kept' {v w : Int32} (h : Rr M n A) (hv : inR v 6) (hx : ¬ (¬ w < 0 ∧ w ≤ 2)) : EvR l jX7_kept 4 160 0 0 [.ref 198, .int v, .int w] M (.inl (some (.int 0))) (thr M 2) := by
  have hS := h.1
  have h' := h.thr (x := 0)
  refine ev_intro rfl (nb rfl) rfl ?_
  refine g_aload_n (pc := 0) dX7_kept_0 rfl trivial ?_
  refine g_iload_n (pc := 1) dX7_kept_1 rfl ?_
  refine g_invS_r (pc := 2) (As := [_]) dX7_kept_2 rfl (r_isSlot_t hv) rfl rfl lk_X7_216 rfl (nb rfl) ⟨nb rfl, nb rfl⟩ rfl ?_
  refine g_iconst (pc := 5) (v := 1) dX7_kept_5 rfl ?_
  refine g_invV_r (pc := 6) (As := [_, _]) dX7_kept_6 rfl (r_isThrown_0 hS) rfl rfl (shK hS rfl) rfl rfl lk_X7_209 rfl (nb rfl) ⟨nb rfl, nb rfl⟩ rfl ?_
  refine g_if_ne (pc := 9) (tgt := 29) dX7_kept_9 rfl (fun h9 => absurd h9 ((fun z => z rfl))) (fun _ => ?_)
  refine g_aload_n (pc := 12) dX7_kept_12 rfl trivial ?_
  refine g_iload_n (pc := 13) dX7_kept_13 rfl ?_
  refine g_i2l (pc := 14) dX7_kept_14 rfl ?_
  refine g_lconst (pc := 15) (v := 0) dX7_kept_15 rfl ?_
  refine g_ldc2 (pc := 16) dX7_kept_16 wd_1762 ?_
  refine g_invS_r (pc := 19) (As := [_, _, _]) dX7_kept_19 rfl (r_in_f (fun z => hx ((lim_long (a := 0) (b := 2)).mp z))) rfl rfl lk_X7_67 rfl (nb rfl) ⟨nb rfl, nb rfl⟩ rfl ?_
  refine g_iconst (pc := 22) (v := 2) dX7_kept_22 rfl ?_
  refine g_invV_r (pc := 23) (As := [_, _]) dX7_kept_23 rfl (r_isThrown_1 h'.1) rfl rfl (shK hS rfl) rfl rfl lk_X7_209 rfl (nb rfl) ⟨nb rfl, nb rfl⟩ rfl ?_
  refine g_if_eq (pc := 26) (tgt := 31) dX7_kept_26 rfl (fun h26 => absurd h26 ((by decide))) (fun _ => ?_)
  refine g_iconst (pc := 29) (v := 0) dX7_kept_29 rfl ?_
  refine g_ireturn (pc := 30) dX7_kept_30 rfl rfl ?_
  exact ⟨rfl, thr_2⟩
theorem n_work {w : Nat} (h : Rr M n A) (hw : w < 2) : EvR l jX7_work 4 160 0 0 [.ref 198, .int (nI w)] M (.inl (some (.int (mL M 199 (2 + w)).toInt32))) (thr M 0) := by
  have hS := h.1
  have h' := h.thr (x := 0)
  have i2 : 2 + nI w = nI (2 + w) := nI_add 2 w
  have hl2 : (0 : Int64) ≤ (nI w).toInt64 ∧ (nI w).toInt64 ≤ 1 := (lim_long (a := 0) (b := 1)).mpr ⟨nI_pos (by omega), nI_le (b := 1) (by omega) (by decide)⟩
  refine ev_intro rfl (nb rfl) rfl ?_
  refine g_aload_n (pc := 0) dX7_work_0 rfl trivial ?_
  refine g_iload_n (pc := 1) dX7_work_1 rfl ?_
  refine g_i2l (pc := 2) dX7_work_2 rfl ?_
  refine g_lconst (pc := 3) (v := 0) dX7_work_3 rfl ?_
  refine g_lconst (pc := 4) (v := 1) dX7_work_4 rfl ?_
  refine g_invS_r (pc := 5) (As := [_, _, _]) dX7_work_5 rfl (r_in_t hl2.1 hl2.2) rfl rfl lk_X7_67 rfl (nb rfl) ⟨nb rfl, nb rfl⟩ rfl ?_
  refine g_iconst (pc := 8) (v := 1) dX7_work_8 rfl ?_
  refine g_invV_r (pc := 9) (As := [_, _]) dX7_work_9 rfl (r_isThrown_0 hS) rfl rfl (shK hS rfl) rfl rfl lk_X7_209 rfl (nb rfl) ⟨nb rfl, nb rfl⟩ rfl ?_
  refine g_if_eq (pc := 12) (tgt := 19) dX7_work_12 rfl (fun _ => ?_) (fun h12 => absurd (rfl) h12)
  refine g_aload_n (pc := 19) dX7_work_19 rfl trivial ?_
  refine g_getf (pc := 20) dX7_work_20 fk_X7_9 (shK h'.1 rfl) (fv_arr (shR h'.1 rfl)) ?_
  refine g_iconst (pc := 23) (v := 2) dX7_work_23 rfl ?_
  refine g_iload_n (pc := 24) dX7_work_24 rfl ?_
  refine g_iadd (pc := 25) dX7_work_25 ?_
  rw [i2]
  refine g_laload (pc := 26) dX7_work_26 (shK h'.1 rfl) rfl (show 2 + w < 220 by omega) (nl rfl) ?_
  refine g_l2i (pc := 27) dX7_work_27 rfl ?_
  refine g_ireturn (pc := 28) dX7_work_28 rfl rfl ?_
  exact ⟨rfl, rfl⟩
theorem t_work {w : Int32} (hS : Shp M) (hx : ¬ (¬ w < 0 ∧ w ≤ 1)) : EvR l jX7_work 4 160 0 0 [.ref 198, .int w] M (.inl (some (.int 0))) (thr M 1) := by
  refine ev_intro rfl (nb rfl) rfl ?_
  refine g_aload_n (pc := 0) dX7_work_0 rfl trivial ?_
  refine g_iload_n (pc := 1) dX7_work_1 rfl ?_
  refine g_i2l (pc := 2) dX7_work_2 rfl ?_
  refine g_lconst (pc := 3) (v := 0) dX7_work_3 rfl ?_
  refine g_lconst (pc := 4) (v := 1) dX7_work_4 rfl ?_
  refine g_invS_r (pc := 5) (As := [_, _, _]) dX7_work_5 rfl (r_in_f (fun z => hx ((lim_long (a := 0) (b := 1)).mp z))) rfl rfl lk_X7_67 rfl (nb rfl) ⟨nb rfl, nb rfl⟩ rfl ?_
  refine g_iconst (pc := 8) (v := 1) dX7_work_8 rfl ?_
  refine g_invV_r (pc := 9) (As := [_, _]) dX7_work_9 rfl (r_isThrown_1 hS) rfl rfl (shK hS rfl) rfl rfl lk_X7_209 rfl (nb rfl) ⟨nb rfl, nb rfl⟩ rfl ?_
  refine g_if_eq (pc := 12) (tgt := 19) dX7_work_12 rfl (fun h12 => absurd h12 ((by decide))) (fun _ => ?_)
  refine g_iconst (pc := 15) (v := 0) dX7_work_15 rfl ?_
  refine g_goto (pc := 16) (tgt := 28) dX7_work_16 rfl ?_
  refine g_ireturn (pc := 28) dX7_work_28 rfl rfl ?_
  exact ⟨rfl, rfl⟩
theorem n_count {w : Nat} (h : Rr M n A) (hw : w < 4) : EvR l jX7_count 4 160 0 0 [.ref 198, .int (nI w)] M (.inl (some (.int (if w < 2 then (mL M 199 w).toInt32 else if w = 2 then kmI (mL M 199) 6 else mI M 198 5)))) (thr M 0) := by
  have hS := h.1
  have h' := h.thr (x := 0)
  have e5 : mI (thr M 0) 198 5 = mI M 198 5 := pI_k (by decide)
  have hl2 : (0 : Int64) ≤ (nI w).toInt64 ∧ (nI w).toInt64 ≤ 3 := (lim_long (a := 0) (b := 3)).mpr ⟨nI_pos (by omega), nI_le (b := 3) (by omega) (by decide)⟩
  refine ev_intro rfl (nb rfl) rfl ?_
  by_cases h1 : w < 2
  · rw [if_pos h1]
    refine g_aload_n (pc := 0) dX7_count_0 rfl trivial ?_
    refine g_iload_n (pc := 1) dX7_count_1 rfl ?_
    refine g_i2l (pc := 2) dX7_count_2 rfl ?_
    refine g_lconst (pc := 3) (v := 0) dX7_count_3 rfl ?_
    refine g_ldc2 (pc := 4) dX7_count_4 wd_1424 ?_
    refine g_invS_r (pc := 7) (As := [_, _, _]) dX7_count_7 rfl (r_in_t hl2.1 hl2.2) rfl rfl lk_X7_67 rfl (nb rfl) ⟨nb rfl, nb rfl⟩ rfl ?_
    refine g_iconst (pc := 10) (v := 1) dX7_count_10 rfl ?_
    refine g_invV_r (pc := 11) (As := [_, _]) dX7_count_11 rfl (r_isThrown_0 hS) rfl rfl (shK hS rfl) rfl rfl lk_X7_209 rfl (nb rfl) ⟨nb rfl, nb rfl⟩ rfl ?_
    refine g_if_eq (pc := 14) (tgt := 19) dX7_count_14 rfl (fun _ => ?_) (fun h14 => absurd (rfl) h14)
    refine g_iload_n (pc := 19) dX7_count_19 rfl ?_
    refine g_iconst (pc := 20) (v := 2) dX7_count_20 rfl ?_
    refine g_icmp_ge (pc := 21) (tgt := 34) dX7_count_21 rfl (fun h21 => absurd h21 (nI_ge (b := 2) h1 (by decide))) (fun _ => ?_)
    refine g_aload_n (pc := 24) dX7_count_24 rfl trivial ?_
    refine g_getf (pc := 25) dX7_count_25 fk_X7_9 (shK h'.1 rfl) (fv_arr (shR h'.1 rfl)) ?_
    refine g_iload_n (pc := 28) dX7_count_28 rfl ?_
    refine g_laload (pc := 29) dX7_count_29 (shK h'.1 rfl) rfl (show w < 220 by omega) (nl rfl) ?_
    refine g_l2i (pc := 30) dX7_count_30 rfl ?_
    refine g_goto (pc := 31) (tgt := 50) dX7_count_31 rfl ?_
    refine g_ireturn (pc := 50) dX7_count_50 rfl rfl ?_
    exact ⟨rfl, rfl⟩
  · rw [if_neg h1]
    by_cases h2 : w = 2
    · rw [if_pos h2]
      refine g_aload_n (pc := 0) dX7_count_0 rfl trivial ?_
      refine g_iload_n (pc := 1) dX7_count_1 rfl ?_
      refine g_i2l (pc := 2) dX7_count_2 rfl ?_
      refine g_lconst (pc := 3) (v := 0) dX7_count_3 rfl ?_
      refine g_ldc2 (pc := 4) dX7_count_4 wd_1424 ?_
      refine g_invS_r (pc := 7) (As := [_, _, _]) dX7_count_7 rfl (r_in_t hl2.1 hl2.2) rfl rfl lk_X7_67 rfl (nb rfl) ⟨nb rfl, nb rfl⟩ rfl ?_
      refine g_iconst (pc := 10) (v := 1) dX7_count_10 rfl ?_
      refine g_invV_r (pc := 11) (As := [_, _]) dX7_count_11 rfl (r_isThrown_0 hS) rfl rfl (shK hS rfl) rfl rfl lk_X7_209 rfl (nb rfl) ⟨nb rfl, nb rfl⟩ rfl ?_
      refine g_if_eq (pc := 14) (tgt := 19) dX7_count_14 rfl (fun _ => ?_) (fun h14 => absurd (rfl) h14)
      refine g_iload_n (pc := 19) dX7_count_19 rfl ?_
      refine g_iconst (pc := 20) (v := 2) dX7_count_20 rfl ?_
      refine g_icmp_ge (pc := 21) (tgt := 34) dX7_count_21 rfl (fun _ => ?_) (fun h21 => absurd (nI_le (a := 2) (by omega) (by omega)) h21)
      refine g_iload_n (pc := 34) dX7_count_34 rfl ?_
      refine g_iconst (pc := 35) (v := 2) dX7_count_35 rfl ?_
      refine g_icmp_ne (pc := 36) (tgt := 46) dX7_count_36 rfl (fun h36 => absurd h36 ((fun z => z (by rw [h2]; rfl)))) (fun _ => ?_)
      refine g_aload_n (pc := 39) dX7_count_39 rfl trivial ?_
      refine g_invV_r (pc := 40) (As := []) dX7_count_40 rfl (r_keptMany h'.1) rfl rfl (shK hS rfl) rfl rfl lk_X7_213 rfl (nb rfl) ⟨nb rfl, nb rfl⟩ rfl ?_
      refine g_goto (pc := 43) (tgt := 50) dX7_count_43 rfl ?_
      refine g_ireturn (pc := 50) dX7_count_50 rfl rfl ?_
      exact ⟨rfl, rfl⟩
    · rw [if_neg h2]
      refine g_aload_n (pc := 0) dX7_count_0 rfl trivial ?_
      refine g_iload_n (pc := 1) dX7_count_1 rfl ?_
      refine g_i2l (pc := 2) dX7_count_2 rfl ?_
      refine g_lconst (pc := 3) (v := 0) dX7_count_3 rfl ?_
      refine g_ldc2 (pc := 4) dX7_count_4 wd_1424 ?_
      refine g_invS_r (pc := 7) (As := [_, _, _]) dX7_count_7 rfl (r_in_t hl2.1 hl2.2) rfl rfl lk_X7_67 rfl (nb rfl) ⟨nb rfl, nb rfl⟩ rfl ?_
      refine g_iconst (pc := 10) (v := 1) dX7_count_10 rfl ?_
      refine g_invV_r (pc := 11) (As := [_, _]) dX7_count_11 rfl (r_isThrown_0 hS) rfl rfl (shK hS rfl) rfl rfl lk_X7_209 rfl (nb rfl) ⟨nb rfl, nb rfl⟩ rfl ?_
      refine g_if_eq (pc := 14) (tgt := 19) dX7_count_14 rfl (fun _ => ?_) (fun h14 => absurd (rfl) h14)
      refine g_iload_n (pc := 19) dX7_count_19 rfl ?_
      refine g_iconst (pc := 20) (v := 2) dX7_count_20 rfl ?_
      refine g_icmp_ge (pc := 21) (tgt := 34) dX7_count_21 rfl (fun _ => ?_) (fun h21 => absurd (nI_le (a := 2) (by omega) (by omega)) h21)
      refine g_iload_n (pc := 34) dX7_count_34 rfl ?_
      refine g_iconst (pc := 35) (v := 2) dX7_count_35 rfl ?_
      refine g_icmp_ne (pc := 36) (tgt := 46) dX7_count_36 rfl (fun _ => ?_) (fun h36 => absurd ((fun z => h2 ((nI_eq (b := 2) (by omega) (by decide)).mp z))) h36)
      refine g_aload_n (pc := 46) dX7_count_46 rfl trivial ?_
      refine g_getf (pc := 47) (v := .int _) dX7_count_47 fk_X7_201 (shK h'.1 rfl) (fun _ => congrArg Value.int (e5)) ?_
      refine g_ireturn (pc := 50) dX7_count_50 rfl rfl ?_
      exact ⟨rfl, rfl⟩
theorem t_count {w : Int32} (hS : Shp M) (hx : ¬ (¬ w < 0 ∧ w ≤ 3)) : EvR l jX7_count 4 160 0 0 [.ref 198, .int w] M (.inl (some (.int 0))) (thr M 1) := by
  refine ev_intro rfl (nb rfl) rfl ?_
  refine g_aload_n (pc := 0) dX7_count_0 rfl trivial ?_
  refine g_iload_n (pc := 1) dX7_count_1 rfl ?_
  refine g_i2l (pc := 2) dX7_count_2 rfl ?_
  refine g_lconst (pc := 3) (v := 0) dX7_count_3 rfl ?_
  refine g_ldc2 (pc := 4) dX7_count_4 wd_1424 ?_
  refine g_invS_r (pc := 7) (As := [_, _, _]) dX7_count_7 rfl (r_in_f (fun z => hx ((lim_long (a := 0) (b := 3)).mp z))) rfl rfl lk_X7_67 rfl (nb rfl) ⟨nb rfl, nb rfl⟩ rfl ?_
  refine g_iconst (pc := 10) (v := 1) dX7_count_10 rfl ?_
  refine g_invV_r (pc := 11) (As := [_, _]) dX7_count_11 rfl (r_isThrown_1 hS) rfl rfl (shK hS rfl) rfl rfl lk_X7_209 rfl (nb rfl) ⟨nb rfl, nb rfl⟩ rfl ?_
  refine g_if_eq (pc := 14) (tgt := 19) dX7_count_14 rfl (fun h14 => absurd h14 ((by decide))) (fun _ => ?_)
  refine g_iconst (pc := 17) (v := 0) dX7_count_17 rfl ?_
  refine g_ireturn (pc := 18) dX7_count_18 rfl rfl ?_
  exact ⟨rfl, rfl⟩
/-- an action taken back -/
def und (M : Mem) (c : Nat) : Mem := sL (pI (thr M 0) 198 5 (nI (c - 1))) 199 (cpF (mL M 199) 0 (mL M 201) (c - 1) 220)
theorem n_undo (hS : Shp M) (hc : mI M 198 5 = nI c) (hc8 : c ≤ 8) (h0 : 1 ≤ c) : EvR l jX7_undo 4 160 0 0 [.ref 198] M (.inl (some (.int (nI (c - 1))))) (und M c) := by
  have e5 : mI (thr M 0) 198 5 = nI c := (pI_k (by decide)).trans hc
  have e6 : mI (pI (thr M 0) 198 5 (nI (c - 1))) 198 5 = nI (c - 1) := pI_self (thr M 0) 198 5 _
  have hS1 : Shp (thr M 0) := hS
  have hS2 : Shp (pI (thr M 0) 198 5 (nI (c - 1))) := hS
  have q1 := r_copies (l := l) (M := pI (thr M 0) 198 5 (nI (c - 1))) (x := 201) (y := 199) (h := c - 1) (t := 0) (shK hS2 rfl) (shK hS2 rfl) (by decide) (by omega) (by decide) (by decide) (by decide)
  have hS3 : Shp (und M c) := hS
  have e7 : mI (und M c) 198 5 = nI (c - 1) := e6
  have q1 : EvR l jX7_copies 0 0 0 0 [.ref 201, .int (nI (c - 1)), .ref 199, .int (nI 0)] (pI (thr M 0) 198 5 (nI (c - 1))) (.inl none) (und M c) := q1
  generalize und M c = M3 at *
  have e1 : pI (thr M 0) 198 5 (nI c - 1) = pI (thr M 0) 198 5 (nI (c - 1)) := by rw [nI_m1 h0]
  have e0 : pI M 198 6 0 = thr M 0 := rfl
  generalize pI (thr M 0) 198 5 (nI (c - 1)) = M2 at *
  refine ev_intro rfl (nb rfl) rfl ?_
  refine g_aload_n (pc := 0) dX7_undo_0 rfl trivial ?_
  refine g_iconst (pc := 1) (v := 0) dX7_undo_1 rfl ?_
  refine g_putI (pc := 2) dX7_undo_2 fp_X7_60 (shK hS rfl) ⟨rfl, rfl⟩ (fun _ _ _ _ => rfl) ?_
  refine go_cast e0 ?_
  refine g_aload_n (pc := 5) dX7_undo_5 rfl trivial ?_
  refine g_getf (pc := 6) (v := .int _) dX7_undo_6 fk_X7_201 (shK hS1 rfl) (fun _ => congrArg Value.int (e5)) ?_
  refine g_if_ne (pc := 9) (tgt := 14) dX7_undo_9 rfl (fun _ => ?_) (fun h9 => absurd (nI_ne0 h0 (by omega)) h9)
  refine g_aload_n (pc := 14) dX7_undo_14 rfl trivial ?_
  refine g_dup (pc := 15) dX7_undo_15 rfl ?_
  refine g_getf (pc := 16) (v := .int _) dX7_undo_16 fk_X7_201 (shK hS1 rfl) (fun _ => congrArg Value.int (e5)) ?_
  refine g_iconst (pc := 19) (v := 1) dX7_undo_19 rfl ?_
  refine g_isub (pc := 20) dX7_undo_20 ?_
  refine g_putI (pc := 21) dX7_undo_21 fp_X7_201 (shK hS1 rfl) ⟨rfl, rfl⟩ (fun _ _ _ _ => rfl) ?_
  refine go_cast e1 ?_
  refine g_aload_n (pc := 24) dX7_undo_24 rfl trivial ?_
  refine g_getf (pc := 25) dX7_undo_25 fk_X7_16 (shK hS2 rfl) (fv_arr (shR hS2 rfl)) ?_
  refine g_aload_n (pc := 28) dX7_undo_28 rfl trivial ?_
  refine g_getf (pc := 29) (v := .int _) dX7_undo_29 fk_X7_201 (shK hS2 rfl) (fun _ => congrArg Value.int (e6)) ?_
  refine g_aload_n (pc := 32) dX7_undo_32 rfl trivial ?_
  refine g_getf (pc := 33) dX7_undo_33 fk_X7_9 (shK hS2 rfl) (fv_arr (shR hS2 rfl)) ?_
  refine g_iconst (pc := 36) (v := 0) dX7_undo_36 rfl ?_
  refine g_invS_r (pc := 37) (As := [_, _, _, _]) dX7_undo_37 rfl (q1) rfl rfl lk_X7_198 rfl (nb rfl) ⟨nb rfl, nb rfl⟩ rfl ?_
  refine g_aload_n (pc := 40) dX7_undo_40 rfl trivial ?_
  refine g_getf (pc := 41) (v := .int _) dX7_undo_41 fk_X7_201 (shK hS3 rfl) (fun _ => congrArg Value.int (e7)) ?_
  refine g_ireturn (pc := 44) dX7_undo_44 rfl rfl ?_
  exact ⟨rfl, rfl⟩
theorem t_undo (hS : Shp M) (hc : mI M 198 5 = 0) : EvR l jX7_undo 4 160 0 0 [.ref 198] M (.inl (some (.int (-1)))) (thr M 0) := by
  have e5 : mI (thr M 0) 198 5 = 0 := (pI_k (by decide)).trans hc
  have hS1 : Shp (thr M 0) := hS
  have e0 : pI M 198 6 0 = thr M 0 := rfl
  generalize thr M 0 = M1 at *
  refine ev_intro rfl (nb rfl) rfl ?_
  refine g_aload_n (pc := 0) dX7_undo_0 rfl trivial ?_
  refine g_iconst (pc := 1) (v := 0) dX7_undo_1 rfl ?_
  refine g_putI (pc := 2) dX7_undo_2 fp_X7_60 (shK hS rfl) ⟨rfl, rfl⟩ (fun _ _ _ _ => rfl) ?_
  refine go_cast e0 ?_
  refine g_aload_n (pc := 5) dX7_undo_5 rfl trivial ?_
  refine g_getf (pc := 6) (v := .int _) dX7_undo_6 fk_X7_201 (shK hS1 rfl) (fun _ => congrArg Value.int (e5)) ?_
  refine g_if_ne (pc := 9) (tgt := 14) dX7_undo_9 rfl (fun h9 => absurd h9 ((fun z => z rfl))) (fun _ => ?_)
  refine g_iconst (pc := 12) (v := (-1)) dX7_undo_12 rfl ?_
  refine g_ireturn (pc := 13) dX7_undo_13 rfl rfl ?_
  exact ⟨rfl, rfl⟩
end
end
