/-! the lowest one; the reference: queries on closures -/
theorem bcJ_low : ∀ t, t ≤ 32 → bcJ (lowM t) = nI t := by decide +kernel
theorem bitI_m1 : ∀ t, t < 32 → bitI t - 1 = lowM t := by decide +kernel
theorem lowN_at {x : Int32} {t : Nat} (ht : t < 32) (h : hb x t = true) (h2 : ∀ i, i < t → hb x i = false) : lowN x = t := by
  have e : x &&& -x = bitI t := hb_ext fun i hi => by
    rw [hb_and, hb_bitI ht]
    have h3 : hb (-x) i = Bool.xor (hb x i) (decide (∃ j, j < i ∧ hb x j = true)) := by
      unfold hb
      rw [Int32.toBitVec_neg, BitVec.getLsbD_neg]
      simp [hi]
    rw [h3]
    by_cases h4 : i = t
    · subst h4
      have h5 : ¬ ∃ j, j < i ∧ hb x j = true := fun ⟨j, a, b⟩ => by rw [h2 j a] at b; cases b
      rw [h]; simp [h5]
    · by_cases h5 : i < t
      · rw [h2 i h5]; simp; omega
      · have h6 : ∃ j, j < i ∧ hb x j = true := ⟨t, by omega, h⟩
        simp [h6, h4]
  unfold lowN lowI
  rw [e, bitI_m1 t ht, bcJ_low t (by omega)]
  have : ∀ t, t < 32 → (nI t &&& 31).toNatClampNeg = t := by decide +kernel
  exact this t ht
theorem low_ex {x : Int32} (h : x ≠ 0) : hb x (lowN x) = true ∧ ∀ i, i < lowN x → hb x i = false := by
  have h1 : ∃ t, t < 32 ∧ hb x t = true := by
    apply Classical.byContradiction
    intro h2
    refine h (hb_ext fun i hi => ?_)
    rw [hb_0]
    cases h3 : hb x i with
    | false => rfl
    | true => exact absurd ⟨i, hi, h3⟩ h2
  have key : ∀ d t, t ≤ d → t < 32 → hb x t = true → ∃ t', t' < 32 ∧ hb x t' = true ∧ ∀ i, i < t' → hb x i = false := by
    intro d
    induction d with
    | zero => intro t h2 h3 h4; exact ⟨t, h3, h4, fun i hi => by omega⟩
    | succ d ih =>
      intro t h2 h3 h4
      by_cases h5 : ∃ j, j < t ∧ hb x j = true
      · obtain ⟨j, a, b⟩ := h5
        exact ih j (by omega) (by omega) b
      · refine ⟨t, h3, h4, fun i hi => ?_⟩
        cases h6 : hb x i with
        | false => rfl
        | true => exact absurd ⟨i, hi, h6⟩ h5
  obtain ⟨t, a, b⟩ := h1
  obtain ⟨t', a1, a2, a3⟩ := key t t (Nat.le_refl _) a b
  rw [lowN_at a1 a2 a3]
  exact ⟨a2, a3⟩
theorem hb_b1 (b : Bool) (i : Nat) : hb (b1 b) i = (b && decide (i = 0)) := by
  by_cases h : i < 32
  · exact (by decide +kernel : ∀ b : Bool, ∀ i, i < 32 → hb (b1 b) i = (b && decide (i = 0))) b i h
  · rw [hb_ge (by omega)]; simp; omega
theorem hb_shl1 : ∀ b : Bool, ∀ c, c < 32 → ∀ i, i < 32 → hb (b1 b <<< (nI c &&& 31)) i = (b && decide (i = c)) := by decide +kernel
theorem hb_colOf {f : Nat → Int32} {c : Nat} : ∀ k, k ≤ 32 → ∀ i, hb (colOf f c k) i = (decide (i < k) && hb (f i) c)
  | 0, _, i => by rw [colOf, hb_0]; simp
  | k + 1, hk, i => by
    rw [colOf, hb_or, hb_colOf k (by omega)]
    by_cases h : i < 32
    · rw [hb_shl1 _ k (by omega) i h]
      by_cases h2 : i = k
      · subst h2; simp
      · by_cases h3 : i < k
        · simp [h3, h2, show i < k + 1 by omega]
        · simp [h3, h2, show ¬ i < k + 1 by omega]
    · rw [hb_ge (x := b1 _ <<< _) (by omega)]
      simp [show ¬ i < k by omega, show ¬ i < k + 1 by omega]
section
variable {l : Launch} {M : Mem} {n : Nat} {A : Nat → Nat → Int32}
/-- the closure at hand -/
theorem n_reaches {s a b : Nat} (h : Rr M n A) (hs : s < 6) (ha : a < n) (hb9 : b < n) : EvR l jX7_reaches 4 160 0 0 [.ref 198, .int (nI s), .int (nI a), .int (nI b)] M (.inl (some (.int (b1 (hb (wOut (A s) n n a) b))))) (hdM (thr M 0) 205 n (wOut (A s) n n)) := by
  have hn := h.2.2.2.1
  have hS := h.1
  have h' := h.thr (x := 0)
  have h1 : Rr (hdM (thr M 0) 205 n (wOut (A s) n n)) n A := h'.hd (Or.inl rfl)
  have e1 := hdM_at (M := thr M 0) (x := 205) (f := wOut (A s) n n) ha
  have q1 := r_closure (l := l) h' hs
  generalize hdM (thr M 0) 205 n (wOut (A s) n n) = M1 at *
  generalize wOut (A s) n n = f at *
  refine ev_intro rfl (nb rfl) rfl ?_
  refine g_aload_n (pc := 0) dX7_reaches_0 rfl trivial ?_
  refine g_aload_n (pc := 1) dX7_reaches_1 rfl trivial ?_
  refine g_iload_n (pc := 2) dX7_reaches_2 rfl ?_
  refine g_iload_n (pc := 3) dX7_reaches_3 rfl ?_
  refine g_invV_r (pc := 4) (As := [_, _]) dX7_reaches_4 rfl (r_areIn_t h (in6 hs) (inR_nI ha (by omega))) rfl rfl (shK hS rfl) rfl rfl lk_X7_223 rfl (nb rfl) ⟨nb rfl, nb rfl⟩ rfl ?_
  refine g_if_eq (pc := 7) (tgt := 22) dX7_reaches_7 rfl (fun h7 => absurd h7 ((by decide))) (fun _ => ?_)
  refine g_aload_n (pc := 10) dX7_reaches_10 rfl trivial ?_
  refine g_iload_n (pc := 11) dX7_reaches_11 rfl ?_
  refine g_invV_r (pc := 12) (As := [_]) dX7_reaches_12 rfl (r_isNode_t h (inR_nI hb9 (by omega))) rfl rfl (shK hS rfl) rfl rfl lk_X7_220 rfl (nb rfl) ⟨nb rfl, nb rfl⟩ rfl ?_
  refine g_if_eq (pc := 15) (tgt := 22) dX7_reaches_15 rfl (fun h15 => absurd h15 ((by decide))) (fun _ => ?_)
  refine g_iconst (pc := 18) (v := 1) dX7_reaches_18 rfl ?_
  refine g_goto (pc := 19) (tgt := 23) dX7_reaches_19 rfl ?_
  refine g_iconst (pc := 23) (v := 1) dX7_reaches_23 rfl ?_
  refine g_invV_r (pc := 24) (As := [_, _]) dX7_reaches_24 rfl (r_isThrown_0 hS) rfl rfl (shK hS rfl) rfl rfl lk_X7_209 rfl (nb rfl) ⟨nb rfl, nb rfl⟩ rfl ?_
  refine g_if_eq (pc := 27) (tgt := 32) dX7_reaches_27 rfl (fun _ => ?_) (fun h27 => absurd (rfl) h27)
  refine g_aload_n (pc := 32) dX7_reaches_32 rfl trivial ?_
  refine g_iload_n (pc := 33) dX7_reaches_33 rfl ?_
  refine g_invV_r (pc := 34) (As := [_]) dX7_reaches_34 rfl (q1) rfl rfl (shK h'.1 rfl) rfl rfl lk_X7_260 rfl (nb rfl) ⟨nb rfl, nb rfl⟩ rfl ?_
  refine g_aload_n (pc := 37) dX7_reaches_37 rfl trivial ?_
  refine g_getf (pc := 38) dX7_reaches_38 fk_X7_34 (shK h1.1 rfl) (fv_arr (shR h1.1 rfl)) ?_
  refine g_iload_n (pc := 41) dX7_reaches_41 rfl ?_
  refine g_laload (pc := 42) dX7_reaches_42 (shK h1.1 rfl) rfl (by omega) (nl rfl) ?_
  rw [e1]
  refine g_iload_n (pc := 43) dX7_reaches_43 rfl ?_
  refine g_invS_r (pc := 44) (As := [_, _]) dX7_reaches_44 rfl (r_one (by omega)) rfl rfl lk_X7_231 rfl (nb rfl) ⟨nb rfl, nb rfl⟩ rfl ?_
  refine g_ireturn (pc := 47) dX7_reaches_47 rfl rfl ?_
  exact ⟨rfl, rfl⟩
theorem t_reaches {v w u : Int32} (h : Rr M n A) (hx : ¬ (inR v 6 ∧ inR w n ∧ inR u n)) : EvR l jX7_reaches 4 160 0 0 [.ref 198, .int v, .int w, .int u] M (.inl (some (.int 0))) (thr M 1) := by
  have hS := h.1
  refine ev_intro rfl (nb rfl) rfl ?_
  by_cases h1 : inR v 6 ∧ inR w n
  · refine g_aload_n (pc := 0) dX7_reaches_0 rfl trivial ?_
    refine g_aload_n (pc := 1) dX7_reaches_1 rfl trivial ?_
    refine g_iload_n (pc := 2) dX7_reaches_2 rfl ?_
    refine g_iload_n (pc := 3) dX7_reaches_3 rfl ?_
    refine g_invV_r (pc := 4) (As := [_, _]) dX7_reaches_4 rfl (r_areIn_t h h1.1 h1.2) rfl rfl (shK hS rfl) rfl rfl lk_X7_223 rfl (nb rfl) ⟨nb rfl, nb rfl⟩ rfl ?_
    refine g_if_eq (pc := 7) (tgt := 22) dX7_reaches_7 rfl (fun h7 => absurd h7 ((by decide))) (fun _ => ?_)
    refine g_aload_n (pc := 10) dX7_reaches_10 rfl trivial ?_
    refine g_iload_n (pc := 11) dX7_reaches_11 rfl ?_
    refine g_invV_r (pc := 12) (As := [_]) dX7_reaches_12 rfl (r_isNode_f h (fun q => hx ⟨h1.1, h1.2, q⟩)) rfl rfl (shK hS rfl) rfl rfl lk_X7_220 rfl (nb rfl) ⟨nb rfl, nb rfl⟩ rfl ?_
    refine g_if_eq (pc := 15) (tgt := 22) dX7_reaches_15 rfl (fun _ => ?_) (fun h15 => absurd (rfl) h15)
    refine g_iconst (pc := 22) (v := 0) dX7_reaches_22 rfl ?_
    refine g_iconst (pc := 23) (v := 1) dX7_reaches_23 rfl ?_
    refine g_invV_r (pc := 24) (As := [_, _]) dX7_reaches_24 rfl (r_isThrown_1 hS) rfl rfl (shK hS rfl) rfl rfl lk_X7_209 rfl (nb rfl) ⟨nb rfl, nb rfl⟩ rfl ?_
    refine g_if_eq (pc := 27) (tgt := 32) dX7_reaches_27 rfl (fun h27 => absurd h27 ((by decide))) (fun _ => ?_)
    refine g_iconst (pc := 30) (v := 0) dX7_reaches_30 rfl ?_
    refine g_ireturn (pc := 31) dX7_reaches_31 rfl rfl ?_
    exact ⟨rfl, rfl⟩
  · refine g_aload_n (pc := 0) dX7_reaches_0 rfl trivial ?_
    refine g_aload_n (pc := 1) dX7_reaches_1 rfl trivial ?_
    refine g_iload_n (pc := 2) dX7_reaches_2 rfl ?_
    refine g_iload_n (pc := 3) dX7_reaches_3 rfl ?_
    refine g_invV_r (pc := 4) (As := [_, _]) dX7_reaches_4 rfl (r_areIn_f h h1) rfl rfl (shK hS rfl) rfl rfl lk_X7_223 rfl (nb rfl) ⟨nb rfl, nb rfl⟩ rfl ?_
    refine g_if_eq (pc := 7) (tgt := 22) dX7_reaches_7 rfl (fun _ => ?_) (fun h7 => absurd (rfl) h7)
    refine g_iconst (pc := 22) (v := 0) dX7_reaches_22 rfl ?_
    refine g_iconst (pc := 23) (v := 1) dX7_reaches_23 rfl ?_
    refine g_invV_r (pc := 24) (As := [_, _]) dX7_reaches_24 rfl (r_isThrown_1 hS) rfl rfl (shK hS rfl) rfl rfl lk_X7_209 rfl (nb rfl) ⟨nb rfl, nb rfl⟩ rfl ?_
    refine g_if_eq (pc := 27) (tgt := 32) dX7_reaches_27 rfl (fun h27 => absurd h27 ((by decide))) (fun _ => ?_)
    refine g_iconst (pc := 30) (v := 0) dX7_reaches_30 rfl ?_
    refine g_ireturn (pc := 31) dX7_reaches_31 rfl rfl ?_
    exact ⟨rfl, rfl⟩
theorem n_reached {s a : Nat} (h : Rr M n A) (hs : s < 6) (ha : a < n) : EvR l jX7_reached 4 160 0 0 [.ref 198, .int (nI s), .int (nI a)] M (.inl (some (.int (bcJ (wOut (A s) n n a))))) (hdM (thr M 0) 205 n (wOut (A s) n n)) := by
  have hn := h.2.2.2.1
  have hS := h.1
  have h' := h.thr (x := 0)
  have h1 : Rr (hdM (thr M 0) 205 n (wOut (A s) n n)) n A := h'.hd (Or.inl rfl)
  have e1 := hdM_at (M := thr M 0) (x := 205) (f := wOut (A s) n n) ha
  have q1 := r_closure (l := l) h' hs
  generalize hdM (thr M 0) 205 n (wOut (A s) n n) = M1 at *
  generalize wOut (A s) n n = f at *
  refine ev_intro rfl (nb rfl) rfl ?_
  refine g_aload_n (pc := 0) dX7_reached_0 rfl trivial ?_
  refine g_aload_n (pc := 1) dX7_reached_1 rfl trivial ?_
  refine g_iload_n (pc := 2) dX7_reached_2 rfl ?_
  refine g_iload_n (pc := 3) dX7_reached_3 rfl ?_
  refine g_invV_r (pc := 4) (As := [_, _]) dX7_reached_4 rfl (r_areIn_t h (in6 hs) (inR_nI ha (by omega))) rfl rfl (shK hS rfl) rfl rfl lk_X7_223 rfl (nb rfl) ⟨nb rfl, nb rfl⟩ rfl ?_
  refine g_iconst (pc := 7) (v := 1) dX7_reached_7 rfl ?_
  refine g_invV_r (pc := 8) (As := [_, _]) dX7_reached_8 rfl (r_isThrown_0 hS) rfl rfl (shK hS rfl) rfl rfl lk_X7_209 rfl (nb rfl) ⟨nb rfl, nb rfl⟩ rfl ?_
  refine g_if_eq (pc := 11) (tgt := 16) dX7_reached_11 rfl (fun _ => ?_) (fun h11 => absurd (rfl) h11)
  refine g_aload_n (pc := 16) dX7_reached_16 rfl trivial ?_
  refine g_iload_n (pc := 17) dX7_reached_17 rfl ?_
  refine g_invV_r (pc := 18) (As := [_]) dX7_reached_18 rfl (q1) rfl rfl (shK h'.1 rfl) rfl rfl lk_X7_260 rfl (nb rfl) ⟨nb rfl, nb rfl⟩ rfl ?_
  refine g_aload_n (pc := 21) dX7_reached_21 rfl trivial ?_
  refine g_getf (pc := 22) dX7_reached_22 fk_X7_34 (shK h1.1 rfl) (fv_arr (shR h1.1 rfl)) ?_
  refine g_iload_n (pc := 25) dX7_reached_25 rfl ?_
  refine g_laload (pc := 26) dX7_reached_26 (shK h1.1 rfl) rfl (by omega) (nl rfl) ?_
  rw [e1]
  refine g_invS_r (pc := 27) (As := [_]) dX7_reached_27 rfl (r_bitsOf) rfl rfl lk_X7_234 rfl (nb rfl) ⟨nb rfl, nb rfl⟩ rfl ?_
  refine g_ireturn (pc := 30) dX7_reached_30 rfl rfl ?_
  exact ⟨rfl, rfl⟩
theorem t_reached {v w : Int32} (h : Rr M n A) (hx : ¬ (inR v 6 ∧ inR w n)) : EvR l jX7_reached 4 160 0 0 [.ref 198, .int v, .int w] M (.inl (some (.int 0))) (thr M 1) := by
  have hS := h.1
  refine ev_intro rfl (nb rfl) rfl ?_
  refine g_aload_n (pc := 0) dX7_reached_0 rfl trivial ?_
  refine g_aload_n (pc := 1) dX7_reached_1 rfl trivial ?_
  refine g_iload_n (pc := 2) dX7_reached_2 rfl ?_
  refine g_iload_n (pc := 3) dX7_reached_3 rfl ?_
  refine g_invV_r (pc := 4) (As := [_, _]) dX7_reached_4 rfl (r_areIn_f h hx) rfl rfl (shK hS rfl) rfl rfl lk_X7_223 rfl (nb rfl) ⟨nb rfl, nb rfl⟩ rfl ?_
  refine g_iconst (pc := 7) (v := 1) dX7_reached_7 rfl ?_
  refine g_invV_r (pc := 8) (As := [_, _]) dX7_reached_8 rfl (r_isThrown_1 hS) rfl rfl (shK hS rfl) rfl rfl lk_X7_209 rfl (nb rfl) ⟨nb rfl, nb rfl⟩ rfl ?_
  refine g_if_eq (pc := 11) (tgt := 16) dX7_reached_11 rfl (fun h11 => absurd h11 ((by decide))) (fun _ => ?_)
  refine g_iconst (pc := 14) (v := 0) dX7_reached_14 rfl ?_
  refine g_ireturn (pc := 15) dX7_reached_15 rfl rfl ?_
  exact ⟨rfl, rfl⟩
theorem r_pairsOf {s : Nat} (h : Rr M n A) (hs : s < 6) : EvR l jX7_pairsOf 3 90 0 0 [.ref 198, .int (nI s)] M (.inl (some (.int (onesF (wOut (A s) n n) n)))) (hdM M 205 n (wOut (A s) n n)) := by
  have hn := h.2.2.2.1
  have hS := h.1
  have h1 : Rr (hdM M 205 n (wOut (A s) n n)) n A := h.hd (Or.inl rfl)
  have q2 := r_sumOf (l := l) (x := 205) (f := wOut (A s) n n) h1 (Or.inl rfl) (fun i hi => hdM_at hi)
  have q1 := r_closure (l := l) h hs
  generalize hdM M 205 n (wOut (A s) n n) = M1 at *
  generalize wOut (A s) n n = f at *
  refine ev_intro rfl (nb rfl) rfl ?_
  refine g_aload_n (pc := 0) dX7_pairsOf_0 rfl trivial ?_
  refine g_iload_n (pc := 1) dX7_pairsOf_1 rfl ?_
  refine g_invV_r (pc := 2) (As := [_]) dX7_pairsOf_2 rfl (q1) rfl rfl (shK hS rfl) rfl rfl lk_X7_260 rfl (nb rfl) ⟨nb rfl, nb rfl⟩ rfl ?_
  refine g_aload_n (pc := 5) dX7_pairsOf_5 rfl trivial ?_
  refine g_aload_n (pc := 6) dX7_pairsOf_6 rfl trivial ?_
  refine g_getf (pc := 7) dX7_pairsOf_7 fk_X7_34 (shK h1.1 rfl) (fv_arr (shR h1.1 rfl)) ?_
  refine g_invV_r (pc := 10) (As := [_]) dX7_pairsOf_10 rfl (q2) rfl rfl (shK h1.1 rfl) rfl rfl lk_X7_263 rfl (nb rfl) ⟨nb rfl, nb rfl⟩ rfl ?_
  refine g_ireturn (pc := 13) dX7_pairsOf_13 rfl rfl ?_
  exact ⟨rfl, rfl⟩
theorem n_pairs {s : Nat} (h : Rr M n A) (hs : s < 6) : EvR l jX7_pairs 4 160 0 0 [.ref 198, .int (nI s)] M (.inl (some (.int (onesF (wOut (A s) n n) n)))) (hdM (thr M 0) 205 n (wOut (A s) n n)) := by
  have hS := h.1
  refine ev_intro rfl (nb rfl) rfl ?_
  refine g_aload_n (pc := 0) dX7_pairs_0 rfl trivial ?_
  refine g_iload_n (pc := 1) dX7_pairs_1 rfl ?_
  refine g_invS_r (pc := 2) (As := [_]) dX7_pairs_2 rfl (r_isSlot_t (in6 hs)) rfl rfl lk_X7_216 rfl (nb rfl) ⟨nb rfl, nb rfl⟩ rfl ?_
  refine g_iconst (pc := 5) (v := 1) dX7_pairs_5 rfl ?_
  refine g_invV_r (pc := 6) (As := [_, _]) dX7_pairs_6 rfl (r_isThrown_0 hS) rfl rfl (shK hS rfl) rfl rfl lk_X7_209 rfl (nb rfl) ⟨nb rfl, nb rfl⟩ rfl ?_
  refine g_if_eq (pc := 9) (tgt := 16) dX7_pairs_9 rfl (fun _ => ?_) (fun h9 => absurd (rfl) h9)
  refine g_aload_n (pc := 16) dX7_pairs_16 rfl trivial ?_
  refine g_iload_n (pc := 17) dX7_pairs_17 rfl ?_
  refine g_invV_r (pc := 18) (As := [_]) dX7_pairs_18 rfl (r_pairsOf h.thr hs) rfl rfl (shK hS rfl) rfl rfl lk_X7_267 rfl (nb rfl) ⟨nb rfl, nb rfl⟩ rfl ?_
  refine g_ireturn (pc := 21) dX7_pairs_21 rfl rfl ?_
  exact ⟨rfl, rfl⟩
theorem t_pairs {v : Int32} (h : Rr M n A) (hx : ¬ inR v 6) : EvR l jX7_pairs 4 160 0 0 [.ref 198, .int v] M (.inl (some (.int 0))) (thr M 1) := by
  have hS := h.1
  refine ev_intro rfl (nb rfl) rfl ?_
  refine g_aload_n (pc := 0) dX7_pairs_0 rfl trivial ?_
  refine g_iload_n (pc := 1) dX7_pairs_1 rfl ?_
  refine g_invS_r (pc := 2) (As := [_]) dX7_pairs_2 rfl (r_isSlot_f hx) rfl rfl lk_X7_216 rfl (nb rfl) ⟨nb rfl, nb rfl⟩ rfl ?_
  refine g_iconst (pc := 5) (v := 1) dX7_pairs_5 rfl ?_
  refine g_invV_r (pc := 6) (As := [_, _]) dX7_pairs_6 rfl (r_isThrown_1 hS) rfl rfl (shK hS rfl) rfl rfl lk_X7_209 rfl (nb rfl) ⟨nb rfl, nb rfl⟩ rfl ?_
  refine g_if_eq (pc := 9) (tgt := 16) dX7_pairs_9 rfl (fun h9 => absurd h9 ((by decide))) (fun _ => ?_)
  refine g_iconst (pc := 12) (v := 0) dX7_pairs_12 rfl ?_
  refine g_goto (pc := 13) (tgt := 21) dX7_pairs_13 rfl ?_
  refine g_ireturn (pc := 21) dX7_pairs_21 rfl rfl ?_
  exact ⟨rfl, rfl⟩
theorem n_meanReach {s : Nat} (h : Rr M n A) (hs : s < 6) : EvR l jX7_meanReach 4 160 0 0 [.ref 198, .int (nI s)] M (.inl (some (.float (FP.fdiv (FP.i2f (onesF (wOut (A s) n n) n)) (FP.i2f (nI n)))))) (hdM (thr M 0) 205 n (wOut (A s) n n)) := by
  have hS := h.1
  have h' := h.thr (x := 0)
  have h1 : Rr (hdM (thr M 0) 205 n (wOut (A s) n n)) n A := h'.hd (Or.inl rfl)
  have q1 := r_pairsOf (l := l) h' hs
  generalize hdM (thr M 0) 205 n (wOut (A s) n n) = M1 at *
  refine ev_intro rfl (nb rfl) rfl ?_
  refine g_aload_n (pc := 0) dX7_meanReach_0 rfl trivial ?_
  refine g_iload_n (pc := 1) dX7_meanReach_1 rfl ?_
  refine g_invS_r (pc := 2) (As := [_]) dX7_meanReach_2 rfl (r_isSlot_t (in6 hs)) rfl rfl lk_X7_216 rfl (nb rfl) ⟨nb rfl, nb rfl⟩ rfl ?_
  refine g_iconst (pc := 5) (v := 1) dX7_meanReach_5 rfl ?_
  refine g_invV_r (pc := 6) (As := [_, _]) dX7_meanReach_6 rfl (r_isThrown_0 hS) rfl rfl (shK hS rfl) rfl rfl lk_X7_209 rfl (nb rfl) ⟨nb rfl, nb rfl⟩ rfl ?_
  refine g_if_eq (pc := 9) (tgt := 16) dX7_meanReach_9 rfl (fun _ => ?_) (fun h9 => absurd (rfl) h9)
  refine g_aload_n (pc := 16) dX7_meanReach_16 rfl trivial ?_
  refine g_iload_n (pc := 17) dX7_meanReach_17 rfl ?_
  refine g_invV_r (pc := 18) (As := [_]) dX7_meanReach_18 rfl (q1) rfl rfl (shK h'.1 rfl) rfl rfl lk_X7_267 rfl (nb rfl) ⟨nb rfl, nb rfl⟩ rfl ?_
  refine g_i2f (pc := 21) dX7_meanReach_21 ?_
  refine g_aload_n (pc := 22) dX7_meanReach_22 rfl trivial ?_
  refine g_invV_r (pc := 23) (As := []) dX7_meanReach_23 rfl (r_size h1) rfl rfl (shK h1.1 rfl) rfl rfl lk_X7_71 rfl (nb rfl) ⟨nb rfl, nb rfl⟩ rfl ?_
  refine g_i2f (pc := 26) dX7_meanReach_26 ?_
  refine g_fdiv (pc := 27) dX7_meanReach_27 (mrc_f h.2.2.1 h.2.2.2.1) ?_
  refine g_freturn (pc := 28) dX7_meanReach_28 rfl ?_
  exact ⟨rfl, rfl⟩
theorem t_meanReach {v : Int32} (h : Rr M n A) (hx : ¬ inR v 6) : EvR l jX7_meanReach 4 160 0 0 [.ref 198, .int v] M (.inl (some (.float 0))) (thr M 1) := by
  have hS := h.1
  refine ev_intro rfl (nb rfl) rfl ?_
  refine g_aload_n (pc := 0) dX7_meanReach_0 rfl trivial ?_
  refine g_iload_n (pc := 1) dX7_meanReach_1 rfl ?_
  refine g_invS_r (pc := 2) (As := [_]) dX7_meanReach_2 rfl (r_isSlot_f hx) rfl rfl lk_X7_216 rfl (nb rfl) ⟨nb rfl, nb rfl⟩ rfl ?_
  refine g_iconst (pc := 5) (v := 1) dX7_meanReach_5 rfl ?_
  refine g_invV_r (pc := 6) (As := [_, _]) dX7_meanReach_6 rfl (r_isThrown_1 hS) rfl rfl (shK hS rfl) rfl rfl lk_X7_209 rfl (nb rfl) ⟨nb rfl, nb rfl⟩ rfl ?_
  refine g_if_eq (pc := 9) (tgt := 16) dX7_meanReach_9 rfl (fun h9 => absurd h9 ((by decide))) (fun _ => ?_)
  refine g_fconst0 (pc := 12) dX7_meanReach_12 ?_
  refine g_goto (pc := 13) (tgt := 28) dX7_meanReach_13 rfl ?_
  refine g_freturn (pc := 28) dX7_meanReach_28 rfl ?_
  exact ⟨rfl, rfl⟩
theorem lowMut_at {f : Nat → Int32} {a t n : Nat} (hn : n ≤ 32) (ha : a < n) (ht : t ≤ a) (h : t = a ∨ (hb (f a) t = true ∧ hb (f t) a = true)) (h2 : ∀ j, j < t → ¬ (hb (f a) j = true ∧ hb (f j) a = true)) : lowMut f a n = t := by
  unfold lowMut
  refine lowN_at (by omega) ?_ fun i hi => ?_
  · rw [hb_or, hb_and, hb_colOf n hn, hb_bitI (by omega)]
    rcases h with h | ⟨h, h3⟩
    · simp [h]
    · rw [h, h3]; simp; left; omega
  · have h3 := h2 i hi
    rw [hb_or, hb_and, hb_colOf n hn, hb_bitI (by omega)]
    have h4 : ¬ i = a := by omega
    cases h5 : hb (f a) i
    · simp [h4]
    · cases h6 : hb (f i) a
      · simp [h4]
      · exact absurd ⟨h5, h6⟩ h3
theorem r_componentOf {a : Nat} {f : Nat → Int32} (h : Rr M n A) (ha : a < n) (hf : ∀ i, i < n → mL M 205 i = uL (f i)) : EvR l jX7_componentOf 1 30 0 0 [.ref 198, .int (nI a)] M (.inl (some (.int (nI (lowMut f a n))))) M := by
  have hn := h.2.2.2.1
  have hS := h.1
  refine ev_intro rfl (nb rfl) rfl ?_
  refine g_iconst (pc := 0) (v := 0) dX7_componentOf_0 rfl ?_
  refine g_istore_n (pc := 1) (lv' := [(0, _), (1, _), (2, _)]) dX7_componentOf_1 (nl rfl) rfl ?_
  refine go_while (pc := 2) (σ := Nat) (fun q => q ≤ a ∧ ∀ j, j < q → ¬ (hb (f a) j = true ∧ hb (f j) a = true)) (fun q => a - q) (fun q => [(0, .ref 198), (1, .int (nI a)), (2, .int (nI q))]) (fun _ => M) 0 ⟨rfl, rfl, rfl, trivial⟩ rfl ⟨by omega, fun j hj => by omega⟩ ?_
  rintro q ⟨h1, h3⟩ ih
  by_cases hq : q < a
  · have hqn : q < n := by omega
    cases h4 : hb (f a) q with
    | false =>
      refine g_iload_n (pc := 2) dX7_componentOf_2 rfl ?_
      refine g_iload_n (pc := 3) dX7_componentOf_3 rfl ?_
      refine g_icmp_ge (pc := 4) (tgt := 43) dX7_componentOf_4 rfl (fun h4 => absurd h4 (nI_ge hq (by omega))) (fun _ => ?_)
      refine g_aload_n (pc := 7) dX7_componentOf_7 rfl trivial ?_
      refine g_getf (pc := 8) dX7_componentOf_8 fk_X7_34 (shK hS rfl) (fv_arr (shR hS rfl)) ?_
      refine g_iload_n (pc := 11) dX7_componentOf_11 rfl ?_
      refine g_laload (pc := 12) dX7_componentOf_12 (shK hS rfl) rfl (by omega) (nl rfl) ?_
      rw [hf a ha]
      refine g_iload_n (pc := 13) dX7_componentOf_13 rfl ?_
      refine g_invS_r (pc := 14) (As := [_, _]) dX7_componentOf_14 rfl (r_one (show q < 32 by omega)) rfl rfl lk_X7_231 rfl (nb rfl) ⟨nb rfl, nb rfl⟩ rfl ?_
      rw [h4]
      refine g_iconst (pc := 17) (v := 1) dX7_componentOf_17 rfl ?_
      refine g_icmp_ne (pc := 18) (tgt := 37) dX7_componentOf_18 rfl (fun _ => ?_) (fun h18 => absurd ((by decide)) h18)
      refine g_iinc (pc := 37) (lv' := [(0, _), (1, _), (2, _)]) dX7_componentOf_37 rfl (nI_1 _) (nl rfl) rfl ?_
      refine g_goto (pc := 40) (tgt := 2) dX7_componentOf_40 rfl ?_
      exact ih (q + 1) ⟨hq, fun j hj => (by omega : j < q ∨ j = q).elim (h3 j) (fun e z => by rw [e, h4] at z; cases z.1)⟩ (by omega)
    | true =>
      cases h5 : hb (f q) a with
      | false =>
        refine g_iload_n (pc := 2) dX7_componentOf_2 rfl ?_
        refine g_iload_n (pc := 3) dX7_componentOf_3 rfl ?_
        refine g_icmp_ge (pc := 4) (tgt := 43) dX7_componentOf_4 rfl (fun h4 => absurd h4 (nI_ge hq (by omega))) (fun _ => ?_)
        refine g_aload_n (pc := 7) dX7_componentOf_7 rfl trivial ?_
        refine g_getf (pc := 8) dX7_componentOf_8 fk_X7_34 (shK hS rfl) (fv_arr (shR hS rfl)) ?_
        refine g_iload_n (pc := 11) dX7_componentOf_11 rfl ?_
        refine g_laload (pc := 12) dX7_componentOf_12 (shK hS rfl) rfl (by omega) (nl rfl) ?_
        rw [hf a ha]
        refine g_iload_n (pc := 13) dX7_componentOf_13 rfl ?_
        refine g_invS_r (pc := 14) (As := [_, _]) dX7_componentOf_14 rfl (r_one (show q < 32 by omega)) rfl rfl lk_X7_231 rfl (nb rfl) ⟨nb rfl, nb rfl⟩ rfl ?_
        rw [h4]
        refine g_iconst (pc := 17) (v := 1) dX7_componentOf_17 rfl ?_
        refine g_icmp_ne (pc := 18) (tgt := 37) dX7_componentOf_18 rfl (fun h18 => absurd h18 ((fun z => z rfl))) (fun _ => ?_)
        refine g_aload_n (pc := 21) dX7_componentOf_21 rfl trivial ?_
        refine g_getf (pc := 22) dX7_componentOf_22 fk_X7_34 (shK hS rfl) (fv_arr (shR hS rfl)) ?_
        refine g_iload_n (pc := 25) dX7_componentOf_25 rfl ?_
        refine g_laload (pc := 26) dX7_componentOf_26 (shK hS rfl) rfl (by omega) (nl rfl) ?_
        rw [hf q hqn]
        refine g_iload_n (pc := 27) dX7_componentOf_27 rfl ?_
        refine g_invS_r (pc := 28) (As := [_, _]) dX7_componentOf_28 rfl (r_one (show a < 32 by omega)) rfl rfl lk_X7_231 rfl (nb rfl) ⟨nb rfl, nb rfl⟩ rfl ?_
        rw [h5]
        refine g_iconst (pc := 31) (v := 1) dX7_componentOf_31 rfl ?_
        refine g_icmp_ne (pc := 32) (tgt := 37) dX7_componentOf_32 rfl (fun _ => ?_) (fun h32 => absurd ((by decide)) h32)
        refine g_iinc (pc := 37) (lv' := [(0, _), (1, _), (2, _)]) dX7_componentOf_37 rfl (nI_1 _) (nl rfl) rfl ?_
        refine g_goto (pc := 40) (tgt := 2) dX7_componentOf_40 rfl ?_
        exact ih (q + 1) ⟨hq, fun j hj => (by omega : j < q ∨ j = q).elim (h3 j) (fun e z => by rw [e, h5] at z; cases z.2)⟩ (by omega)
      | true =>
        have e := lowMut_at hn ha (by omega) (Or.inr ⟨h4, h5⟩) h3
        rw [e]
        refine g_iload_n (pc := 2) dX7_componentOf_2 rfl ?_
        refine g_iload_n (pc := 3) dX7_componentOf_3 rfl ?_
        refine g_icmp_ge (pc := 4) (tgt := 43) dX7_componentOf_4 rfl (fun h4 => absurd h4 (nI_ge hq (by omega))) (fun _ => ?_)
        refine g_aload_n (pc := 7) dX7_componentOf_7 rfl trivial ?_
        refine g_getf (pc := 8) dX7_componentOf_8 fk_X7_34 (shK hS rfl) (fv_arr (shR hS rfl)) ?_
        refine g_iload_n (pc := 11) dX7_componentOf_11 rfl ?_
        refine g_laload (pc := 12) dX7_componentOf_12 (shK hS rfl) rfl (by omega) (nl rfl) ?_
        rw [hf a ha]
        refine g_iload_n (pc := 13) dX7_componentOf_13 rfl ?_
        refine g_invS_r (pc := 14) (As := [_, _]) dX7_componentOf_14 rfl (r_one (show q < 32 by omega)) rfl rfl lk_X7_231 rfl (nb rfl) ⟨nb rfl, nb rfl⟩ rfl ?_
        rw [h4]
        refine g_iconst (pc := 17) (v := 1) dX7_componentOf_17 rfl ?_
        refine g_icmp_ne (pc := 18) (tgt := 37) dX7_componentOf_18 rfl (fun h18 => absurd h18 ((fun z => z rfl))) (fun _ => ?_)
        refine g_aload_n (pc := 21) dX7_componentOf_21 rfl trivial ?_
        refine g_getf (pc := 22) dX7_componentOf_22 fk_X7_34 (shK hS rfl) (fv_arr (shR hS rfl)) ?_
        refine g_iload_n (pc := 25) dX7_componentOf_25 rfl ?_
        refine g_laload (pc := 26) dX7_componentOf_26 (shK hS rfl) rfl (by omega) (nl rfl) ?_
        rw [hf q hqn]
        refine g_iload_n (pc := 27) dX7_componentOf_27 rfl ?_
        refine g_invS_r (pc := 28) (As := [_, _]) dX7_componentOf_28 rfl (r_one (show a < 32 by omega)) rfl rfl lk_X7_231 rfl (nb rfl) ⟨nb rfl, nb rfl⟩ rfl ?_
        rw [h5]
        refine g_iconst (pc := 31) (v := 1) dX7_componentOf_31 rfl ?_
        refine g_icmp_ne (pc := 32) (tgt := 37) dX7_componentOf_32 rfl (fun h32 => absurd h32 ((fun z => z rfl))) (fun _ => ?_)
        refine g_iload_n (pc := 35) dX7_componentOf_35 rfl ?_
        refine g_ireturn (pc := 36) dX7_componentOf_36 rfl rfl ?_
        exact ⟨rfl, rfl⟩
  · have hq' : q = a := by omega
    subst hq'
    have e := lowMut_at hn ha (Nat.le_refl _) (Or.inl rfl) h3
    rw [e]
    refine g_iload_n (pc := 2) dX7_componentOf_2 rfl ?_
    refine g_iload_n (pc := 3) dX7_componentOf_3 rfl ?_
    refine g_icmp_ge (pc := 4) (tgt := 43) dX7_componentOf_4 rfl (fun _ => ?_) (fun h4 => absurd (nI_le (Nat.le_refl _) (by omega)) h4)
    refine g_iload_n (pc := 43) dX7_componentOf_43 rfl ?_
    refine g_ireturn (pc := 44) dX7_componentOf_44 rfl rfl ?_
    exact ⟨rfl, rfl⟩
theorem n_component {s a : Nat} (h : Rr M n A) (hs : s < 6) (ha : a < n) : EvR l jX7_component 4 160 0 0 [.ref 198, .int (nI s), .int (nI a)] M (.inl (some (.int (nI (lowMut (wOut (A s) n n) a n))))) (hdM (thr M 0) 205 n (wOut (A s) n n)) := by
  have hn := h.2.2.2.1
  have hS := h.1
  have h' := h.thr (x := 0)
  have h1 : Rr (hdM (thr M 0) 205 n (wOut (A s) n n)) n A := h'.hd (Or.inl rfl)
  have q2 := r_componentOf (l := l) (f := wOut (A s) n n) h1 ha (fun i hi => hdM_at hi)
  have q1 := r_closure (l := l) h' hs
  generalize hdM (thr M 0) 205 n (wOut (A s) n n) = M1 at *
  generalize wOut (A s) n n = f at *
  refine ev_intro rfl (nb rfl) rfl ?_
  refine g_aload_n (pc := 0) dX7_component_0 rfl trivial ?_
  refine g_aload_n (pc := 1) dX7_component_1 rfl trivial ?_
  refine g_iload_n (pc := 2) dX7_component_2 rfl ?_
  refine g_iload_n (pc := 3) dX7_component_3 rfl ?_
  refine g_invV_r (pc := 4) (As := [_, _]) dX7_component_4 rfl (r_areIn_t h (in6 hs) (inR_nI ha (by omega))) rfl rfl (shK hS rfl) rfl rfl lk_X7_223 rfl (nb rfl) ⟨nb rfl, nb rfl⟩ rfl ?_
  refine g_iconst (pc := 7) (v := 1) dX7_component_7 rfl ?_
  refine g_invV_r (pc := 8) (As := [_, _]) dX7_component_8 rfl (r_isThrown_0 hS) rfl rfl (shK hS rfl) rfl rfl lk_X7_209 rfl (nb rfl) ⟨nb rfl, nb rfl⟩ rfl ?_
  refine g_if_eq (pc := 11) (tgt := 16) dX7_component_11 rfl (fun _ => ?_) (fun h11 => absurd (rfl) h11)
  refine g_aload_n (pc := 16) dX7_component_16 rfl trivial ?_
  refine g_iload_n (pc := 17) dX7_component_17 rfl ?_
  refine g_invV_r (pc := 18) (As := [_]) dX7_component_18 rfl (q1) rfl rfl (shK h'.1 rfl) rfl rfl lk_X7_260 rfl (nb rfl) ⟨nb rfl, nb rfl⟩ rfl ?_
  refine g_aload_n (pc := 21) dX7_component_21 rfl trivial ?_
  refine g_iload_n (pc := 22) dX7_component_22 rfl ?_
  refine g_invV_r (pc := 23) (As := [_]) dX7_component_23 rfl (q2) rfl rfl (shK h1.1 rfl) rfl rfl lk_X7_270 rfl (nb rfl) ⟨nb rfl, nb rfl⟩ rfl ?_
  refine g_ireturn (pc := 26) dX7_component_26 rfl rfl ?_
  exact ⟨rfl, rfl⟩
theorem t_component {v w : Int32} (h : Rr M n A) (hx : ¬ (inR v 6 ∧ inR w n)) : EvR l jX7_component 4 160 0 0 [.ref 198, .int v, .int w] M (.inl (some (.int 0))) (thr M 1) := by
  have hS := h.1
  refine ev_intro rfl (nb rfl) rfl ?_
  refine g_aload_n (pc := 0) dX7_component_0 rfl trivial ?_
  refine g_aload_n (pc := 1) dX7_component_1 rfl trivial ?_
  refine g_iload_n (pc := 2) dX7_component_2 rfl ?_
  refine g_iload_n (pc := 3) dX7_component_3 rfl ?_
  refine g_invV_r (pc := 4) (As := [_, _]) dX7_component_4 rfl (r_areIn_f h hx) rfl rfl (shK hS rfl) rfl rfl lk_X7_223 rfl (nb rfl) ⟨nb rfl, nb rfl⟩ rfl ?_
  refine g_iconst (pc := 7) (v := 1) dX7_component_7 rfl ?_
  refine g_invV_r (pc := 8) (As := [_, _]) dX7_component_8 rfl (r_isThrown_1 hS) rfl rfl (shK hS rfl) rfl rfl lk_X7_209 rfl (nb rfl) ⟨nb rfl, nb rfl⟩ rfl ?_
  refine g_if_eq (pc := 11) (tgt := 16) dX7_component_11 rfl (fun h11 => absurd h11 ((by decide))) (fun _ => ?_)
  refine g_iconst (pc := 14) (v := 0) dX7_component_14 rfl ?_
  refine g_ireturn (pc := 15) dX7_component_15 rfl rfl ?_
  exact ⟨rfl, rfl⟩
theorem n_components {s : Nat} (h : Rr M n A) (hs : s < 6) : EvR l jX7_components 4 160 0 0 [.ref 198, .int (nI s)] M (.inl (some (.int (cmN (wOut (A s) n n) n n)))) (hdM (thr M 0) 205 n (wOut (A s) n n)) := by
  have hn := h.2.2.2.1
  have hS := h.1
  have h' := h.thr (x := 0)
  have h1 : Rr (hdM (thr M 0) 205 n (wOut (A s) n n)) n A := h'.hd (Or.inl rfl)
  have q2 := fun a (ha : a < n) => r_componentOf (l := l) (f := wOut (A s) n n) h1 ha (fun i hi => hdM_at hi)
  have q1 := r_closure (l := l) h' hs
  generalize hdM (thr M 0) 205 n (wOut (A s) n n) = M1 at *
  generalize wOut (A s) n n = f at *
  refine ev_intro rfl (nb rfl) rfl ?_
  refine g_aload_n (pc := 0) dX7_components_0 rfl trivial ?_
  refine g_iload_n (pc := 1) dX7_components_1 rfl ?_
  refine g_invS_r (pc := 2) (As := [_]) dX7_components_2 rfl (r_isSlot_t (in6 hs)) rfl rfl lk_X7_216 rfl (nb rfl) ⟨nb rfl, nb rfl⟩ rfl ?_
  refine g_iconst (pc := 5) (v := 1) dX7_components_5 rfl ?_
  refine g_invV_r (pc := 6) (As := [_, _]) dX7_components_6 rfl (r_isThrown_0 hS) rfl rfl (shK hS rfl) rfl rfl lk_X7_209 rfl (nb rfl) ⟨nb rfl, nb rfl⟩ rfl ?_
  refine g_if_eq (pc := 9) (tgt := 14) dX7_components_9 rfl (fun _ => ?_) (fun h9 => absurd (rfl) h9)
  refine g_aload_n (pc := 14) dX7_components_14 rfl trivial ?_
  refine g_iload_n (pc := 15) dX7_components_15 rfl ?_
  refine g_invV_r (pc := 16) (As := [_]) dX7_components_16 rfl (q1) rfl rfl (shK h'.1 rfl) rfl rfl lk_X7_260 rfl (nb rfl) ⟨nb rfl, nb rfl⟩ rfl ?_
  refine g_iconst (pc := 19) (v := 0) dX7_components_19 rfl ?_
  refine g_istore_n (pc := 20) (lv' := [(0, _), (1, _), (2, _)]) dX7_components_20 (nl rfl) rfl ?_
  refine g_iconst (pc := 21) (v := 0) dX7_components_21 rfl ?_
  refine g_istore_n (pc := 22) (lv' := [(0, _), (1, _), (2, _), (3, _)]) dX7_components_22 (nl rfl) rfl ?_
  refine go_loop (pc := 23) n (fun i => [(0, .ref 198), (1, .int (nI s)), (2, .int (cmN f n i)), (3, .int (nI i))]) (fun _ => M1) ⟨rfl, rfl, rfl, rfl, trivial⟩ rfl ?_ ?_
  · intro i hi ih
    rw [cmN] at ih
    by_cases he : lowMut f i n = i
    · rw [if_pos he] at ih
      refine g_iload_n (pc := 23) dX7_components_23 rfl ?_
      refine g_aload_n (pc := 24) dX7_components_24 rfl trivial ?_
      refine g_invV_r (pc := 25) (As := []) dX7_components_25 rfl (r_size h1) rfl rfl (shK h1.1 rfl) rfl rfl lk_X7_71 rfl (nb rfl) ⟨nb rfl, nb rfl⟩ rfl ?_
      refine g_icmp_ge (pc := 28) (tgt := 54) dX7_components_28 rfl (fun h28 => absurd h28 (nI_ge hi (by omega))) (fun _ => ?_)
      refine g_iload_n (pc := 31) dX7_components_31 rfl ?_
      refine g_aload_n (pc := 32) dX7_components_32 rfl trivial ?_
      refine g_iload_n (pc := 33) dX7_components_33 rfl ?_
      refine g_invV_r (pc := 34) (As := [_]) dX7_components_34 rfl ((q2 i hi)) rfl rfl (shK h1.1 rfl) rfl rfl lk_X7_270 rfl (nb rfl) ⟨nb rfl, nb rfl⟩ rfl ?_
      refine g_iload_n (pc := 37) dX7_components_37 rfl ?_
      refine g_icmp_ne (pc := 38) (tgt := 45) dX7_components_38 rfl (fun h38 => absurd h38 ((fun z => z (by rw [he])))) (fun _ => ?_)
      refine g_iconst (pc := 41) (v := 1) dX7_components_41 rfl ?_
      refine g_goto (pc := 42) (tgt := 46) dX7_components_42 rfl ?_
      refine g_iadd (pc := 46) dX7_components_46 ?_
      refine g_istore_n (pc := 47) (lv' := [(0, _), (1, _), (2, _), (3, _)]) dX7_components_47 (nl rfl) rfl ?_
      refine g_iinc (pc := 48) (lv' := [(0, _), (1, _), (2, _), (3, _)]) dX7_components_48 rfl (nI_1 _) (nl rfl) rfl ?_
      refine g_goto (pc := 51) (tgt := 23) dX7_components_51 rfl ?_
      exact ih
    · rw [if_neg he] at ih
      have hlt := lowMut_lt f i n
      refine g_iload_n (pc := 23) dX7_components_23 rfl ?_
      refine g_aload_n (pc := 24) dX7_components_24 rfl trivial ?_
      refine g_invV_r (pc := 25) (As := []) dX7_components_25 rfl (r_size h1) rfl rfl (shK h1.1 rfl) rfl rfl lk_X7_71 rfl (nb rfl) ⟨nb rfl, nb rfl⟩ rfl ?_
      refine g_icmp_ge (pc := 28) (tgt := 54) dX7_components_28 rfl (fun h28 => absurd h28 (nI_ge hi (by omega))) (fun _ => ?_)
      refine g_iload_n (pc := 31) dX7_components_31 rfl ?_
      refine g_aload_n (pc := 32) dX7_components_32 rfl trivial ?_
      refine g_iload_n (pc := 33) dX7_components_33 rfl ?_
      refine g_invV_r (pc := 34) (As := [_]) dX7_components_34 rfl ((q2 i hi)) rfl rfl (shK h1.1 rfl) rfl rfl lk_X7_270 rfl (nb rfl) ⟨nb rfl, nb rfl⟩ rfl ?_
      refine g_iload_n (pc := 37) dX7_components_37 rfl ?_
      refine g_icmp_ne (pc := 38) (tgt := 45) dX7_components_38 rfl (fun _ => ?_) (fun h38 => absurd ((fun z => he ((nI_eq (by omega) (by omega)).mp z))) h38)
      refine g_iconst (pc := 45) (v := 0) dX7_components_45 rfl ?_
      refine g_iadd (pc := 46) dX7_components_46 ?_
      rw [Int32.add_zero]
      refine g_istore_n (pc := 47) (lv' := [(0, _), (1, _), (2, _), (3, _)]) dX7_components_47 (nl rfl) rfl ?_
      refine g_iinc (pc := 48) (lv' := [(0, _), (1, _), (2, _), (3, _)]) dX7_components_48 rfl (nI_1 _) (nl rfl) rfl ?_
      refine g_goto (pc := 51) (tgt := 23) dX7_components_51 rfl ?_
      exact ih
  · refine g_iload_n (pc := 23) dX7_components_23 rfl ?_
    refine g_aload_n (pc := 24) dX7_components_24 rfl trivial ?_
    refine g_invV_r (pc := 25) (As := []) dX7_components_25 rfl (r_size h1) rfl rfl (shK h1.1 rfl) rfl rfl lk_X7_71 rfl (nb rfl) ⟨nb rfl, nb rfl⟩ rfl ?_
    refine g_icmp_ge (pc := 28) (tgt := 54) dX7_components_28 rfl (fun _ => ?_) (fun h28 => absurd (nI_le (Nat.le_refl _) (by omega)) h28)
    refine g_iload_n (pc := 54) dX7_components_54 rfl ?_
    refine g_ireturn (pc := 55) dX7_components_55 rfl rfl ?_
    exact ⟨rfl, rfl⟩
theorem t_components {v : Int32} (h : Rr M n A) (hx : ¬ inR v 6) : EvR l jX7_components 4 160 0 0 [.ref 198, .int v] M (.inl (some (.int 0))) (thr M 1) := by
  have hS := h.1
  refine ev_intro rfl (nb rfl) rfl ?_
  refine g_aload_n (pc := 0) dX7_components_0 rfl trivial ?_
  refine g_iload_n (pc := 1) dX7_components_1 rfl ?_
  refine g_invS_r (pc := 2) (As := [_]) dX7_components_2 rfl (r_isSlot_f hx) rfl rfl lk_X7_216 rfl (nb rfl) ⟨nb rfl, nb rfl⟩ rfl ?_
  refine g_iconst (pc := 5) (v := 1) dX7_components_5 rfl ?_
  refine g_invV_r (pc := 6) (As := [_, _]) dX7_components_6 rfl (r_isThrown_1 hS) rfl rfl (shK hS rfl) rfl rfl lk_X7_209 rfl (nb rfl) ⟨nb rfl, nb rfl⟩ rfl ?_
  refine g_if_eq (pc := 9) (tgt := 14) dX7_components_9 rfl (fun h9 => absurd h9 ((by decide))) (fun _ => ?_)
  refine g_iconst (pc := 12) (v := 0) dX7_components_12 rfl ?_
  refine g_ireturn (pc := 13) dX7_components_13 rfl rfl ?_
  exact ⟨rfl, rfl⟩
end

