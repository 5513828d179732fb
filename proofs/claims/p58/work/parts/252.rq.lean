/-! the reference: equal rows, unlike rows, symmetry -/
section
variable {l : Launch} {M : Mem} {n : Nat} {A : Nat → Nat → Int32}
theorem r_firstAs {s r : Nat} (h : Rr M n A) (hs : s < 6) (hr : r < n) : EvR l jX7_firstAs 1 30 0 0 [.ref 198, .int (nI s), .int (nI r)] M (.inl (some (.int (firstEq (A s) (A s r) n 0)))) M := by
  have hn := h.2.2.2.1
  have hS := h.1
  obtain ⟨S, hS9⟩ : ∃ S, S = firstEq (A s) (A s r) n 0 := ⟨_, rfl⟩
  rw [← hS9]
  refine ev_intro rfl (nb rfl) rfl ?_
  refine g_iconst (pc := 0) (v := 0) dX7_firstAs_0 rfl ?_
  refine g_istore_n (pc := 1) (lv' := [(0, _), (1, _), (2, _), (3, _)]) dX7_firstAs_1 (nl rfl) rfl ?_
  refine go_while (pc := 2) (σ := Nat) (fun q => q ≤ r ∧ firstEq (A s) (A s r) (n - q) q = S) (fun q => r - q) (fun q => [(0, .ref 198), (1, .int (nI s)), (2, .int (nI r)), (3, .int (nI q))]) (fun _ => M) 0 ⟨rfl, rfl, rfl, rfl, trivial⟩ rfl ⟨by omega, hS9.symm⟩ ?_
  rintro q ⟨h1, h3⟩ ih
  obtain ⟨d, hd⟩ : ∃ d, n - q = d + 1 := ⟨n - q - 1, by omega⟩
  have hd' : n - (q + 1) = d := by omega
  rw [hd, firstEq] at h3
  by_cases he : A s q = A s r
  · rw [if_pos he] at h3
    refine g_aload_n (pc := 2) dX7_firstAs_2 rfl trivial ?_
    refine g_iload_n (pc := 3) dX7_firstAs_3 rfl ?_
    refine g_iload_n (pc := 4) dX7_firstAs_4 rfl ?_
    refine g_invV_r (pc := 5) (As := [_, _]) dX7_firstAs_5 rfl (r_rowOf h hs (show q < n by omega)) rfl rfl (shK hS rfl) rfl rfl lk_X7_227 rfl (nb rfl) ⟨nb rfl, nb rfl⟩ rfl ?_
    refine g_aload_n (pc := 8) dX7_firstAs_8 rfl trivial ?_
    refine g_iload_n (pc := 9) dX7_firstAs_9 rfl ?_
    refine g_iload_n (pc := 10) dX7_firstAs_10 rfl ?_
    refine g_invV_r (pc := 11) (As := [_, _]) dX7_firstAs_11 rfl (r_rowOf h hs hr) rfl rfl (shK hS rfl) rfl rfl lk_X7_227 rfl (nb rfl) ⟨nb rfl, nb rfl⟩ rfl ?_
    refine g_lcmp (pc := 14) dX7_firstAs_14 ?_
    refine g_if_eq (pc := 15) (tgt := 24) dX7_firstAs_15 rfl (fun _ => ?_) (fun h15 => absurd ((lg_cmp_eq _ _).mpr (by rw [he])) h15)
    refine g_iload_n (pc := 24) dX7_firstAs_24 rfl ?_
    refine g_ireturn (pc := 25) dX7_firstAs_25 rfl rfl ?_
    exact ⟨by rw [← h3], rfl⟩
  · rw [if_neg he] at h3
    have hqr : q ≠ r := fun z => he (by rw [z])
    refine g_aload_n (pc := 2) dX7_firstAs_2 rfl trivial ?_
    refine g_iload_n (pc := 3) dX7_firstAs_3 rfl ?_
    refine g_iload_n (pc := 4) dX7_firstAs_4 rfl ?_
    refine g_invV_r (pc := 5) (As := [_, _]) dX7_firstAs_5 rfl (r_rowOf h hs (show q < n by omega)) rfl rfl (shK hS rfl) rfl rfl lk_X7_227 rfl (nb rfl) ⟨nb rfl, nb rfl⟩ rfl ?_
    refine g_aload_n (pc := 8) dX7_firstAs_8 rfl trivial ?_
    refine g_iload_n (pc := 9) dX7_firstAs_9 rfl ?_
    refine g_iload_n (pc := 10) dX7_firstAs_10 rfl ?_
    refine g_invV_r (pc := 11) (As := [_, _]) dX7_firstAs_11 rfl (r_rowOf h hs hr) rfl rfl (shK hS rfl) rfl rfl lk_X7_227 rfl (nb rfl) ⟨nb rfl, nb rfl⟩ rfl ?_
    refine g_lcmp (pc := 14) dX7_firstAs_14 ?_
    refine g_if_eq (pc := 15) (tgt := 24) dX7_firstAs_15 rfl (fun h15 => absurd h15 ((fun z => he (uL_inj.mp ((lg_cmp_eq _ _).mp z))))) (fun _ => ?_)
    refine g_iinc (pc := 18) (lv' := [(0, _), (1, _), (2, _), (3, _)]) dX7_firstAs_18 rfl (nI_1 _) (nl rfl) rfl ?_
    refine g_goto (pc := 21) (tgt := 2) dX7_firstAs_21 rfl ?_
    exact ih (q + 1) ⟨by omega, by rw [hd']; exact h3⟩ (by omega)
theorem n_sameAs {s r : Nat} (h : Rr M n A) (hs : s < 6) (hr : r < n) : EvR l jX7_sameAs 4 160 0 0 [.ref 198, .int (nI s), .int (nI r)] M (.inl (some (.int (firstEq (A s) (A s r) n 0)))) (thr M 0) := by
  have hn := h.2.2.2.1
  have hS := h.1
  refine ev_intro rfl (nb rfl) rfl ?_
  refine g_aload_n (pc := 0) dX7_sameAs_0 rfl trivial ?_
  refine g_aload_n (pc := 1) dX7_sameAs_1 rfl trivial ?_
  refine g_iload_n (pc := 2) dX7_sameAs_2 rfl ?_
  refine g_iload_n (pc := 3) dX7_sameAs_3 rfl ?_
  refine g_invV_r (pc := 4) (As := [_, _]) dX7_sameAs_4 rfl (r_areIn_t h (in6 hs) (inR_nI hr (by omega))) rfl rfl (shK hS rfl) rfl rfl lk_X7_223 rfl (nb rfl) ⟨nb rfl, nb rfl⟩ rfl ?_
  refine g_iconst (pc := 7) (v := 1) dX7_sameAs_7 rfl ?_
  refine g_invV_r (pc := 8) (As := [_, _]) dX7_sameAs_8 rfl (r_isThrown_0 hS) rfl rfl (shK hS rfl) rfl rfl lk_X7_209 rfl (nb rfl) ⟨nb rfl, nb rfl⟩ rfl ?_
  refine g_if_eq (pc := 11) (tgt := 18) dX7_sameAs_11 rfl (fun _ => ?_) (fun h11 => absurd (rfl) h11)
  refine g_aload_n (pc := 18) dX7_sameAs_18 rfl trivial ?_
  refine g_iload_n (pc := 19) dX7_sameAs_19 rfl ?_
  refine g_iload_n (pc := 20) dX7_sameAs_20 rfl ?_
  refine g_invV_r (pc := 21) (As := [_, _]) dX7_sameAs_21 rfl (r_firstAs h.thr hs hr) rfl rfl (shK hS rfl) rfl rfl lk_X7_242 rfl (nb rfl) ⟨nb rfl, nb rfl⟩ rfl ?_
  refine g_ireturn (pc := 24) dX7_sameAs_24 rfl rfl ?_
  exact ⟨rfl, rfl⟩
theorem t_sameAs {v w : Int32} (h : Rr M n A) (hx : ¬ (inR v 6 ∧ inR w n)) : EvR l jX7_sameAs 4 160 0 0 [.ref 198, .int v, .int w] M (.inl (some (.int 0))) (thr M 1) := by
  have hS := h.1
  refine ev_intro rfl (nb rfl) rfl ?_
  refine g_aload_n (pc := 0) dX7_sameAs_0 rfl trivial ?_
  refine g_aload_n (pc := 1) dX7_sameAs_1 rfl trivial ?_
  refine g_iload_n (pc := 2) dX7_sameAs_2 rfl ?_
  refine g_iload_n (pc := 3) dX7_sameAs_3 rfl ?_
  refine g_invV_r (pc := 4) (As := [_, _]) dX7_sameAs_4 rfl (r_areIn_f h hx) rfl rfl (shK hS rfl) rfl rfl lk_X7_223 rfl (nb rfl) ⟨nb rfl, nb rfl⟩ rfl ?_
  refine g_iconst (pc := 7) (v := 1) dX7_sameAs_7 rfl ?_
  refine g_invV_r (pc := 8) (As := [_, _]) dX7_sameAs_8 rfl (r_isThrown_1 hS) rfl rfl (shK hS rfl) rfl rfl lk_X7_209 rfl (nb rfl) ⟨nb rfl, nb rfl⟩ rfl ?_
  refine g_if_eq (pc := 11) (tgt := 18) dX7_sameAs_11 rfl (fun h11 => absurd h11 ((by decide))) (fun _ => ?_)
  refine g_iconst (pc := 14) (v := 0) dX7_sameAs_14 rfl ?_
  refine g_goto (pc := 15) (tgt := 24) dX7_sameAs_15 rfl ?_
  refine g_ireturn (pc := 24) dX7_sameAs_24 rfl rfl ?_
  exact ⟨rfl, rfl⟩
theorem n_find {s : Nat} {x : Int64} (h : Rr M n A) (hs : s < 6) : EvR l jX7_find 4 160 0 0 [.ref 198, .int (nI s), .long x] M (.inl (some (.int (firstEq (A s) (x.toInt32 &&& lowM n) n 0)))) (thr M 0) := by
  have hn := h.2.2.2.1
  have hS := h.1
  have h' := h.thr (x := 0)
  obtain ⟨S, hS9⟩ : ∃ S, S = firstEq (A s) (x.toInt32 &&& lowM n) n 0 := ⟨_, rfl⟩
  rw [← hS9]
  refine ev_intro rfl (nb rfl) rfl ?_
  refine g_aload_n (pc := 0) dX7_find_0 rfl trivial ?_
  refine g_iload_n (pc := 1) dX7_find_1 rfl ?_
  refine g_invS_r (pc := 2) (As := [_]) dX7_find_2 rfl (r_isSlot_t (in6 hs)) rfl rfl lk_X7_216 rfl (nb rfl) ⟨nb rfl, nb rfl⟩ rfl ?_
  refine g_iconst (pc := 5) (v := 1) dX7_find_5 rfl ?_
  refine g_invV_r (pc := 6) (As := [_, _]) dX7_find_6 rfl (r_isThrown_0 hS) rfl rfl (shK hS rfl) rfl rfl lk_X7_209 rfl (nb rfl) ⟨nb rfl, nb rfl⟩ rfl ?_
  refine g_if_eq (pc := 9) (tgt := 14) dX7_find_9 rfl (fun _ => ?_) (fun h9 => absurd (rfl) h9)
  refine g_iconst (pc := 14) (v := 0) dX7_find_14 rfl ?_
  refine g_istore (pc := 15) (lv' := [(0, _), (1, _), (2, _), (4, _)]) dX7_find_15 (nl rfl) rfl ?_
  refine go_while (pc := 17) (σ := Nat) (fun q => q ≤ n ∧ firstEq (A s) (x.toInt32 &&& lowM n) (n - q) q = S) (fun q => n - q) (fun q => [(0, .ref 198), (1, .int (nI s)), (2, .long x), (4, .int (nI q))]) (fun _ => thr M 0) 0 ⟨rfl, rfl, rfl, rfl, trivial⟩ rfl ⟨by omega, hS9.symm⟩ ?_
  rintro q ⟨h1, h3⟩ ih
  by_cases hq : q < n
  · obtain ⟨d, hd⟩ : ∃ d, n - q = d + 1 := ⟨n - q - 1, by omega⟩
    have hd' : n - (q + 1) = d := by omega
    rw [hd, firstEq] at h3
    by_cases he : A s q = x.toInt32 &&& lowM n
    · rw [if_pos he] at h3
      refine g_iload (pc := 17) dX7_find_17 rfl ?_
      refine g_aload_n (pc := 19) dX7_find_19 rfl trivial ?_
      refine g_invV_r (pc := 20) (As := []) dX7_find_20 rfl (r_size h') rfl rfl (shK hS rfl) rfl rfl lk_X7_71 rfl (nb rfl) ⟨nb rfl, nb rfl⟩ rfl ?_
      refine g_icmp_ge (pc := 23) (tgt := 52) dX7_find_23 rfl (fun h23 => absurd h23 (nI_ge hq (by omega))) (fun _ => ?_)
      refine g_aload_n (pc := 26) dX7_find_26 rfl trivial ?_
      refine g_iload_n (pc := 27) dX7_find_27 rfl ?_
      refine g_iload (pc := 28) dX7_find_28 rfl ?_
      refine g_invV_r (pc := 30) (As := [_, _]) dX7_find_30 rfl (r_rowOf h' hs hq) rfl rfl (shK hS rfl) rfl rfl lk_X7_227 rfl (nb rfl) ⟨nb rfl, nb rfl⟩ rfl ?_
      refine g_lload_n (pc := 33) dX7_find_33 rfl ?_
      refine g_aload_n (pc := 34) dX7_find_34 rfl trivial ?_
      refine g_invV_r (pc := 35) (As := []) dX7_find_35 rfl (r_all h') rfl rfl (shK hS rfl) rfl rfl lk_X7_245 rfl (nb rfl) ⟨nb rfl, nb rfl⟩ rfl ?_
      refine g_land (pc := 38) dX7_find_38 ?_
      rw [uL_low]
      refine g_lcmp (pc := 39) dX7_find_39 ?_
      refine g_if_ne (pc := 40) (tgt := 46) dX7_find_40 rfl (fun h40 => absurd h40 ((fun z => z ((lg_cmp_eq _ _).mpr (by rw [he]))))) (fun _ => ?_)
      refine g_iload (pc := 43) dX7_find_43 rfl ?_
      refine g_ireturn (pc := 45) dX7_find_45 rfl rfl ?_
      exact ⟨by rw [← h3], rfl⟩
    · rw [if_neg he] at h3
      refine g_iload (pc := 17) dX7_find_17 rfl ?_
      refine g_aload_n (pc := 19) dX7_find_19 rfl trivial ?_
      refine g_invV_r (pc := 20) (As := []) dX7_find_20 rfl (r_size h') rfl rfl (shK hS rfl) rfl rfl lk_X7_71 rfl (nb rfl) ⟨nb rfl, nb rfl⟩ rfl ?_
      refine g_icmp_ge (pc := 23) (tgt := 52) dX7_find_23 rfl (fun h23 => absurd h23 (nI_ge hq (by omega))) (fun _ => ?_)
      refine g_aload_n (pc := 26) dX7_find_26 rfl trivial ?_
      refine g_iload_n (pc := 27) dX7_find_27 rfl ?_
      refine g_iload (pc := 28) dX7_find_28 rfl ?_
      refine g_invV_r (pc := 30) (As := [_, _]) dX7_find_30 rfl (r_rowOf h' hs hq) rfl rfl (shK hS rfl) rfl rfl lk_X7_227 rfl (nb rfl) ⟨nb rfl, nb rfl⟩ rfl ?_
      refine g_lload_n (pc := 33) dX7_find_33 rfl ?_
      refine g_aload_n (pc := 34) dX7_find_34 rfl trivial ?_
      refine g_invV_r (pc := 35) (As := []) dX7_find_35 rfl (r_all h') rfl rfl (shK hS rfl) rfl rfl lk_X7_245 rfl (nb rfl) ⟨nb rfl, nb rfl⟩ rfl ?_
      refine g_land (pc := 38) dX7_find_38 ?_
      rw [uL_low]
      refine g_lcmp (pc := 39) dX7_find_39 ?_
      refine g_if_ne (pc := 40) (tgt := 46) dX7_find_40 rfl (fun _ => ?_) (fun h40 => absurd ((fun z => he (uL_inj.mp ((lg_cmp_eq _ _).mp z)))) h40)
      refine g_iinc (pc := 46) (lv' := [(0, _), (1, _), (2, _), (4, _)]) dX7_find_46 rfl (nI_1 _) (nl rfl) rfl ?_
      refine g_goto (pc := 49) (tgt := 17) dX7_find_49 rfl ?_
      exact ih (q + 1) ⟨by omega, by rw [hd']; exact h3⟩ (by omega)
  · have hq' : q = n := by omega
    subst hq'
    rw [Nat.sub_self, firstEq] at h3
    refine g_iload (pc := 17) dX7_find_17 rfl ?_
    refine g_aload_n (pc := 19) dX7_find_19 rfl trivial ?_
    refine g_invV_r (pc := 20) (As := []) dX7_find_20 rfl (r_size h') rfl rfl (shK hS rfl) rfl rfl lk_X7_71 rfl (nb rfl) ⟨nb rfl, nb rfl⟩ rfl ?_
    refine g_icmp_ge (pc := 23) (tgt := 52) dX7_find_23 rfl (fun _ => ?_) (fun h23 => absurd (nI_le (Nat.le_refl _) (by omega)) h23)
    refine g_iconst (pc := 52) (v := (-1)) dX7_find_52 rfl ?_
    refine g_ireturn (pc := 53) dX7_find_53 rfl rfl ?_
    exact ⟨by rw [← h3], rfl⟩
theorem t_find {v : Int32} {x : Int64} (h : Rr M n A) (hx : ¬ inR v 6) : EvR l jX7_find 4 160 0 0 [.ref 198, .int v, .long x] M (.inl (some (.int 0))) (thr M 1) := by
  have hS := h.1
  refine ev_intro rfl (nb rfl) rfl ?_
  refine g_aload_n (pc := 0) dX7_find_0 rfl trivial ?_
  refine g_iload_n (pc := 1) dX7_find_1 rfl ?_
  refine g_invS_r (pc := 2) (As := [_]) dX7_find_2 rfl (r_isSlot_f hx) rfl rfl lk_X7_216 rfl (nb rfl) ⟨nb rfl, nb rfl⟩ rfl ?_
  refine g_iconst (pc := 5) (v := 1) dX7_find_5 rfl ?_
  refine g_invV_r (pc := 6) (As := [_, _]) dX7_find_6 rfl (r_isThrown_1 hS) rfl rfl (shK hS rfl) rfl rfl lk_X7_209 rfl (nb rfl) ⟨nb rfl, nb rfl⟩ rfl ?_
  refine g_if_eq (pc := 9) (tgt := 14) dX7_find_9 rfl (fun h9 => absurd h9 ((by decide))) (fun _ => ?_)
  refine g_iconst (pc := 12) (v := 0) dX7_find_12 rfl ?_
  refine g_ireturn (pc := 13) dX7_find_13 rfl rfl ?_
  exact ⟨rfl, rfl⟩
theorem r_classesAhead {s m : Nat} (h : Rr M n A) (hs : s < 6) (hm : m ≤ n) : EvR l jX7_classesAhead 2 60 0 0 [.ref 198, .int (nI s), .int (nI m)] M (.inl (some (.int (frN (A s) n m)))) M := by
  have hn := h.2.2.2.1
  have hS := h.1
  refine ev_intro rfl (nb rfl) rfl ?_
  refine g_iconst (pc := 0) (v := 0) dX7_classesAhead_0 rfl ?_
  refine g_istore_n (pc := 1) (lv' := [(0, _), (1, _), (2, _), (3, _)]) dX7_classesAhead_1 (nl rfl) rfl ?_
  refine g_iconst (pc := 2) (v := 0) dX7_classesAhead_2 rfl ?_
  refine g_istore (pc := 3) (lv' := [(0, _), (1, _), (2, _), (3, _), (4, _)]) dX7_classesAhead_3 (nl rfl) rfl ?_
  refine go_loop (pc := 5) m (fun i => [(0, .ref 198), (1, .int (nI s)), (2, .int (nI m)), (3, .int (frN (A s) n i)), (4, .int (nI i))]) (fun _ => M) ⟨rfl, rfl, rfl, rfl, rfl, trivial⟩ rfl ?_ ?_
  · intro i hi ih
    rw [frN] at ih
    by_cases he : firstEq (A s) (A s i) n 0 = nI i
    · rw [if_pos he] at ih
      refine g_iload (pc := 5) dX7_classesAhead_5 rfl ?_
      refine g_iload_n (pc := 7) dX7_classesAhead_7 rfl ?_
      refine g_icmp_ge (pc := 8) (tgt := 37) dX7_classesAhead_8 rfl (fun h8 => absurd h8 (nI_ge hi (by omega))) (fun _ => ?_)
      refine g_iload_n (pc := 11) dX7_classesAhead_11 rfl ?_
      refine g_aload_n (pc := 12) dX7_classesAhead_12 rfl trivial ?_
      refine g_iload_n (pc := 13) dX7_classesAhead_13 rfl ?_
      refine g_iload (pc := 14) dX7_classesAhead_14 rfl ?_
      refine g_invV_r (pc := 16) (As := [_, _]) dX7_classesAhead_16 rfl (r_firstAs h hs (show i < n by omega)) rfl rfl (shK hS rfl) rfl rfl lk_X7_242 rfl (nb rfl) ⟨nb rfl, nb rfl⟩ rfl ?_
      refine g_iload (pc := 19) dX7_classesAhead_19 rfl ?_
      refine g_icmp_ne (pc := 21) (tgt := 28) dX7_classesAhead_21 rfl (fun h21 => absurd h21 ((fun z => z he))) (fun _ => ?_)
      refine g_iconst (pc := 24) (v := 1) dX7_classesAhead_24 rfl ?_
      refine g_goto (pc := 25) (tgt := 29) dX7_classesAhead_25 rfl ?_
      refine g_iadd (pc := 29) dX7_classesAhead_29 ?_
      refine g_istore_n (pc := 30) (lv' := [(0, _), (1, _), (2, _), (3, _), (4, _)]) dX7_classesAhead_30 (nl rfl) rfl ?_
      refine g_iinc (pc := 31) (lv' := [(0, _), (1, _), (2, _), (3, _), (4, _)]) dX7_classesAhead_31 rfl (nI_1 _) (nl rfl) rfl ?_
      refine g_goto (pc := 34) (tgt := 5) dX7_classesAhead_34 rfl ?_
      exact ih
    · rw [if_neg he] at ih
      refine g_iload (pc := 5) dX7_classesAhead_5 rfl ?_
      refine g_iload_n (pc := 7) dX7_classesAhead_7 rfl ?_
      refine g_icmp_ge (pc := 8) (tgt := 37) dX7_classesAhead_8 rfl (fun h8 => absurd h8 (nI_ge hi (by omega))) (fun _ => ?_)
      refine g_iload_n (pc := 11) dX7_classesAhead_11 rfl ?_
      refine g_aload_n (pc := 12) dX7_classesAhead_12 rfl trivial ?_
      refine g_iload_n (pc := 13) dX7_classesAhead_13 rfl ?_
      refine g_iload (pc := 14) dX7_classesAhead_14 rfl ?_
      refine g_invV_r (pc := 16) (As := [_, _]) dX7_classesAhead_16 rfl (r_firstAs h hs (show i < n by omega)) rfl rfl (shK hS rfl) rfl rfl lk_X7_242 rfl (nb rfl) ⟨nb rfl, nb rfl⟩ rfl ?_
      refine g_iload (pc := 19) dX7_classesAhead_19 rfl ?_
      refine g_icmp_ne (pc := 21) (tgt := 28) dX7_classesAhead_21 rfl (fun _ => ?_) (fun h21 => absurd (he) h21)
      refine g_iconst (pc := 28) (v := 0) dX7_classesAhead_28 rfl ?_
      refine g_iadd (pc := 29) dX7_classesAhead_29 ?_
      rw [Int32.add_zero]
      refine g_istore_n (pc := 30) (lv' := [(0, _), (1, _), (2, _), (3, _), (4, _)]) dX7_classesAhead_30 (nl rfl) rfl ?_
      refine g_iinc (pc := 31) (lv' := [(0, _), (1, _), (2, _), (3, _), (4, _)]) dX7_classesAhead_31 rfl (nI_1 _) (nl rfl) rfl ?_
      refine g_goto (pc := 34) (tgt := 5) dX7_classesAhead_34 rfl ?_
      exact ih
  · refine g_iload (pc := 5) dX7_classesAhead_5 rfl ?_
    refine g_iload_n (pc := 7) dX7_classesAhead_7 rfl ?_
    refine g_icmp_ge (pc := 8) (tgt := 37) dX7_classesAhead_8 rfl (fun _ => ?_) (fun h8 => absurd (nI_le (Nat.le_refl _) (by omega)) h8)
    refine g_iload_n (pc := 37) dX7_classesAhead_37 rfl ?_
    refine g_ireturn (pc := 38) dX7_classesAhead_38 rfl rfl ?_
    exact ⟨rfl, rfl⟩
theorem n_classes {s : Nat} (h : Rr M n A) (hs : s < 6) : EvR l jX7_classes 4 160 0 0 [.ref 198, .int (nI s)] M (.inl (some (.int (frN (A s) n n)))) (thr M 0) := by
  have hS := h.1
  refine ev_intro rfl (nb rfl) rfl ?_
  refine g_aload_n (pc := 0) dX7_classes_0 rfl trivial ?_
  refine g_iload_n (pc := 1) dX7_classes_1 rfl ?_
  refine g_invS_r (pc := 2) (As := [_]) dX7_classes_2 rfl (r_isSlot_t (in6 hs)) rfl rfl lk_X7_216 rfl (nb rfl) ⟨nb rfl, nb rfl⟩ rfl ?_
  refine g_iconst (pc := 5) (v := 1) dX7_classes_5 rfl ?_
  refine g_invV_r (pc := 6) (As := [_, _]) dX7_classes_6 rfl (r_isThrown_0 hS) rfl rfl (shK hS rfl) rfl rfl lk_X7_209 rfl (nb rfl) ⟨nb rfl, nb rfl⟩ rfl ?_
  refine g_if_eq (pc := 9) (tgt := 16) dX7_classes_9 rfl (fun _ => ?_) (fun h9 => absurd (rfl) h9)
  refine g_aload_n (pc := 16) dX7_classes_16 rfl trivial ?_
  refine g_iload_n (pc := 17) dX7_classes_17 rfl ?_
  refine g_aload_n (pc := 18) dX7_classes_18 rfl trivial ?_
  refine g_invV_r (pc := 19) (As := []) dX7_classes_19 rfl (r_size h.thr) rfl rfl (shK hS rfl) rfl rfl lk_X7_71 rfl (nb rfl) ⟨nb rfl, nb rfl⟩ rfl ?_
  refine g_invV_r (pc := 22) (As := [_, _]) dX7_classes_22 rfl (r_classesAhead h.thr hs (Nat.le_refl _)) rfl rfl (shK hS rfl) rfl rfl lk_X7_249 rfl (nb rfl) ⟨nb rfl, nb rfl⟩ rfl ?_
  refine g_ireturn (pc := 25) dX7_classes_25 rfl rfl ?_
  exact ⟨rfl, rfl⟩
theorem t_classes {v : Int32} (h : Rr M n A) (hx : ¬ inR v 6) : EvR l jX7_classes 4 160 0 0 [.ref 198, .int v] M (.inl (some (.int 0))) (thr M 1) := by
  have hS := h.1
  refine ev_intro rfl (nb rfl) rfl ?_
  refine g_aload_n (pc := 0) dX7_classes_0 rfl trivial ?_
  refine g_iload_n (pc := 1) dX7_classes_1 rfl ?_
  refine g_invS_r (pc := 2) (As := [_]) dX7_classes_2 rfl (r_isSlot_f hx) rfl rfl lk_X7_216 rfl (nb rfl) ⟨nb rfl, nb rfl⟩ rfl ?_
  refine g_iconst (pc := 5) (v := 1) dX7_classes_5 rfl ?_
  refine g_invV_r (pc := 6) (As := [_, _]) dX7_classes_6 rfl (r_isThrown_1 hS) rfl rfl (shK hS rfl) rfl rfl lk_X7_209 rfl (nb rfl) ⟨nb rfl, nb rfl⟩ rfl ?_
  refine g_if_eq (pc := 9) (tgt := 16) dX7_classes_9 rfl (fun h9 => absurd h9 ((by decide))) (fun _ => ?_)
  refine g_iconst (pc := 12) (v := 0) dX7_classes_12 rfl ?_
  refine g_goto (pc := 13) (tgt := 25) dX7_classes_13 rfl ?_
  refine g_ireturn (pc := 25) dX7_classes_25 rfl rfl ?_
  exact ⟨rfl, rfl⟩
theorem n_classOf {s r : Nat} (h : Rr M n A) (hs : s < 6) (hr : r < n) : EvR l jX7_classOf 4 160 0 0 [.ref 198, .int (nI s), .int (nI r)] M (.inl (some (.int (frN (A s) n (firstN (A s) r n))))) (thr M 0) := by
  have hn := h.2.2.2.1
  have hS := h.1
  obtain ⟨f1, f2⟩ := firstN_ok (f := A s) hr hn
  refine ev_intro rfl (nb rfl) rfl ?_
  refine g_aload_n (pc := 0) dX7_classOf_0 rfl trivial ?_
  refine g_aload_n (pc := 1) dX7_classOf_1 rfl trivial ?_
  refine g_iload_n (pc := 2) dX7_classOf_2 rfl ?_
  refine g_iload_n (pc := 3) dX7_classOf_3 rfl ?_
  refine g_invV_r (pc := 4) (As := [_, _]) dX7_classOf_4 rfl (r_areIn_t h (in6 hs) (inR_nI hr (by omega))) rfl rfl (shK hS rfl) rfl rfl lk_X7_223 rfl (nb rfl) ⟨nb rfl, nb rfl⟩ rfl ?_
  refine g_iconst (pc := 7) (v := 1) dX7_classOf_7 rfl ?_
  refine g_invV_r (pc := 8) (As := [_, _]) dX7_classOf_8 rfl (r_isThrown_0 hS) rfl rfl (shK hS rfl) rfl rfl lk_X7_209 rfl (nb rfl) ⟨nb rfl, nb rfl⟩ rfl ?_
  refine g_if_eq (pc := 11) (tgt := 18) dX7_classOf_11 rfl (fun _ => ?_) (fun h11 => absurd (rfl) h11)
  refine g_aload_n (pc := 18) dX7_classOf_18 rfl trivial ?_
  refine g_iload_n (pc := 19) dX7_classOf_19 rfl ?_
  refine g_aload_n (pc := 20) dX7_classOf_20 rfl trivial ?_
  refine g_iload_n (pc := 21) dX7_classOf_21 rfl ?_
  refine g_iload_n (pc := 22) dX7_classOf_22 rfl ?_
  refine g_invV_r (pc := 23) (As := [_, _]) dX7_classOf_23 rfl (r_firstAs h.thr hs hr) rfl rfl (shK hS rfl) rfl rfl lk_X7_242 rfl (nb rfl) ⟨nb rfl, nb rfl⟩ rfl ?_
  rw [f1]
  refine g_invV_r (pc := 26) (As := [_, _]) dX7_classOf_26 rfl (r_classesAhead h.thr hs (show firstN (A s) r n ≤ n by omega)) rfl rfl (shK hS rfl) rfl rfl lk_X7_249 rfl (nb rfl) ⟨nb rfl, nb rfl⟩ rfl ?_
  refine g_ireturn (pc := 29) dX7_classOf_29 rfl rfl ?_
  exact ⟨rfl, rfl⟩
theorem t_classOf {v w : Int32} (h : Rr M n A) (hx : ¬ (inR v 6 ∧ inR w n)) : EvR l jX7_classOf 4 160 0 0 [.ref 198, .int v, .int w] M (.inl (some (.int 0))) (thr M 1) := by
  have hS := h.1
  refine ev_intro rfl (nb rfl) rfl ?_
  refine g_aload_n (pc := 0) dX7_classOf_0 rfl trivial ?_
  refine g_aload_n (pc := 1) dX7_classOf_1 rfl trivial ?_
  refine g_iload_n (pc := 2) dX7_classOf_2 rfl ?_
  refine g_iload_n (pc := 3) dX7_classOf_3 rfl ?_
  refine g_invV_r (pc := 4) (As := [_, _]) dX7_classOf_4 rfl (r_areIn_f h hx) rfl rfl (shK hS rfl) rfl rfl lk_X7_223 rfl (nb rfl) ⟨nb rfl, nb rfl⟩ rfl ?_
  refine g_iconst (pc := 7) (v := 1) dX7_classOf_7 rfl ?_
  refine g_invV_r (pc := 8) (As := [_, _]) dX7_classOf_8 rfl (r_isThrown_1 hS) rfl rfl (shK hS rfl) rfl rfl lk_X7_209 rfl (nb rfl) ⟨nb rfl, nb rfl⟩ rfl ?_
  refine g_if_eq (pc := 11) (tgt := 18) dX7_classOf_11 rfl (fun h11 => absurd h11 ((by decide))) (fun _ => ?_)
  refine g_iconst (pc := 14) (v := 0) dX7_classOf_14 rfl ?_
  refine g_goto (pc := 15) (tgt := 29) dX7_classOf_15 rfl ?_
  refine g_ireturn (pc := 29) dX7_classOf_29 rfl rfl ?_
  exact ⟨rfl, rfl⟩
theorem n_nearest {s r : Nat} (h : Rr M n A) (hs : s < 6) (hr : r < n) : EvR l jX7_nearest 4 160 0 0 [.ref 198, .int (nI s), .int (nI r)] M (.inl (some (.int (nrF (A s) r n).1))) (thr M 0) := by
  have hn := h.2.2.2.1
  have hS := h.1
  have h' := h.thr (x := 0)
  refine ev_intro rfl (nb rfl) rfl ?_
  refine g_aload_n (pc := 0) dX7_nearest_0 rfl trivial ?_
  refine g_aload_n (pc := 1) dX7_nearest_1 rfl trivial ?_
  refine g_iload_n (pc := 2) dX7_nearest_2 rfl ?_
  refine g_iload_n (pc := 3) dX7_nearest_3 rfl ?_
  refine g_invV_r (pc := 4) (As := [_, _]) dX7_nearest_4 rfl (r_areIn_t h (in6 hs) (inR_nI hr (by omega))) rfl rfl (shK hS rfl) rfl rfl lk_X7_223 rfl (nb rfl) ⟨nb rfl, nb rfl⟩ rfl ?_
  refine g_iconst (pc := 7) (v := 1) dX7_nearest_7 rfl ?_
  refine g_invV_r (pc := 8) (As := [_, _]) dX7_nearest_8 rfl (r_isThrown_0 hS) rfl rfl (shK hS rfl) rfl rfl lk_X7_209 rfl (nb rfl) ⟨nb rfl, nb rfl⟩ rfl ?_
  refine g_if_eq (pc := 11) (tgt := 16) dX7_nearest_11 rfl (fun _ => ?_) (fun h11 => absurd (rfl) h11)
  refine g_iconst (pc := 16) (v := (-1)) dX7_nearest_16 rfl ?_
  refine g_istore_n (pc := 17) (lv' := [(0, _), (1, _), (2, _), (3, _)]) dX7_nearest_17 (nl rfl) rfl ?_
  refine g_bipush (pc := 18) (v := 33) dX7_nearest_18 rfl ?_
  refine g_istore (pc := 20) (lv' := [(0, _), (1, _), (2, _), (3, _), (4, _)]) dX7_nearest_20 (nl rfl) rfl ?_
  refine g_iconst (pc := 22) (v := 0) dX7_nearest_22 rfl ?_
  refine g_istore (pc := 23) (lv' := [(0, _), (1, _), (2, _), (3, _), (4, _), (5, _)]) dX7_nearest_23 (nl rfl) rfl ?_
  refine go_loop (pc := 25) n (fun i => [(0, .ref 198), (1, .int (nI s)), (2, .int (nI r)), (3, .int (nrF (A s) r i).1), (4, .int (nrF (A s) r i).2), (5, .int (nI i))]) (fun _ => thr M 0) ⟨rfl, rfl, rfl, rfl, rfl, rfl, trivial⟩ rfl ?_ ?_
  · intro i hi ih
    generalize nrF (A s) r n = X at ih ⊢
    rw [nrF] at ih
    refine g_iload (pc := 25) dX7_nearest_25 rfl ?_
    refine g_aload_n (pc := 27) dX7_nearest_27 rfl trivial ?_
    refine g_invV_r (pc := 28) (As := []) dX7_nearest_28 rfl (r_size h') rfl rfl (shK hS rfl) rfl rfl lk_X7_71 rfl (nb rfl) ⟨nb rfl, nb rfl⟩ rfl ?_
    refine g_icmp_ge (pc := 31) (tgt := 79) dX7_nearest_31 rfl (fun h31 => absurd h31 (nI_ge hi (by omega))) (fun _ => ?_)
    refine g_aload_n (pc := 34) dX7_nearest_34 rfl trivial ?_
    refine g_iload_n (pc := 35) dX7_nearest_35 rfl ?_
    refine g_iload (pc := 36) dX7_nearest_36 rfl ?_
    refine g_invV_r (pc := 38) (As := [_, _]) dX7_nearest_38 rfl (r_rowOf h' hs hi) rfl rfl (shK hS rfl) rfl rfl lk_X7_227 rfl (nb rfl) ⟨nb rfl, nb rfl⟩ rfl ?_
    refine g_aload_n (pc := 41) dX7_nearest_41 rfl trivial ?_
    refine g_iload_n (pc := 42) dX7_nearest_42 rfl ?_
    refine g_iload_n (pc := 43) dX7_nearest_43 rfl ?_
    refine g_invV_r (pc := 44) (As := [_, _]) dX7_nearest_44 rfl (r_rowOf h' hs hr) rfl rfl (shK hS rfl) rfl rfl lk_X7_227 rfl (nb rfl) ⟨nb rfl, nb rfl⟩ rfl ?_
    refine g_lxor (pc := 47) dX7_nearest_47 ?_
    rw [uL_xor]
    refine g_invS_r (pc := 48) (As := [_]) dX7_nearest_48 rfl (r_bitsOf) rfl rfl lk_X7_234 rfl (nb rfl) ⟨nb rfl, nb rfl⟩ rfl ?_
    refine g_istore (pc := 51) (lv' := [(0, _), (1, _), (2, _), (3, _), (4, _), (5, _), (6, _)]) dX7_nearest_51 (nl rfl) rfl ?_
    refine g_iload (pc := 53) dX7_nearest_53 rfl ?_
    refine g_iload_n (pc := 55) dX7_nearest_55 rfl ?_
    refine g_icmp_eq (pc := 56) (tgt := 73) dX7_nearest_56 rfl (fun h56 => ?_) (fun h56 => ?_)
    · rw [if_pos ((nI_eq (by omega) (by omega)).mp h56)] at ih
      refine g_iinc (pc := 73) (lv' := [(0, _), (1, _), (2, _), (3, _), (4, _), (5, _), (6, _)]) dX7_nearest_73 rfl (nI_1 _) (nl rfl) rfl ?_
      refine g_goto (pc := 76) (tgt := 25) dX7_nearest_76 rfl ?_
      exact g_sub (lv' := [(0, _), (1, _), (2, _), (3, _), (4, _), (5, _)]) ⟨rfl, rfl, rfl, rfl, rfl, rfl, trivial⟩ ih
    · rw [if_neg (fun h => h56 (by rw [h]))] at ih
      refine g_iload (pc := 59) dX7_nearest_59 rfl ?_
      refine g_iload (pc := 61) dX7_nearest_61 rfl ?_
      refine g_icmp_ge (pc := 63) (tgt := 73) dX7_nearest_63 rfl (fun h63 => ?_) (fun h63 => ?_)
      · rw [if_neg (Int32.not_lt.mpr h63)] at ih
        refine g_iinc (pc := 73) (lv' := [(0, _), (1, _), (2, _), (3, _), (4, _), (5, _), (6, _)]) dX7_nearest_73 rfl (nI_1 _) (nl rfl) rfl ?_
        refine g_goto (pc := 76) (tgt := 25) dX7_nearest_76 rfl ?_
        exact g_sub (lv' := [(0, _), (1, _), (2, _), (3, _), (4, _), (5, _)]) ⟨rfl, rfl, rfl, rfl, rfl, rfl, trivial⟩ ih
      · rw [if_pos (Int32.not_le.mp h63)] at ih
        refine g_iload (pc := 66) dX7_nearest_66 rfl ?_
        refine g_istore_n (pc := 68) (lv' := [(0, _), (1, _), (2, _), (3, _), (4, _), (5, _), (6, _)]) dX7_nearest_68 (nl rfl) rfl ?_
        refine g_iload (pc := 69) dX7_nearest_69 rfl ?_
        refine g_istore (pc := 71) (lv' := [(0, _), (1, _), (2, _), (3, _), (4, _), (5, _), (6, _)]) dX7_nearest_71 (nl rfl) rfl ?_
        refine g_iinc (pc := 73) (lv' := [(0, _), (1, _), (2, _), (3, _), (4, _), (5, _), (6, _)]) dX7_nearest_73 rfl (nI_1 _) (nl rfl) rfl ?_
        refine g_goto (pc := 76) (tgt := 25) dX7_nearest_76 rfl ?_
        exact g_sub (lv' := [(0, _), (1, _), (2, _), (3, _), (4, _), (5, _)]) ⟨rfl, rfl, rfl, rfl, rfl, rfl, trivial⟩ ih
  · refine g_iload (pc := 25) dX7_nearest_25 rfl ?_
    refine g_aload_n (pc := 27) dX7_nearest_27 rfl trivial ?_
    refine g_invV_r (pc := 28) (As := []) dX7_nearest_28 rfl (r_size h') rfl rfl (shK hS rfl) rfl rfl lk_X7_71 rfl (nb rfl) ⟨nb rfl, nb rfl⟩ rfl ?_
    refine g_icmp_ge (pc := 31) (tgt := 79) dX7_nearest_31 rfl (fun _ => ?_) (fun h31 => absurd (nI_le (Nat.le_refl _) (by omega)) h31)
    refine g_iload_n (pc := 79) dX7_nearest_79 rfl ?_
    refine g_ireturn (pc := 80) dX7_nearest_80 rfl rfl ?_
    exact ⟨rfl, rfl⟩
theorem t_nearest {v w : Int32} (h : Rr M n A) (hx : ¬ (inR v 6 ∧ inR w n)) : EvR l jX7_nearest 4 160 0 0 [.ref 198, .int v, .int w] M (.inl (some (.int 0))) (thr M 1) := by
  have hS := h.1
  refine ev_intro rfl (nb rfl) rfl ?_
  refine g_aload_n (pc := 0) dX7_nearest_0 rfl trivial ?_
  refine g_aload_n (pc := 1) dX7_nearest_1 rfl trivial ?_
  refine g_iload_n (pc := 2) dX7_nearest_2 rfl ?_
  refine g_iload_n (pc := 3) dX7_nearest_3 rfl ?_
  refine g_invV_r (pc := 4) (As := [_, _]) dX7_nearest_4 rfl (r_areIn_f h hx) rfl rfl (shK hS rfl) rfl rfl lk_X7_223 rfl (nb rfl) ⟨nb rfl, nb rfl⟩ rfl ?_
  refine g_iconst (pc := 7) (v := 1) dX7_nearest_7 rfl ?_
  refine g_invV_r (pc := 8) (As := [_, _]) dX7_nearest_8 rfl (r_isThrown_1 hS) rfl rfl (shK hS rfl) rfl rfl lk_X7_209 rfl (nb rfl) ⟨nb rfl, nb rfl⟩ rfl ?_
  refine g_if_eq (pc := 11) (tgt := 16) dX7_nearest_11 rfl (fun h11 => absurd h11 ((by decide))) (fun _ => ?_)
  refine g_iconst (pc := 14) (v := 0) dX7_nearest_14 rfl ?_
  refine g_ireturn (pc := 15) dX7_nearest_15 rfl rfl ?_
  exact ⟨rfl, rfl⟩
end

