/-! the reference: more queries on rows -/
section
variable {l : Launch} {M : Mem} {n : Nat} {A : Nat → Nat → Int32}
theorem selG_none {x idx : Int32} : ∀ (d c : Nat) (b : Int32), (∀ j, c ≤ j → j < c + d → hb x j = false) → selG x idx d c b = -1
  | 0, _, _, _ => rfl
  | d + 1, c, b, h => by
    rw [selG, if_neg (by rw [h c (Nat.le_refl _) (by omega)]; decide)]
    exact selG_none d (c + 1) b (fun j h1 h2 => h j (by omega) (by omega))
theorem selG_neg {x idx : Int32} (hi : idx < 0) : ∀ (d c b : Nat), b + d < 2147483648 → selG x idx d c (nI b) = -1
  | 0, _, _, _ => rfl
  | d + 1, c, b, h => by
    have hne : ¬ nI b = idx := fun q => nI_pos (n := b) (by omega) (by rw [q]; exact hi)
    rw [selG]
    by_cases h9 : hb x c = true
    · rw [if_pos h9, if_neg hne, nI_1]; exact selG_neg hi d (c + 1) (b + 1) (by omega)
    · rw [if_neg h9]; exact selG_neg hi d (c + 1) b (by omega)
theorem n_select {s r : Nat} {x : Int32} (h : Rr M n A) (hw : wfA n A) (hs : s < 6) (hr : r < n) : EvR l jX7_select 4 160 0 0 [.ref 198, .int (nI s), .int (nI r), .int x] M (.inl (some (.int (selG (A s r) x 32 0 0)))) (thr M 0) := by
  have hn := h.2.2.2.1
  have hS := h.1
  have h' := h.thr (x := 0)
  by_cases hx : x < 0
  · have e0 : selG (A s r) x 32 0 0 = -1 := selG_neg hx 32 0 0 (by decide)
    rw [e0]
    refine ev_intro rfl (nb rfl) rfl ?_
    refine g_aload_n (pc := 0) dX7_select_0 rfl trivial ?_
    refine g_aload_n (pc := 1) dX7_select_1 rfl trivial ?_
    refine g_iload_n (pc := 2) dX7_select_2 rfl ?_
    refine g_iload_n (pc := 3) dX7_select_3 rfl ?_
    refine g_invV_r (pc := 4) (As := [_, _]) dX7_select_4 rfl (r_areIn_t h (in6 hs) (inR_nI hr (by omega))) rfl rfl (shK hS rfl) rfl rfl lk_X7_223 rfl (nb rfl) ⟨nb rfl, nb rfl⟩ rfl ?_
    refine g_iconst (pc := 7) (v := 1) dX7_select_7 rfl ?_
    refine g_invV_r (pc := 8) (As := [_, _]) dX7_select_8 rfl (r_isThrown_0 hS) rfl rfl (shK hS rfl) rfl rfl lk_X7_209 rfl (nb rfl) ⟨nb rfl, nb rfl⟩ rfl ?_
    refine g_if_eq (pc := 11) (tgt := 16) dX7_select_11 rfl (fun _ => ?_) (fun h11 => absurd (rfl) h11)
    refine g_iload_n (pc := 16) dX7_select_16 rfl ?_
    refine g_istore (pc := 17) (lv' := [(0, _), (1, _), (2, _), (3, _), (4, _)]) dX7_select_17 (nl rfl) rfl ?_
    refine g_iconst (pc := 19) (v := 0) dX7_select_19 rfl ?_
    refine g_istore (pc := 20) (lv' := [(0, _), (1, _), (2, _), (3, _), (4, _), (5, _)]) dX7_select_20 (nl rfl) rfl ?_
    refine g_iload (pc := 22) dX7_select_22 rfl ?_
    refine g_aload_n (pc := 24) dX7_select_24 rfl trivial ?_
    refine g_invV_r (pc := 25) (As := []) dX7_select_25 rfl (r_size h') rfl rfl (shK hS rfl) rfl rfl lk_X7_71 rfl (nb rfl) ⟨nb rfl, nb rfl⟩ rfl ?_
    refine g_icmp_ge (pc := 28) (tgt := 68) dX7_select_28 rfl (fun h28 => absurd h28 (nI_ge h.2.2.1 (by omega))) (fun _ => ?_)
    refine g_iload (pc := 31) dX7_select_31 rfl ?_
    refine g_if_lt (pc := 33) (tgt := 68) dX7_select_33 rfl (fun _ => ?_) (fun h33 => absurd (hx) h33)
    refine g_iconst (pc := 68) (v := (-1)) dX7_select_68 rfl ?_
    refine g_ireturn (pc := 69) dX7_select_69 rfl rfl ?_
    exact ⟨rfl, rfl⟩
  · obtain ⟨i, hi, rfl⟩ := nI_of hx
    obtain ⟨S, hS9⟩ : ∃ S, S = selG (A s r) (nI i) 32 0 0 := ⟨_, rfl⟩
    rw [← hS9]
    refine ev_intro rfl (nb rfl) rfl ?_
    refine g_aload_n (pc := 0) dX7_select_0 rfl trivial ?_
    refine g_aload_n (pc := 1) dX7_select_1 rfl trivial ?_
    refine g_iload_n (pc := 2) dX7_select_2 rfl ?_
    refine g_iload_n (pc := 3) dX7_select_3 rfl ?_
    refine g_invV_r (pc := 4) (As := [_, _]) dX7_select_4 rfl (r_areIn_t h (in6 hs) (inR_nI hr (by omega))) rfl rfl (shK hS rfl) rfl rfl lk_X7_223 rfl (nb rfl) ⟨nb rfl, nb rfl⟩ rfl ?_
    refine g_iconst (pc := 7) (v := 1) dX7_select_7 rfl ?_
    refine g_invV_r (pc := 8) (As := [_, _]) dX7_select_8 rfl (r_isThrown_0 hS) rfl rfl (shK hS rfl) rfl rfl lk_X7_209 rfl (nb rfl) ⟨nb rfl, nb rfl⟩ rfl ?_
    refine g_if_eq (pc := 11) (tgt := 16) dX7_select_11 rfl (fun _ => ?_) (fun h11 => absurd (rfl) h11)
    refine g_iload_n (pc := 16) dX7_select_16 rfl ?_
    refine g_istore (pc := 17) (lv' := [(0, _), (1, _), (2, _), (3, _), (4, _)]) dX7_select_17 (nl rfl) rfl ?_
    refine g_iconst (pc := 19) (v := 0) dX7_select_19 rfl ?_
    refine g_istore (pc := 20) (lv' := [(0, _), (1, _), (2, _), (3, _), (4, _), (5, _)]) dX7_select_20 (nl rfl) rfl ?_
    refine go_while (pc := 22) (σ := Nat × Nat) (fun q => q.1 ≤ n ∧ q.2 ≤ i ∧ selG (A s r) (nI i) (32 - q.1) q.1 (nI q.2) = S) (fun q => n - q.1) (fun q => [(0, .ref 198), (1, .int (nI s)), (2, .int (nI r)), (4, .int (nI (i - q.2))), (5, .int (nI q.1))]) (fun _ => thr M 0) (0, 0) ⟨rfl, rfl, rfl, rfl, rfl, trivial⟩ rfl ⟨by simp only; omega, by simp only; omega, hS9.symm⟩ ?_
    rintro ⟨c, b⟩ ⟨h1, h2, h3⟩ ih
    simp only at h1 h2 h3 ih
    by_cases hc : c < n
    · obtain ⟨d, hd⟩ : ∃ d, 32 - c = d + 1 := ⟨31 - c, by omega⟩
      have hd' : 32 - (c + 1) = d := by omega
      rw [hd, selG] at h3
      cases hb9 : hb (A s r) c with
      | false =>
        rw [hb9, if_neg (by decide)] at h3
        refine g_iload (pc := 22) dX7_select_22 rfl ?_
        refine g_aload_n (pc := 24) dX7_select_24 rfl trivial ?_
        refine g_invV_r (pc := 25) (As := []) dX7_select_25 rfl (r_size h') rfl rfl (shK hS rfl) rfl rfl lk_X7_71 rfl (nb rfl) ⟨nb rfl, nb rfl⟩ rfl ?_
        refine g_icmp_ge (pc := 28) (tgt := 68) dX7_select_28 rfl (fun h28 => absurd h28 (nI_ge hc (by omega))) (fun _ => ?_)
        refine g_iload (pc := 31) dX7_select_31 rfl ?_
        refine g_if_lt (pc := 33) (tgt := 68) dX7_select_33 rfl (fun h33 => absurd h33 (nI_pos (by omega))) (fun _ => ?_)
        refine g_aload_n (pc := 36) dX7_select_36 rfl trivial ?_
        refine g_iload_n (pc := 37) dX7_select_37 rfl ?_
        refine g_iload_n (pc := 38) dX7_select_38 rfl ?_
        refine g_invV_r (pc := 39) (As := [_, _]) dX7_select_39 rfl (r_rowOf h' hs hr) rfl rfl (shK hS rfl) rfl rfl lk_X7_227 rfl (nb rfl) ⟨nb rfl, nb rfl⟩ rfl ?_
        refine g_iload (pc := 42) dX7_select_42 rfl ?_
        refine g_invS_r (pc := 44) (As := [_, _]) dX7_select_44 rfl (r_one (by omega)) rfl rfl lk_X7_231 rfl (nb rfl) ⟨nb rfl, nb rfl⟩ rfl ?_
        rw [hb9]
        refine g_iconst (pc := 47) (v := 1) dX7_select_47 rfl ?_
        refine g_icmp_ne (pc := 48) (tgt := 62) dX7_select_48 rfl (fun _ => ?_) (fun h48 => absurd ((by decide)) h48)
        refine g_iinc (pc := 62) (lv' := [(0, _), (1, _), (2, _), (4, _), (5, _)]) dX7_select_62 rfl (nI_1 _) (nl rfl) rfl ?_
        refine g_goto (pc := 65) (tgt := 22) dX7_select_65 rfl ?_
        exact ih (c + 1, b) ⟨hc, h2, by simp only; rw [hd']; exact h3⟩ (by simp only; omega)
      | true =>
        rw [hb9, if_pos rfl] at h3
        by_cases hbi : b = i
        · rw [hbi, if_pos rfl] at h3
          subst hbi
          refine g_iload (pc := 22) dX7_select_22 rfl ?_
          refine g_aload_n (pc := 24) dX7_select_24 rfl trivial ?_
          refine g_invV_r (pc := 25) (As := []) dX7_select_25 rfl (r_size h') rfl rfl (shK hS rfl) rfl rfl lk_X7_71 rfl (nb rfl) ⟨nb rfl, nb rfl⟩ rfl ?_
          refine g_icmp_ge (pc := 28) (tgt := 68) dX7_select_28 rfl (fun h28 => absurd h28 (nI_ge hc (by omega))) (fun _ => ?_)
          refine g_iload (pc := 31) dX7_select_31 rfl ?_
          refine g_if_lt (pc := 33) (tgt := 68) dX7_select_33 rfl (fun h33 => absurd h33 (nI_pos (by omega))) (fun _ => ?_)
          refine g_aload_n (pc := 36) dX7_select_36 rfl trivial ?_
          refine g_iload_n (pc := 37) dX7_select_37 rfl ?_
          refine g_iload_n (pc := 38) dX7_select_38 rfl ?_
          refine g_invV_r (pc := 39) (As := [_, _]) dX7_select_39 rfl (r_rowOf h' hs hr) rfl rfl (shK hS rfl) rfl rfl lk_X7_227 rfl (nb rfl) ⟨nb rfl, nb rfl⟩ rfl ?_
          refine g_iload (pc := 42) dX7_select_42 rfl ?_
          refine g_invS_r (pc := 44) (As := [_, _]) dX7_select_44 rfl (r_one (by omega)) rfl rfl lk_X7_231 rfl (nb rfl) ⟨nb rfl, nb rfl⟩ rfl ?_
          rw [hb9]
          refine g_iconst (pc := 47) (v := 1) dX7_select_47 rfl ?_
          refine g_icmp_ne (pc := 48) (tgt := 62) dX7_select_48 rfl (fun h48 => absurd h48 ((fun q => q rfl))) (fun _ => ?_)
          refine g_iload (pc := 51) dX7_select_51 rfl ?_
          refine g_if_ne (pc := 53) (tgt := 59) dX7_select_53 rfl (fun h53 => absurd h53 ((fun q => q (by rw [Nat.sub_self]; rfl)))) (fun _ => ?_)
          refine g_iload (pc := 56) dX7_select_56 rfl ?_
          refine g_ireturn (pc := 58) dX7_select_58 rfl rfl ?_
          exact ⟨by rw [h3], rfl⟩
        · rw [if_neg (fun q => hbi ((nI_eq (by omega) (by omega)).mp q)), nI_1] at h3
          refine g_iload (pc := 22) dX7_select_22 rfl ?_
          refine g_aload_n (pc := 24) dX7_select_24 rfl trivial ?_
          refine g_invV_r (pc := 25) (As := []) dX7_select_25 rfl (r_size h') rfl rfl (shK hS rfl) rfl rfl lk_X7_71 rfl (nb rfl) ⟨nb rfl, nb rfl⟩ rfl ?_
          refine g_icmp_ge (pc := 28) (tgt := 68) dX7_select_28 rfl (fun h28 => absurd h28 (nI_ge hc (by omega))) (fun _ => ?_)
          refine g_iload (pc := 31) dX7_select_31 rfl ?_
          refine g_if_lt (pc := 33) (tgt := 68) dX7_select_33 rfl (fun h33 => absurd h33 (nI_pos (by omega))) (fun _ => ?_)
          refine g_aload_n (pc := 36) dX7_select_36 rfl trivial ?_
          refine g_iload_n (pc := 37) dX7_select_37 rfl ?_
          refine g_iload_n (pc := 38) dX7_select_38 rfl ?_
          refine g_invV_r (pc := 39) (As := [_, _]) dX7_select_39 rfl (r_rowOf h' hs hr) rfl rfl (shK hS rfl) rfl rfl lk_X7_227 rfl (nb rfl) ⟨nb rfl, nb rfl⟩ rfl ?_
          refine g_iload (pc := 42) dX7_select_42 rfl ?_
          refine g_invS_r (pc := 44) (As := [_, _]) dX7_select_44 rfl (r_one (by omega)) rfl rfl lk_X7_231 rfl (nb rfl) ⟨nb rfl, nb rfl⟩ rfl ?_
          rw [hb9]
          refine g_iconst (pc := 47) (v := 1) dX7_select_47 rfl ?_
          refine g_icmp_ne (pc := 48) (tgt := 62) dX7_select_48 rfl (fun h48 => absurd h48 ((fun q => q rfl))) (fun _ => ?_)
          refine g_iload (pc := 51) dX7_select_51 rfl ?_
          refine g_if_ne (pc := 53) (tgt := 59) dX7_select_53 rfl (fun _ => ?_) (fun h53 => absurd (nI_ne0 (by omega) (by omega)) h53)
          refine g_iinc (pc := 59) (lv' := [(0, _), (1, _), (2, _), (4, _), (5, _)]) dX7_select_59 rfl (show nI (i - b) + -1 = nI (i - (b + 1)) by rw [← Int32.sub_eq_add_neg, nI_m1 (by omega)]; congr 1) (nl rfl) rfl ?_
          refine g_iinc (pc := 62) (lv' := [(0, _), (1, _), (2, _), (4, _), (5, _)]) dX7_select_62 rfl (nI_1 _) (nl rfl) rfl ?_
          refine g_goto (pc := 65) (tgt := 22) dX7_select_65 rfl ?_
          exact ih (c + 1, b + 1) ⟨hc, by simp only; omega, by simp only; rw [hd']; exact h3⟩ (by simp only; omega)
    · have hc' : c = n := by omega
      subst hc'
      have e0 := selG_none (x := A s r) (idx := nI i) (32 - c) c (nI b) (fun j h1 _ => hw s r hs hr j h1)
      rw [e0] at h3
      refine g_iload (pc := 22) dX7_select_22 rfl ?_
      refine g_aload_n (pc := 24) dX7_select_24 rfl trivial ?_
      refine g_invV_r (pc := 25) (As := []) dX7_select_25 rfl (r_size h') rfl rfl (shK hS rfl) rfl rfl lk_X7_71 rfl (nb rfl) ⟨nb rfl, nb rfl⟩ rfl ?_
      refine g_icmp_ge (pc := 28) (tgt := 68) dX7_select_28 rfl (fun _ => ?_) (fun h28 => absurd (nI_le (Nat.le_refl _) (by omega)) h28)
      refine g_iconst (pc := 68) (v := (-1)) dX7_select_68 rfl ?_
      refine g_ireturn (pc := 69) dX7_select_69 rfl rfl ?_
      exact ⟨by rw [← h3], rfl⟩
theorem t_select {v w x : Int32} (h : Rr M n A) (hx : ¬ (inR v 6 ∧ inR w n)) : EvR l jX7_select 4 160 0 0 [.ref 198, .int v, .int w, .int x] M (.inl (some (.int 0))) (thr M 1) := by
  have hS := h.1
  refine ev_intro rfl (nb rfl) rfl ?_
  refine g_aload_n (pc := 0) dX7_select_0 rfl trivial ?_
  refine g_aload_n (pc := 1) dX7_select_1 rfl trivial ?_
  refine g_iload_n (pc := 2) dX7_select_2 rfl ?_
  refine g_iload_n (pc := 3) dX7_select_3 rfl ?_
  refine g_invV_r (pc := 4) (As := [_, _]) dX7_select_4 rfl (r_areIn_f h hx) rfl rfl (shK hS rfl) rfl rfl lk_X7_223 rfl (nb rfl) ⟨nb rfl, nb rfl⟩ rfl ?_
  refine g_iconst (pc := 7) (v := 1) dX7_select_7 rfl ?_
  refine g_invV_r (pc := 8) (As := [_, _]) dX7_select_8 rfl (r_isThrown_1 hS) rfl rfl (shK hS rfl) rfl rfl lk_X7_209 rfl (nb rfl) ⟨nb rfl, nb rfl⟩ rfl ?_
  refine g_if_eq (pc := 11) (tgt := 16) dX7_select_11 rfl (fun h11 => absurd h11 ((by decide))) (fun _ => ?_)
  refine g_iconst (pc := 14) (v := 0) dX7_select_14 rfl ?_
  refine g_ireturn (pc := 15) dX7_select_15 rfl rfl ?_
  exact ⟨rfl, rfl⟩
theorem r_onesOf {s : Nat} (h : Rr M n A) (hs : s < 6) : EvR l jX7_onesOf 1 30 0 0 [.ref 198, .int (nI s)] M (.inl (some (.int (onesF (A s) n)))) M := by
  have hn := h.2.2.2.1
  have hS := h.1
  refine ev_intro rfl (nb rfl) rfl ?_
  refine g_iconst (pc := 0) (v := 0) dX7_onesOf_0 rfl ?_
  refine g_istore_n (pc := 1) (lv' := [(0, _), (1, _), (2, _)]) dX7_onesOf_1 (nl rfl) rfl ?_
  refine g_iconst (pc := 2) (v := 0) dX7_onesOf_2 rfl ?_
  refine g_istore_n (pc := 3) (lv' := [(0, _), (1, _), (2, _), (3, _)]) dX7_onesOf_3 (nl rfl) rfl ?_
  refine go_loop (pc := 4) n (fun i => [(0, .ref 198), (1, .int (nI s)), (2, .int (onesF (A s) i)), (3, .int (nI i))]) (fun _ => M) ⟨rfl, rfl, rfl, rfl, trivial⟩ rfl ?_ ?_
  · intro i hi ih
    refine g_iload_n (pc := 4) dX7_onesOf_4 rfl ?_
    refine g_aload_n (pc := 5) dX7_onesOf_5 rfl trivial ?_
    refine g_invV_r (pc := 6) (As := []) dX7_onesOf_6 rfl (r_size h) rfl rfl (shK hS rfl) rfl rfl lk_X7_71 rfl (nb rfl) ⟨nb rfl, nb rfl⟩ rfl ?_
    refine g_icmp_ge (pc := 9) (tgt := 30) dX7_onesOf_9 rfl (fun h9 => absurd h9 (nI_ge hi (by omega))) (fun _ => ?_)
    refine g_iload_n (pc := 12) dX7_onesOf_12 rfl ?_
    refine g_aload_n (pc := 13) dX7_onesOf_13 rfl trivial ?_
    refine g_iload_n (pc := 14) dX7_onesOf_14 rfl ?_
    refine g_iload_n (pc := 15) dX7_onesOf_15 rfl ?_
    refine g_invV_r (pc := 16) (As := [_, _]) dX7_onesOf_16 rfl (r_rowOf h hs hi) rfl rfl (shK hS rfl) rfl rfl lk_X7_227 rfl (nb rfl) ⟨nb rfl, nb rfl⟩ rfl ?_
    refine g_invS_r (pc := 19) (As := [_]) dX7_onesOf_19 rfl (r_bitsOf) rfl rfl lk_X7_234 rfl (nb rfl) ⟨nb rfl, nb rfl⟩ rfl ?_
    refine g_iadd (pc := 22) dX7_onesOf_22 ?_
    refine g_istore_n (pc := 23) (lv' := [(0, _), (1, _), (2, _), (3, _)]) dX7_onesOf_23 (nl rfl) rfl ?_
    refine g_iinc (pc := 24) (lv' := [(0, _), (1, _), (2, _), (3, _)]) dX7_onesOf_24 rfl (nI_1 _) (nl rfl) rfl ?_
    refine g_goto (pc := 27) (tgt := 4) dX7_onesOf_27 rfl ?_
    exact ih
  · refine g_iload_n (pc := 4) dX7_onesOf_4 rfl ?_
    refine g_aload_n (pc := 5) dX7_onesOf_5 rfl trivial ?_
    refine g_invV_r (pc := 6) (As := []) dX7_onesOf_6 rfl (r_size h) rfl rfl (shK hS rfl) rfl rfl lk_X7_71 rfl (nb rfl) ⟨nb rfl, nb rfl⟩ rfl ?_
    refine g_icmp_ge (pc := 9) (tgt := 30) dX7_onesOf_9 rfl (fun _ => ?_) (fun h9 => absurd (nI_le (Nat.le_refl _) (by omega)) h9)
    refine g_iload_n (pc := 30) dX7_onesOf_30 rfl ?_
    refine g_ireturn (pc := 31) dX7_onesOf_31 rfl rfl ?_
    exact ⟨rfl, rfl⟩
theorem n_ones {s : Nat} (h : Rr M n A) (hs : s < 6) : EvR l jX7_ones 4 160 0 0 [.ref 198, .int (nI s)] M (.inl (some (.int (onesF (A s) n)))) (thr M 0) := by
  have hS := h.1
  refine ev_intro rfl (nb rfl) rfl ?_
  refine g_aload_n (pc := 0) dX7_ones_0 rfl trivial ?_
  refine g_iload_n (pc := 1) dX7_ones_1 rfl ?_
  refine g_invS_r (pc := 2) (As := [_]) dX7_ones_2 rfl (r_isSlot_t (in6 hs)) rfl rfl lk_X7_216 rfl (nb rfl) ⟨nb rfl, nb rfl⟩ rfl ?_
  refine g_iconst (pc := 5) (v := 1) dX7_ones_5 rfl ?_
  refine g_invV_r (pc := 6) (As := [_, _]) dX7_ones_6 rfl (r_isThrown_0 hS) rfl rfl (shK hS rfl) rfl rfl lk_X7_209 rfl (nb rfl) ⟨nb rfl, nb rfl⟩ rfl ?_
  refine g_if_eq (pc := 9) (tgt := 16) dX7_ones_9 rfl (fun _ => ?_) (fun h9 => absurd (rfl) h9)
  refine g_aload_n (pc := 16) dX7_ones_16 rfl trivial ?_
  refine g_iload_n (pc := 17) dX7_ones_17 rfl ?_
  refine g_invV_r (pc := 18) (As := [_]) dX7_ones_18 rfl (r_onesOf h.thr hs) rfl rfl (shK hS rfl) rfl rfl lk_X7_238 rfl (nb rfl) ⟨nb rfl, nb rfl⟩ rfl ?_
  refine g_ireturn (pc := 21) dX7_ones_21 rfl rfl ?_
  exact ⟨rfl, rfl⟩
theorem t_ones {v : Int32} (h : Rr M n A) (hx : ¬ inR v 6) : EvR l jX7_ones 4 160 0 0 [.ref 198, .int v] M (.inl (some (.int 0))) (thr M 1) := by
  have hS := h.1
  refine ev_intro rfl (nb rfl) rfl ?_
  refine g_aload_n (pc := 0) dX7_ones_0 rfl trivial ?_
  refine g_iload_n (pc := 1) dX7_ones_1 rfl ?_
  refine g_invS_r (pc := 2) (As := [_]) dX7_ones_2 rfl (r_isSlot_f hx) rfl rfl lk_X7_216 rfl (nb rfl) ⟨nb rfl, nb rfl⟩ rfl ?_
  refine g_iconst (pc := 5) (v := 1) dX7_ones_5 rfl ?_
  refine g_invV_r (pc := 6) (As := [_, _]) dX7_ones_6 rfl (r_isThrown_1 hS) rfl rfl (shK hS rfl) rfl rfl lk_X7_209 rfl (nb rfl) ⟨nb rfl, nb rfl⟩ rfl ?_
  refine g_if_eq (pc := 9) (tgt := 16) dX7_ones_9 rfl (fun h9 => absurd h9 ((by decide))) (fun _ => ?_)
  refine g_iconst (pc := 12) (v := 0) dX7_ones_12 rfl ?_
  refine g_goto (pc := 13) (tgt := 21) dX7_ones_13 rfl ?_
  refine g_ireturn (pc := 21) dX7_ones_21 rfl rfl ?_
  exact ⟨rfl, rfl⟩
def cnF (f : Nat → Int32) (c : Nat) : Nat → Int32
  | 0 => 0
  | k + 1 => cnF f c k + b1 (hb (f k) c)
theorem n_columnOnes {s c : Nat} (h : Rr M n A) (hs : s < 6) (hc : c < n) : EvR l jX7_columnOnes 4 160 0 0 [.ref 198, .int (nI s), .int (nI c)] M (.inl (some (.int (cnF (A s) c n)))) (thr M 0) := by
  have hn := h.2.2.2.1
  have hS := h.1
  have h' := h.thr (x := 0)
  refine ev_intro rfl (nb rfl) rfl ?_
  refine g_aload_n (pc := 0) dX7_columnOnes_0 rfl trivial ?_
  refine g_aload_n (pc := 1) dX7_columnOnes_1 rfl trivial ?_
  refine g_iload_n (pc := 2) dX7_columnOnes_2 rfl ?_
  refine g_iload_n (pc := 3) dX7_columnOnes_3 rfl ?_
  refine g_invV_r (pc := 4) (As := [_, _]) dX7_columnOnes_4 rfl (r_areIn_t h (in6 hs) (inR_nI hc (by omega))) rfl rfl (shK hS rfl) rfl rfl lk_X7_223 rfl (nb rfl) ⟨nb rfl, nb rfl⟩ rfl ?_
  refine g_iconst (pc := 7) (v := 1) dX7_columnOnes_7 rfl ?_
  refine g_invV_r (pc := 8) (As := [_, _]) dX7_columnOnes_8 rfl (r_isThrown_0 hS) rfl rfl (shK hS rfl) rfl rfl lk_X7_209 rfl (nb rfl) ⟨nb rfl, nb rfl⟩ rfl ?_
  refine g_if_eq (pc := 11) (tgt := 16) dX7_columnOnes_11 rfl (fun _ => ?_) (fun h11 => absurd (rfl) h11)
  refine g_iconst (pc := 16) (v := 0) dX7_columnOnes_16 rfl ?_
  refine g_istore_n (pc := 17) (lv' := [(0, _), (1, _), (2, _), (3, _)]) dX7_columnOnes_17 (nl rfl) rfl ?_
  refine g_iconst (pc := 18) (v := 0) dX7_columnOnes_18 rfl ?_
  refine g_istore (pc := 19) (lv' := [(0, _), (1, _), (2, _), (3, _), (4, _)]) dX7_columnOnes_19 (nl rfl) rfl ?_
  refine go_loop (pc := 21) n (fun i => [(0, .ref 198), (1, .int (nI s)), (2, .int (nI c)), (3, .int (cnF (A s) c i)), (4, .int (nI i))]) (fun _ => thr M 0) ⟨rfl, rfl, rfl, rfl, rfl, trivial⟩ rfl ?_ ?_
  · intro i hi ih
    refine g_iload (pc := 21) dX7_columnOnes_21 rfl ?_
    refine g_aload_n (pc := 23) dX7_columnOnes_23 rfl trivial ?_
    refine g_invV_r (pc := 24) (As := []) dX7_columnOnes_24 rfl (r_size h') rfl rfl (shK hS rfl) rfl rfl lk_X7_71 rfl (nb rfl) ⟨nb rfl, nb rfl⟩ rfl ?_
    refine g_icmp_ge (pc := 27) (tgt := 50) dX7_columnOnes_27 rfl (fun h27 => absurd h27 (nI_ge hi (by omega))) (fun _ => ?_)
    refine g_iload_n (pc := 30) dX7_columnOnes_30 rfl ?_
    refine g_aload_n (pc := 31) dX7_columnOnes_31 rfl trivial ?_
    refine g_iload_n (pc := 32) dX7_columnOnes_32 rfl ?_
    refine g_iload (pc := 33) dX7_columnOnes_33 rfl ?_
    refine g_invV_r (pc := 35) (As := [_, _]) dX7_columnOnes_35 rfl (r_rowOf h' hs hi) rfl rfl (shK hS rfl) rfl rfl lk_X7_227 rfl (nb rfl) ⟨nb rfl, nb rfl⟩ rfl ?_
    refine g_iload_n (pc := 38) dX7_columnOnes_38 rfl ?_
    refine g_invS_r (pc := 39) (As := [_, _]) dX7_columnOnes_39 rfl (r_one (by omega)) rfl rfl lk_X7_231 rfl (nb rfl) ⟨nb rfl, nb rfl⟩ rfl ?_
    refine g_iadd (pc := 42) dX7_columnOnes_42 ?_
    refine g_istore_n (pc := 43) (lv' := [(0, _), (1, _), (2, _), (3, _), (4, _)]) dX7_columnOnes_43 (nl rfl) rfl ?_
    refine g_iinc (pc := 44) (lv' := [(0, _), (1, _), (2, _), (3, _), (4, _)]) dX7_columnOnes_44 rfl (nI_1 _) (nl rfl) rfl ?_
    refine g_goto (pc := 47) (tgt := 21) dX7_columnOnes_47 rfl ?_
    exact ih
  · refine g_iload (pc := 21) dX7_columnOnes_21 rfl ?_
    refine g_aload_n (pc := 23) dX7_columnOnes_23 rfl trivial ?_
    refine g_invV_r (pc := 24) (As := []) dX7_columnOnes_24 rfl (r_size h') rfl rfl (shK hS rfl) rfl rfl lk_X7_71 rfl (nb rfl) ⟨nb rfl, nb rfl⟩ rfl ?_
    refine g_icmp_ge (pc := 27) (tgt := 50) dX7_columnOnes_27 rfl (fun _ => ?_) (fun h27 => absurd (nI_le (Nat.le_refl _) (by omega)) h27)
    refine g_iload_n (pc := 50) dX7_columnOnes_50 rfl ?_
    refine g_ireturn (pc := 51) dX7_columnOnes_51 rfl rfl ?_
    exact ⟨rfl, rfl⟩
theorem t_columnOnes {v w : Int32} (h : Rr M n A) (hx : ¬ (inR v 6 ∧ inR w n)) : EvR l jX7_columnOnes 4 160 0 0 [.ref 198, .int v, .int w] M (.inl (some (.int 0))) (thr M 1) := by
  have hS := h.1
  refine ev_intro rfl (nb rfl) rfl ?_
  refine g_aload_n (pc := 0) dX7_columnOnes_0 rfl trivial ?_
  refine g_aload_n (pc := 1) dX7_columnOnes_1 rfl trivial ?_
  refine g_iload_n (pc := 2) dX7_columnOnes_2 rfl ?_
  refine g_iload_n (pc := 3) dX7_columnOnes_3 rfl ?_
  refine g_invV_r (pc := 4) (As := [_, _]) dX7_columnOnes_4 rfl (r_areIn_f h hx) rfl rfl (shK hS rfl) rfl rfl lk_X7_223 rfl (nb rfl) ⟨nb rfl, nb rfl⟩ rfl ?_
  refine g_iconst (pc := 7) (v := 1) dX7_columnOnes_7 rfl ?_
  refine g_invV_r (pc := 8) (As := [_, _]) dX7_columnOnes_8 rfl (r_isThrown_1 hS) rfl rfl (shK hS rfl) rfl rfl lk_X7_209 rfl (nb rfl) ⟨nb rfl, nb rfl⟩ rfl ?_
  refine g_if_eq (pc := 11) (tgt := 16) dX7_columnOnes_11 rfl (fun h11 => absurd h11 ((by decide))) (fun _ => ?_)
  refine g_iconst (pc := 14) (v := 0) dX7_columnOnes_14 rfl ?_
  refine g_ireturn (pc := 15) dX7_columnOnes_15 rfl rfl ?_
  exact ⟨rfl, rfl⟩
end

