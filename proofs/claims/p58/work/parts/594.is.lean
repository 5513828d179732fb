/-! calls of both sides, from the invariant to the invariant (594) -/
section
variable {l : Launch} {M : Mem} {n p c : Nat}
theorem sm_distance (h : IV M n p c) (x1 : Int32) (x2 : Int32) (x3 : Int32) : SmI False l jL_distance jX7_distance 10 183 3 18 4 [.ref 0, .int x1, .int x2, .int x3, .ref 212] [.ref 198, .int x1, .int x2, .int x3] M Inv := by
  have hS := h.S
  have hz := h.z
  have hn := h.n32
  have hn1 := h.n1
  by_cases hr : inR x1 6 ∧ inR x2 n ∧ inR x3 n
  · obtain ⟨s, hs, rfl⟩ := inR_of hr.1 (by decide)
    obtain ⟨a, ha, rfl⟩ := inR_of hr.2.1 (by omega)
    obtain ⟨b, hb9, rfl⟩ := inR_of hr.2.2 (by omega)
    have q := q_distance (l := l) hS hz hn hs ha hb9
    have hI := h
    have hc := Cf.rf M
    exact qI hI (w_distance q (shK hS rfl) (shK hI.S rfl)) (n_distance (iv_A h hc) hs ha hb9) (fun e9 => False.elim e9) (rq_farM (rq_thr (Rq.rf _))).1 (t6_farM t6_thr) ⟨n, p, c, iv_r (iv_1 hI) (rq_farM (rq_thr (Rq.rf _)))⟩
  · exact xI h (by decide) (wx_distance (x_distance hS hz hr) (shK hS rfl)) (t_distance h.R hr)

theorem sm_around (h : IV M n p c) (x1 : Int32) (x2 : Int32) : SmI False l jL_around jX7_around 9 162 2 12 4 [.ref 0, .int x1, .int x2, .ref 212] [.ref 198, .int x1, .int x2] M Inv := by
  have hS := h.S
  have hz := h.z
  have hn := h.n32
  have hn1 := h.n1
  by_cases hr : inR x1 6 ∧ inR x2 n
  · obtain ⟨s, hs, rfl⟩ := inR_of hr.1 (by decide)
    obtain ⟨r, hr2, rfl⟩ := inR_of hr.2 (by omega)
    have q := q_around (l := l) hS hz hn hs hr2
    have hI := h
    have hc := Cf.rf M
    exact qI hI (w_around q (shK hS rfl) (shK hI.S rfl)) (n_around (iv_A h hc) hs hr2) (fun e9 => False.elim e9) (rq_farM (rq_thr (Rq.rf _))).1 (t6_farM t6_thr) ⟨n, p, c, iv_r (iv_1 hI) (rq_farM (rq_thr (Rq.rf _)))⟩
  · exact xI h (by decide) (wx_around (x_around hS hz hr) (shK hS rfl)) (t_around h.R hr)

theorem sm_girth (h : IV M n p c) (x1 : Int32) : SmI False l jL_girth jX7_girth 8 144 1 6 4 [.ref 0, .int x1, .ref 212] [.ref 198, .int x1] M Inv := by
  have hS := h.S
  have hz := h.z
  have hn := h.n32
  have hn1 := h.n1
  by_cases hr : inR x1 6
  · obtain ⟨s, hs, rfl⟩ := inR_of hr (by decide)
    have q := q_girth (l := l) hS hz hn hs
    have hI := h
    have hc := Cf.rf M
    exact qI hI (w_girth q (shK hS rfl) (shK hI.S rfl)) (n_girth (iv_A h hc) hs) (fun e9 => False.elim e9) (rq_gfM (rq_thr (Rq.rf _)) n).1 (t6_gfM t6_thr n) ⟨n, p, c, iv_r (iv_1 hI) (rq_gfM (rq_thr (Rq.rf _)) n)⟩
  · exact xI h (by decide) (wx_girth (x_girth hS hr) (shK hS rfl)) (t_girth h.R hr)

theorem sm_gained (h : IV M n p c) (x1 : Int32) (x2 : Int32) (x3 : Int32) : SmI False l jL_gained jX7_gained 10 184 3 18 4 [.ref 0, .int x1, .int x2, .int x3, .ref 212] [.ref 198, .int x1, .int x2, .int x3] M Inv := by
  have hS := h.S
  have hz := h.z
  have hn := h.n32
  have hn1 := h.n1
  by_cases hr : inR x1 6 ∧ inR x2 n ∧ inR x3 n
  · obtain ⟨s, hs, rfl⟩ := inR_of hr.1 (by decide)
    obtain ⟨a, ha, rfl⟩ := inR_of hr.2.1 (by omega)
    obtain ⟨b, hb9, rfl⟩ := inR_of hr.2.2 (by omega)
    have q := q_gained (l := l) hS hz hn hs ha hb9
    have hI := iv_clOf h hs
    have hc := cf_clOf (M := M) (n := n) hs
    have hR := fun v => iv_A (v := v) h hc
    by_cases hb0 : hb (Am M s a) b = true
    · have n3 := fun v => n_gained (l := l) (hR v) hs ha hb9
      simp only [if_pos hb0] at n3
      exact qI hI (w_gained q (shK hS rfl) (shK hI.S rfl)) (n3 _) (fun e9 => False.elim e9) (rq_thr (Rq.rf _)).1 (t6_thr) ⟨n, p, c, iv_r (iv_1 hI) (rq_thr (Rq.rf _))⟩
    · have n3 := fun v => n_gained (l := l) (hR v) hs ha hb9
      simp only [if_neg hb0] at n3
      exact qI hI (w_gained q (shK hS rfl) (shK hI.S rfl)) (n3 _) (fun e9 => False.elim e9) (rq_hdM (Or.inl rfl) (rq_thr (Rq.rf _))).1 (t6_hdM t6_thr) ⟨n, p, c, iv_r (iv_1 hI) (rq_hdM (Or.inl rfl) (rq_thr (Rq.rf _)))⟩
  · exact xI h (by decide) (wx_gained (x_gained hS hz hr) (shK hS rfl)) (t_gained h.R hr)

theorem sm_lost (h : IV M n p c) (x1 : Int32) (x2 : Int32) (x3 : Int32) : SmI False l jL_lost jX7_lost 10 213 3 18 4 [.ref 0, .int x1, .int x2, .int x3, .ref 212] [.ref 198, .int x1, .int x2, .int x3] M Inv := by
  have hS := h.S
  have hz := h.z
  have hn := h.n32
  have hn1 := h.n1
  by_cases hr : inR x1 6 ∧ inR x2 n ∧ inR x3 n
  · obtain ⟨s, hs, rfl⟩ := inR_of hr.1 (by decide)
    obtain ⟨a, ha, rfl⟩ := inR_of hr.2.1 (by omega)
    obtain ⟨b, hb9, rfl⟩ := inR_of hr.2.2 (by omega)
    have q := q_lost (l := l) hS hz hn hs ha hb9
    by_cases hb0 : hb (Am M s a) b = true
    · rw [if_pos hb0, if_pos hb0] at q
      have hI := iv_loM (a := a) (b := b) h hs
      have hc := cf_loM (M := M) (a := a) (b := b) (n := n) hs
      have n3 := fun v => n_lost (l := l) (iv_A (v := v) h hc) hs ha hb9
      simp only [if_pos hb0] at n3
      exact qI hI (w_lost q (shK hS rfl) (shK hI.S rfl)) (n3 _) (fun e9 => False.elim e9) (rq_hdM (Or.inl rfl) (rq_thr (Rq.rf _))).1 (t6_hdM t6_thr) ⟨n, p, c, iv_r (iv_1 hI) (rq_hdM (Or.inl rfl) (rq_thr (Rq.rf _)))⟩
    · rw [if_neg hb0, if_neg hb0] at q
      have n3 := fun v => n_lost (l := l) (iv_A (v := v) h (Cf.rf M)) hs ha hb9
      simp only [if_neg hb0] at n3
      exact qI h (w_lost q (shK hS rfl) (shK hS rfl)) (n3 _) (fun e9 => False.elim e9) (rq_thr (Rq.rf _)).1 (t6_thr) ⟨n, p, c, iv_r (iv_1 h) (rq_thr (Rq.rf _))⟩
  · exact xI h (by decide) (wx_lost (x_lost hS hz hr) (shK hS rfl)) (t_lost h.R hr)

theorem sm_bestEdge (h : IV M n p c) (x1 : Int32) : SmI False l jL_bestEdge jX7_bestEdge 8 169 1 6 5 [.ref 0, .int x1, .ref 212] [.ref 198, .int x1] M Inv := by
  have hS := h.S
  have hz := h.z
  have hn := h.n32
  have hn1 := h.n1
  by_cases hr : inR x1 6
  · obtain ⟨s, hs, rfl⟩ := inR_of hr (by decide)
    have q := q_bestEdge (l := l) hS hz hn hs
    have hI := iv_clOf h hs
    have hc := cf_clOf (M := M) (n := n) hs
    exact qI hI (w_bestEdge q (shK hS rfl) (shK hI.S rfl)) (n_bestEdge (iv_A h hc) hs) (fun e9 => False.elim e9) (rq_hdM (Or.inl rfl) (rq_thr (Rq.rf _))).1 (t6_hdM t6_thr) ⟨n, p, c, iv_r (iv_1 hI) (rq_hdM (Or.inl rfl) (rq_thr (Rq.rf _)))⟩
  · exact xI h (by decide) (wx_bestEdge (x_bestEdge hS hr) (shK hS rfl)) (t_bestEdge h.R hr)

theorem sm_weakest (h : IV M n p c) (x1 : Int32) : SmI False l jL_weakest jX7_weakest 8 217 1 6 5 [.ref 0, .int x1, .ref 212] [.ref 198, .int x1] M Inv := by
  have hS := h.S
  have hz := h.z
  have hn := h.n32
  have hn1 := h.n1
  by_cases hr : inR x1 6
  · obtain ⟨s, hs, rfl⟩ := inR_of hr (by decide)
    have q := q_weakest (l := l) hS hz hn hs
    have hI := iv_wkO h hs n
    have hc := cf_wkO (M := M) (n := n) hs n
    exact qI hI (w_weakest q (shK hS rfl) (shK hI.S rfl)) (n_weakest (iv_A h hc) hs) (fun e9 => False.elim e9) (rq_hdM (Or.inl rfl) (rq_thr (Rq.rf _))).1 (t6_hdM t6_thr) ⟨n, p, c, iv_r (iv_1 hI) (rq_hdM (Or.inl rfl) (rq_thr (Rq.rf _)))⟩
  · exact xI h (by decide) (wx_weakest (x_weakest hS hr) (shK hS rfl)) (t_weakest h.R hr)

theorem ds_n {f : Nat → Int32} {b n : Nat} (hn : n ≤ 32) : ∀ d e x, e + d = n + 1 → 1 ≤ e → feF f b n d e x = -1 ∨ ∃ k, k ≤ n ∧ feF f b n d e x = nI k
  | 0, _, _, _, _ => Or.inl rfl
  | d + 1, e, x, h1, h2 => by
    unfold feF
    split
    · exact Or.inr ⟨e, by omega, rfl⟩
    · exact ds_n hn d (e + 1) _ (by omega) (by omega)
theorem dsV_n {f : Nat → Int32} {a b n : Nat} (hn : n ≤ 32) : dsV f a b n = -1 ∨ ∃ k, k ≤ n ∧ dsV f a b n = nI k := by
  unfold dsV
  split
  · exact Or.inr ⟨0, Nat.zero_le _, rfl⟩
  · exact ds_n hn n 1 _ (by omega) (Nat.le_refl 1)
theorem fs_n {P : Nat → Bool} : ∀ m, fstI P m = -1 ∨ ∃ k, k < m ∧ fstI P m = nI k
  | 0 => Or.inl rfl
  | m + 1 => by
    unfold fstI
    split
    · split
      · exact Or.inr ⟨m, Nat.lt_succ_self m, rfl⟩
      · exact Or.inl rfl
    · rcases fs_n (P := P) m with h | ⟨k, h1, h2⟩
      · exact Or.inl h
      · exact Or.inr ⟨k, by omega, h2⟩
theorem stepM (h : IV M n p c) {s a b : Nat} (x : Int32) (hs : s < 6) (ha : a < n) (hb9 : b < n) : ∃ (M1 : Mem) (v : Int32), EvR l jX6_stepAt 10 190 3 18 [.ref 0, .int (nI s), .int (nI a), .int (nI b), .int x] M (.inl (some (.int v))) M1 ∧ IV M1 n p c ∧ Cf M M1 := by
  by_cases hx : ¬ x < 0 ∧ x ≤ dsV (mI M (6 + 2 * s)) a b n
  · rcases dsV_n (f := mI M (6 + 2 * s)) (a := a) (b := b) h.n32 with e | ⟨k, k1, k2⟩
    · rw [e] at hx
      exact absurd (Int32.lt_of_le_of_lt hx.2 (by decide)) hx.1
    · have h32 := h.n32
      rw [k2] at hx
      obtain ⟨j, hj, rfl⟩ := nI_le9 hx.1 hx.2 (by omega)
      exact ⟨_, _, q_stepAt h.S h.z h.n32 hs ha hb9 k2 k1 hj, iv_spM h, cf_spM⟩
  · exact ⟨_, _, v_stepAt h.S h.z h.n32 hs ha hb9 hx, h, Cf.rf M⟩
theorem stepR {M1 : Mem} {A : Nat → Nat → Int32} (h : Rr M1 n A) (hn : n ≤ 32) {s a b : Nat} (x : Int32) (hs : s < 6) (ha : a < n) (hb9 : b < n) : ∃ v : Int32, EvR l jX7_stepAt 4 160 0 0 [.ref 198, .int (nI s), .int (nI a), .int (nI b), .int x] M1 (.inl (some (.int v))) (farM (thr M1 0) (A s) n b) := by
  by_cases hx : 0 ≤ x ∧ x ≤ farF (A s) n b n a
  · rcases fs_n (P := fun m => wkB (A s) n b m a) n with e | ⟨k, k1, k2⟩
    · have e2 : farF (A s) n b n a = -1 := e
      rw [e2] at hx
      exact absurd (Int32.lt_of_le_of_lt hx.2 (by decide)) (Int32.not_lt.mpr hx.1)
    · have k3 : farF (A s) n b n a = nI k := k2
      rw [k3] at hx
      obtain ⟨j, hj, rfl⟩ := nI_le9 (Int32.not_lt.mpr hx.1) hx.2 (by omega)
      exact ⟨_, n_stepAt h hs ha hb9 k3 k1 hj⟩
  · exact ⟨_, o_stepAt h hs ha hb9 hx⟩
theorem sm_stepAt (h : IV M n p c) (x1 : Int32) (x2 : Int32) (x3 : Int32) (x4 : Int32) : SmI False l jL_stepAt jX7_stepAt 11 218 3 18 4 [.ref 0, .int x1, .int x2, .int x3, .int x4, .ref 212] [.ref 198, .int x1, .int x2, .int x3, .int x4] M Inv := by
  have hS := h.S
  have hz := h.z
  have hn := h.n32
  have hn1 := h.n1
  by_cases hr : inR x1 6 ∧ inR x2 n ∧ inR x3 n
  · obtain ⟨s, hs, rfl⟩ := inR_of hr.1 (by decide)
    obtain ⟨a, ha, rfl⟩ := inR_of hr.2.1 (by omega)
    obtain ⟨b, hb9, rfl⟩ := inR_of hr.2.2 (by omega)
    obtain ⟨M1, v, q, hI, hc⟩ := stepM (l := l) h x4 hs ha hb9
    obtain ⟨v2, n3⟩ := stepR (l := l) (iv_A (v := v.toInt64) h hc) hn x4 hs ha hb9
    exact qI hI (w_stepAt q (shK hS rfl) (shK hI.S rfl)) n3 (fun e9 => False.elim e9) (rq_farM (rq_thr (Rq.rf _))).1 (t6_farM t6_thr) ⟨n, p, c, iv_r (iv_1 hI) (rq_farM (rq_thr (Rq.rf _)))⟩
  · exact xI h (by decide) (wx_stepAt (x_stepAt hS hz hr) (shK hS rfl)) (t_stepAt h.R hr)

end
