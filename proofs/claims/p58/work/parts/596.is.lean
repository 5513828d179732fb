/-! calls of both sides, from the invariant to the invariant (596) -/
section
variable {l : Launch} {M : Mem} {n p c : Nat}
theorem sm_kept (h : IV M n p c) (x1 : Int32) (x2 : Int32) : SmI True l jL_kept jX7_kept 8 143 2 12 4 [.ref 0, .int x1, .int x2, .ref 212] [.ref 198, .int x1, .int x2] M Inv := by
  have hS := h.S
  have hz := h.z
  have hn := h.n32
  have hn1 := h.n1
  by_cases hr : inR x1 6
  · by_cases h4 : ¬ x2 < 0 ∧ x2 ≤ 2
    · obtain ⟨s, hs, rfl⟩ := inR_of hr (by decide)
      obtain ⟨w9, hw9, rfl⟩ := nI_of2 (n := 2) (by decide) h4.1 h4.2
      match w9, hw9 with
      | 0, _ =>
        have q := q_kept0 (l := l) hS hs
        exact qI h (w_kept q (shK hS rfl) (shK hS rfl)) (n_kept (w := 0) (iv_A h (Cf.rf M)) hs (by decide)) (fun e9 => kn_0 h hs) (rq_thr (Rq.rf _)).1 (t6_thr) ⟨n, p, c, iv_r (iv_1 h) (rq_thr (Rq.rf _))⟩
      | 1, _ =>
        have q := q_kept1 (l := l) hS hs
        exact qI h (w_kept q (shK hS rfl) (shK hS rfl)) (n_kept (w := 1) (iv_A h (Cf.rf M)) hs (by decide)) (fun e9 => kn_1 h hs) (rq_thr (Rq.rf _)).1 (t6_thr) ⟨n, p, c, iv_r (iv_1 h) (rq_thr (Rq.rf _))⟩
      | 2, _ =>
        have q := q_kept2 (l := l) hS hs
        exact qI h (w_kept q (shK hS rfl) (shK hS rfl)) (n_kept (w := 2) (iv_A h (Cf.rf M)) hs (by decide)) (fun e9 => kn_2 h hs) (rq_thr (Rq.rf _)).1 (t6_thr) ⟨n, p, c, iv_r (iv_1 h) (rq_thr (Rq.rf _))⟩
    · exact xI h (by decide) (wy_kept (y_kept hS hr h4) (shK hS rfl)) (u_kept' h.R hr h4)
  · exact xI h (by decide) (wx_kept (x_kept hS hr) (shK hS rfl)) (t_kept h.R hr)

theorem sm_work (h : IV M n p c) (x1 : Int32) : SmI True l jL_work jX7_work 8 141 1 6 4 [.ref 0, .int x1, .ref 212] [.ref 198, .int x1] M Inv := by
  have hS := h.S
  have hz := h.z
  have hn := h.n32
  have hn1 := h.n1
  by_cases hr : ¬ x1 < 0 ∧ x1 ≤ 1
  · obtain ⟨w9, hw9, rfl⟩ := nI_of2 (n := 1) (by decide) hr.1 hr.2
    match w9, hw9 with
    | 0, _ =>
      have q := q_work0 (l := l) hS
      exact qI h (w_work q (shK hS rfl) (shK hS rfl)) (n_work (w := 0) (iv_A h (Cf.rf M)) (by decide)) (fun e9 => wk_0 h) (rq_thr (Rq.rf _)).1 (t6_thr) ⟨n, p, c, iv_r (iv_1 h) (rq_thr (Rq.rf _))⟩
    | 1, _ =>
      have q := q_work1 (l := l) hS
      exact qI h (w_work q (shK hS rfl) (shK hS rfl)) (n_work (w := 1) (iv_A h (Cf.rf M)) (by decide)) (fun e9 => wk_1 h) (rq_thr (Rq.rf _)).1 (t6_thr) ⟨n, p, c, iv_r (iv_1 h) (rq_thr (Rq.rf _))⟩
  · exact xI h (by decide) (wx_work (x_work hS hr) (shK hS rfl)) (t_work hS hr)

theorem sm_count (h : IV M n p c) (x1 : Int32) : SmI True l jL_count jX7_count 8 141 1 6 4 [.ref 0, .int x1, .ref 212] [.ref 198, .int x1] M Inv := by
  have hS := h.S
  have hz := h.z
  have hn := h.n32
  have hn1 := h.n1
  by_cases hr : ¬ x1 < 0 ∧ x1 ≤ 3
  · obtain ⟨w9, hw9, rfl⟩ := nI_of2 (n := 3) (by decide) hr.1 hr.2
    match w9, hw9 with
    | 0, _ =>
      have q := q_count0 (l := l) hS
      exact qI h (w_count q (shK hS rfl) (shK hS rfl)) (n_count (w := 0) (iv_A h (Cf.rf M)) (by decide)) (fun e9 => ct_0 h) (rq_thr (Rq.rf _)).1 (t6_thr) ⟨n, p, c, iv_r (iv_1 h) (rq_thr (Rq.rf _))⟩
    | 1, _ =>
      have q := q_count1 (l := l) hS
      exact qI h (w_count q (shK hS rfl) (shK hS rfl)) (n_count (w := 1) (iv_A h (Cf.rf M)) (by decide)) (fun e9 => ct_1 h) (rq_thr (Rq.rf _)).1 (t6_thr) ⟨n, p, c, iv_r (iv_1 h) (rq_thr (Rq.rf _))⟩
    | 2, _ =>
      have q := q_count2 (l := l) hS
      exact qI h (w_count q (shK hS rfl) (shK hS rfl)) (n_count (w := 2) (iv_A h (Cf.rf M)) (by decide)) (fun e9 => ct_2 h) (rq_thr (Rq.rf _)).1 (t6_thr) ⟨n, p, c, iv_r (iv_1 h) (rq_thr (Rq.rf _))⟩
    | 3, _ =>
      have q := q_count3 (l := l) hS
      exact qI h (w_count q (shK hS rfl) (shK hS rfl)) (n_count (w := 3) (iv_A h (Cf.rf M)) (by decide)) (fun e9 => ct_3 h) (rq_thr (Rq.rf _)).1 (t6_thr) ⟨n, p, c, iv_r (iv_1 h) (rq_thr (Rq.rf _))⟩
  · exact xI h (by decide) (wx_count (x_count hS hr) (shK hS rfl)) (t_count hS hr)

theorem sm_outputByte (h : IV M n p c) (x1 : Int32) : SmN False l jX6_outputByte jX7_outputByte 0 0 4 160 [.ref 0, .int x1] [.ref 198, .int x1] M Inv := by
  have hS := h.S
  have hz := h.z
  have hn := h.n32
  have hn1 := h.n1
  obtain ⟨k, k1, k2⟩ := h.2.2.2.2.2.2.2.2.1
  obtain ⟨w, w1, w2⟩ := h.2.2.2.2.2.2.2.2.2
  exact ⟨_, _, _, _, q_outputByte hS k2 k1, n_outputByte hS w2 w1, hS, (rf_thr (Rf.rf M)).S hS, fun e9 => False.elim e9, iv_thr h⟩

theorem sm_loadError (h : IV M n p c)  : SmN True l jX6_loadError jX7_loadError 0 0 4 160 [.ref 0] [.ref 198] M Inv := by
  have hS := h.S
  have hz := h.z
  have hn := h.n32
  have hn1 := h.n1
  exact ⟨_, _, _, _, q_loadErr hS, n_loadErr hS, hS, (rf_thr (Rf.rf M)).S hS, fun _ => h.2.2.2.2.2.1.2.1.symm, iv_thr h⟩

theorem sm_loadStatement (h : IV M n p c)  : SmN True l jX6_loadStatement jX7_loadStatement 0 0 4 160 [.ref 0] [.ref 198] M Inv := by
  have hS := h.S
  have hz := h.z
  have hn := h.n32
  have hn1 := h.n1
  exact ⟨_, _, _, _, q_loadStatement hS, n_loadStatement hS, hS, (rf_thr (Rf.rf M)).S hS, fun _ => h.2.2.2.2.2.1.2.2.symm, iv_thr h⟩

end
