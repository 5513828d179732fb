/-! calls of both sides, from the invariant to the invariant (595) -/
section
variable {l : Launch} {M : Mem} {n p c : Nat}
theorem sm_fieldRank (h : IV M n p c) (x1 : Int32) : SmI True l jL_fieldRank jX7_fieldRank 8 171 1 6 4 [.ref 0, .int x1, .ref 212] [.ref 198, .int x1] M Inv := by
  have hS := h.S
  have hz := h.z
  have hn := h.n32
  have hn1 := h.n1
  by_cases hr : inR x1 6
  · obtain ⟨s, hs, rfl⟩ := inR_of hr (by decide)
    have q := q_fieldRank (l := l) hS hz hn hs
    have hI := iv_elMem h (elQ M s n 0)
    have hc := cf_elMem (M := M) (s := elQ M s n 0)
    exact qI hI (w_fieldRank q (shK hS rfl) (shK hI.S rfl)) (n_fieldRank (iv_A h hc) (iv_1 hI).2.2.2.2.2.2.2.1 hs) (fun e9 => rk_E) (rq_rbM (rq_thr (Rq.rf _))).1 (t6_rbM t6_thr) ⟨n, p, c, iv_r (iv_1 hI) (rq_rbM (rq_thr (Rq.rf _)))⟩
  · exact xI h (by decide) (wx_fieldRank (x_fieldRank hS hr) (shK hS rfl)) (t_fieldRank h.R hr)

theorem sm_pivot (h : IV M n p c) (x1 : Int32) (x2 : Int32) : SmI True l jL_pivot jX7_pivot 8 172 1 6 4 [.ref 0, .int x1, .int x2, .ref 212] [.ref 198, .int x1, .int x2] M Inv := by
  have hS := h.S
  have hz := h.z
  have hn := h.n32
  have hn1 := h.n1
  by_cases hr : inR x1 6
  · obtain ⟨s, hs, rfl⟩ := inR_of hr (by decide)
    have q := q_pivot (l := l) (x := x2) hS hz hn hs
    have hI := iv_elMem h (elQ M s n 0)
    have hc := cf_elMem (M := M) (s := elQ M s n 0)
    exact qI hI (w_pivot q (shK hS rfl) (shK hI.S rfl)) (n_pivot (iv_A h hc) (iv_1 hI).2.2.2.2.2.2.2.1 hs) (fun e9 => pv_E hn) (rq_rbM (rq_thr (Rq.rf _))).1 (t6_rbM t6_thr) ⟨n, p, c, iv_r (iv_1 hI) (rq_rbM (rq_thr (Rq.rf _)))⟩
  · exact xI h (by decide) (wx_pivot (x_pivot hS hr) (shK hS rfl)) (t_pivot h.R hr)

theorem sm_solve (h : IV M n p c) (x1 : Int32) (x2 : Int64) : SmJ True l jL_solve jX7_solve 8 173 1 6 4 [.ref 0, .int x1, .long x2, .ref 212] [.ref 198, .int x1, .long x2] M Inv := by
  have hS := h.S
  have hz := h.z
  have hn := h.n32
  have hn1 := h.n1
  by_cases hr : inR x1 6
  · obtain ⟨s, hs, rfl⟩ := inR_of hr (by decide)
    have q := q_solve (l := l) (x := x2) hS hz hn hs
    have hI := iv_elMem h (elQ M s n x2.toInt32)
    have hc := cf_elMem (M := M) (s := elQ M s n x2.toInt32)
    exact qJ hI (w_solve q (shK hS rfl) (shK hI.S rfl)) (n_solve (iv_A h hc) hs) (fun e9 => sv_E) (rq_rbM (rq_thr (Rq.rf _))).1 (t6_rbM t6_thr) ⟨n, p, c, iv_r (iv_1 hI) (rq_rbM (rq_thr (Rq.rf _)))⟩
  · exact xJ h (by decide) (wx_solve (x_solve hS hr) (shK hS rfl)) (t_solve h.R hr)

theorem sm_freedom (h : IV M n p c) (x1 : Int32) (x2 : Int64) : SmI True l jL_freedom jX7_freedom 8 173 1 6 4 [.ref 0, .int x1, .long x2, .ref 212] [.ref 198, .int x1, .long x2] M Inv := by
  have hS := h.S
  have hz := h.z
  have hn := h.n32
  have hn1 := h.n1
  by_cases hr : inR x1 6
  · obtain ⟨s, hs, rfl⟩ := inR_of hr (by decide)
    have q := q_freedom (l := l) (x := x2) hS hz hn hs
    have hI := iv_elMem h (elQ M s n x2.toInt32)
    have hc := cf_elMem (M := M) (s := elQ M s n x2.toInt32)
    exact qI hI (w_freedom q (shK hS rfl) (shK hI.S rfl)) (n_freedom (iv_A h hc) hs) (fun e9 => fd_E) (rq_rbM (rq_thr (Rq.rf _))).1 (t6_rbM t6_thr) ⟨n, p, c, iv_r (iv_1 hI) (rq_rbM (rq_thr (Rq.rf _)))⟩
  · exact xI h (by decide) (wx_freedom (x_freedom hS hr) (shK hS rfl)) (t_freedom h.R hr)

end
