/-! calls of both sides, from the invariant to the invariant (592) -/
section
variable {l : Launch} {M : Mem} {n p c : Nat}
theorem sm_bit (h : IV M n p c) (x1 : Int32) (x2 : Int32) (x3 : Int32) : SmI True l jL_bit jX7_bit 10 183 3 18 4 [.ref 0, .int x1, .int x2, .int x3, .ref 212] [.ref 198, .int x1, .int x2, .int x3] M Inv := by
  have hS := h.S
  have hz := h.z
  have hn := h.n32
  have hn1 := h.n1
  by_cases hr : inR x1 6 ∧ inR x2 n ∧ inR x3 n
  · obtain ⟨s, hs, rfl⟩ := inR_of hr.1 (by decide)
    obtain ⟨a, ha, rfl⟩ := inR_of hr.2.1 (by omega)
    obtain ⟨b, hb9, rfl⟩ := inR_of hr.2.2 (by omega)
    have q := q_bit (l := l) hS hz hn hs ha hb9
    have hI := h
    have hc := Cf.rf M
    exact qI hI (w_bit q (shK hS rfl) (shK hI.S rfl)) (n_bit (iv_A h hc) hs ha hb9) (fun e9 => rfl) (rq_thr (Rq.rf _)).1 (t6_thr) ⟨n, p, c, iv_r (iv_1 hI) (rq_thr (Rq.rf _))⟩
  · exact xI h (by decide) (wx_bit (x_bit hS hz hr) (shK hS rfl)) (t_bit h.R hr)

theorem sm_row (h : IV M n p c) (x1 : Int32) (x2 : Int32) : SmJ True l jL_row jX7_row 9 162 2 12 4 [.ref 0, .int x1, .int x2, .ref 212] [.ref 198, .int x1, .int x2] M Inv := by
  have hS := h.S
  have hz := h.z
  have hn := h.n32
  have hn1 := h.n1
  by_cases hr : inR x1 6 ∧ inR x2 n
  · obtain ⟨s, hs, rfl⟩ := inR_of hr.1 (by decide)
    obtain ⟨r, hr2, rfl⟩ := inR_of hr.2 (by omega)
    have q := q_row (l := l) hS hz hn hs hr2
    have hI := h
    have hc := Cf.rf M
    exact qJ hI (w_row q (shK hS rfl) (shK hI.S rfl)) (n_row (iv_A h hc) hs hr2) (fun e9 => (uL_u _).symm) (rq_thr (Rq.rf _)).1 (t6_thr) ⟨n, p, c, iv_r (iv_1 hI) (rq_thr (Rq.rf _))⟩
  · exact xJ h (by decide) (wx_row (x_row hS hz hr) (shK hS rfl)) (t_row h.R hr)

theorem sm_rank (h : IV M n p c) (x1 : Int32) (x2 : Int32) (x3 : Int32) : SmI True l jL_rank jX7_rank 9 163 3 18 4 [.ref 0, .int x1, .int x2, .int x3, .ref 212] [.ref 198, .int x1, .int x2, .int x3] M Inv := by
  have hS := h.S
  have hz := h.z
  have hn := h.n32
  have hn1 := h.n1
  by_cases hr : inR x1 6 ∧ inR x2 n
  · by_cases h3 : ¬ x3 < 0 ∧ x3 ≤ nI n
    · obtain ⟨s, hs, rfl⟩ := inR_of hr.1 (by decide)
      obtain ⟨r, hr2, rfl⟩ := inR_of hr.2 (by omega)
      obtain ⟨c9, hc9, rfl⟩ := nI_le9 h3.1 h3.2 (by omega)
      have q := q_rank (l := l) hS hz hn hs hr2 hc9
      have hI := h
      have hc := Cf.rf M
      exact qI hI (w_rank q (shK hS rfl) (shK hI.S rfl)) (n_rank (iv_A h hc) hs hr2 hc9) (fun e9 => rfl) (rq_thr (Rq.rf _)).1 (t6_thr) ⟨n, p, c, iv_r (iv_1 hI) (rq_thr (Rq.rf _))⟩
    · exact xI h (by decide) (wy_rank (y_rank hS hz hr.1 hr.2 h3) (shK hS rfl)) (u_rank h.R hr.1 hr.2 h3)
  · exact xI h (by decide) (wx_rank (x_rank hS hz hr) (shK hS rfl)) (t_rank h.R hr)

theorem sm_select (h : IV M n p c) (x1 : Int32) (x2 : Int32) (x3 : Int32) : SmI True l jL_select jX7_select 9 163 2 12 4 [.ref 0, .int x1, .int x2, .int x3, .ref 212] [.ref 198, .int x1, .int x2, .int x3] M Inv := by
  have hS := h.S
  have hz := h.z
  have hn := h.n32
  have hn1 := h.n1
  by_cases hr : inR x1 6 ∧ inR x2 n
  · obtain ⟨s, hs, rfl⟩ := inR_of hr.1 (by decide)
    obtain ⟨r, hr2, rfl⟩ := inR_of hr.2 (by omega)
    have q := q_select (l := l) (x := x3) hS hz hn hs hr2
    have hI := h
    have hc := Cf.rf M
    exact qI hI (w_select q (shK hS rfl) (shK hI.S rfl)) (n_select (iv_A h hc) h.wA hs hr2) (fun e9 => rfl) (rq_thr (Rq.rf _)).1 (t6_thr) ⟨n, p, c, iv_r (iv_1 hI) (rq_thr (Rq.rf _))⟩
  · exact xI h (by decide) (wx_select (x_select hS hz hr) (shK hS rfl)) (t_select h.R hr)

theorem sm_ones (h : IV M n p c) (x1 : Int32) : SmI True l jL_ones jX7_ones 8 141 1 6 4 [.ref 0, .int x1, .ref 212] [.ref 198, .int x1] M Inv := by
  have hS := h.S
  have hz := h.z
  have hn := h.n32
  have hn1 := h.n1
  by_cases hr : inR x1 6
  · obtain ⟨s, hs, rfl⟩ := inR_of hr (by decide)
    have q := q_ones (l := l) hS hz hn hs
    have hI := h
    have hc := Cf.rf M
    exact qI hI (w_ones q (shK hS rfl) (shK hI.S rfl)) (n_ones (iv_A h hc) hs) (fun e9 => rfl) (rq_thr (Rq.rf _)).1 (t6_thr) ⟨n, p, c, iv_r (iv_1 hI) (rq_thr (Rq.rf _))⟩
  · exact xI h (by decide) (wx_ones (x_ones hS hr) (shK hS rfl)) (t_ones h.R hr)

theorem sm_columnOnes (h : IV M n p c) (x1 : Int32) (x2 : Int32) : SmI True l jL_columnOnes jX7_columnOnes 9 162 2 12 4 [.ref 0, .int x1, .int x2, .ref 212] [.ref 198, .int x1, .int x2] M Inv := by
  have hS := h.S
  have hz := h.z
  have hn := h.n32
  have hn1 := h.n1
  by_cases hr : inR x1 6 ∧ inR x2 n
  · obtain ⟨s, hs, rfl⟩ := inR_of hr.1 (by decide)
    obtain ⟨r, hr2, rfl⟩ := inR_of hr.2 (by omega)
    have q := q_columnOnes (l := l) hS hz hn hs hr2
    have hI := h
    have hc := Cf.rf M
    exact qI hI (w_columnOnes q (shK hS rfl) (shK hI.S rfl)) (n_columnOnes (iv_A h hc) hs hr2) (fun e9 => (cn_ok hn).symm) (rq_thr (Rq.rf _)).1 (t6_thr) ⟨n, p, c, iv_r (iv_1 hI) (rq_thr (Rq.rf _))⟩
  · exact xI h (by decide) (wx_columnOnes (x_columnOnes hS hz hr) (shK hS rfl)) (t_columnOnes h.R hr)

theorem sm_sameAs (h : IV M n p c) (x1 : Int32) (x2 : Int32) : SmI True l jL_sameAs jX7_sameAs 9 162 2 12 4 [.ref 0, .int x1, .int x2, .ref 212] [.ref 198, .int x1, .int x2] M Inv := by
  have hS := h.S
  have hz := h.z
  have hn := h.n32
  have hn1 := h.n1
  by_cases hr : inR x1 6 ∧ inR x2 n
  · obtain ⟨s, hs, rfl⟩ := inR_of hr.1 (by decide)
    obtain ⟨r, hr2, rfl⟩ := inR_of hr.2 (by omega)
    have q := q_sameAs (l := l) hS hz hn hs hr2
    have hI := h
    have hc := Cf.rf M
    exact qI hI (w_sameAs q (shK hS rfl) (shK hI.S rfl)) (n_sameAs (iv_A h hc) hs hr2) (fun e9 => rfl) (rq_thr (Rq.rf _)).1 (t6_thr) ⟨n, p, c, iv_r (iv_1 hI) (rq_thr (Rq.rf _))⟩
  · exact xI h (by decide) (wx_sameAs (x_sameAs hS hz hr) (shK hS rfl)) (t_sameAs h.R hr)

theorem sm_classOf (h : IV M n p c) (x1 : Int32) (x2 : Int32) : SmI True l jL_classOf jX7_classOf 9 163 2 12 4 [.ref 0, .int x1, .int x2, .ref 212] [.ref 198, .int x1, .int x2] M Inv := by
  have hS := h.S
  have hz := h.z
  have hn := h.n32
  have hn1 := h.n1
  by_cases hr : inR x1 6 ∧ inR x2 n
  · obtain ⟨s, hs, rfl⟩ := inR_of hr.1 (by decide)
    obtain ⟨r, hr2, rfl⟩ := inR_of hr.2 (by omega)
    have q := q_classOf (l := l) hS hz hn hs hr2
    have hI := h
    have hc := Cf.rf M
    exact qI hI (w_classOf q (shK hS rfl) (shK hI.S rfl)) (n_classOf (iv_A h hc) hs hr2) (fun e9 => rfl) (rq_thr (Rq.rf _)).1 (t6_thr) ⟨n, p, c, iv_r (iv_1 hI) (rq_thr (Rq.rf _))⟩
  · exact xI h (by decide) (wx_classOf (x_classOf hS hz hr) (shK hS rfl)) (t_classOf h.R hr)

theorem sm_nearest (h : IV M n p c) (x1 : Int32) (x2 : Int32) : SmI True l jL_nearest jX7_nearest 9 167 2 12 4 [.ref 0, .int x1, .int x2, .ref 212] [.ref 198, .int x1, .int x2] M Inv := by
  have hS := h.S
  have hz := h.z
  have hn := h.n32
  have hn1 := h.n1
  by_cases hr : inR x1 6 ∧ inR x2 n
  · obtain ⟨s, hs, rfl⟩ := inR_of hr.1 (by decide)
    obtain ⟨r, hr2, rfl⟩ := inR_of hr.2 (by omega)
    have q := q_nearest (l := l) hS hz hn hs hr2
    have hI := h
    have hc := Cf.rf M
    exact qI hI (w_nearest q (shK hS rfl) (shK hI.S rfl)) (n_nearest (iv_A h hc) hs hr2) (fun e9 => rfl) (rq_thr (Rq.rf _)).1 (t6_thr) ⟨n, p, c, iv_r (iv_1 hI) (rq_thr (Rq.rf _))⟩
  · exact xI h (by decide) (wx_nearest (x_nearest hS hz hr) (shK hS rfl)) (t_nearest h.R hr)

theorem sm_classes (h : IV M n p c) (x1 : Int32) : SmI True l jL_classes jX7_classes 8 141 1 6 4 [.ref 0, .int x1, .ref 212] [.ref 198, .int x1] M Inv := by
  have hS := h.S
  have hz := h.z
  have hn := h.n32
  have hn1 := h.n1
  by_cases hr : inR x1 6
  · obtain ⟨s, hs, rfl⟩ := inR_of hr (by decide)
    have q := q_classes (l := l) hS hz hn hs
    have hI := h
    have hc := Cf.rf M
    exact qI hI (w_classes q (shK hS rfl) (shK hI.S rfl)) (n_classes (iv_A h hc) hs) (fun e9 => rfl) (rq_thr (Rq.rf _)).1 (t6_thr) ⟨n, p, c, iv_r (iv_1 hI) (rq_thr (Rq.rf _))⟩
  · exact xI h (by decide) (wx_classes (x_classes hS hr) (shK hS rfl)) (t_classes h.R hr)

theorem sm_find (h : IV M n p c) (x1 : Int32) (x2 : Int64) : SmI True l jL_find jX7_find 8 143 1 6 4 [.ref 0, .int x1, .long x2, .ref 212] [.ref 198, .int x1, .long x2] M Inv := by
  have hS := h.S
  have hz := h.z
  have hn := h.n32
  have hn1 := h.n1
  by_cases hr : inR x1 6
  · obtain ⟨s, hs, rfl⟩ := inR_of hr (by decide)
    have q := q_find (l := l) (x := x2) hS hz hn hs
    have hI := h
    have hc := Cf.rf M
    exact qI hI (w_find q (shK hS rfl) (shK hI.S rfl)) (n_find (iv_A h hc) hs) (fun e9 => rfl) (rq_thr (Rq.rf _)).1 (t6_thr) ⟨n, p, c, iv_r (iv_1 hI) (rq_thr (Rq.rf _))⟩
  · exact xI h (by decide) (wx_find (x_find hS hr) (shK hS rfl)) (t_find h.R hr)

theorem sm_density (h : IV M n p c) (x1 : Int32) : SmD True l jL_density jX7_density 9 171 1 6 4 [.ref 0, .int x1, .ref 213] [.ref 198, .int x1] M Inv := by
  have hS := h.S
  have hz := h.z
  have hn := h.n32
  have hn1 := h.n1
  by_cases hr : inR x1 6
  · obtain ⟨s, hs, rfl⟩ := inR_of hr (by decide)
    have q := q_density (l := l) hS hz hn1 hn hs
    have hI := h
    have hc := Cf.rf M
    exact qD hI (cmp_self64 (dns_le hn1 hn)) (w_density q (shK hS rfl) (shK hI.S rfl)) (n_density (iv_B h hc) hs) (fun e9 => rfl) (rq_thr (Rq.rf _)).1 (t6_thr) ⟨n, p, c, iv_r (iv_2 hI) (rq_thr (Rq.rf _))⟩
  · exact xD h (by decide) (wx_density (x_density hS hr) (shK hS rfl)) (t_density h.R hr)

theorem sm_isSymmetric (h : IV M n p c) (x1 : Int32) : SmZ True l jL_isSymmetric jX7_isSymmetric 8 143 1 6 4 [.ref 0, .int x1, .ref 212] [.ref 198, .int x1] M Inv := by
  have hS := h.S
  have hz := h.z
  have hn := h.n32
  have hn1 := h.n1
  by_cases hr : inR x1 6
  · obtain ⟨s, hs, rfl⟩ := inR_of hr (by decide)
    have q := q_isSymmetric (l := l) hS hz hn hs
    have hI := h
    have hc := Cf.rf M
    exact qZ hI (w_isSymmetric q (shK hS rfl) (shK hI.S rfl)) (n_isSymmetric (iv_A h hc) hs (sm_ok (h.wf hs) hn)) (fun e9 => rfl) (rq_thr (Rq.rf _)).1 (t6_thr) ⟨n, p, c, iv_r (iv_1 hI) (rq_thr (Rq.rf _))⟩
  · exact xZ (b := false) h (by decide) (wx_isSymmetric (x_isSymmetric hS hr) (shK hS rfl)) (t_isSymmetric h.R hr)

theorem sm_order (h : IV M n p c) (x1 : Int32) (x2 : Int32) : SmI True l jL_order jX7_order 8 146 1 6 4 [.ref 0, .int x1, .int x2, .ref 212] [.ref 198, .int x1, .int x2] M Inv := by
  have hS := h.S
  have hz := h.z
  have hn := h.n32
  have hn1 := h.n1
  by_cases hr : inR x1 6
  · obtain ⟨s, hs, rfl⟩ := inR_of hr (by decide)
    have q := q_order (l := l) (x := x2) hS hz hn hs
    have hI := h
    have hc := Cf.rf M
    exact qI hI (w_order q (shK hS rfl) (shK hI.S rfl)) (n_order (iv_A h hc) hs) (fun e9 => rfl) (rq_thr (Rq.rf _)).1 (t6_thr) ⟨n, p, c, iv_r (iv_1 hI) (rq_thr (Rq.rf _))⟩
  · exact xI h (by decide) (wx_order (x_order hS hr) (shK hS rfl)) (t_order h.R hr)

theorem sm_triangles (h : IV M n p c) (x1 : Int32) : SmI True l jL_triangles jX7_triangles 8 146 1 6 4 [.ref 0, .int x1, .ref 212] [.ref 198, .int x1] M Inv := by
  have hS := h.S
  have hz := h.z
  have hn := h.n32
  have hn1 := h.n1
  by_cases hr : inR x1 6
  · obtain ⟨s, hs, rfl⟩ := inR_of hr (by decide)
    have q := q_triangles (l := l) hS hz hn hs
    have hI := h
    have hc := Cf.rf M
    exact qI hI (w_triangles q (shK hS rfl) (shK hI.S rfl)) (n_triangles (iv_A h hc) hs) (fun e9 => rfl) (rq_thr (Rq.rf _)).1 (t6_thr) ⟨n, p, c, iv_r (iv_1 hI) (rq_thr (Rq.rf _))⟩
  · exact xI h (by decide) (wx_triangles (x_triangles hS hr) (shK hS rfl)) (t_triangles h.R hr)

end
