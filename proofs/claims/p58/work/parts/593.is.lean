/-! calls of both sides, from the invariant to the invariant (593) -/
section
variable {l : Launch} {M : Mem} {n p c : Nat}
theorem sm_reaches (h : IV M n p c) (x1 : Int32) (x2 : Int32) (x3 : Int32) : SmI True l jL_reaches jX7_reaches 10 183 3 18 4 [.ref 0, .int x1, .int x2, .int x3, .ref 212] [.ref 198, .int x1, .int x2, .int x3] M Inv := by
  have hS := h.S
  have hz := h.z
  have hn := h.n32
  have hn1 := h.n1
  by_cases hr : inR x1 6 ∧ inR x2 n ∧ inR x3 n
  · obtain ⟨s, hs, rfl⟩ := inR_of hr.1 (by decide)
    obtain ⟨a, ha, rfl⟩ := inR_of hr.2.1 (by omega)
    obtain ⟨b, hb9, rfl⟩ := inR_of hr.2.2 (by omega)
    have q := q_reaches (l := l) hS hz hn hs ha hb9
    have hI := iv_clOf h hs
    have hc := cf_clOf (M := M) (n := n) hs
    exact qI hI (w_reaches q (shK hS rfl) (shK hI.S rfl)) (n_reaches (iv_A h hc) hs ha hb9) (fun e9 => by rw [cl_rows h hs a ha]) (rq_hdM (Or.inl rfl) (rq_thr (Rq.rf _))).1 (t6_hdM t6_thr) ⟨n, p, c, iv_r (iv_1 hI) (rq_hdM (Or.inl rfl) (rq_thr (Rq.rf _)))⟩
  · exact xI h (by decide) (wx_reaches (x_reaches hS hz hr) (shK hS rfl)) (t_reaches h.R hr)

theorem sm_reached (h : IV M n p c) (x1 : Int32) (x2 : Int32) : SmI True l jL_reached jX7_reached 9 162 2 12 4 [.ref 0, .int x1, .int x2, .ref 212] [.ref 198, .int x1, .int x2] M Inv := by
  have hS := h.S
  have hz := h.z
  have hn := h.n32
  have hn1 := h.n1
  by_cases hr : inR x1 6 ∧ inR x2 n
  · obtain ⟨s, hs, rfl⟩ := inR_of hr.1 (by decide)
    obtain ⟨r, hr2, rfl⟩ := inR_of hr.2 (by omega)
    have q := q_reached (l := l) hS hz hn hs hr2
    have hI := iv_clOf h hs
    have hc := cf_clOf (M := M) (n := n) hs
    exact qI hI (w_reached q (shK hS rfl) (shK hI.S rfl)) (n_reached (iv_A h hc) hs hr2) (fun e9 => by rw [cl_rows h hs r hr2]) (rq_hdM (Or.inl rfl) (rq_thr (Rq.rf _))).1 (t6_hdM t6_thr) ⟨n, p, c, iv_r (iv_1 hI) (rq_hdM (Or.inl rfl) (rq_thr (Rq.rf _)))⟩
  · exact xI h (by decide) (wx_reached (x_reached hS hz hr) (shK hS rfl)) (t_reached h.R hr)

theorem sm_pairs (h : IV M n p c) (x1 : Int32) : SmI True l jL_pairs jX7_pairs 8 141 1 6 4 [.ref 0, .int x1, .ref 212] [.ref 198, .int x1] M Inv := by
  have hS := h.S
  have hz := h.z
  have hn := h.n32
  have hn1 := h.n1
  by_cases hr : inR x1 6
  · obtain ⟨s, hs, rfl⟩ := inR_of hr (by decide)
    have q := q_pairs (l := l) hS hz hn hs
    have hI := iv_clOf h hs
    have hc := cf_clOf (M := M) (n := n) hs
    exact qI hI (w_pairs q (shK hS rfl) (shK hI.S rfl)) (n_pairs (iv_A h hc) hs) (fun e9 => on_cg (fun r hr9 => (cl_rows h hs r hr9).symm)) (rq_hdM (Or.inl rfl) (rq_thr (Rq.rf _))).1 (t6_hdM t6_thr) ⟨n, p, c, iv_r (iv_1 hI) (rq_hdM (Or.inl rfl) (rq_thr (Rq.rf _)))⟩
  · exact xI h (by decide) (wx_pairs (x_pairs hS hr) (shK hS rfl)) (t_pairs h.R hr)

theorem sm_meanReach (h : IV M n p c) (x1 : Int32) : SmF True l jL_meanReach jX7_meanReach 9 171 1 6 4 [.ref 0, .int x1, .ref 213] [.ref 198, .int x1] M Inv := by
  have hS := h.S
  have hz := h.z
  have hn := h.n32
  have hn1 := h.n1
  by_cases hr : inR x1 6
  · obtain ⟨s, hs, rfl⟩ := inR_of hr (by decide)
    have hle := mrc_le (f := mI (clOf M s n) (175 + 2 * s + 1)) (n := n) hn1 hn
    have q := q_meanReach (l := l) hS hz hn1 hn hs
    have hI := iv_clOf h hs
    have hc := cf_clOf (M := M) (n := n) hs
    exact qF hI (cmp_self64 (f2d_le hle)) (n64_le (f2d_le hle)) (w_meanReach q (shK hS rfl) (shK hI.S rfl) (n64_le (f2d_le hle))) (n_meanReach (iv_B h hc) hs) (fun e9 => by rw [on_cg (f := wOut (Am M s) n n) (fun r hr9 => (cl_rows h hs r hr9).symm)]) (rq_hdM (Or.inl rfl) (rq_thr (Rq.rf _))).1 (t6_hdM t6_thr) ⟨n, p, c, iv_r (iv_2 hI) (rq_hdM (Or.inl rfl) (rq_thr (Rq.rf _)))⟩
  · exact xF h (by decide) (wx_meanReach (x_meanReach hS hr) (shK hS rfl)) (t_meanReach h.R hr)

theorem sm_component (h : IV M n p c) (x1 : Int32) (x2 : Int32) : SmI True l jL_component jX7_component 9 162 2 12 4 [.ref 0, .int x1, .int x2, .ref 212] [.ref 198, .int x1, .int x2] M Inv := by
  have hS := h.S
  have hz := h.z
  have hn := h.n32
  have hn1 := h.n1
  by_cases hr : inR x1 6 ∧ inR x2 n
  · obtain ⟨s, hs, rfl⟩ := inR_of hr.1 (by decide)
    obtain ⟨r, hr2, rfl⟩ := inR_of hr.2 (by omega)
    have q := q_component (l := l) hS hz hn hs hr2
    have hI := iv_clOf h hs
    have hc := cf_clOf (M := M) (n := n) hs
    exact qI hI (w_component q (shK hS rfl) (shK hI.S rfl)) (n_component (iv_A h hc) hs hr2) (fun e9 => by rw [lm_cg hr2 (fun i hi => (cl_rows h hs i hi).symm)]) (rq_hdM (Or.inl rfl) (rq_thr (Rq.rf _))).1 (t6_hdM t6_thr) ⟨n, p, c, iv_r (iv_1 hI) (rq_hdM (Or.inl rfl) (rq_thr (Rq.rf _)))⟩
  · exact xI h (by decide) (wx_component (x_component hS hz hr) (shK hS rfl)) (t_component h.R hr)

theorem sm_components (h : IV M n p c) (x1 : Int32) : SmI True l jL_components jX7_components 8 144 1 6 4 [.ref 0, .int x1, .ref 212] [.ref 198, .int x1] M Inv := by
  have hS := h.S
  have hz := h.z
  have hn := h.n32
  have hn1 := h.n1
  by_cases hr : inR x1 6
  · obtain ⟨s, hs, rfl⟩ := inR_of hr (by decide)
    have q := q_components (l := l) hS hz hn hs
    have hI := iv_clOf h hs
    have hc := cf_clOf (M := M) (n := n) hs
    exact qI hI (w_components q (shK hS rfl) (shK hI.S rfl)) (n_components (iv_A h hc) hs) (fun e9 => cm_cg n (Nat.le_refl n) (fun i hi => (cl_rows h hs i hi).symm)) (rq_hdM (Or.inl rfl) (rq_thr (Rq.rf _))).1 (t6_hdM t6_thr) ⟨n, p, c, iv_r (iv_1 hI) (rq_hdM (Or.inl rfl) (rq_thr (Rq.rf _)))⟩
  · exact xI h (by decide) (wx_components (x_components hS hr) (shK hS rfl)) (t_components h.R hr)

end
