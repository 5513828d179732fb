/-! calls on a new desk beside a new reference (591) -/
section
variable {l : Launch} {M : Mem}
theorem sm_bit (h : Frs M) (x1 : Int32) (x2 : Int32) (x3 : Int32) : SemI l jL_bit jX7_bit 10 183 3 18 4 [.ref 0, .int x1, .int x2, .int x3, .ref 212] [.ref 198, .int x1, .int x2, .int x3] M (fun _ => True) := by
  have hS := h.1
  have hz := f_z h
  by_cases hr : inR x1 6 ∧ inR x2 8 ∧ inR x3 8
  · obtain ⟨s, hs, rfl⟩ := inR_of hr.1 (by decide)
    obtain ⟨a, ha, rfl⟩ := inR_of hr.2.1 (by decide)
    obtain ⟨b, hb9, rfl⟩ := inR_of hr.2.2 (by decide)
    have q := q_bit (l := l) hS hz (by decide) hs ha hb9
    have hc : Cf M (M) := Cf.rf M
    have hS2 := hc.S hS
    exact smI_q (M' := M) hS2 (w_bit q (shK hS rfl) (shK hS2 rfl)) (n_bit (fq_A h (fq_1 (fq_0 h hc))) hs ha hb9) (rfl) (rf_thr (Rf.rf _)) (t6_thr) trivial
  · exact smI_x hS (by decide) (wx_bit (x_bit hS hz hr) (shK hS rfl)) (t_bit (fq_R (fq_0 h (Cf.rf M))) hr) trivial

theorem sm_row (h : Frs M) (x1 : Int32) (x2 : Int32) : SemJ l jL_row jX7_row 9 162 2 12 4 [.ref 0, .int x1, .int x2, .ref 212] [.ref 198, .int x1, .int x2] M (fun _ => True) := by
  have hS := h.1
  have hz := f_z h
  by_cases hr : inR x1 6 ∧ inR x2 8
  · obtain ⟨s, hs, rfl⟩ := inR_of hr.1 (by decide)
    obtain ⟨r, hr2, rfl⟩ := inR_of hr.2 (by decide)
    have q := q_row (l := l) hS hz (by decide) hs hr2
    have hc : Cf M (M) := Cf.rf M
    have hS2 := hc.S hS
    exact smJ_q (M' := M) hS2 (w_row q (shK hS rfl) (shK hS2 rfl)) (n_row (fq_A h (fq_1 (fq_0 h hc))) hs hr2) ((uL_u _).symm) (rf_thr (Rf.rf _)) (t6_thr) trivial
  · exact smJ_x hS (by decide) (wx_row (x_row hS hz hr) (shK hS rfl)) (t_row (fq_R (fq_0 h (Cf.rf M))) hr) trivial

theorem sm_rank (h : Frs M) (x1 : Int32) (x2 : Int32) (x3 : Int32) : SemI l jL_rank jX7_rank 9 163 3 18 4 [.ref 0, .int x1, .int x2, .int x3, .ref 212] [.ref 198, .int x1, .int x2, .int x3] M (fun _ => True) := by
  have hS := h.1
  have hz := f_z h
  by_cases hr : inR x1 6 ∧ inR x2 8
  · by_cases h3 : ¬ x3 < 0 ∧ x3 ≤ nI 8
    · obtain ⟨s, hs, rfl⟩ := inR_of hr.1 (by decide)
      obtain ⟨r, hr2, rfl⟩ := inR_of hr.2 (by decide)
      obtain ⟨c, hc9, rfl⟩ := nI_of2 (n := 8) (by decide) h3.1 h3.2
      have q := q_rank (l := l) hS hz (by decide) hs hr2 hc9
      have hc : Cf M (M) := Cf.rf M
      have hS2 := hc.S hS
      exact smI_q (M' := M) hS2 (w_rank q (shK hS rfl) (shK hS2 rfl)) (n_rank (fq_A h (fq_1 (fq_0 h hc))) hs hr2 hc9) (rfl) (rf_thr (Rf.rf _)) (t6_thr) trivial
    · exact smI_x hS (by decide) (wy_rank (y_rank hS hz hr.1 hr.2 h3) (shK hS rfl)) (u_rank (fq_R (fq_0 h (Cf.rf M))) hr.1 hr.2 h3) trivial
  · exact smI_x hS (by decide) (wx_rank (x_rank hS hz hr) (shK hS rfl)) (t_rank (fq_R (fq_0 h (Cf.rf M))) hr) trivial

theorem sm_select (h : Frs M) (x1 : Int32) (x2 : Int32) (x3 : Int32) : SemI l jL_select jX7_select 9 163 2 12 4 [.ref 0, .int x1, .int x2, .int x3, .ref 212] [.ref 198, .int x1, .int x2, .int x3] M (fun _ => True) := by
  have hS := h.1
  have hz := f_z h
  by_cases hr : inR x1 6 ∧ inR x2 8
  · obtain ⟨s, hs, rfl⟩ := inR_of hr.1 (by decide)
    obtain ⟨r, hr2, rfl⟩ := inR_of hr.2 (by decide)
    have q := q_select (l := l) (x := x3) hS hz (by decide) hs hr2
    have hc : Cf M (M) := Cf.rf M
    have hS2 := hc.S hS
    exact smI_q (M' := M) hS2 (w_select q (shK hS rfl) (shK hS2 rfl)) (n_select (fq_A h (fq_1 (fq_0 h hc))) (am_wf h) hs hr2) (rfl) (rf_thr (Rf.rf _)) (t6_thr) trivial
  · exact smI_x hS (by decide) (wx_select (x_select hS hz hr) (shK hS rfl)) (t_select (fq_R (fq_0 h (Cf.rf M))) hr) trivial

theorem sm_ones (h : Frs M) (x1 : Int32) : SemI l jL_ones jX7_ones 8 141 1 6 4 [.ref 0, .int x1, .ref 212] [.ref 198, .int x1] M (fun _ => True) := by
  have hS := h.1
  have hz := f_z h
  by_cases hr : inR x1 6
  · obtain ⟨s, hs, rfl⟩ := inR_of hr (by decide)
    have q := q_ones (l := l) hS hz (by decide) hs
    have hc : Cf M (M) := Cf.rf M
    have hS2 := hc.S hS
    exact smI_q (M' := M) hS2 (w_ones q (shK hS rfl) (shK hS2 rfl)) (n_ones (fq_A h (fq_1 (fq_0 h hc))) hs) (rfl) (rf_thr (Rf.rf _)) (t6_thr) trivial
  · exact smI_x hS (by decide) (wx_ones (x_ones hS hr) (shK hS rfl)) (t_ones (fq_R (fq_0 h (Cf.rf M))) hr) trivial

theorem sm_columnOnes (h : Frs M) (x1 : Int32) (x2 : Int32) : SemI l jL_columnOnes jX7_columnOnes 9 162 2 12 4 [.ref 0, .int x1, .int x2, .ref 212] [.ref 198, .int x1, .int x2] M (fun _ => True) := by
  have hS := h.1
  have hz := f_z h
  by_cases hr : inR x1 6 ∧ inR x2 8
  · obtain ⟨s, hs, rfl⟩ := inR_of hr.1 (by decide)
    obtain ⟨r, hr2, rfl⟩ := inR_of hr.2 (by decide)
    have q := q_columnOnes (l := l) hS hz (by decide) hs hr2
    have hc : Cf M (M) := Cf.rf M
    have hS2 := hc.S hS
    exact smI_q (M' := M) hS2 (w_columnOnes q (shK hS rfl) (shK hS2 rfl)) (n_columnOnes (fq_A h (fq_1 (fq_0 h hc))) hs hr2) (by rw [f_rows h hs, am_0 h hs]; exact (z_cn r hr2).symm) (rf_thr (Rf.rf _)) (t6_thr) trivial
  · exact smI_x hS (by decide) (wx_columnOnes (x_columnOnes hS hz hr) (shK hS rfl)) (t_columnOnes (fq_R (fq_0 h (Cf.rf M))) hr) trivial

theorem sm_sameAs (h : Frs M) (x1 : Int32) (x2 : Int32) : SemI l jL_sameAs jX7_sameAs 9 162 2 12 4 [.ref 0, .int x1, .int x2, .ref 212] [.ref 198, .int x1, .int x2] M (fun _ => True) := by
  have hS := h.1
  have hz := f_z h
  by_cases hr : inR x1 6 ∧ inR x2 8
  · obtain ⟨s, hs, rfl⟩ := inR_of hr.1 (by decide)
    obtain ⟨r, hr2, rfl⟩ := inR_of hr.2 (by decide)
    have q := q_sameAs (l := l) hS hz (by decide) hs hr2
    have hc : Cf M (M) := Cf.rf M
    have hS2 := hc.S hS
    exact smI_q (M' := M) hS2 (w_sameAs q (shK hS rfl) (shK hS2 rfl)) (n_sameAs (fq_A h (fq_1 (fq_0 h hc))) hs hr2) (rfl) (rf_thr (Rf.rf _)) (t6_thr) trivial
  · exact smI_x hS (by decide) (wx_sameAs (x_sameAs hS hz hr) (shK hS rfl)) (t_sameAs (fq_R (fq_0 h (Cf.rf M))) hr) trivial

theorem sm_classOf (h : Frs M) (x1 : Int32) (x2 : Int32) : SemI l jL_classOf jX7_classOf 9 163 2 12 4 [.ref 0, .int x1, .int x2, .ref 212] [.ref 198, .int x1, .int x2] M (fun _ => True) := by
  have hS := h.1
  have hz := f_z h
  by_cases hr : inR x1 6 ∧ inR x2 8
  · obtain ⟨s, hs, rfl⟩ := inR_of hr.1 (by decide)
    obtain ⟨r, hr2, rfl⟩ := inR_of hr.2 (by decide)
    have q := q_classOf (l := l) hS hz (by decide) hs hr2
    have hc : Cf M (M) := Cf.rf M
    have hS2 := hc.S hS
    exact smI_q (M' := M) hS2 (w_classOf q (shK hS rfl) (shK hS2 rfl)) (n_classOf (fq_A h (fq_1 (fq_0 h hc))) hs hr2) (rfl) (rf_thr (Rf.rf _)) (t6_thr) trivial
  · exact smI_x hS (by decide) (wx_classOf (x_classOf hS hz hr) (shK hS rfl)) (t_classOf (fq_R (fq_0 h (Cf.rf M))) hr) trivial

theorem sm_nearest (h : Frs M) (x1 : Int32) (x2 : Int32) : SemI l jL_nearest jX7_nearest 9 167 2 12 4 [.ref 0, .int x1, .int x2, .ref 212] [.ref 198, .int x1, .int x2] M (fun _ => True) := by
  have hS := h.1
  have hz := f_z h
  by_cases hr : inR x1 6 ∧ inR x2 8
  · obtain ⟨s, hs, rfl⟩ := inR_of hr.1 (by decide)
    obtain ⟨r, hr2, rfl⟩ := inR_of hr.2 (by decide)
    have q := q_nearest (l := l) hS hz (by decide) hs hr2
    have hc : Cf M (M) := Cf.rf M
    have hS2 := hc.S hS
    exact smI_q (M' := M) hS2 (w_nearest q (shK hS rfl) (shK hS2 rfl)) (n_nearest (fq_A h (fq_1 (fq_0 h hc))) hs hr2) (rfl) (rf_thr (Rf.rf _)) (t6_thr) trivial
  · exact smI_x hS (by decide) (wx_nearest (x_nearest hS hz hr) (shK hS rfl)) (t_nearest (fq_R (fq_0 h (Cf.rf M))) hr) trivial

theorem sm_classes (h : Frs M) (x1 : Int32) : SemI l jL_classes jX7_classes 8 141 1 6 4 [.ref 0, .int x1, .ref 212] [.ref 198, .int x1] M (fun _ => True) := by
  have hS := h.1
  have hz := f_z h
  by_cases hr : inR x1 6
  · obtain ⟨s, hs, rfl⟩ := inR_of hr (by decide)
    have q := q_classes (l := l) hS hz (by decide) hs
    have hc : Cf M (M) := Cf.rf M
    have hS2 := hc.S hS
    exact smI_q (M' := M) hS2 (w_classes q (shK hS rfl) (shK hS2 rfl)) (n_classes (fq_A h (fq_1 (fq_0 h hc))) hs) (rfl) (rf_thr (Rf.rf _)) (t6_thr) trivial
  · exact smI_x hS (by decide) (wx_classes (x_classes hS hr) (shK hS rfl)) (t_classes (fq_R (fq_0 h (Cf.rf M))) hr) trivial

theorem sm_find (h : Frs M) (x1 : Int32) (x2 : Int64) : SemI l jL_find jX7_find 8 143 1 6 4 [.ref 0, .int x1, .long x2, .ref 212] [.ref 198, .int x1, .long x2] M (fun _ => True) := by
  have hS := h.1
  have hz := f_z h
  by_cases hr : inR x1 6
  · obtain ⟨s, hs, rfl⟩ := inR_of hr (by decide)
    have q := q_find (l := l) (x := x2) hS hz (by decide) hs
    have hc : Cf M (M) := Cf.rf M
    have hS2 := hc.S hS
    exact smI_q (M' := M) hS2 (w_find q (shK hS rfl) (shK hS2 rfl)) (n_find (fq_A h (fq_1 (fq_0 h hc))) hs) (rfl) (rf_thr (Rf.rf _)) (t6_thr) trivial
  · exact smI_x hS (by decide) (wx_find (x_find hS hr) (shK hS rfl)) (t_find (fq_R (fq_0 h (Cf.rf M))) hr) trivial

theorem sm_density (h : Frs M) (x1 : Int32) : SemD l jL_density jX7_density 9 171 1 6 4 [.ref 0, .int x1, .ref 213] [.ref 198, .int x1] M (fun _ => True) := by
  have hS := h.1
  have hz := f_z h
  by_cases hr : inR x1 6
  · obtain ⟨s, hs, rfl⟩ := inR_of hr (by decide)
    have q := q_density (l := l) hS hz (by decide) (by decide) hs
    have hc : Cf M (M) := Cf.rf M
    have hS2 := hc.S hS
    exact smD_q (M' := M) hS2 (cmp_self64 (dns_le (by decide) (by decide))) (w_density q (shK hS rfl) (shK hS2 rfl)) (n_density (fq_A h (fq_2 (fq_0 h hc))) hs) (rfl) (rf_thr (Rf.rf _)) (t6_thr) trivial
  · exact smD_x hS (by decide) (wx_density (x_density hS hr) (shK hS rfl)) (t_density (fq_R (fq_0 h (Cf.rf M))) hr) trivial

theorem sm_isSymmetric (h : Frs M) (x1 : Int32) : SemZ l jL_isSymmetric jX7_isSymmetric 8 143 1 6 4 [.ref 0, .int x1, .ref 212] [.ref 198, .int x1] M (fun _ => True) := by
  have hS := h.1
  have hz := f_z h
  by_cases hr : inR x1 6
  · obtain ⟨s, hs, rfl⟩ := inR_of hr (by decide)
    have q := q_isSymmetric (l := l) hS hz (by decide) hs
    have hc : Cf M (M) := Cf.rf M
    have hS2 := hc.S hS
    exact smZ_q (M' := M) hS2 (w_isSymmetric q (shK hS rfl) (shK hS2 rfl)) (n_isSymmetric (b := true) (fq_A h (fq_1 (fq_0 h hc))) hs ⟨fun _ r _ c _ => (by rw [am_0 h hs, hb_0, hb_0]), fun _ => rfl⟩) (by rw [f_rows h hs]; exact z_sm.symm) (rf_thr (Rf.rf _)) (t6_thr) trivial
  · exact smZ_x (b := false) hS (by decide) (wx_isSymmetric (x_isSymmetric hS hr) (shK hS rfl)) (t_isSymmetric (fq_R (fq_0 h (Cf.rf M))) hr) trivial

end
