/-! calls on a new desk beside a new reference (592) -/
section
variable {l : Launch} {M : Mem}
theorem f_e9 (h : Frs M) {s : Nat} (hs : s < 6) : wOut (Am M s) 8 8 = mI (clOf M s 8) (175 + 2 * s + 1) := by
  rw [f_cl h hs, am_0 h hs]
  exact wO_z 8 8
theorem sm_reaches (h : Frs M) (x1 : Int32) (x2 : Int32) (x3 : Int32) : SemI l jL_reaches jX7_reaches 10 183 3 18 4 [.ref 0, .int x1, .int x2, .int x3, .ref 212] [.ref 198, .int x1, .int x2, .int x3] M (fun _ => True) := by
  have hS := h.1
  have hz := f_z h
  by_cases hr : inR x1 6 ∧ inR x2 8 ∧ inR x3 8
  · obtain ⟨s, hs, rfl⟩ := inR_of hr.1 (by decide)
    obtain ⟨a, ha, rfl⟩ := inR_of hr.2.1 (by decide)
    obtain ⟨b, hb9, rfl⟩ := inR_of hr.2.2 (by decide)
    have q := q_reaches (l := l) hS hz (by decide) hs ha hb9
    have hc : Cf M (clOf M s 8) := cf_clOf hs
    have hS2 := hc.S hS
    exact smI_q (M' := clOf M s 8) hS2 (w_reaches q (shK hS rfl) (shK hS2 rfl)) (n_reaches (fq_A h (fq_1 (fq_0 h hc))) hs ha hb9) (by rw [f_e9 h hs]) (rf_hdM (by decide) (rf_thr (Rf.rf _))) (t6_hdM t6_thr) trivial
  · exact smI_x hS (by decide) (wx_reaches (x_reaches hS hz hr) (shK hS rfl)) (t_reaches (fq_R (fq_0 h (Cf.rf M))) hr) trivial

theorem sm_reached (h : Frs M) (x1 : Int32) (x2 : Int32) : SemI l jL_reached jX7_reached 9 162 2 12 4 [.ref 0, .int x1, .int x2, .ref 212] [.ref 198, .int x1, .int x2] M (fun _ => True) := by
  have hS := h.1
  have hz := f_z h
  by_cases hr : inR x1 6 ∧ inR x2 8
  · obtain ⟨s, hs, rfl⟩ := inR_of hr.1 (by decide)
    obtain ⟨r, hr2, rfl⟩ := inR_of hr.2 (by decide)
    have q := q_reached (l := l) hS hz (by decide) hs hr2
    have hc : Cf M (clOf M s 8) := cf_clOf hs
    have hS2 := hc.S hS
    exact smI_q (M' := clOf M s 8) hS2 (w_reached q (shK hS rfl) (shK hS2 rfl)) (n_reached (fq_A h (fq_1 (fq_0 h hc))) hs hr2) (by rw [f_e9 h hs]) (rf_hdM (by decide) (rf_thr (Rf.rf _))) (t6_hdM t6_thr) trivial
  · exact smI_x hS (by decide) (wx_reached (x_reached hS hz hr) (shK hS rfl)) (t_reached (fq_R (fq_0 h (Cf.rf M))) hr) trivial

theorem sm_pairs (h : Frs M) (x1 : Int32) : SemI l jL_pairs jX7_pairs 8 141 1 6 4 [.ref 0, .int x1, .ref 212] [.ref 198, .int x1] M (fun _ => True) := by
  have hS := h.1
  have hz := f_z h
  by_cases hr : inR x1 6
  · obtain ⟨s, hs, rfl⟩ := inR_of hr (by decide)
    have q := q_pairs (l := l) hS hz (by decide) hs
    have hc : Cf M (clOf M s 8) := cf_clOf hs
    have hS2 := hc.S hS
    exact smI_q (M' := clOf M s 8) hS2 (w_pairs q (shK hS rfl) (shK hS2 rfl)) (n_pairs (fq_A h (fq_1 (fq_0 h hc))) hs) (by rw [f_e9 h hs]) (rf_hdM (by decide) (rf_thr (Rf.rf _))) (t6_hdM t6_thr) trivial
  · exact smI_x hS (by decide) (wx_pairs (x_pairs hS hr) (shK hS rfl)) (t_pairs (fq_R (fq_0 h (Cf.rf M))) hr) trivial

theorem sm_meanReach (h : Frs M) (x1 : Int32) : SemF l jL_meanReach jX7_meanReach 9 171 1 6 4 [.ref 0, .int x1, .ref 213] [.ref 198, .int x1] M (fun _ => True) := by
  have hS := h.1
  have hz := f_z h
  by_cases hr : inR x1 6
  · obtain ⟨s, hs, rfl⟩ := inR_of hr (by decide)
    have hle := mrc_le (f := mI (clOf M s 8) (175 + 2 * s + 1)) (n := 8) (by decide) (by decide)
    have q := q_meanReach (l := l) hS hz (by decide) (by decide) hs
    have hc : Cf M (clOf M s 8) := cf_clOf hs
    have hS2 := hc.S hS
    exact smF_q (M' := clOf M s 8) hS2 (cmp_self64 (f2d_le hle)) (n64_le (f2d_le hle)) (w_meanReach q (shK hS rfl) (shK hS2 rfl) (n64_le (f2d_le hle))) (n_meanReach (fq_A h (fq_2 (fq_0 h hc))) hs) (by rw [f_e9 h hs]) (rf_hdM (by decide) (rf_thr (Rf.rf _))) (t6_hdM t6_thr) trivial
  · exact smF_x hS (by decide) (wx_meanReach (x_meanReach hS hr) (shK hS rfl)) (t_meanReach (fq_R (fq_0 h (Cf.rf M))) hr) trivial

theorem sm_component (h : Frs M) (x1 : Int32) (x2 : Int32) : SemI l jL_component jX7_component 9 162 2 12 4 [.ref 0, .int x1, .int x2, .ref 212] [.ref 198, .int x1, .int x2] M (fun _ => True) := by
  have hS := h.1
  have hz := f_z h
  by_cases hr : inR x1 6 ∧ inR x2 8
  · obtain ⟨s, hs, rfl⟩ := inR_of hr.1 (by decide)
    obtain ⟨r, hr2, rfl⟩ := inR_of hr.2 (by decide)
    have q := q_component (l := l) hS hz (by decide) hs hr2
    have hc : Cf M (clOf M s 8) := cf_clOf hs
    have hS2 := hc.S hS
    exact smI_q (M' := clOf M s 8) hS2 (w_component q (shK hS rfl) (shK hS2 rfl)) (n_component (fq_A h (fq_1 (fq_0 h hc))) hs hr2) (by rw [f_e9 h hs]) (rf_hdM (by decide) (rf_thr (Rf.rf _))) (t6_hdM t6_thr) trivial
  · exact smI_x hS (by decide) (wx_component (x_component hS hz hr) (shK hS rfl)) (t_component (fq_R (fq_0 h (Cf.rf M))) hr) trivial

theorem sm_components (h : Frs M) (x1 : Int32) : SemI l jL_components jX7_components 8 144 1 6 4 [.ref 0, .int x1, .ref 212] [.ref 198, .int x1] M (fun _ => True) := by
  have hS := h.1
  have hz := f_z h
  by_cases hr : inR x1 6
  · obtain ⟨s, hs, rfl⟩ := inR_of hr (by decide)
    have q := q_components (l := l) hS hz (by decide) hs
    have hc : Cf M (clOf M s 8) := cf_clOf hs
    have hS2 := hc.S hS
    exact smI_q (M' := clOf M s 8) hS2 (w_components q (shK hS rfl) (shK hS2 rfl)) (n_components (fq_A h (fq_1 (fq_0 h hc))) hs) (by rw [f_e9 h hs]) (rf_hdM (by decide) (rf_thr (Rf.rf _))) (t6_hdM t6_thr) trivial
  · exact smI_x hS (by decide) (wx_components (x_components hS hr) (shK hS rfl)) (t_components (fq_R (fq_0 h (Cf.rf M))) hr) trivial

theorem sm_distance (h : Frs M) (x1 : Int32) (x2 : Int32) (x3 : Int32) : SemI l jL_distance jX7_distance 10 183 3 18 4 [.ref 0, .int x1, .int x2, .int x3, .ref 212] [.ref 198, .int x1, .int x2, .int x3] M (fun _ => True) := by
  have hS := h.1
  have hz := f_z h
  by_cases hr : inR x1 6 ∧ inR x2 8 ∧ inR x3 8
  · obtain ⟨s, hs, rfl⟩ := inR_of hr.1 (by decide)
    obtain ⟨a, ha, rfl⟩ := inR_of hr.2.1 (by decide)
    obtain ⟨b, hb9, rfl⟩ := inR_of hr.2.2 (by decide)
    have q := q_distance (l := l) hS hz (by decide) hs ha hb9
    have hc : Cf M (M) := Cf.rf M
    have hS2 := hc.S hS
    exact smI_q (M' := M) hS2 (w_distance q (shK hS rfl) (shK hS2 rfl)) (n_distance (fq_A h (fq_1 (fq_0 h hc))) hs ha hb9) (by rw [f_rows h hs, am_0 h hs, (z_ds a ha b hb9).1, (z_ds a ha b hb9).2]) (rf_farM (rf_thr (Rf.rf _))) (t6_farM t6_thr) trivial
  · exact smI_x hS (by decide) (wx_distance (x_distance hS hz hr) (shK hS rfl)) (t_distance (fq_R (fq_0 h (Cf.rf M))) hr) trivial

theorem sm_stepAt (h : Frs M) (x1 : Int32) (x2 : Int32) (x3 : Int32) (x4 : Int32) : SemI l jL_stepAt jX7_stepAt 11 218 3 18 4 [.ref 0, .int x1, .int x2, .int x3, .int x4, .ref 212] [.ref 198, .int x1, .int x2, .int x3, .int x4] M (fun _ => True) := by
  have hS := h.1
  have hz := f_z h
  by_cases hr : inR x1 6 ∧ inR x2 8 ∧ inR x3 8
  · obtain ⟨s, hs, rfl⟩ := inR_of hr.1 (by decide)
    obtain ⟨a, ha, rfl⟩ := inR_of hr.2.1 (by decide)
    obtain ⟨b, hb9, rfl⟩ := inR_of hr.2.2 (by decide)
    have E1 : dsV (mI M (6 + 2 * s)) a b 8 = if a = b then 0 else -1 := by rw [f_rows h hs, (z_ds a ha b hb9).1]
    have E2 : farF (Am M s) 8 b 8 a = if a = b then 0 else -1 := by rw [am_0 h hs, (z_ds a ha b hb9).2]
    by_cases hx : ¬ x4 < 0 ∧ x4 ≤ dsV (mI M (6 + 2 * s)) a b 8
    · have hab : a = b := by
        by_cases e : a = b
        · exact e
        · exfalso
          rw [E1, if_neg e] at hx
          exact hx.1 (Int32.lt_of_le_of_lt hx.2 (by decide))
      subst hab
      rw [if_pos rfl] at E1 E2
      rw [E1] at hx
      obtain ⟨j, hj, rfl⟩ := nI_of2 (n := 0) (by decide) hx.1 hx.2
      have ej : j = 0 := by omega
      subst ej
      have q := q_stepAt (l := l) (j := 0) (k := 0) hS hz (by decide) hs ha ha E1 (by decide) (by decide)
      have hc : Cf M (spM M s a 8 0) := cf_spM
      have hS2 := hc.S hS
      exact smI_q (M' := spM M s a 8 0) hS2 (w_stepAt q (shK hS rfl) (shK hS2 rfl)) (n_stepAt (e := 0) (i := 0) (fq_A h (fq_1 (fq_0 h hc))) hs ha ha E2 (by decide) (by decide)) (rfl) (rf_farM (rf_thr (Rf.rf _))) (t6_farM t6_thr) trivial
    · have q := v_stepAt (l := l) hS hz (by decide) hs ha hb9 hx
      have hc : Cf M (M) := Cf.rf M
      have hS2 := hc.S hS
      exact smI_q (M' := M) hS2 (w_stepAt q (shK hS rfl) (shK hS2 rfl)) (o_stepAt (fq_A h (fq_1 (fq_0 h hc))) hs ha hb9 (fun q9 => hx ⟨Int32.not_lt.mpr q9.1, by rw [E1, ← E2]; exact q9.2⟩)) (rfl) (rf_farM (rf_thr (Rf.rf _))) (t6_farM t6_thr) trivial
  · exact smI_x hS (by decide) (wx_stepAt (x_stepAt hS hz hr) (shK hS rfl)) (t_stepAt (fq_R (fq_0 h (Cf.rf M))) hr) trivial

theorem sm_around (h : Frs M) (x1 : Int32) (x2 : Int32) : SemI l jL_around jX7_around 9 162 2 12 4 [.ref 0, .int x1, .int x2, .ref 212] [.ref 198, .int x1, .int x2] M (fun _ => True) := by
  have hS := h.1
  have hz := f_z h
  by_cases hr : inR x1 6 ∧ inR x2 8
  · obtain ⟨s, hs, rfl⟩ := inR_of hr.1 (by decide)
    obtain ⟨r, hr2, rfl⟩ := inR_of hr.2 (by decide)
    have q := q_around (l := l) hS hz (by decide) hs hr2
    have hc : Cf M (M) := Cf.rf M
    have hS2 := hc.S hS
    exact smI_q (M' := M) hS2 (w_around q (shK hS rfl) (shK hS2 rfl)) (n_around (fq_A h (fq_1 (fq_0 h hc))) hs hr2) (by rw [f_rows h hs, am_0 h hs, (z_ar r hr2).2]; exact (z_ar r hr2).1.symm) (rf_farM (rf_thr (Rf.rf _))) (t6_farM t6_thr) trivial
  · exact smI_x hS (by decide) (wx_around (x_around hS hz hr) (shK hS rfl)) (t_around (fq_R (fq_0 h (Cf.rf M))) hr) trivial

theorem sm_girth (h : Frs M) (x1 : Int32) : SemI l jL_girth jX7_girth 8 144 1 6 4 [.ref 0, .int x1, .ref 212] [.ref 198, .int x1] M (fun _ => True) := by
  have hS := h.1
  have hz := f_z h
  by_cases hr : inR x1 6
  · obtain ⟨s, hs, rfl⟩ := inR_of hr (by decide)
    have q := q_girth (l := l) hS hz (by decide) hs
    have hc : Cf M (M) := Cf.rf M
    have hS2 := hc.S hS
    exact smI_q (M' := M) hS2 (w_girth q (shK hS rfl) (shK hS2 rfl)) (n_girth (fq_A h (fq_1 (fq_0 h hc))) hs) (by rw [f_rows h hs, am_0 h hs, z_gi.1, z_gi.2]) (rf_gfM (rf_thr (Rf.rf _)) 8) (t6_gfM t6_thr 8) trivial
  · exact smI_x hS (by decide) (wx_girth (x_girth hS hr) (shK hS rfl)) (t_girth (fq_R (fq_0 h (Cf.rf M))) hr) trivial

theorem sm_order (h : Frs M) (x1 : Int32) (x2 : Int32) : SemI l jL_order jX7_order 8 146 1 6 4 [.ref 0, .int x1, .int x2, .ref 212] [.ref 198, .int x1, .int x2] M (fun _ => True) := by
  have hS := h.1
  have hz := f_z h
  by_cases hr : inR x1 6
  · obtain ⟨s, hs, rfl⟩ := inR_of hr (by decide)
    have q := q_order (l := l) (x := x2) hS hz (by decide) hs
    have hc : Cf M (M) := Cf.rf M
    have hS2 := hc.S hS
    exact smI_q (M' := M) hS2 (w_order q (shK hS rfl) (shK hS2 rfl)) (n_order (fq_A h (fq_1 (fq_0 h hc))) hs) (rfl) (rf_thr (Rf.rf _)) (t6_thr) trivial
  · exact smI_x hS (by decide) (wx_order (x_order hS hr) (shK hS rfl)) (t_order (fq_R (fq_0 h (Cf.rf M))) hr) trivial

theorem sm_gained (h : Frs M) (x1 : Int32) (x2 : Int32) (x3 : Int32) : SemI l jL_gained jX7_gained 10 184 3 18 4 [.ref 0, .int x1, .int x2, .int x3, .ref 212] [.ref 198, .int x1, .int x2, .int x3] M (fun _ => True) := by
  have hS := h.1
  have hz := f_z h
  by_cases hr : inR x1 6 ∧ inR x2 8 ∧ inR x3 8
  · obtain ⟨s, hs, rfl⟩ := inR_of hr.1 (by decide)
    obtain ⟨a, ha, rfl⟩ := inR_of hr.2.1 (by decide)
    obtain ⟨b, hb9, rfl⟩ := inR_of hr.2.2 (by decide)
    have hb0 : ¬ hb (Am M s a) b = true := by
      rw [am_0 h hs, hb_0]
      decide
    have q := q_gained (l := l) hS hz (by decide) hs ha hb9
    have hc : Cf M (clOf M s 8) := cf_clOf hs
    have hS2 := hc.S hS
    have n := fun M9 (hF9 : Fq M9) => (by
      have n3 := n_gained (l := l) (fq_A h hF9) hs ha hb9
      rw [if_neg hb0, if_neg hb0] at n3
      exact n3)
    exact smI_q (M' := clOf M s 8) hS2 (w_gained q (shK hS rfl) (shK hS2 rfl)) (n _ (fq_1 (fq_0 h hc))) (by rw [f_cl h hs, z_gn a ha b hb9, am_0 h hs, z_pT ha hb9, z_pO]; decide) (rf_hdM (by decide) (rf_thr (Rf.rf _))) (t6_hdM t6_thr) trivial
  · exact smI_x hS (by decide) (wx_gained (x_gained hS hz hr) (shK hS rfl)) (t_gained (fq_R (fq_0 h (Cf.rf M))) hr) trivial

theorem sm_lost (h : Frs M) (x1 : Int32) (x2 : Int32) (x3 : Int32) : SemI l jL_lost jX7_lost 10 213 3 18 4 [.ref 0, .int x1, .int x2, .int x3, .ref 212] [.ref 198, .int x1, .int x2, .int x3] M (fun _ => True) := by
  have hS := h.1
  have hz := f_z h
  by_cases hr : inR x1 6 ∧ inR x2 8 ∧ inR x3 8
  · obtain ⟨s, hs, rfl⟩ := inR_of hr.1 (by decide)
    obtain ⟨a, ha, rfl⟩ := inR_of hr.2.1 (by decide)
    obtain ⟨b, hb9, rfl⟩ := inR_of hr.2.2 (by decide)
    have hb0 : ¬ hb (Am M s a) b = true := by
      rw [am_0 h hs, hb_0]
      decide
    have q := q_lost (l := l) hS hz (by decide) hs ha hb9
    rw [if_neg hb0, if_neg hb0] at q
    have hc : Cf M M := Cf.rf M
    have n := fun M9 (hF9 : Fq M9) => (by
      have n3 := n_lost (l := l) (fq_A h hF9) hs ha hb9
      rw [if_neg hb0, if_neg hb0] at n3
      exact n3)
    exact smI_q (M' := M) hS (w_lost q (shK hS rfl) (shK hS rfl)) (n _ (fq_1 (fq_0 h hc))) rfl (rf_thr (Rf.rf _)) (t6_thr) trivial
  · exact smI_x hS (by decide) (wx_lost (x_lost hS hz hr) (shK hS rfl)) (t_lost (fq_R (fq_0 h (Cf.rf M))) hr) trivial

theorem sm_bestEdge (h : Frs M) (x1 : Int32) : SemI l jL_bestEdge jX7_bestEdge 8 169 1 6 5 [.ref 0, .int x1, .ref 212] [.ref 198, .int x1] M (fun _ => True) := by
  have hS := h.1
  have hz := f_z h
  by_cases hr : inR x1 6
  · obtain ⟨s, hs, rfl⟩ := inR_of hr (by decide)
    have q := q_bestEdge (l := l) hS hz (by decide) hs
    have hc : Cf M (clOf M s 8) := cf_clOf hs
    have hS2 := hc.S hS
    exact smI_q (M' := clOf M s 8) hS2 (w_bestEdge q (shK hS rfl) (shK hS2 rfl)) (n_bestEdge (fq_A h (fq_1 (fq_0 h hc))) hs) (by rw [f_rows h hs, f_cl h hs, z_bO 7 (by decide), am_0 h hs]; exact congrArg Prod.fst (z_mS 255 (by decide))) (rf_hdM (by decide) (rf_thr (Rf.rf _))) (t6_hdM t6_thr) trivial
  · exact smI_x hS (by decide) (wx_bestEdge (x_bestEdge hS hr) (shK hS rfl)) (t_bestEdge (fq_R (fq_0 h (Cf.rf M))) hr) trivial

theorem sm_weakest (h : Frs M) (x1 : Int32) : SemI l jL_weakest jX7_weakest 8 217 1 6 5 [.ref 0, .int x1, .ref 212] [.ref 198, .int x1] M (fun _ => True) := by
  have hS := h.1
  have hz := f_z h
  by_cases hr : inR x1 6
  · obtain ⟨s, hs, rfl⟩ := inR_of hr (by decide)
    have q := q_weakest (l := l) hS hz (by decide) hs
    rw [z_wO (f_rows h hs)] at q
    have hc : Cf M (M) := Cf.rf M
    have hS2 := hc.S hS
    exact smI_q (M' := M) hS2 (w_weakest q (shK hS rfl) (shK hS2 rfl)) (n_weakest (fq_A h (fq_1 (fq_0 h hc))) hs) (by rw [am_0 h hs]; exact congrArg Prod.fst (z_mT _)) (rf_hdM (by decide) (rf_thr (Rf.rf _))) (t6_hdM t6_thr) trivial
  · exact smI_x hS (by decide) (wx_weakest (x_weakest hS hr) (shK hS rfl)) (t_weakest (fq_R (fq_0 h (Cf.rf M))) hr) trivial

theorem sm_triangles (h : Frs M) (x1 : Int32) : SemI l jL_triangles jX7_triangles 8 146 1 6 4 [.ref 0, .int x1, .ref 212] [.ref 198, .int x1] M (fun _ => True) := by
  have hS := h.1
  have hz := f_z h
  by_cases hr : inR x1 6
  · obtain ⟨s, hs, rfl⟩ := inR_of hr (by decide)
    have q := q_triangles (l := l) hS hz (by decide) hs
    have hc : Cf M (M) := Cf.rf M
    have hS2 := hc.S hS
    exact smI_q (M' := M) hS2 (w_triangles q (shK hS rfl) (shK hS2 rfl)) (n_triangles (fq_A h (fq_1 (fq_0 h hc))) hs) (rfl) (rf_thr (Rf.rf _)) (t6_thr) trivial
  · exact smI_x hS (by decide) (wx_triangles (x_triangles hS hr) (shK hS rfl)) (t_triangles (fq_R (fq_0 h (Cf.rf M))) hr) trivial

end
