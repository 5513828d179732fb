/-! calls on a new desk beside a new reference (593) -/
section
variable {l : Launch} {M : Mem}
theorem f_el (h : Frs M) {s : Nat} (hs : s < 6) {rt : Nat → Int32} : elAll M 8 (mI M (6 + 2 * s)) rt = (Z1, rt, mI M 194, 0) := by
  unfold elAll
  rw [f_rows h hs, f_0 h (i := 192) (by decide +kernel), wr_z]
  exact z_el 8
theorem r_el {s : Nat} {rt p : Nat → Int32} : elIt 8 (Z2 s, rt, p, 0) 8 = (Z1, rt, p, 0) := z_el 8
theorem nof (x : Int32) : ¬ (¬ x < 0 ∧ x < nI 0) := fun h => h.1 h.2
theorem sm_fieldRank (h : Frs M) (x1 : Int32) : SemI l jL_fieldRank jX7_fieldRank 8 171 1 6 4 [.ref 0, .int x1, .ref 212] [.ref 198, .int x1] M (fun _ => True) := by
  have hS := h.1
  have hz := f_z h
  by_cases hr : inR x1 6
  · obtain ⟨s, hs, rfl⟩ := inR_of hr (by decide)
    have q := q_fieldRank (l := l) hS hz (by decide) hs
    unfold elQ at q
    rw [f_el h hs] at q
    have hc : Cf M (elMem M (Z1, wr (mI M 193) (fun i => us 0 (nI i) &&& 1) 8, mI M 194, 0)) := cf_elMem
    have hS2 := hc.S hS
    have n := n_fieldRank (l := l) (fq_R (fq_1 (v := (nI 0).toInt64) (fq_0 h hc))) (fq_bs (fq_1 (fq_0 h hc))) hs
    unfold rkR at n
    rw [r_el] at n
    exact smI_g hS2 (w_fieldRank q (shK hS rfl) (shK hS2 rfl)) n (rf_rbM (rf_thr (Rf.rf _))) (t6_rbM t6_thr) trivial
  · exact smI_x hS (by decide) (wx_fieldRank (x_fieldRank hS hr) (shK hS rfl)) (t_fieldRank (fq_R (fq_0 h (Cf.rf M))) hr) trivial

theorem z_sv {M : Mem} {g p p' : Nat → Int32} {x : Int32} : solvB (Z1, wr g (fun i => us x (nI i) &&& 1) 8, p, 0) (8 - 0) 0 = solvB (Z1, fun i => us x (nI i) &&& 1, p', 0) (8 - 0) 0 := sv_cg (fun i _ h2 => wr_lt (f := g) (x := fun i => us x (nI i) &&& 1) (i := 8) (k := i) (by omega))
theorem thr_I {M : Mem} {x : Int32} {i : Nat} (hi : i ≠ 198) : mI (thr M x) i = mI M i := by
  unfold thr
  exact sI_ne hi
theorem sm_solve (h : Frs M) (x1 : Int32) (x2 : Int64) : SemJ l jL_solve jX7_solve 8 173 1 6 4 [.ref 0, .int x1, .long x2, .ref 212] [.ref 198, .int x1, .long x2] M (fun _ => True) := by
  have hS := h.1
  have hz := f_z h
  by_cases hr : inR x1 6
  · obtain ⟨s, hs, rfl⟩ := inR_of hr (by decide)
    have q := q_solve (l := l) (x := x2) hS hz (by decide) hs
    unfold elQ at q
    rw [f_el h hs] at q
    have hc : Cf M (elMem M (Z1, wr (mI M 193) (fun i => us x2.toInt32 (nI i) &&& 1) 8, mI M 194, 0)) := cf_elMem
    have hS2 := hc.S hS
    have w := w_solve q (shK hS rfl) (shK hS2 rfl)
    dsimp only at w
    rw [z_sv (M := M) (p' := mI M 210)] at w
    have n := fun M9 (hF9 : Fq M9) (e9 : mI (thr M9 0) 210 = mI M 210) => n_solve (l := l) (y := x2) (fq_R hF9) hs
    have n2 := fun M9 (hF9 : Fq M9) (e9 : mI (thr M9 0) 210 = mI M 210) => (by
      have n3 := n_solve (l := l) (y := x2) (fq_R hF9) hs
      unfold solR at n3
      rw [r_el, e9] at n3
      exact n3)
    exact smJ_g hS2 w (n2 _ (fq_1 (fq_0 h hc)) ((thr_I (by decide)).trans (hc.I (i := 210) (by decide)))) (rf_rbM (rf_thr (Rf.rf _))) (t6_rbM t6_thr) trivial
  · exact smJ_x hS (by decide) (wx_solve (x_solve hS hr) (shK hS rfl)) (t_solve (fq_R (fq_0 h (Cf.rf M))) hr) trivial

theorem sm_freedom (h : Frs M) (x1 : Int32) (x2 : Int64) : SemI l jL_freedom jX7_freedom 8 173 1 6 4 [.ref 0, .int x1, .long x2, .ref 212] [.ref 198, .int x1, .long x2] M (fun _ => True) := by
  have hS := h.1
  have hz := f_z h
  by_cases hr : inR x1 6
  · obtain ⟨s, hs, rfl⟩ := inR_of hr (by decide)
    have q := q_freedom (l := l) (x := x2) hS hz (by decide) hs
    unfold elQ at q
    rw [f_el h hs] at q
    have hc : Cf M (elMem M (Z1, wr (mI M 193) (fun i => us x2.toInt32 (nI i) &&& 1) 8, mI M 194, 0)) := cf_elMem
    have hS2 := hc.S hS
    have w := w_freedom q (shK hS rfl) (shK hS2 rfl)
    dsimp only at w
    rw [z_sv (M := M) (p' := mI M 210)] at w
    have n2 := fun M9 (hF9 : Fq M9) (e9 : mI (thr M9 0) 210 = mI M 210) => (by
      have n3 := n_freedom (l := l) (y := x2) (fq_R hF9) hs
      unfold solR at n3
      rw [r_el, e9] at n3
      exact n3)
    exact smI_g hS2 w (n2 _ (fq_1 (fq_0 h hc)) ((thr_I (by decide)).trans (hc.I (i := 210) (by decide)))) (rf_rbM (rf_thr (Rf.rf _))) (t6_rbM t6_thr) trivial
  · exact smI_x hS (by decide) (wx_freedom (x_freedom hS hr) (shK hS rfl)) (t_freedom (fq_R (fq_0 h (Cf.rf M))) hr) trivial

theorem sm_pivot (h : Frs M) (x1 : Int32) (x2 : Int32) : SemI l jL_pivot jX7_pivot 8 172 1 6 4 [.ref 0, .int x1, .int x2, .ref 212] [.ref 198, .int x1, .int x2] M (fun _ => True) := by
  have hS := h.1
  have hz := f_z h
  by_cases hr : inR x1 6
  · obtain ⟨s, hs, rfl⟩ := inR_of hr (by decide)
    have q := q_pivot (l := l) (x := x2) hS hz (by decide) hs
    unfold elQ at q
    rw [f_el h hs] at q
    dsimp only at q
    rw [if_neg (nof x2)] at q
    have hc : Cf M (elMem M (Z1, wr (mI M 193) (fun i => us 0 (nI i) &&& 1) 8, mI M 194, 0)) := cf_elMem
    have hS2 := hc.S hS
    have n := n_pivot (l := l) (x := x2) (fq_R (fq_1 (v := (-1 : Int32).toInt64) (fq_0 h hc))) (fq_bs (fq_1 (fq_0 h hc))) hs
    unfold rkR at n
    rw [r_el] at n
    dsimp only at n
    rw [if_neg (nof x2)] at n
    exact smI_g hS2 (w_pivot q (shK hS rfl) (shK hS2 rfl)) n (rf_rbM (rf_thr (Rf.rf _))) (t6_rbM t6_thr) trivial
  · exact smI_x hS (by decide) (wx_pivot (x_pivot hS hr) (shK hS rfl)) (t_pivot (fq_R (fq_0 h (Cf.rf M))) hr) trivial

end
