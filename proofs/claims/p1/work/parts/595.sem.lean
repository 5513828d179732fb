/-! calls on a new desk beside a new reference (595) -/
section
variable {l : Launch} {M : Mem}
theorem sm_invert (h : Frs M) (x1 : Int32) (x2 : Int32) : SemI l jL_invert jX7_invert 8 172 2 12 4 [.ref 0, .int x1, .int x2, .ref 212] [.ref 198, .int x1, .int x2] M (fun _ => True) := by
  have hS := h.1
  have hz := f_z h
  by_cases hr : inR x1 6 ∧ inR x2 6
  · obtain ⟨s, hs, rfl⟩ := inR_of hr.1 (by decide)
    obtain ⟨t, ht, rfl⟩ := inR_of hr.2 (by decide)
    have q := u_invert (l := l) (f_D h) hs ht
    unfold ivE at q
    rw [f_el h hs] at q
    have h08 : (Z1, wr (mI M 193) bitI 8, mI M 194, (0 : Nat)).2.2.2 < 8 := Nat.zero_lt_succ 7
    rw [if_pos h08, if_pos h08] at q
    have hc : Cf M (elMem M (Z1, wr (mI M 193) bitI 8, mI M 194, 0)) := cf_elMem
    have hS2 := hc.S hS
    have n := fun M9 (hF9 : Fq M9) => o_invert (l := l) (fq_R hF9) hs ht (by
      unfold ivR
      rw [r_el]
      exact (by decide : 0 < 8))
    exact smI_g hS2 (w_invert q (shK hS rfl) (shK hS2 rfl)) (n _ (fq_1 (fq_0 h hc))) (rf_rbM (rf_thr (Rf.rf _))) (t6_rbM t6_thr) trivial
  · exact smI_x hS (by decide) (wx_invert (x_invert hS hr) (shK hS rfl)) (t_invert (fq_R (fq_0 h (Cf.rf M))) hr) trivial

theorem sm_close (h : Frs M) (x1 : Int32) (x2 : Int32) : SemI l jL_close jX7_close 8 162 2 12 4 [.ref 0, .int x1, .int x2, .ref 212] [.ref 198, .int x1, .int x2] M (fun _ => True) := by
  have hS := h.1
  have hz := f_z h
  by_cases hr : inR x1 6 ∧ inR x2 6
  · obtain ⟨s, hs, rfl⟩ := inR_of hr.1 (by decide)
    obtain ⟨t, ht, rfl⟩ := inR_of hr.2 (by decide)
    have q := u_close (l := l) (f_D h) hs ht
    rw [stV_eq ht, rm_cl h hs, ← show wOut (Z2 s) 8 8 = Z1 from wO_z 8 8] at q
    have hc : Cf M (storeM (clOf (remM M 0 0) s 8) (175 + 2 * s + 1) t 8) := ((cf_remM (by decide)).tr (cf_clOf hs)).tr (cf_storeM ht)
    have hS2 := hc.S hS
    exact smI_g hS2 (w_close q (shK hS rfl) (shK hS2 rfl)) (n_close (fq_R (fq_1 (fq_0 h hc))) (fq_c (fq_1 (fq_0 h hc))) (by decide) hs ht) (rf_lsM (rf_hdM (by decide) (rf_k0M (Rf.rf _)))) (t6_lsM (t6_hdM t6_k0M)) trivial
  · exact smI_x hS (by decide) (wx_close (x_close hS hr) (shK hS rfl)) (t_close (fq_R (fq_0 h (Cf.rf M))) hr) trivial

theorem sm_reduce (h : Frs M) (x1 : Int32) (x2 : Int32) : SemI l jL_reduce jX7_reduce 8 163 2 12 4 [.ref 0, .int x1, .int x2, .ref 212] [.ref 198, .int x1, .int x2] M (fun _ => True) := by
  have hS := h.1
  have hz := f_z h
  by_cases hr : inR x1 6 ∧ inR x2 6
  · obtain ⟨s, hs, rfl⟩ := inR_of hr.1 (by decide)
    obtain ⟨t, ht, rfl⟩ := inR_of hr.2 (by decide)
    have q := u_reduce (l := l) (f_D h) hs ht
    have e1 : mI (rdX (remM M 0 0) s 8) 195 = Z1 := by
      unfold rdX
      rw [sI_self, rm_0 h (by decide) (by decide), rm_0 h (by omega) (by omega), f_rows h hs, f_0 h (i := 195) (by decide +kernel), wr_z, z_rd]
    rw [stV_eq ht, e1, ← show rcF (Z2 s) 8 (8 * 8) = Z1 from z_rc _] at q
    have hc : Cf M (storeM (rdX (remM M 0 0) s 8) 195 t 8) := ((cf_remM (by decide)).tr cf_rdX).tr (cf_storeM ht)
    have hS2 := hc.S hS
    exact smI_g hS2 (w_reduce q (shK hS rfl) (shK hS2 rfl)) (n_reduce (fq_R (fq_1 (fq_0 h hc))) (fq_c (fq_1 (fq_0 h hc))) (by decide) hs ht) (rf_lsM (rf_rcM (rf_k0M (Rf.rf _)))) (t6_lsM (t6_rcM t6_k0M)) trivial
  · exact smI_x hS (by decide) (wx_reduce (x_reduce hS hr) (shK hS rfl)) (t_reduce (fq_R (fq_0 h (Cf.rf M))) hr) trivial

theorem sm_exchange (h : Frs M) (x1 : Int32) (x2 : Int32) (x3 : Int32) : SemI l jL_exchange jX7_exchange 10 187 3 18 4 [.ref 0, .int x1, .int x2, .int x3, .ref 212] [.ref 198, .int x1, .int x2, .int x3] M (fun _ => True) := by
  have hS := h.1
  have hz := f_z h
  by_cases hr : inR x1 6 ∧ inR x2 8 ∧ inR x3 8
  · obtain ⟨s, hs, rfl⟩ := inR_of hr.1 (by decide)
    obtain ⟨a, ha, rfl⟩ := inR_of hr.2.1 (by decide)
    obtain ⟨b, hb9, rfl⟩ := inR_of hr.2.2 (by decide)
    have q := u_exchange (l := l) (f_D h) hs ha hb9
    rw [f_rows h hs] at q
    have hc : Cf M (storeM (mkM (remM M 0 0) (exF Z1 a b) 8) 195 s 8) := ((cf_remM (by decide)).tr cf_mkM).tr (cf_storeM hs)
    have hS2 := hc.S hS
    exact smI_g hS2 (w_exchange q (shK hS rfl) (shK hS2 rfl)) (n_exchange (fq_R (fq_1 (fq_0 h hc))) (fq_c (fq_1 (fq_0 h hc))) (by decide) hs ha hb9) (rf_lsM (rf_hdM (by decide) (rf_k0M (Rf.rf _)))) (t6_lsM (t6_hdM t6_k0M)) trivial
  · exact smI_x hS (by decide) (wx_exchange (x_exchange hS hz hr) (shK hS rfl)) (t_exchange (fq_R (fq_0 h (Cf.rf M))) hr) trivial

theorem kp_b {R : Mem} {s s' n : Nat} {b : Bool} (h0 : mI R (5 + 2 * s') 1 = 0) : mI (mxAnew (pI R (5 + 2 * s) 1 (b1 b)) (5 + 2 * s) (nI n)) (5 + 2 * s') 1 = b1 (if s' = s then b else false) := by
  by_cases e : s' = s
  · subst e
    rw [if_pos rfl]
    have h1 : ∀ (X : Mem) (m : Nat) (x : Int32), mI (mxAnew X m x) m 1 = mI X m 1 := by
      intro X m x
      unfold mxAnew
      split
      · rfl
      · unfold mxLook
        split
        · show fun_set (mI X) m (fun_set (mI X m) 4 _) m 1 = _
          unfold fun_set
          rw [if_pos rfl, if_neg (by decide)]
        · simp [fun_set, mI, sI]
    rw [h1]
    show fun_set (mI R) (5 + 2 * s') (fun_set (mI R (5 + 2 * s')) 1 (b1 b)) (5 + 2 * s') 1 = _
    unfold fun_set
    rw [if_pos rfl, if_pos rfl]
  · rw [if_neg e, mxAnew_ne (by omega), sI_ne (by omega), h0]
    rfl
theorem pL_o9 {M : Mem} {i k j : Nat} {x : Int64} (h : j ≠ k) : mL (pL M i k x) i j = mL M i j := by
  show fun_set (mL M) i (fun_set (mL M i) k x) i j = mL M i j
  unfold fun_set
  rw [if_pos rfl, if_neg h]
theorem kr_b {X : Mem} {s s' : Nat} {b : Bool} {x : Int32} (hs : s < 6) (hs' : s' < 6) (h0 : mL X 199 (4 + s') = 0) : mL (anM (kpS X s b) s x) 199 (4 + s') = b1L (if s' = s then b else false) := by
  have h1 : ∀ (Y : Mem), mL (anM Y s x) 199 (4 + s') = mL Y 199 (4 + s') := by
    intro Y
    unfold anM
    show fun_set (mL (lkM Y s x)) 199 (fun_set (mL (lkM Y s x) 199) (22 + s) _) 199 (4 + s') = _
    unfold fun_set
    rw [if_pos rfl, if_neg (by omega)]
    unfold lkM
    split
    · rw [pL_o9 (by omega), pL_o9 (by omega)]
    · rfl
  rw [h1]
  unfold kpS
  show fun_set (mL X) 199 (fun_set (mL X 199) (4 + s) (b1L b)) 199 (4 + s') = _
  unfold fun_set
  rw [if_pos rfl]
  by_cases e : s' = s
  · subst e
    rw [if_pos rfl, if_pos rfl]
  · rw [if_neg (by omega), if_neg e, h0]
    rfl
theorem sm_keep (h : Frs M) (x1 : Int32) (x2 : Bool) : SemI l jL_keep jX7_keep 8 163 1 6 4 [.ref 0, .int x1, .int (b1 x2), .ref 212] [.ref 198, .int x1, .int (b1 x2)] M (fun _ => True) := by
  have hS := h.1
  have hz := f_z h
  by_cases hr : inR x1 6
  · obtain ⟨s, hs, rfl⟩ := inR_of hr (by decide)
    have q := u_keep (l := l) (f_D h) hs (k01_b x2)
    have hc : Cf M (kpM M s 8 0 0 (b1 x2)) := cf_kpM (by decide) hs
    have hS2 := hc.S hS
    rw [kc_ok (K := fun s' => if s' = s then x2 else false) 6 (fun s' hs' => by
      unfold kpM
      exact kp_b (by rw [rm_0 h (by omega) (by omega), f_mx h hs']))] at q
    have n := fun M9 (hF9 : Fq M9) => (by
      have n3 := n_keep (l := l) (b := x2) (fq_R hF9) (fq_c hF9) (by decide) hs
      rw [km_ok (K := fun s' => if s' = s then x2 else false) 6 (fun s' hs' => kr_b hs hs' (by rw [k0M_ne (by decide), fq_L hF9, bg_ge (by omega)]))] at n3
      exact n3)
    exact smI_g hS2 (w_keep q (shK hS rfl) (shK hS2 rfl)) (n _ (fq_1 (fq_0 h hc))) (rf_anM (rf_kpS (rf_k0M (Rf.rf _)))) (t6_anM (t6_kpS t6_k0M)) trivial
  · exact smI_x hS (by decide) (wx_keep (x_keep hS hr) (shK hS rfl)) (t_keep (fq_R (fq_0 h (Cf.rf M))) hr) trivial

theorem sm_setBlock (h : Frs M) (x1 : Int32) : SemI l jL_setBlock jX7_setBlock 8 162 1 6 4 [.ref 0, .int x1, .ref 212] [.ref 198, .int x1] M (fun _ => True) := by
  have hS := h.1
  have hz := f_z h
  by_cases hr : ¬ x1 < 1 ∧ x1 ≤ 8
  · have q := u_setBlock (l := l) (f_D h) hr.1 hr.2
    rw [f_bl h] at q
    have hc : Cf M (pI (remM M 0 0) 3 2 x1) := cf_pI (by decide) (cf_remM (by decide))
    have hS2 := hc.S hS
    have n := n_setBlock (l := l) (fq_R (fq_1 (v := (nI 4).toInt64) (fq_0 h hc))) (fq_c (fq_1 (fq_0 h hc))) (by decide) hr
    rw [fq_bl (fq_1 (fq_0 h hc)), show (lN 4).toInt32 = nI 4 by decide +kernel] at n
    exact smI_g hS2 (w_setBlock q (shK hS rfl) (shK hS2 rfl)) n (rf_pL (by decide) (rf_k0M (Rf.rf _))) (t6_sL t6_k0M) trivial
  · exact smI_x hS (by decide) (wx_setBlock (x_setBlock hS hr) (shK hS rfl)) (t_setBlock hS hr) trivial

theorem sm_kept (h : Frs M) (x1 : Int32) (x2 : Int32) : SemI l jL_kept jX7_kept 8 143 2 12 4 [.ref 0, .int x1, .int x2, .ref 212] [.ref 198, .int x1, .int x2] M (fun _ => True) := by
  have hS := h.1
  have hz := f_z h
  by_cases hr : inR x1 6
  · by_cases h4 : ¬ x2 < 0 ∧ x2 ≤ 2
    · obtain ⟨s, hs, rfl⟩ := inR_of hr (by decide)
      obtain ⟨w9, hw9, rfl⟩ := nI_of2 (n := 2) (by decide) h4.1 h4.2
      have hc : Cf M M := Cf.rf M
      match w9, hw9 with
      | 0, _ =>
        have q := q_kept0 (l := l) hS hs
        rw [f_mx h hs, if_pos rfl] at q
        have n := n_kept (l := l) (w := 0) (fq_R (fq_1 (v := (-1 : Int32).toInt64) (fq_0 h hc))) hs (by decide)
        rw [fq_L (fq_1 (fq_0 h hc)), bg_ge (show 2 ≤ 4 + s by omega), if_pos rfl] at n
        exact smI_g hS (w_kept q (shK hS rfl) (shK hS rfl)) n (rf_thr (Rf.rf _)) (t6_thr) trivial
      | 1, _ =>
        have q := q_kept1 (l := l) hS hs
        rw [f_mx h hs, if_pos rfl] at q
        have n := n_kept (l := l) (w := 1) (fq_R (fq_1 (v := (-1 : Int32).toInt64) (fq_0 h hc))) hs (by decide)
        rw [fq_L (fq_1 (fq_0 h hc)), bg_ge (show 2 ≤ 4 + s by omega), if_pos rfl] at n
        exact smI_g hS (w_kept q (shK hS rfl) (shK hS rfl)) n (rf_thr (Rf.rf _)) (t6_thr) trivial
      | 2, _ =>
        have q := q_kept2 (l := l) hS hs
        rw [f_mx h hs, if_pos rfl] at q
        have n := n_kept (l := l) (w := 2) (fq_R (fq_1 (v := (-1 : Int32).toInt64) (fq_0 h hc))) hs (by decide)
        rw [fq_L (fq_1 (fq_0 h hc)), bg_ge (show 2 ≤ 4 + s by omega), if_pos rfl] at n
        exact smI_g hS (w_kept q (shK hS rfl) (shK hS rfl)) n (rf_thr (Rf.rf _)) (t6_thr) trivial
    · exact smI_x hS (by decide) (wy_kept (y_kept hS hr h4) (shK hS rfl)) (u_kept' (fq_R (fq_0 h (Cf.rf M))) hr h4) trivial
  · exact smI_x hS (by decide) (wx_kept (x_kept hS hr) (shK hS rfl)) (t_kept (fq_R (fq_0 h (Cf.rf M))) hr) trivial

theorem sm_work (h : Frs M) (x1 : Int32) : SemI l jL_work jX7_work 8 141 1 6 4 [.ref 0, .int x1, .ref 212] [.ref 198, .int x1] M (fun _ => True) := by
  have hS := h.1
  have hz := f_z h
  by_cases hr : ¬ x1 < 0 ∧ x1 ≤ 1
  · obtain ⟨w9, hw9, rfl⟩ := nI_of2 (n := 1) (by decide) hr.1 hr.2
    have hc : Cf M M := Cf.rf M
    match w9, hw9 with
    | 0, _ =>
      have q := q_work0 (l := l) hS
      rw [show mI M 3 3 = 0 by rw [h.2.1]; decide +kernel] at q
      have n := n_work (l := l) (w := 0) (fq_R (fq_1 (v := (0 : Int32).toInt64) (fq_0 h hc))) (by decide)
      rw [fq_L (fq_1 (fq_0 h hc)), bg_ge (by decide), show (0 : Int64).toInt32 = 0 by decide] at n
      exact smI_g hS (w_work q (shK hS rfl) (shK hS rfl)) n (rf_thr (Rf.rf _)) (t6_thr) trivial
    | 1, _ =>
      have q := q_work1 (l := l) hS
      rw [show mI M 3 4 = 0 by rw [h.2.1]; decide +kernel] at q
      have n := n_work (l := l) (w := 1) (fq_R (fq_1 (v := (0 : Int32).toInt64) (fq_0 h hc))) (by decide)
      rw [fq_L (fq_1 (fq_0 h hc)), bg_ge (by decide), show (0 : Int64).toInt32 = 0 by decide] at n
      exact smI_g hS (w_work q (shK hS rfl) (shK hS rfl)) n (rf_thr (Rf.rf _)) (t6_thr) trivial
  · exact smI_x hS (by decide) (wx_work (x_work hS hr) (shK hS rfl)) (t_work hS hr) trivial

theorem sm_count (h : Frs M) (x1 : Int32) : SemI l jL_count jX7_count 8 141 1 6 4 [.ref 0, .int x1, .ref 212] [.ref 198, .int x1] M (fun _ => True) := by
  have hS := h.1
  have hz := f_z h
  by_cases hr : ¬ x1 < 0 ∧ x1 ≤ 3
  · obtain ⟨w9, hw9, rfl⟩ := nI_of2 (n := 3) (by decide) hr.1 hr.2
    have hc : Cf M M := Cf.rf M
    match w9, hw9 with
    | 0, _ =>
      have q := q_count0 (l := l) hS
      rw [show mI M 3 1 = nI 8 from hz] at q
      have n := fun M9 (hF9 : Fq M9) => (by
        have n3 := n_count (l := l) (w := 0) (fq_R hF9) (by decide)
        rw [if_pos (by decide), fq_L hF9, show (bgF (fun _ => 0) 8 0).toInt32 = nI 8 by decide +kernel] at n3
        exact n3)
      exact smI_g hS (w_count q (shK hS rfl) (shK hS rfl)) (n _ (fq_1 (fq_0 h hc))) (rf_thr (Rf.rf _)) (t6_thr) trivial
    | 1, _ =>
      have q := q_count1 (l := l) hS
      rw [show mI M 3 2 = nI 4 from f_bl h] at q
      have n := fun M9 (hF9 : Fq M9) => (by
        have n3 := n_count (l := l) (w := 1) (fq_R hF9) (by decide)
        rw [if_pos (by decide), fq_L hF9, show (bgF (fun _ => 0) 8 1).toInt32 = nI 4 by decide +kernel] at n3
        exact n3)
      exact smI_g hS (w_count q (shK hS rfl) (shK hS rfl)) (n _ (fq_1 (fq_0 h hc))) (rf_thr (Rf.rf _)) (t6_thr) trivial
    | 2, _ =>
      have q := q_count2 (l := l) hS
      rw [kc_ok (K := fun _ => false) 6 (fun s hs => by rw [f_mx h hs]; rfl), show nI (cnt (fun _ => false) 6) = 0 by decide +kernel] at q
      have n := fun M9 (hF9 : Fq M9) => (by
        have n3 := n_count (l := l) (w := 2) (fq_R hF9) (by decide)
        rw [if_neg (by decide), if_pos rfl, fq_L hF9, show kmI (bgF (fun _ => 0) 8) 6 = 0 by decide +kernel] at n3
        exact n3)
      exact smI_g hS (w_count q (shK hS rfl) (shK hS rfl)) (n _ (fq_1 (fq_0 h hc))) (rf_thr (Rf.rf _)) (t6_thr) trivial
    | 3, _ =>
      have q := q_count3 (l := l) hS
      rw [show mI M 0 5 = 0 by rw [h.2.1]; decide +kernel] at q
      have n := fun M9 (hF9 : Fq M9) => (by
        have n3 := n_count (l := l) (w := 3) (fq_R hF9) (by decide)
        rw [if_neg (by decide), if_neg (by decide), show mI _ 198 5 = 0 from fq_c hF9] at n3
        exact n3)
      exact smI_g hS (w_count q (shK hS rfl) (shK hS rfl)) (n _ (fq_1 (fq_0 h hc))) (rf_thr (Rf.rf _)) (t6_thr) trivial
  · exact smI_x hS (by decide) (wx_count (x_count hS hr) (shK hS rfl)) (t_count hS hr) trivial

theorem sm_writeRow (h : Frs M) (x1 : Int32) (x2 : Int32) : SemI l jL_writeRow jX7_writeRow 9 164 2 12 4 [.ref 0, .int x1, .int x2, .ref 212] [.ref 198, .int x1, .int x2] M (fun _ => True) := by
  have hS := h.1
  have hz := f_z h
  by_cases hr : inR x1 6 ∧ inR x2 8
  · obtain ⟨s, hs, rfl⟩ := inR_of hr.1 (by decide)
    obtain ⟨r, hr2, rfl⟩ := inR_of hr.2 (by decide)
    have q := q_writeRow (l := l) hS hz (by decide) hs hr2
    rw [f_rows h hs] at q
    have hc : Cf M (woM M (Z1 r) 8 8) := cf_woM
    have hS2 := hc.S hS
    exact smI_g hS2 (w_writeRow q (shK hS rfl) (shK hS2 rfl)) (n_writeRow (fq_R (fq_1 (fq_0 h hc))) hs hr2) (rf_wrtM (Rf.rf _)) t6_wrtM trivial
  · exact smI_x hS (by decide) (wx_writeRow (x_writeRow hS hz hr) (shK hS rfl)) (t_writeRow (fq_R (fq_0 h (Cf.rf M))) hr) trivial

theorem sm_saveSnapshot (h : Frs M) (x1 : Int32) : SemI l jL_saveSnapshot jX7_saveSnapshot 8 161 1 6 4 [.ref 0, .int x1, .ref 212] [.ref 198, .int x1] M (fun _ => True) := by
  have hS := h.1
  have hz := f_z h
  by_cases hr : ¬ x1 < 0 ∧ x1 ≤ 1
  · obtain ⟨p, hp, rfl⟩ := nI_of2 (n := 1) (by decide) hr.1 hr.2
    have q := u_save (l := l) (q := p) hS (f_D h).2.2.2.2.2.2.2 (by omega)
    rw [hz] at q
    have hc : Cf M (svM M p) := cf_svM (by omega)
    have hS2 := hc.S hS
    exact smI_g hS2 (w_saveSnapshot q (shK hS rfl) (shK hS2 rfl)) (n_saveSnapshot (fq_R (fq_1 (fq_0 h hc))) (by omega)) (rf_saM (Rf.rf _)) t6_saM trivial
  · exact smI_x hS (by decide) (wx_saveSnapshot (x_save hS hr) (shK hS rfl)) (t_saveSnapshot hS hr) trivial

theorem fK_ok : ∀ q, q < 2 → ∀ s, s < 6 → FI.all (fun z => !Nat.beq z.1 (145 + 14 * q + 2 + 2 * s)) = true := by decide +kernel
theorem sm_restoreSnapshot (h : Frs M) (x1 : Int32) : SemI l jL_restoreSnapshot jX7_restoreSnapshot 8 191 1 6 4 [.ref 0, .int x1, .ref 212] [.ref 198, .int x1] M (fun _ => True) := by
  have hS := h.1
  have hz := f_z h
  by_cases hr : ¬ x1 < 0 ∧ x1 ≤ 1
  · obtain ⟨p, hp, rfl⟩ := nI_of2 (n := 1) (by decide) hr.1 hr.2
    have q := u_restore (l := l) (q := p) hS (fun s hs => Or.inl (by rw [f_0 h (fK_ok p (by omega) s hs)])) (by omega)
    have e0 : mI M 173 p = 0 := by rw [f_0 h (i := 173) (by decide +kernel)]
    rw [if_pos e0, if_pos e0] at q
    have hc : Cf M M := Cf.rf M
    exact smI_g hS (w_restoreSnapshot q (shK hS rfl) (shK hS rfl)) (o_restoreSnapshot (M := pL M 212 0 (-1 : Int32).toInt64) hS (by omega) (show mI M 203 p = 0 by rw [f_0 h (i := 203) (by decide +kernel)])) (rf_thr (Rf.rf _)) (t6_thr) trivial
  · exact smI_x hS (by decide) (wx_restoreSnapshot (x_restore hS hr) (shK hS rfl)) (t_restoreSnapshot hS hr) trivial

theorem sm_undo (h : Frs M)  : SemN l jX6_undo jX7_undo 3 120 4 160 [.ref 0] [.ref 198] M (fun _ => True) := by
  have hS := h.1
  have hz := f_z h
  exact ⟨-1, M, thr M 0, v_undo hS (by rw [h.2.1]; decide +kernel), t_undo hS (by rw [h.2.1]; decide +kernel), hS, (rf_thr (Rf.rf M)).S hS, trivial⟩

theorem sm_outputByte (h : Frs M) (x1 : Int32) : SemN l jX6_outputByte jX7_outputByte 0 0 4 160 [.ref 0, .int x1] [.ref 198, .int x1] M (fun _ => True) := by
  have hS := h.1
  have hz := f_z h
  have q := q_outputByte (l := l) (v := x1) (k := 0) hS (by rw [h.2.1]; decide +kernel) (by decide)
  rw [if_neg (nof x1)] at q
  have n := n_outputByte (l := l) (x := x1) (w := 0) hS (by rw [h.2.1]; decide +kernel) (by decide)
  rw [if_neg (nof x1)] at n
  exact ⟨-1, M, thr M 0, q, n, hS, (rf_thr (Rf.rf M)).S hS, trivial⟩

theorem sm_loadError (h : Frs M)  : SemN l jX6_loadError jX7_loadError 0 0 4 160 [.ref 0] [.ref 198] M (fun _ => True) := by
  have hS := h.1
  have hz := f_z h
  have q := q_loadErr (l := l) hS
  rw [show mI M 1 5 = 0 by rw [h.2.1]; decide +kernel] at q
  have n := n_loadErr (l := l) hS
  rw [show mI M 198 14 = 0 by rw [h.2.1]; decide +kernel] at n
  exact ⟨0, M, thr M 0, q, n, hS, (rf_thr (Rf.rf M)).S hS, trivial⟩

theorem sm_loadStatement (h : Frs M)  : SemN l jX6_loadStatement jX7_loadStatement 0 0 4 160 [.ref 0] [.ref 198] M (fun _ => True) := by
  have hS := h.1
  have hz := f_z h
  have q := q_loadStatement (l := l) hS
  rw [show mI M 1 5 = 0 by rw [h.2.1]; decide +kernel, if_pos rfl] at q
  have n := n_loadStatement (l := l) hS
  rw [show mI M 198 15 = -1 by rw [h.2.1]; decide +kernel] at n
  exact ⟨-1, M, thr M 0, q, n, hS, (rf_thr (Rf.rf M)).S hS, trivial⟩

theorem ap_n {len : Nat} {T : Nat → Int32} {x : Int64} : ∀ k, len + mrB x k ≤ 600 → (apL len T x k).1 = len + mrB x k
  | 0, _ => rfl
  | k + 1, h => by
    unfold apL
    unfold mrB at h ⊢
    by_cases e : bI x k = 0
    · rw [if_pos e] at h ⊢
      rw [if_pos e]
      exact ap_n k h
    · rw [if_neg e] at h ⊢
      rw [if_neg e, if_pos (by rw [ap_n k (by omega)]; omega)]
      show (apL len T x k).1 + 1 = _
      rw [ap_n k (by omega)]
      omega
theorem ap_V (M : Mem) {len : Nat} {x : Int64} : apV M len x = agV len x := by
  unfold apV agV
  rw [mrB_n]
  split
  · rfl
  · rw [ap_n 8 (by omega)]
theorem sm_append (h : Frs M) (x1 : Int64) : SemN l jX6_append jX7_append 1 30 4 160 [.ref 0, .long x1] [.ref 198, .long x1] M (fun _ => True) := by
  have hS := h.1
  have hz := f_z h
  have q := q_append (l := l) (x := x1) (len := 0) hS (by rw [h.2.1]; decide +kernel) (by decide)
  rw [ap_V] at q
  have hc : Cf M (apM M 0 x1) := cf_apM
  have hS2 := hc.S hS
  have hF := fq_0 h hc
  have n := n_append (l := l) (x := x1) (len := 0) hS2 (by rw [hF.2.2 198 (by decide)]; decide +kernel) (by decide)
  exact ⟨_, _, _, q, n, hS2, (rf_agE (Rf.rf _)).S hS2, trivial⟩

theorem z_rz : (rzS Z1 0 (0, 0, 0, 0, 0)).2.2.2.1 = 1 ∧ (rzS Z1 0 (0, 0, 0, 0, 0)).2.2.2.2 = 0 := by decide +kernel
theorem z_sz : (mvS Z1 0 (szS Z1 0 (0, 0, 0, 0, 0))).2.2.2.1 = 1 ∧ (mvS Z1 0 (szS Z1 0 (0, 0, 0, 0, 0))).2.2.2.2 = 0 := by decide +kernel
theorem sm_load (h : Frs M)  : SemN l jX6_load jX7_load 9 260 8 220 [.ref 0] [.ref 198] M (fun _ => True) := by
  have hS := h.1
  have hz := f_z h
  have q := u_load (l := l) (len := 0) hS (by rw [h.2.1]; decide +kernel) (by decide)
  have e2 : mI M 2 = Z1 := f_0 h (by decide +kernel)
  have e3 : mI M 1 3 = 0 := by rw [h.2.1]; decide +kernel
  have er : (riR M 0).2 = rzS Z1 0 (0, 0, 0, 0, 0) := by
    unfold riR
    rw [rsL.eq_1, e2, e3]
  have e0 : ¬ (riR M 0).2.2.2.2.1 = 0 := by
    rw [er, z_rz.1]
    decide
  rw [if_neg e0, if_neg e0, er, z_rz.2] at q
  have hc : Cf M (riM M 0) := cf_riM
  have hS2 := hc.S hS
  have hF := fq_0 h hc
  have n := n_load (l := l) (T := Z1) (len := 0) hS2 (fun i hi => absurd hi (Nat.not_lt_zero i)) (by rw [hF.2.2 198 (by decide)]; decide +kernel) (by decide)
  rw [show mI (riM M 0) 198 10 = 0 by rw [hF.2.2 198 (by decide)]; decide +kernel, show mI (riM M 0) 198 12 = 0 by rw [hF.2.2 198 (by decide)]; decide +kernel] at n
  have ew : ldV (lrN Z1 0 0 0) (lrR Z1 0 0 0 (mL (riM M 0) 200)).2 = -100 - 0 := by
    unfold lrR
    rw [gL.eq_1]
    unfold ldV
    show (if (mvS Z1 0 (szS Z1 0 (0, 0, 0, 0, 0))).2.2.2.1 = 0 then _ else -100 - (mvS Z1 0 (szS Z1 0 (0, 0, 0, 0, 0))).2.2.2.2) = _
    rw [z_sz.1, z_sz.2, if_neg (by decide)]
  rw [ew] at n
  exact ⟨_, _, _, q, n, hS2, (rf_ldE (Rf.rf _)).S hS2, trivial⟩

end
