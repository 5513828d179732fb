/-! calls on a new desk beside a new reference (594) -/
section
variable {l : Launch} {M : Mem}
theorem rm_0 (h : Frs M) {i : Nat} (h0 : i ≠ 0) (h1 : i < 32 ∨ 144 ≤ i) : mI (remM M 0 0) i = mI M i := remM_ne (by decide) h0 h1
theorem rm_cl (h : Frs M) {s : Nat} (hs : s < 6) : mI (clOf (remM M 0 0) s 8) (175 + 2 * s + 1) = Z1 :=
  cl_new (by rw [rm_0 h (by omega) (by omega), f_cl0 h hs]) (by rw [rm_0 h (by omega) (by omega), f_cl1 h hs]) (by rw [rm_0 h (by omega) (by omega), f_rows h hs])
theorem k01_b (b : Bool) : k01 (b1 b) := by
  cases b
  · exact Or.inl rfl
  · exact Or.inr rfl
theorem sm_put (h : Frs M) (x1 : Int32) (x2 : Int32) (x3 : Int32) (x4 : Bool) : SemI l jL_put jX7_put 10 187 3 18 4 [.ref 0, .int x1, .int x2, .int x3, .int (b1 x4), .ref 212] [.ref 198, .int x1, .int x2, .int x3, .int (b1 x4)] M (fun _ => True) := by
  have hS := h.1
  have hz := f_z h
  by_cases hr : inR x1 6 ∧ inR x2 8 ∧ inR x3 8
  · obtain ⟨s, hs, rfl⟩ := inR_of hr.1 (by decide)
    obtain ⟨a, ha, rfl⟩ := inR_of hr.2.1 (by decide)
    obtain ⟨b, hb9, rfl⟩ := inR_of hr.2.2 (by decide)
    have q := u_put (l := l) (f_D h) hs ha hb9 (k01_b x4)
    have eR : mI (remM M 0 0) (6 + 2 * s) = Z1 := by rw [rm_0 h (by omega) (by omega), f_rows h hs]
    have hc : Cf M (ptM (remM M 0 0) s a b 8 (b1 x4)) := (cf_remM (by decide)).tr (cf_ptM hs)
    have hS2 := hc.S hS
    cases x4
    · have ev : ptV (remM M 0 0) s a b 8 (b1 false) = 0 := by
        unfold ptV
        rw [eR, hb_0, if_pos rfl]
      rw [ev] at q
      exact smI_g hS2 (w_put q (shK hS rfl) (shK hS2 rfl)) (o_put (b := false) (fq_R (fq_1 (fq_0 h hc))) (fq_c (fq_1 (fq_0 h hc))) (by decide) hs ha hb9 (hb_0 _)) (rf_lkM (rf_k0M (Rf.rf _))) (t6_lkM t6_k0M) trivial
    · have eg : mI (ptF (remM M 0 0) s a b 8) (175 + 2 * s + 1) = Z1 := by
        unfold ptF
        rw [sI_ne (by omega), mxLook_ne (by omega), rm_cl h hs]
      have ev : ptV (remM M 0 0) s a b 8 (b1 true) = 1 := by
        unfold ptV
        rw [eR, hb_0, if_neg (by decide), if_neg (by decide), eg]
        unfold ptN
        rw [rm_cl h hs, z_gn a ha b hb9]
      rw [ev] at q
      have n := n_put (l := l) (b := true) (fq_R (fq_1 (v := (1 : Int32).toInt64) (fq_0 h hc))) (fq_c (fq_1 (fq_0 h hc))) (by decide) hs ha hb9 (by rw [hb_0]; decide)
      rw [show wOut (tnF (Z2 s) a b) 8 8 = tnF Z1 a b from z_tn ha hb9, show wOut (Z2 s) 8 8 = Z1 from wO_z 8 8, (z_pT0 a ha b hb9).2] at n
      exact smI_g hS2 (w_put q (shK hS rfl) (shK hS2 rfl)) n (rf_rpM (Rf.rf _)) t6_rpM trivial
  · exact smI_x hS (by decide) (wx_put (x_put hS hz hr) (shK hS rfl)) (t_put (fq_R (fq_0 h (Cf.rf M))) hr) trivial

theorem sm_setRow (h : Frs M) (x1 : Int32) (x2 : Int32) (x3 : Int64) : SemI l jL_setRow jX7_setRow 9 176 2 12 4 [.ref 0, .int x1, .int x2, .long x3, .ref 212] [.ref 198, .int x1, .int x2, .long x3] M (fun _ => True) := by
  have hS := h.1
  have hz := f_z h
  by_cases hr : inR x1 6 ∧ inR x2 8
  · obtain ⟨s, hs, rfl⟩ := inR_of hr.1 (by decide)
    obtain ⟨r, hr2, rfl⟩ := inR_of hr.2 (by decide)
    have q := u_setRow (l := l) (x := x3) (f_D h) hs hr2
    unfold swV at q
    rw [f_rows h hs, show (x3.toInt32 &&& lowM 8) ^^^ Z1 r = Z2 s r ^^^ (x3.toInt32 &&& lowM 8) from Int32.xor_comm _ _] at q
    have hc : Cf M (swM M s r 8 0 0 x3) := cf_swM (by decide) hs
    have hS2 := hc.S hS
    exact smI_g hS2 (w_setRow q (shK hS rfl) (shK hS2 rfl)) (n_setRow (fq_R (fq_1 (fq_0 h hc))) (fq_c (fq_1 (fq_0 h hc))) (by decide) hs hr2) (rf_anM (rf_srM (rf_k0M (Rf.rf _)))) (t6_anM (t6_srM t6_k0M)) trivial
  · exact smI_x hS (by decide) (wx_setRow (x_setRow hS hz hr) (shK hS rfl)) (t_setRow (fq_R (fq_0 h (Cf.rf M))) hr) trivial

theorem sm_copy (h : Frs M) (x1 : Int32) (x2 : Int32) : SemI l jL_copy jX7_copy 8 162 2 12 4 [.ref 0, .int x1, .int x2, .ref 212] [.ref 198, .int x1, .int x2] M (fun _ => True) := by
  have hS := h.1
  have hz := f_z h
  by_cases hr : inR x1 6 ∧ inR x2 6
  · obtain ⟨s, hs, rfl⟩ := inR_of hr.1 (by decide)
    obtain ⟨t, ht, rfl⟩ := inR_of hr.2 (by decide)
    have q := u_copy (l := l) (f_D h) hs ht
    rw [stV_eq ht, rm_0 h (by omega) (by omega), f_rows h hs] at q
    have hc : Cf M (storeM (remM M 0 0) (6 + 2 * s) t 8) := (cf_remM (by decide)).tr (cf_storeM ht)
    have hS2 := hc.S hS
    exact smI_g hS2 (w_copy q (shK hS rfl) (shK hS2 rfl)) (n_copy (fq_R (fq_1 (fq_0 h hc))) (fq_c (fq_1 (fq_0 h hc))) (by decide) hs ht) (rf_lsM (rf_hdM (by decide) (rf_k0M (Rf.rf _)))) (t6_lsM (t6_hdM t6_k0M)) trivial
  · exact smI_x hS (by decide) (wx_copy (x_copy hS hr) (shK hS rfl)) (t_copy (fq_R (fq_0 h (Cf.rf M))) hr) trivial

theorem sm_transpose (h : Frs M) (x1 : Int32) (x2 : Int32) : SemI l jL_transpose jX7_transpose 8 163 2 12 4 [.ref 0, .int x1, .int x2, .ref 212] [.ref 198, .int x1, .int x2] M (fun _ => True) := by
  have hS := h.1
  have hz := f_z h
  by_cases hr : inR x1 6 ∧ inR x2 6
  · obtain ⟨s, hs, rfl⟩ := inR_of hr.1 (by decide)
    obtain ⟨t, ht, rfl⟩ := inR_of hr.2 (by decide)
    have q := u_transpose (l := l) (f_D h) hs ht
    rw [mk_V ht, f_rows h hs] at q
    have hc : Cf M (storeM (mkM (remM M 0 0) (fun k => colOf Z1 k 8) 8) 195 t 8) := ((cf_remM (by decide)).tr cf_mkM).tr (cf_storeM ht)
    have hS2 := hc.S hS
    exact smI_g hS2 (w_transpose q (shK hS rfl) (shK hS2 rfl)) (n_transpose (fq_R (fq_1 (fq_0 h hc))) (fq_c (fq_1 (fq_0 h hc))) (by decide) hs ht) (rf_lsM (rf_hdM (by decide) (rf_k0M (Rf.rf _)))) (t6_lsM (t6_hdM t6_k0M)) trivial
  · exact smI_x hS (by decide) (wx_transpose (x_transpose hS hr) (shK hS rfl)) (t_transpose (fq_R (fq_0 h (Cf.rf M))) hr) trivial

theorem sm_combine (h : Frs M) (x1 : Int32) (x2 : Int32) (x3 : Int32) (x4 : Int32) : SemI l jL_combine jX7_combine 8 165 4 24 4 [.ref 0, .int x1, .int x2, .int x3, .int x4, .ref 212] [.ref 198, .int x1, .int x2, .int x3, .int x4] M (fun _ => True) := by
  have hS := h.1
  have hz := f_z h
  by_cases hr : inR x1 6 ∧ inR x2 6 ∧ inR x3 6
  · by_cases h4 : ¬ x4 < 0 ∧ x4 ≤ 3
    · obtain ⟨a, ha, rfl⟩ := inR_of hr.1 (by decide)
      obtain ⟨b, hb9, rfl⟩ := inR_of hr.2.1 (by decide)
      obtain ⟨t, ht, rfl⟩ := inR_of hr.2.2 (by decide)
      obtain ⟨w9, hw9, rfl⟩ := nI_of2 (n := 3) (by decide) h4.1 h4.2
      have q := u_combine (l := l) (how := w9) (f_D h) ha hb9 ht (by omega)
      rw [mk_V ht, f_rows h ha, f_rows h hb9] at q
      have hc : Cf M (storeM (mkM (remM M 0 0) (fun k => comb (Z1 k) (Z1 k) w9) 8) 195 t 8) := ((cf_remM (by decide)).tr cf_mkM).tr (cf_storeM ht)
      have hS2 := hc.S hS
      exact smI_g hS2 (w_combine q (shK hS rfl) (shK hS2 rfl)) (n_combine (fq_R (fq_1 (fq_0 h hc))) (fq_c (fq_1 (fq_0 h hc))) (by decide) ha hb9 ht (by omega)) (rf_lsM (rf_hdM (by decide) (rf_k0M (Rf.rf _)))) (t6_lsM (t6_hdM t6_k0M)) trivial
    · exact smI_x hS (by decide) (wy_combine (y_combine hS hr.1 hr.2.1 hr.2.2 h4) (shK hS rfl)) (u_combine' (fq_R (fq_0 h (Cf.rf M))) hr.1 hr.2.1 hr.2.2 h4) trivial
  · exact smI_x hS (by decide) (wx_combine (x_combine hS hr) (shK hS rfl)) (t_combine (fq_R (fq_0 h (Cf.rf M))) hr) trivial

theorem pI_at9 (M : Mem) (i k : Nat) (x : Int32) : mI (pI M i k x) i k = x := by
  show fun_set (mI M) i (fun_set (mI M i) k x) i k = x
  unfold fun_set
  rw [if_pos rfl, if_pos rfl]
theorem pr_V {R : Mem} {a b t n bl : Nat} {fl : Bool} (ha : a < 6) (hb9 : b < 6) (ht : t < 6) (h0 : mI R 188 0 = 0) (hb1 : 1 ≤ bl) (hb8 : bl ≤ 8) (hn : n ≤ 32) : stV (prM R a b n bl (b1 fl)) 195 t n = onesF (mlF fl (mI R (6 + 2 * a)) (mI R (6 + 2 * b)) n) n := by
  rw [stV_eq ht]
  refine on_cg (fun r hr => ?_)
  have e5 : mI (begMem R (b1 fl)) 187 5 = b1 fl := by
    unfold begMem
    exact pI_at9 _ _ _ _
  obtain ⟨-, h2, -, -⟩ := mul_all (fl := fl) (a := mI R (6 + 2 * a)) (b := mI R (6 + 2 * b)) (g := mI R 195) h0 hb1 hb8 hn
  rw [← h2 r hr]
  unfold prM workM
  rw [show ∀ X : Mem, mI (pI (pI X 3 3 (mI X 187 6)) 3 4 (mI X 187 7)) 195 = mI X 195 from fun X => by rw [sI_ne (by decide), sI_ne (by decide)]]
  unfold mulMem
  rw [sI_ne (by decide), sI_self]
  unfold mulEnd
  rw [e5, begMem_ne (by omega), begMem_ne (by omega), begMem_ne (by decide), begMem_ne (by decide)]
theorem rs_C {M : Mem} {s : RS} : mI (rsMem M s) (rsP s) = rsC s := by
  obtain ⟨F, tb, p, o, m1, m2⟩ := s
  cases F
  · show mI (sI (sI (sI (sI M 188 tb) 189 p) 190 o) 187 (fun_set (fun_set (mI M 187) 6 m1) 7 m2)) 189 = p
    rw [sI_ne (by decide), sI_ne (by decide), sI_self]
  · show mI (sI (sI (sI (sI M 188 tb) 189 p) 190 o) 187 (fun_set (fun_set (mI M 187) 6 m1) 7 m2)) 190 = o
    rw [sI_ne (by decide), sI_self]
theorem pw_V {R M1 : Mem} {s t n bl m : Nat} {fl : Bool} {g : Nat → Int32} (hs : s < 6) (ht : t < 6) (h0 : mI R 188 0 = 0) (hb1 : 1 ≤ bl) (hb8 : bl ≤ 8) (hn : n ≤ 32) (hm : m ≤ 1000000) (hg : ∀ r, r < n → mI R (6 + 2 * s) r = g r) : stV (pwM R s n bl (b1 fl) (nI m)) (rsP (pwE R s n bl (b1 fl) (nI m))) t n = onesF (pqE M1 g fl n bl (nI m)).1 n := by
  rw [stV_eq ht]
  have e5 : mI (begMem R (b1 fl)) 187 5 = b1 fl := by
    unfold begMem
    exact pI_at9 _ _ _ _
  have h1 := pwR_all (fl := fl) (bl := bl) (base := mI R (6 + 2 * s)) (s0 := rs0 (begMem R (b1 fl)) n) (q0 := pwS M1) hm ⟨by
    show mI (begMem R (b1 fl)) 188 0 = 0
    rw [begMem_ne (by decide)]
    exact h0, fun r hr => wr_lt hr, fun h9 => h9.elim⟩ hb1 hb8 hn hg
  have e6 : pwE R s n bl (b1 fl) (nI m) = rsIt (b1 fl) n bl (mI R (6 + 2 * s)) (nI m) (rs0 (begMem R (b1 fl)) n) 20 := by
    unfold pwE raiseEnd
    rw [e5, begMem_ne (by omega)]
  rw [← e6] at h1
  refine on_cg (fun r hr => ?_)
  rw [show (pqE M1 g fl n bl (nI m)).1 r = (pwL g fl n bl (nI m) (hiB (nI m) 21) (pwS M1)).1 r from rfl, ← h1.2.1 r hr, ← rs_C (M := begMem R (b1 fl))]
  have hp := (rs_ids (pwE R s n bl (b1 fl) (nI m))).1
  unfold pwM
  generalize pwE R s n bl (b1 fl) (nI m) = e at *
  have hp3 : rsP e ≠ 3 := by omega
  split
  · unfold workM
    rw [show ∀ X : Mem, mI (pI (pI X 3 3 (mI X 187 6)) 3 4 (mI X 187 7)) (rsP e) = mI X (rsP e) from fun X => by rw [sI_ne hp3, sI_ne hp3]]
  · rfl
theorem rm_188 (h : Frs M) : mI (remM M 0 0) 188 0 = 0 := by rw [rm_0 h (by decide) (by decide), f_0 h (i := 188) (by decide +kernel)]
theorem sm_product (h : Frs M) (x1 : Int32) (x2 : Int32) (x3 : Int32) (x4 : Bool) : SemI l jL_product jX7_product 8 164 3 18 4 [.ref 0, .int x1, .int x2, .int x3, .int (b1 x4), .ref 212] [.ref 198, .int x1, .int x2, .int x3, .int (b1 x4)] M (fun _ => True) := by
  have hS := h.1
  have hz := f_z h
  by_cases hr : inR x1 6 ∧ inR x2 6 ∧ inR x3 6
  · obtain ⟨a, ha, rfl⟩ := inR_of hr.1 (by decide)
    obtain ⟨b, hb9, rfl⟩ := inR_of hr.2.1 (by decide)
    obtain ⟨t, ht, rfl⟩ := inR_of hr.2.2 (by decide)
    have q := u_product (l := l) (bl := 4) (f_D h) (f_bl h) (by decide) (by decide) ha hb9 ht (k01_b x4)
    rw [pr_V ha hb9 ht (rm_188 h) (by decide) (by decide) (by decide), rm_0 h (by omega) (by omega), rm_0 h (by omega) (by omega), f_rows h ha, f_rows h hb9] at q
    have hc : Cf M (storeM (prM (remM M 0 0) a b 8 4 (b1 x4)) 195 t 8) := ((cf_remM (by decide)).tr cf_prM).tr (cf_storeM ht)
    have hS2 := hc.S hS
    exact smI_g hS2 (w_product q (shK hS rfl) (shK hS2 rfl)) (n_product (fq_R (fq_1 (fq_0 h hc))) (fq_c (fq_1 (fq_0 h hc))) (by decide) (fq_bl (fq_1 (fq_0 h hc))) (by decide) (by decide) ha hb9 ht) (rf_pdM (Rf.rf _)) t6_pdM trivial
  · exact smI_x hS (by decide) (wx_product (x_product hS hr) (shK hS rfl)) (t_product (fq_R (fq_0 h (Cf.rf M))) hr) trivial

theorem sm_power (h : Frs M) (x1 : Int32) (x2 : Int32) (x3 : Int32) (x4 : Bool) : SemI l jL_power jX7_power 8 165 4 24 4 [.ref 0, .int x1, .int x2, .int x3, .int (b1 x4), .ref 212] [.ref 198, .int x1, .int x2, .int x3, .int (b1 x4)] M (fun _ => True) := by
  have hS := h.1
  have hz := f_z h
  by_cases hr : inR x1 6 ∧ inR x3 6
  · by_cases h4 : ¬ x2 < 0 ∧ x2 ≤ 1000000
    · obtain ⟨s, hs, rfl⟩ := inR_of hr.1 (by decide)
      obtain ⟨t, ht, rfl⟩ := inR_of hr.2 (by decide)
      obtain ⟨m, hm, rfl⟩ := nI_of2 (n := 1000000) (by decide) h4.1 h4.2
      have q := u_power (l := l) (bl := 4) (f_D h) (f_bl h) (by decide) (by decide) hs ht (k01_b x4) h4.1 h4.2
      have hc : Cf M (storeM (pwM (remM M 0 0) s 8 4 (b1 x4) (nI m)) (rsP (pwE (remM M 0 0) s 8 4 (b1 x4) (nI m))) t 8) := ((cf_remM (by decide)).tr cf_pwM).tr (cf_storeM ht)
      have hS2 := hc.S hS
      rw [pw_V (M1 := M) (g := Z2 s) hs ht (rm_188 h) (by decide) (by decide) (by decide) hm (fun r _ => by rw [rm_0 h (by omega) (by omega), f_rows h hs])] at q
      have n := fun M9 (hF9 : Fq M9) (e9 : pwS M9 = pwS M) => (by
        have n3 := n_power (l := l) (t := t) (x := nI m) (fl := x4) (fq_R hF9) (fq_c hF9) (by decide) (fq_bl hF9) (by decide) (by decide) hs ht h4
        rw [show pqE M9 (Z2 s) x4 8 4 (nI m) = pqE M (Z2 s) x4 8 4 (nI m) by unfold pqE; rw [e9]] at n3
        exact n3)
      refine smI_g hS2 (w_power q (shK hS rfl) (shK hS2 rfl)) (n _ (fq_1 (fq_0 h hc)) ?_) (rf_pwZ (Rf.rf _)) t6_pwZ trivial
      unfold pwS
      rw [show ∀ (X : Mem) (v : Int64) (i : Nat), i ≠ 212 → mL (pL X 212 0 v) i = mL X i from fun X v i hi => sL_ne9 hi, show ∀ (X : Mem) (v : Int64), mL (pL X 212 0 v) 207 = mL X 207 from fun X v => sL_ne9 (by decide), hc.L]
      decide
    · exact smI_x hS (by decide) (wy_power (y_power hS hr.1 hr.2 h4) (shK hS rfl)) (u_power' (fq_R (fq_0 h (Cf.rf M))) hr.1 hr.2 h4) trivial
  · exact smI_x hS (by decide) (wx_power (x_power hS hr) (shK hS rfl)) (t_power (fq_R (fq_0 h (Cf.rf M))) hr) trivial

end
