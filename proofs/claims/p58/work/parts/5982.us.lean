/-! calls that change, from the invariant to the invariant (598) -/
section
variable {l : Launch} {M : Mem} {n p c : Nat}
theorem sm_copy (h : IV M n p c) (x1 : Int32) (x2 : Int32) : SmI True l jL_copy jX7_copy 8 162 2 12 4 [.ref 0, .int x1, .int x2, .ref 212] [.ref 198, .int x1, .int x2] M Inv := by
  have hS := h.S
  have hz := h.z
  have hn := h.n32
  have hn1 := h.n1
  have hc8 := h.2.2.1.2.2.2.1
  by_cases hr : inR x1 6 ∧ inR x2 6
  · obtain ⟨s, hs, rfl⟩ := inR_of hr.1 (by decide)
    obtain ⟨t, ht, rfl⟩ := inR_of hr.2 (by decide)
    exact uStore h (fun N => hdM (k0M N c) 205 n (Am M s)) ht (Cu.rf _) (fun N hN => sr_X h (fun _ _ _ => rfl) (G199 (rqG (Or.inl rfl) N) hN)) (ic_X h (fun _ _ _ => rfl)) (X188 h rfl) (fun i hi => by rw [rem_m (by omega) (by omega) h.2.2.1.2.1]) (h.wf hs) (fun hS9 => w_copy (u_copy h.D hs ht) (shK hS rfl) (shK hS9 rfl)) (fun v a b _ => n_copy a b hc8 hs ht) (fun N => (rqG (Or.inl rfl) N).ru) (fun N => t6_hdM t6_k0M)
  · exact xI h (by decide) (wx_copy (x_copy hS hr) (shK hS rfl)) (t_copy h.R hr)

theorem sm_transpose (h : IV M n p c) (x1 : Int32) (x2 : Int32) : SmI True l jL_transpose jX7_transpose 8 163 2 12 4 [.ref 0, .int x1, .int x2, .ref 212] [.ref 198, .int x1, .int x2] M Inv := by
  have hS := h.S
  have hz := h.z
  have hn := h.n32
  have hn1 := h.n1
  have hc8 := h.2.2.1.2.2.2.1
  by_cases hr : inR x1 6 ∧ inR x2 6
  · obtain ⟨s, hs, rfl⟩ := inR_of hr.1 (by decide)
    obtain ⟨t, ht, rfl⟩ := inR_of hr.2 (by decide)
    exact uMk h ht (fun _ _ => rfl) (wf_col hn) (fun hS9 => w_transpose (u_transpose h.D hs ht) (shK hS rfl) (shK hS9 rfl)) (fun v a b _ => n_transpose a b hc8 hs ht)
  · exact xI h (by decide) (wx_transpose (x_transpose hS hr) (shK hS rfl)) (t_transpose h.R hr)

theorem sm_combine (h : IV M n p c) (x1 : Int32) (x2 : Int32) (x3 : Int32) (x4 : Int32) : SmI True l jL_combine jX7_combine 8 165 4 24 4 [.ref 0, .int x1, .int x2, .int x3, .int x4, .ref 212] [.ref 198, .int x1, .int x2, .int x3, .int x4] M Inv := by
  have hS := h.S
  have hz := h.z
  have hn := h.n32
  have hn1 := h.n1
  have hc8 := h.2.2.1.2.2.2.1
  by_cases hr : inR x1 6 ∧ inR x2 6 ∧ inR x3 6
  · obtain ⟨a, ha, rfl⟩ := inR_of hr.1 (by decide)
    obtain ⟨b, hb9, rfl⟩ := inR_of hr.2.1 (by decide)
    obtain ⟨t, ht, rfl⟩ := inR_of hr.2.2 (by decide)
    by_cases h4 : ¬ x4 < 0 ∧ x4 ≤ 3
    · obtain ⟨w9, hw9, rfl⟩ := nI_of2 (n := 3) (by decide) h4.1 h4.2
      exact uMk h ht (fun _ _ => rfl) (wf_comb (h.wf ha) (h.wf hb9)) (fun hS9 => w_combine (u_combine h.D ha hb9 ht (by omega)) (shK hS rfl) (shK hS9 rfl)) (fun v a9 b9 _ => n_combine a9 b9 hc8 ha hb9 ht (by omega))
    · exact xI h (by decide) (wy_combine (y_combine hS hr.1 hr.2.1 hr.2.2 h4) (shK hS rfl)) (u_combine' h.R hr.1 hr.2.1 hr.2.2 h4)
  · exact xI h (by decide) (wx_combine (x_combine hS hr) (shK hS rfl)) (t_combine h.R hr)

theorem sm_exchange (h : IV M n p c) (x1 : Int32) (x2 : Int32) (x3 : Int32) : SmI True l jL_exchange jX7_exchange 10 187 3 18 4 [.ref 0, .int x1, .int x2, .int x3, .ref 212] [.ref 198, .int x1, .int x2, .int x3] M Inv := by
  have hS := h.S
  have hz := h.z
  have hn := h.n32
  have hn1 := h.n1
  have hc8 := h.2.2.1.2.2.2.1
  by_cases hr : inR x1 6 ∧ inR x2 n ∧ inR x3 n
  · obtain ⟨t, ht, rfl⟩ := inR_of hr.1 (by decide)
    obtain ⟨a, ha, rfl⟩ := inR_of hr.2.1 (by omega)
    obtain ⟨b, hb9, rfl⟩ := inR_of hr.2.2 (by omega)
    exact uMkV (g := exF (mI M (6 + 2 * t)) a b) (f := exF (Am M t) a b) (w := exC (mI M (6 + 2 * t)) a b n) (w' := exC (Am M t) a b n) h ht (fun _ _ => rfl) (wf_ex (h.wf ht) ha hb9 hn) (fun hS9 => w_exchange (u_exchange h.D ht ha hb9) (shK hS rfl) (shK hS9 rfl)) (fun v a9 b9 _ => n_exchange a9 b9 hc8 ht ha hb9) (fun _ => rfl)
  · exact xI h (by decide) (wx_exchange (x_exchange hS hz hr) (shK hS rfl)) (t_exchange h.R hr)

theorem clR (h : IV M n p c) {s : Nat} (hs : s < 6) : (∀ r, r < n → mI (clOf (remM M p c) s n) (175 + 2 * s + 1) r = wOut (Am M s) n n r) ∧ IC (clOf (remM M p c) s n) n ∧ Cu (remM M p c) (clOf (remM M p c) s n) := by
  have hp := h.2.2.1.2.1
  have hR := ic_X h (X := remM M p c) (fun _ _ _ => rfl)
  have e6 : ∀ t, t < 6 → mI (remM M p c) (6 + 2 * t) = mI M (6 + 2 * t) := fun t ht => rem_m (by omega) (by omega) hp
  have hcu : Cu (remM M p c) (clOf (remM M p c) s n) := (cq_clOf hs).cu
  have e7 : Am M s = mI (remM M p c) (6 + 2 * s) := (e6 s hs).symm
  rw [e7]
  generalize remM M p c = R at *
  have k1 : ∀ r, r < n → mI (clOf R s n) (175 + 2 * s + 1) r = wOut (mI R (6 + 2 * s)) n n r := fun r hr => by
    rw [show 175 + 2 * s + 1 = 176 + 2 * s by omega]
    by_cases h0 : mI R (175 + 2 * s) 1 = 0
    · rw [cl_self hs h0]
      exact wO_cg (fun i hi => wr_lt hi) n (Nat.le_refl n) r hr
    · unfold clOf
      rw [if_neg h0]
      exact hR s hs h0 r hr
  refine ⟨k1, fun t ht h1 r hr => ?_, hcu⟩
  rw [cl_ne (i := 6 + 2 * t) (by omega) (by omega)]
  by_cases e : t = s
  · subst e
    rw [show 176 + 2 * t = 175 + 2 * t + 1 by omega]
    exact k1 r hr
  · rw [cl_ne (by omega) (by omega)]
    rw [cl_ne (by omega) (by omega)] at h1
    exact hR t ht h1 r hr
theorem sm_close (h : IV M n p c) (x1 : Int32) (x2 : Int32) : SmI True l jL_close jX7_close 8 162 2 12 4 [.ref 0, .int x1, .int x2, .ref 212] [.ref 198, .int x1, .int x2] M Inv := by
  have hS := h.S
  have hz := h.z
  have hn := h.n32
  have hn1 := h.n1
  have hc8 := h.2.2.1.2.2.2.1
  by_cases hr : inR x1 6 ∧ inR x2 6
  · obtain ⟨s, hs, rfl⟩ := inR_of hr.1 (by decide)
    obtain ⟨t, ht, rfl⟩ := inR_of hr.2 (by decide)
    obtain ⟨k1, k2, k3⟩ := clR h hs
    exact uStore h (fun N => hdM (k0M N c) 205 n (wOut (Am M s) n n)) ht k3 (fun N hN => sr_X h (fun i a b => cl_ne (by omega) (by omega)) (G199 (rqG (Or.inl rfl) N) hN)) k2 (X188 h (cl_ne (by omega) (by omega))) k1 (wO_n (h.wf hs)) (fun hS9 => w_close (u_close h.D hs ht) (shK hS rfl) (shK hS9 rfl)) (fun v a b _ => n_close a b hc8 hs ht) (fun N => (rqG (Or.inl rfl) N).ru) (fun N => t6_hdM t6_k0M)
  · exact xI h (by decide) (wx_close (x_close hS hr) (shK hS rfl)) (t_close h.R hr)

end
