/-! calls that change, from the invariant to the invariant (5985) -/
section
variable {l : Launch} {M : Mem} {n p c : Nat}
theorem Ru.rf (K : Mem) : Ru K K := (Rq.rf K).ru
theorem t6_pqM {N : Mem} {s : PW} (h : t6 N) : t6 (pqM N n s) := by
  unfold pqM
  exact t6_hdM (t6_sL (t6_sL (t6_sL h)))
theorem ml_z {fl : Bool} {g : Nat → Int32} {x : Int32} (hg : wfr n g) {i : Nat} (hi : n ≤ i) : ∀ k, k ≤ n → hb (mlI fl g x k) i = false
  | 0, _ => hb_0 i
  | k + 1, hk => by
    have h1 := ml_z (fl := fl) (x := x) hg hi k (by omega)
    have h2 : hb (if hb x k = true then g k else 0) i = false := by
      split
      · exact hg k (by omega) i hi
      · exact hb_0 i
    unfold mlI jn
    split
    · rw [hb_or, h1, h2]
      rfl
    · rw [hb_xor, h1, h2]
      rfl
theorem wf_ml {fl : Bool} {f g : Nat → Int32} (hg : wfr n g) : wfr n (mlF fl f g n) := fun r _ c hc => ml_z hg hc n (Nat.le_refl n)
theorem wf_pwL {fl : Bool} {g : Nat → Int32} {bl : Nat} {x : Int32} (hg : wfr n g) : ∀ k (s : PW), wfr n s.1 → wfr n (pwL g fl n bl x k s).1
  | 0, _, h => h
  | k + 1, s, h => wf_pwL hg k _ (by
    unfold pwB
    split
    · exact wf_ml hg
    · exact wf_ml h)
theorem wf_pq {K : Mem} {fl : Bool} {g : Nat → Int32} {bl : Nat} {x : Int32} (hg : wfr n g) (hn : n ≤ 32) : wfr n (pqE K g fl n bl x).1 := wf_pwL hg _ _ (fun r hr c hc => by
  show hb (bitI r) c = false
  rw [hb_bitI (by omega), decide_eq_false (by omega)])
theorem bl_ok (h : IV M n p c) : ∃ bl, 1 ≤ bl ∧ bl ≤ 8 ∧ mI M 3 2 = nI bl ∧ mL M 199 1 = lN bl := h.2.1.2.1
theorem sm_product (h : IV M n p c) (x1 : Int32) (x2 : Int32) (x3 : Int32) (x4 : Bool) : SmI True l jL_product jX7_product 8 164 3 18 4 [.ref 0, .int x1, .int x2, .int x3, .int (b1 x4), .ref 212] [.ref 198, .int x1, .int x2, .int x3, .int (b1 x4)] M Inv := by
  have hS := h.S
  have hz := h.z
  have hn := h.n32
  have hn1 := h.n1
  have hc8 := h.2.2.1.2.2.2.1
  by_cases hr : inR x1 6 ∧ inR x2 6 ∧ inR x3 6
  · obtain ⟨a, ha, rfl⟩ := inR_of hr.1 (by decide)
    obtain ⟨b, hb9, rfl⟩ := inR_of hr.2.1 (by decide)
    obtain ⟨t, ht, rfl⟩ := inR_of hr.2.2 (by decide)
    obtain ⟨bl, bl1, bl8, bl2, bl3⟩ := bl_ok h
    have hp := h.2.2.1.2.1
    have ea : mI (remM M p c) (6 + 2 * a) = mI M (6 + 2 * a) := rem_m (by omega) (by omega) hp
    have eb : mI (remM M p c) (6 + 2 * b) = mI M (6 + 2 * b) := rem_m (by omega) (by omega) hp
    have e188 : mI (remM M p c) 188 0 = 0 := X188 h rfl
    obtain ⟨q1, q2, q3, q4, q5, q6⟩ := pr_X (fl := x4) ha hb9 e188 bl1 bl8 hn
    rw [ea] at q3
    rw [ea, eb] at q6
    have hu := u_product (l := l) (f := b1 x4) h.D bl2 bl1 bl8 ha hb9 ht (k01_b x4)
    have hcu : Cu (remM M p c) (prM (remM M p c) a b n bl (b1 x4)) := ⟨cf_prM, fun i hi => q5 i (by omega) (by omega) (by omega) (by omega)⟩
    generalize prM (remM M p c) a b n bl (b1 x4) = X at *
    refine uStore h (f := mlF x4 (Am M a) (Am M b) n) (fun N => muM (hdM (hdM (k0M N c) 205 n (Am M a)) 206 n (Am M b)) x4 (Am M a) (Am M b) n bl) ht hcu (fun N hN => ?_) (ic_X h (fun i a9 b9 => q5 i (by omega) ?_ ?_ ?_)) q1 q6 (wf_ml (h.wf hb9)) (fun hS9 => w_product hu (shK hS rfl) (shK hS9 rfl)) (fun v a9 b9 c9 => n_product a9 b9 hc8 (by rw [c9]; exact bl3) bl1 bl8 ha hb9 ht) (fun N => ru_muM (ru_hdM (Or.inr (Or.inl rfl)) (ru_hdM (Or.inl rfl) (Ru.rf _)))) (fun N => t6_muM (t6_hdM (t6_hdM t6_k0M)))
    · rw [mu_9, hdM_ne (by decide), hdM_ne (by decide), k0_L (by decide), hN]
      exact SR_ct (sr_X h (X := remM M p c) (fun _ _ _ => rfl) rfl) q2 q3 (q4 1 (by decide) (by decide)) (q4 2 (by decide) (by decide)) (fun i a9 b9 => q5 i (by omega) (by omega) (by omega) (by omega))
    all_goals omega
  · exact xI h (by decide) (wx_product (x_product hS hr) (shK hS rfl)) (t_product h.R hr)

theorem sm_power (h : IV M n p c) (x1 : Int32) (x2 : Int32) (x3 : Int32) (x4 : Bool) : SmI True l jL_power jX7_power 8 165 4 24 4 [.ref 0, .int x1, .int x2, .int x3, .int (b1 x4), .ref 212] [.ref 198, .int x1, .int x2, .int x3, .int (b1 x4)] M Inv := by
  have hS := h.S
  have hz := h.z
  have hn := h.n32
  have hn1 := h.n1
  have hc8 := h.2.2.1.2.2.2.1
  by_cases hr : inR x1 6 ∧ inR x3 6
  · by_cases h4 : ¬ x2 < 0 ∧ x2 ≤ 1000000
    · obtain ⟨s, hs, rfl⟩ := inR_of hr.1 (by decide)
      obtain ⟨t, ht, rfl⟩ := inR_of hr.2 (by decide)
      obtain ⟨m, hm, rfl⟩ := nI_of2 (M := 1000000) (n := 1000000) (by decide) h4.1 h4.2
      obtain ⟨bl, bl1, bl8, bl2, bl3⟩ := bl_ok h
      have hp := h.2.2.1.2.1
      have e6 : mI (remM M p c) (6 + 2 * s) = mI M (6 + 2 * s) := rem_m (by omega) (by omega) hp
      have e188 : mI (remM M p c) 188 0 = 0 := X188 h rfl
      obtain ⟨q1, q2, q3, q4, q5⟩ := pw_X (K := M) (fl := x4) (g := Am M s) hs e188 bl1 bl8 hn (show m ≤ 1000000 by omega) (fun r hr => by rw [e6]) (sr_X h (X := remM M p c) (fun _ _ _ => rfl) rfl) rfl
      have hu := u_power (l := l) (f := b1 x4) (x := nI m) h.D bl2 bl1 bl8 hs ht (k01_b x4) h4.1 h4.2
      have hcf : ∀ r0, Cf M (storeM (pwM (remM M p c) s n bl (b1 x4) (nI m)) r0 t n) := fun r0 => (cf_remM hp).tr (cu_storeM ht q5).1
      generalize pwM (remM M p c) s n bl (b1 x4) (nI m) = X at *
      generalize rsP (pwE (remM M p c) s n bl (b1 x4) (nI m)) = r0 at *
      have hPq : ∀ v, pqE (pL (storeM X r0 t n) 212 0 v) (Am M s) x4 n bl (nI m) = pqE M (Am M s) x4 n bl (nI m) := fun v => by
        unfold pqE pwS
        rw [sL_ne9 (by decide), sL_ne9 (by decide), (hcf r0).L]
      refine uStore h (f := (pqE M (Am M s) x4 n bl (nI m)).1) (fun N => pqM (hdM (k0M N c) 206 n (Am M s)) n (pqE M (Am M s) x4 n bl (nI m))) ht q5 (fun N hN => ?_) (ic_X h (fun i a b => q2 i a b)) q1 q3 (wf_pq (h.wf hs) hn) (fun hS9 => w_power hu (shK hS rfl) (shK hS9 rfl)) (fun v a9 b9 c9 => ?_) (fun N => ru_pqM (ru_hdM (Or.inr (Or.inl rfl)) (Ru.rf _))) (fun N => t6_pqM (t6_hdM t6_k0M))
      · rw [pq_9, hdM_ne (by decide), k0_L (by decide), hN]
        exact q4
      · have n9 := n_power (l := l) (x := nI m) (fl := x4) a9 b9 hc8 (by rw [c9]; exact bl3) bl1 bl8 hs ht h4
        unfold pwZ at n9
        rw [hPq v] at n9
        exact n9
    · exact xI h (by decide) (wy_power (y_power hS hr.1 hr.2 h4) (shK hS rfl)) (u_power' h.R hr.1 hr.2 h4)
  · exact xI h (by decide) (wx_power (x_power hS hr) (shK hS rfl)) (t_power h.R hr)

theorem sm_invert (h : IV M n p c) (x1 : Int32) (x2 : Int32) : SmI True l jL_invert jX7_invert 8 172 2 12 4 [.ref 0, .int x1, .int x2, .ref 212] [.ref 198, .int x1, .int x2] M Inv := by
  have hS := h.S
  have hz := h.z
  have hn := h.n32
  have hn1 := h.n1
  have hc8 := h.2.2.1.2.2.2.1
  by_cases hr : inR x1 6 ∧ inR x2 6
  · obtain ⟨s, hs, rfl⟩ := inR_of hr.1 (by decide)
    obtain ⟨t, ht, rfl⟩ := inR_of hr.2 (by decide)
    have hi := iv_elMem h (ivE M s n)
    have e6 : Am (elMem M (ivE M s n)) s = Am M s := by
      show mI (elMem M (ivE M s n)) (6 + 2 * s) = mI M (6 + 2 * s)
      unfold elMem
      rw [sI_ne (by omega), sI_ne (by omega), sI_ne (by omega), sI_ne (by omega)]
    have hE := iv_E (M := M) (R := M) (n := n) (s := s)
    have hu := u_invert (l := l) h.D hs ht
    have e4 : (ivR M n (Am M s)).2.2.2 = (ivE M s n).2.2.2 := hE.2.2.2.1.symm
    have hcE := cf_elMem (M := M) (s := ivE M s n)
    by_cases q : (ivE M s n).2.2.2 < n
    · rw [if_pos q, if_pos q] at hu
      have hcg : ∀ v : Int64, ivR (thr (pL (elMem M (ivE M s n)) 212 0 v) 0) n (Am M s) = ivR M n (Am M s) := fun v => ivR_cg (by
        rw [thr_I (by decide)]
        exact hcE.I (i := 210) (by decide))
      have n9 := fun v => o_invert (l := l) (iv_A (v := v) h hcE) hs ht (by rw [hcg v, e4]; exact q)
      refine uI hi.S (w_invert hu (shK hS rfl) (shK hi.S rfl)) (n9 _) (fun _ => rfl) (rf_rbM (rf_thr (Rf.rf _))) (t6_rbM t6_thr) ⟨n, p, c, iv_r (iv_1 hi) (rq_rbM (rq_thr (Rq.rf _)))⟩
    · rw [if_neg q, if_neg q] at hu
      have hp := h.2.2.1.2.1
      have e193 : mI (remM (elMem M (ivE M s n)) p c) 193 = (ivE M s n).2.1 := by
        rw [rem_m (by decide) (by decide) hp, el_r]
      have hwf : wfr n (ivR M n (Am M s)).2.1 := by
        unfold ivR
        exact el_wf n (Am M s, bitI, mI M 210, 0) (Nat.zero_le n) (fun r hr c hc => by
          show hb (bitI r) c = false
          rw [hb_bitI (by omega), decide_eq_false (by omega)])
      have hcf : Cf M (storeM (remM (elMem M (ivE M s n)) p c) 193 t n) := hcE.tr ((cf_remM hp).tr (cu_storeM (X := remM (elMem M (ivE M s n)) p c) ht (Cu.rf _)).1)
      have hcg : ∀ v : Int64, ivR (thr (pL (storeM (remM (elMem M (ivE M s n)) p c) 193 t n) 212 0 v) 0) n (Am M s) = ivR M n (Am M s) := fun v => ivR_cg (by
        rw [thr_I (by decide)]
        exact hcf.I (i := 210) (by decide))
      refine uStore hi (f := (ivR M n (Am M s)).2.1) (fun N => kepM (rbM (thr N 0) n (ivR M n (Am M s))) c) ht (Cu.rf _) (fun N hN => ?_) (ic_X hi (fun _ _ _ => rfl)) (X188 hi rfl) (fun i h9 => ?_) hwf (fun hS9 => w_invert hu (shK hS rfl) (shK hS9 rfl)) (fun v a9 b9 c9 => ?_) (fun N => ru_kep (rq_rbM (Rq.rf _))) (fun N => t6_kepM (t6_rbM t6_thr))
      · refine sr_X hi (fun _ _ _ => rfl) ?_
        rw [kp_L (by decide), (rq_rbM (M := thr N 0) (M1 := thr N 0) (Rq.rf _)).2.1.1]
        exact hN
      · rw [e193]
        exact hE.2.1 trivial i h9
      · have n9 := n_invert (l := l) a9 b9 hc8 hs ht (by rw [e6, hcg v, e4]; exact q)
        rw [e6, hcg v] at n9
        unfold inM at n9
        rw [hcg v] at n9
        exact n9
  · exact xI h (by decide) (wx_invert (x_invert hS hr) (shK hS rfl)) (t_invert h.R hr)

end
