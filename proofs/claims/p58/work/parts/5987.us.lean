/-! calls that change, from the invariant to the invariant (5987) -/
section
variable {l : Launch} {M : Mem} {n p c : Nat}
theorem SR_km {X : Mem} {u : Nat → Int64} (h : SR X 3 u n) : kmI u 6 = nI (keptC X 6) := by
  have hk : ∀ s, s < 6 → mI X (5 + 2 * s) 1 = b1 (decide (mI X (5 + 2 * s) 1 = 1)) ∧ u (4 + s) = b1L (decide (mI X (5 + 2 * s) 1 = 1)) := fun s hs => by
    obtain ⟨⟨k, k1, k2⟩, -⟩ := h.2.2.2.2 s hs
    rw [show 3 + 2 + 2 * s = 5 + 2 * s by omega] at k1
    rw [k1, k2]
    cases k
    · exact ⟨by decide, by decide⟩
    · exact ⟨by decide, by decide⟩
  rw [km_ok (K := fun s => decide (mI X (5 + 2 * s) 1 = 1)) 6 (fun s hs => (hk s hs).2), kc_ok (K := fun s => decide (mI X (5 + 2 * s) 1 = 1)) 6 (fun s hs => (hk s hs).1)]
theorem SR_kp {X : Mem} {u : Nat → Int64} {s : Nat} {b : Bool} (hs : s < 6) (h : SR X 3 u n) : SR (pI X (5 + 2 * s) 1 (b1 b)) 3 (fun_set u (4 + s) (b1L b)) n := by
  obtain ⟨⟨a1, a2, a3, a4⟩, ⟨bl, b1', b2, b3, b4⟩, ⟨y, y1, y2⟩, ⟨z, z1, z2⟩, hS⟩ := h
  have e : ∀ i, i ≠ 5 + 2 * s → mI (pI X (5 + 2 * s) 1 (b1 b)) i = mI X i := fun i hi => sI_ne hi
  have g : ∀ j, j ≠ 4 + s → fun_set u (4 + s) (b1L b) j = u j := fun j hj => fs_ne _ _ hj
  refine ⟨⟨a1, a2, by rw [e 3 (by omega)]; exact a3, by rw [g 0 (by omega)]; exact a4⟩, ⟨bl, b1', b2, by rw [e 3 (by omega)]; exact b3, by rw [g 1 (by omega)]; exact b4⟩, ⟨y, by rw [e 3 (by omega)]; exact y1, by rw [g 2 (by omega)]; exact y2⟩, ⟨z, by rw [e 3 (by omega)]; exact z1, by rw [g 3 (by omega)]; exact z2⟩, fun t ht => ?_⟩
  by_cases q : t = s
  · subst q
    obtain ⟨-, c3, c4, c5, c6, c7⟩ := hS t ht
    rw [show 3 + 2 + 2 * t = 5 + 2 * t by omega] at c3 c4 c5
    unfold SS
    rw [show 3 + 2 + 2 * t = 5 + 2 * t by omega]
    refine ⟨⟨b, by rw [pI_at, if_pos ⟨rfl, rfl⟩], by rw [fs_self]⟩, ?_, ?_, ?_, fun r hr => ?_, fun r hr c hc => ?_⟩
    · rw [pI_at, if_neg (by omega), g _ (by omega)]
      exact c3
    · rw [pI_at, if_neg (by omega), g _ (by omega)]
      exact c4
    · rw [pI_at, if_neg (by omega), g _ (by omega)]
      exact c5
    · rw [g _ (by omega), e _ (by omega)]
      exact c6 r hr
    · rw [e _ (by omega)]
      exact c7 r hr c hc
  · exact SS_cg (hS t ht) (fun j _ _ => by rw [e _ (by omega)]) (fun r _ => by rw [e _ (by omega)]) ⟨g _ (by omega), g _ (by omega), g _ (by omega), g _ (by omega)⟩ (fun r _ => g _ (by omega))
theorem sm_keep (h : IV M n p c) (x1 : Int32) (x2 : Bool) : SmI True l jL_keep jX7_keep 8 163 1 6 4 [.ref 0, .int x1, .int (b1 x2), .ref 212] [.ref 198, .int x1, .int (b1 x2)] M Inv := by
  have hS := h.S
  have hz := h.z
  have hn := h.n32
  have hn1 := h.n1
  have hc8 := h.2.2.1.2.2.2.1
  by_cases hr : inR x1 6
  · obtain ⟨s, hs, rfl⟩ := inR_of hr (by decide)
    have hp := h.2.2.1.2.1
    have hu := u_keep (l := l) (f := b1 x2) h.D hs (k01_b x2)
    have hcu : Cu (remM M p c) (kpM M s n p c (b1 x2)) := by
      unfold kpM
      exact cu_mxAnew hs (cu_pI (by omega) (Cu.rf _))
    have hcf : Cf M (kpM M s n p c (b1 x2)) := (cf_remM hp).tr hcu.1
    have hR9 := SR_an (x := nI n) hs (SR_kp (b := x2) hs (sr_X h (X := remM M p c) (fun _ _ _ => rfl) rfl))
    have hI9 : IC (kpM M s n p c (b1 x2)) n := by
      unfold kpM
      have hIC := ic_X h (X := remM M p c) (fun _ _ _ => rfl)
      exact ic_an hs (fun t ht h1 r hr => by
        rw [sI_ne (by omega)] at h1
        rw [sI_ne (by omega), sI_ne (by omega)]
        exact hIC t ht h1 r hr)
    have h188 : mI (kpM M s n p c (b1 x2)) 188 0 = 0 := by
      unfold kpM
      rw [mxAnew_ne (by omega), sI_ne (by omega)]
      exact X188 h rfl
    have eK : mxAnew (pI (remM M p c) (5 + 2 * s) 1 (b1 x2)) (5 + 2 * s) (nI n) = kpM M s n p c (b1 x2) := rfl
    rw [eK] at hR9
    generalize kpM M s n p c (b1 x2) = X at *
    have hN : ∀ v : Int64, mL (pL X 212 0 v) 199 = mL M 199 := fun v => by rw [sL_ne9 (by decide), hcf.L]
    have n9 := fun v => n_keep (l := l) (b := x2) (iv_A (v := v) h hcf) (iv_c5 h hcf _) hc8 hs
    have e9 : ∀ v : Int64, mL (anM (kpS (k0M (pL X 212 0 v) c) s x2) s (nI n)) 199 = anU (fun_set (mL M 199) (4 + s) (b1L x2)) s (nI n) := fun v => by
      unfold kpS
      rw [anS_9, k0_L (by decide), hN]
    have hRu : ∀ v : Int64, Ru (k0M (pL X 212 0 v) c) (anM (kpS (k0M (pL X 212 0 v) c) s x2) s (nI n)) := fun v => by
      unfold kpS
      exact ru_anM (ru_sL (Ru.rf _))
    have hI : ∀ v : Int64, ∀ i, i < 198 → mI (anM (kpS (k0M (pL X 212 0 v) c) s x2) s (nI n)) i = mI X i := fun v i hi => by
      rw [(hRu v).1.I hi, (rf_k0M (c := c) (Rf.rf _)).I hi]
    refine uI (hcf.S hS) (w_keep hu (shK hS rfl) (shK (hcf.S hS) rfl)) (n9 _) (fun _ => ?_) (rf_anM (rf_kpS (rf_k0M (Rf.rf _)))) (t6_anM (t6_kpS t6_k0M)) ⟨n, _, _, iv_u h hcu (hRu _) ?_ ?_ ?_⟩
    · rw [e9]
      exact SR_km hR9
    · rw [e9]
      exact SR_cg hR9 (fun i a b => hI _ i (by omega)) (fun _ _ => rfl)
    · intro t ht h1 r hr9
      rw [hI _ _ (by omega)] at h1
      rw [hI _ _ (by omega), hI _ _ (by omega)]
      exact hI9 t ht h1 r hr9
    · rw [hI _ _ (by omega)]
      exact h188
  · exact xI h (by decide) (wx_keep (x_keep hS hr) (shK hS rfl)) (t_keep h.R hr)

theorem sm_setBlock (h : IV M n p c) (x1 : Int32) : SmI True l jL_setBlock jX7_setBlock 8 162 1 6 4 [.ref 0, .int x1, .ref 212] [.ref 198, .int x1] M Inv := by
  have hS := h.S
  have hz := h.z
  have hn := h.n32
  have hn1 := h.n1
  have hc8 := h.2.2.1.2.2.2.1
  by_cases hr : ¬ x1 < 1 ∧ x1 ≤ 8
  · have hp := h.2.2.1.2.1
    have hu := u_setBlock (l := l) h.D hr.1 hr.2
    obtain ⟨m, hm, rfl⟩ := nI_of2 (M := 8) (n := 8) (by decide) (fun q => hr.1 (Int32.lt_trans q (by decide))) hr.2
    have hm1 : 1 ≤ m := by
      rcases Nat.eq_zero_or_pos m with e | e
      · subst e
        exact absurd (by decide) hr.1
      · exact e
    have hcu : Cu (remM M p c) (pI (remM M p c) 3 2 (nI m)) := cu_pI (by decide) (Cu.rf _)
    have hcf : Cf M (pI (remM M p c) 3 2 (nI m)) := (cf_remM hp).tr hcu.1
    have hSR : SR (remM M p c) 3 (mL M 199) n := sr_X h (fun _ _ _ => rfl) rfl
    have hIC : IC (remM M p c) n := ic_X h (fun _ _ _ => rfl)
    have h188 : mI (remM M p c) 188 0 = 0 := X188 h rfl
    obtain ⟨bl, bl1, bl8, bl2, bl3⟩ := h.2.1.2.1
    generalize hX : remM M p c = R at *
    have hN : ∀ v : Int64, mL (pL (pI R 3 2 (nI m)) 212 0 v) 199 = mL M 199 := fun v => by rw [sL_ne9 (by decide), hcf.L]
    have n9 := fun v => n_setBlock (l := l) (iv_A (v := v) h hcf) (iv_c5 h hcf _) hc8 hr
    have hRu : ∀ v : Int64, Ru (k0M (pL (pI R 3 2 (nI m)) 212 0 v) c) (pL (k0M (pL (pI R 3 2 (nI m)) 212 0 v) c) 199 1 (nI m).toInt64) := fun v => ru_sL (Ru.rf _)
    have hI : ∀ v : Int64, ∀ i, i < 198 → mI (pL (k0M (pL (pI R 3 2 (nI m)) 212 0 v) c) 199 1 (nI m).toInt64) i = mI (pI R 3 2 (nI m)) i := fun v i hi => by
      rw [(hRu v).1.I hi, (rf_k0M (c := c) (Rf.rf _)).I hi]
    refine uI (hcf.S hS) (w_setBlock hu (shK hS rfl) (shK (hcf.S hS) rfl)) (n9 _) (fun _ => ?_) (rf_pL (by decide) (rf_k0M (Rf.rf _))) (t6_sL t6_k0M) ⟨n, _, _, iv_u h (by rw [hX]; exact hcu) (hRu _) ?_ ?_ ?_⟩
    · rw [hN, bl3, bl2, lN_any]
    · rw [pL_0, k0_L (by decide), hN]
      obtain ⟨⟨a1, a2, a3, a4⟩, -, ⟨y, y1, y2⟩, ⟨z, z1, z2⟩, hSS⟩ := hSR
      have g : ∀ j, j ≠ 1 → fun_set (mL M 199) 1 (nI m).toInt64 j = mL M 199 j := fun j hj => fs_ne _ _ hj
      have e : ∀ i, i ≠ 3 → i < 198 → mI (pL (k0M (pL (pI R 3 2 (nI m)) 212 0 (mI M 3 2).toInt64) c) 199 1 (nI m).toInt64) i = mI R i := fun i hi h9 => by
        rw [hI _ i h9]
        exact sI_ne hi
      have e3 : ∀ j, j ≠ 2 → mI (pL (k0M (pL (pI R 3 2 (nI m)) 212 0 (mI M 3 2).toInt64) c) 199 1 (nI m).toInt64) 3 j = mI R 3 j := fun j hj => by
        rw [hI _ 3 (by decide), pI_k hj]
      refine ⟨⟨a1, a2, by rw [e3 1 (by decide)]; exact a3, by rw [g 0 (by decide)]; exact a4⟩, ⟨m, hm1, by omega, by rw [hI _ 3 (by decide), pI_at9], by rw [fs_self]; exact nI_l (by omega)⟩, ⟨y, by rw [e3 3 (by decide)]; exact y1, by rw [g 2 (by decide)]; exact y2⟩, ⟨z, by rw [e3 4 (by decide)]; exact z1, by rw [g 3 (by decide)]; exact z2⟩, fun t ht => ?_⟩
      exact SS_cg (hSS t ht) (fun j _ _ => by rw [e _ (by omega) (by omega)]) (fun r _ => by rw [e _ (by omega) (by omega)]) ⟨g _ (by omega), g _ (by omega), g _ (by omega), g _ (by omega)⟩ (fun r _ => g _ (by omega))
    · intro t ht h1 r hr9
      rw [hI _ _ (by omega), sI_ne (by omega)] at h1
      rw [hI _ _ (by omega), hI _ _ (by omega), sI_ne (by omega), sI_ne (by omega)]
      exact hIC t ht h1 r hr9
    · rw [hI _ _ (by omega), sI_ne (by omega)]
      exact h188
  · exact xI h (by decide) (wx_setBlock (x_setBlock hS hr) (shK hS rfl)) (t_setBlock hS hr)

end
