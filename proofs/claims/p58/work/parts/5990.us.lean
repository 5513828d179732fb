/-! calls that change, from the invariant to the invariant (59895) -/
section
variable {l : Launch} {M : Mem} {n p c : Nat}
theorem shp_N9 {X : Mem} {v : Int64} (h : Shp X) : Shp (pL X 212 0 v) := h
theorem dr_at {X : Mem} : ∀ k, k ≤ 6 → ∀ s, s < k → mI (dropC X k) (175 + 2 * s) 1 = 0
  | 0, _, s, hs => absurd hs (Nat.not_lt_zero _)
  | k + 1, hk, s, hs => by
    rw [dropC, pI_at]
    by_cases e : s = k
    · rw [if_pos ⟨by omega, rfl⟩]
    · rw [if_neg (by omega)]
      exact dr_at k (by omega) s (by omega)
theorem ic_drop {X : Mem} : IC (dropC X 6) n := fun s hs h1 => absurd (dr_at 6 (Nat.le_refl 6) s hs) h1
theorem SR_drop {X : Mem} {u : Nat → Int64} (h : SR X 3 u n) : SR (dropC X 6) 3 u n := SR_cg h (fun i a b => dropC_ne (Or.inl (by omega)) 6 (Nat.le_refl 6)) (fun _ _ => rfl)
theorem R_of {Y : Mem} (hS : Shp Y) (h : SR Y 3 (mL Y 199) n) : Rr Y n (Am Y) := ⟨hS, h.1.2.2.2, h.1.1, h.1.2.1, fun s r hs hr => by
  have h9 := (h.2.2.2.2 s hs).2.2.2.2.1 r hr
  rw [show 3 + 3 + 2 * s = 6 + 2 * s by omega] at h9
  exact h9⟩
theorem rp_at {o : Nat} (hd : 17 ≤ o) : (∀ i, i ≠ 0 → (i < 3 ∨ (17 ≤ i ∧ i < 175) ∨ 187 ≤ i) → mI (replM M o) i = mI M i) ∧ (∀ j, mI (replM M o) 0 j = if j = 5 then 0 else mI M 0 j) ∧ (∀ u n', SR M o u n' → SR (replM M o) 3 u n') ∧ ∀ n', IC (replM M o) n' := by
  have h1 : ∀ i, (i < 3 ∨ 17 ≤ i) → mI (stTake M 3 o) i = mI M i := fun i hi => stTake_ne hi
  have h2 : ∀ u n', SR M o u n' → SR (stTake M 3 o) 3 u n' := fun u n' h => SR_take (Or.inl hd) h
  unfold replM
  generalize stTake M 3 o = X at *
  refine ⟨fun i h0 hi => ?_, fun j => ?_, fun u n' h => ?_, fun n' => ic_drop⟩
  · rw [dropC_ne (by omega) 6 (Nat.le_refl 6), sI_ne h0, h1 i (by omega)]
  · rw [dropC_ne (by omega) 6 (Nat.le_refl 6), pI_at, h1 0 (by omega)]
    by_cases e : j = 5
    · rw [if_pos ⟨rfl, e⟩, if_pos e]
    · rw [if_neg (fun h => e h.2), if_neg e]
  · exact SR_drop (SR_cg (h2 u n' h) (fun i a b => sI_ne (by omega)) (fun _ _ => rfl))
theorem re_at {N : Mem} {q : Nat} : (∀ j, j ≠ 5 → j ≠ 6 → mI (reM N q) 198 j = mI N 198 j) ∧ mI (reM N q) 198 5 = 0 ∧ (∀ i, i ≠ 198 → mI (reM N q) i = mI N i) ∧ mL (reM N q) 199 = cpF (mL N 199) 0 (mL N 202) q 220 ∧ ∀ i, i ≠ 199 → mL (reM N q) i = mL N i := by
  unfold reM
  refine ⟨fun j a b => ?_, pI_at9 _ _ _ _, fun i a => ?_, ?_, fun i a => ?_⟩
  · rw [pI_k a]
    show mI (thr N 0) 198 j = _
    unfold thr
    rw [pI_k b]
  · rw [sI_ne a]
    show mI (thr N 0) i = _
    unfold thr
    rw [sI_ne a]
  · show mL (sL (thr N 0) 199 _) 199 = _
    exact sL_self _ _ _
  · show mL (sL (thr N 0) 199 _) i = _
    rw [sL_ne9 a]
    rfl
theorem sm_restoreSnapshot (h : IV M n p c) (x1 : Int32) : SmI True l jL_restoreSnapshot jX7_restoreSnapshot 8 191 1 6 4 [.ref 0, .int x1, .ref 212] [.ref 198, .int x1] M Inv := by
  have hS := h.S
  have hz := h.z
  have hn := h.n32
  have hn1 := h.n1
  by_cases hr : ¬ x1 < 0 ∧ x1 ≤ 1
  · obtain ⟨q, hq9, rfl⟩ := nI_of2 (M := 1) (n := 1) (by decide) hr.1 hr.2
    have hq : q < 2 := by omega
    obtain ⟨k1, k2⟩ := h.2.2.2.1 q hq
    have hu := u_restore (l := l) hS k1 hq
    rcases k2 with ⟨a1, a2⟩ | ⟨a1, a2, n', a3⟩
    · rw [if_pos a1, if_pos a1] at hu
      have n9 := fun v => o_restoreSnapshot (l := l) (M := pL M 212 0 v) hS hq a2
      exact uI hS (w_restoreSnapshot hu (shK hS rfl) (shK hS rfl)) (n9 _) (fun _ => rfl) (rf_thr (Rf.rf _)) t6_thr ⟨n, p, c, iv_r (iv_1 h) (rq_thr (Rq.rf _))⟩
    · have ne0 : ¬ mI M 173 q = 0 := by
        rw [a1]
        decide
      rw [if_neg ne0, if_neg ne0, a3.1.2.2.1] at hu
      have hc : Cf M (replM M (145 + 14 * q)) := cf_replM
      obtain ⟨b1', b2, b3, b4⟩ := rp_at (M := M) (o := 145 + 14 * q) (by omega)
      have hSR := b3 _ _ a3
      have hIC := b4 n'
      clear b3 b4
      generalize replM M (145 + 14 * q) = X at *
      obtain ⟨d1, d2, d3, d4, d5⟩ := re_at (N := pL X 212 0 (nI n').toInt64) (q := q)
      have hSN : Shp (pL X 212 0 (nI n').toInt64) := shp_N9 (hc.S hS)
      have hS2 : Shp (reM (pL X 212 0 (nI n').toInt64) q) := Rf.S (M := pL X 212 0 (nI n').toInt64) (rf_reM (Rf.rf _)) hSN
      have hSR2 : SR (reM (pL X 212 0 (nI n').toInt64) q) 3 (mL (reM (pL X 212 0 (nI n').toInt64) q) 199) n' := SR_cg hSR (fun i h1 h2 => by
        rw [d3 i (by omega)]) (fun j hj => by
        rw [d4, sL_ne9 (by decide), sL_ne9 (by decide), hc.L]
        unfold cpF
        rw [if_pos ⟨by omega, by omega⟩]
        show _ = mL M 202 (220 * q + j)
        congr 1
        omega)
      have n9 := n_restoreSnapshot (l := l) (M := pL X 212 0 (nI n').toInt64) hSN (R_of hS2 hSR2) hq (by
        show ¬ mI X 203 q = 0
        rw [hc.I (by decide), a2]
        decide)
      refine uI (hc.S hS) (w_restoreSnapshot hu (shK hS rfl) (shK (hc.S hS) rfl)) n9 (fun _ => rfl) (rf_reM (Rf.rf _)) t6_reM ⟨n', p, 0, ?_⟩
      generalize reM (pL X 212 0 (nI n').toInt64) q = Y at *
      have e : ∀ i, i ≠ 0 → i ≠ 198 → (i < 3 ∨ (17 ≤ i ∧ i < 175) ∨ 187 ≤ i) → mI Y i = mI M i := fun i h1 h2 h3 => by
        rw [d3 i h2]
        exact b1' i h1 h3
      have eL : ∀ i, i ≠ 212 → i ≠ 199 → mL Y i = mL M i := fun i hi h2 => by rw [d5 i h2, sL_ne9 hi, hc.L]
      have e8 : ∀ j, j ≠ 5 → j ≠ 6 → mI Y 198 j = mI M 198 j := fun j h1 h2 => by
        rw [d1 j h1 h2]
        show mI X 198 j = _
        rw [hc.I (Nat.le_refl 198)]
      have e0 : ∀ j, mI Y 0 j = if j = 5 then 0 else mI M 0 j := fun j => by
        rw [d3 0 (by decide)]
        exact b2 j
      refine ⟨hS2, hSR2, ⟨?_, h.2.2.1.2.1, ?_, Nat.zero_le 8, d2, fun i hi => absurd hi (Nat.not_lt_zero i)⟩, is_cg h.2.2.2.1 (fun i h1 h2 => e i (by omega) (by omega) (by omega)) (e 203 (by decide) (by decide) (by decide)) (eL 202 (by decide) (by decide)), ?_, ir_cg h.2.2.2.2.2.1 (e 1 (by decide) (by decide) (by decide)) (e 2 (by decide) (by decide) (by decide)) (e 204 (by decide) (by decide) (by decide)) (e8 8 (by decide) (by decide)) (e8 14 (by decide) (by decide)) (e8 15 (by decide) (by decide)), ix_cg h.2.2.2.2.2.2 (e 188 (by decide) (by decide) (by decide)) (eL 209 (by decide) (by decide)) ?_ (e8 24 (by decide) (by decide))⟩
      · rw [e0, if_neg (by decide)]
        exact h.2.2.1.1
      · rw [e0, if_pos rfl]
        rfl
      · exact ic_cg hIC (fun i h1 h2 => d3 i (by omega)) (fun i h1 h2 => d3 i (by omega))
      · rw [e0, if_neg (by decide)]
  · exact xI h (by decide) (wx_restoreSnapshot (x_restore hS hr) (shK hS rfl)) (t_restoreSnapshot hS hr)

theorem un_at {cc : Nat} : (∀ i, i ≠ 0 → (i < 3 ∨ (17 ≤ i ∧ i < 175) ∨ 187 ≤ i) → mI (unM M p cc) i = mI M i) ∧ (∀ j, mI (unM M p cc) 0 j = if j = 4 then nI (unP p) else if j = 5 then nI (cc - 1) else mI M 0 j) ∧ (∀ u n', SR M (32 + 14 * unP p) u n' → SR (unM M p cc) 3 u n') ∧ ∀ n', IC (unM M p cc) n' := by
  have q0 : ∀ j, mI (pI (pI M 0 5 (nI (cc - 1))) 0 4 (nI (unP p))) 0 j = if j = 4 then nI (unP p) else if j = 5 then nI (cc - 1) else mI M 0 j := fun j => by
    rw [pI_at, pI_at]
    by_cases e : j = 4
    · rw [if_pos ⟨rfl, e⟩, if_pos e]
    · rw [if_neg (fun h => e h.2), if_neg e]
      by_cases e2 : j = 5
      · rw [if_pos ⟨rfl, e2⟩, if_pos e2]
      · rw [if_neg (fun h => e2 h.2), if_neg e2]
  have qn : ∀ i, i ≠ 0 → mI (pI (pI M 0 5 (nI (cc - 1))) 0 4 (nI (unP p))) i = mI M i := fun i hi => by rw [sI_ne hi, sI_ne hi]
  unfold unM
  generalize pI (pI M 0 5 (nI (cc - 1))) 0 4 (nI (unP p)) = Q at *
  have h1 : ∀ i, (i < 3 ∨ 17 ≤ i) → mI (stTake Q 3 (32 + 14 * unP p)) i = mI Q i := fun i hi => stTake_ne hi
  have h2 : ∀ u n', SR M (32 + 14 * unP p) u n' → SR (stTake Q 3 (32 + 14 * unP p)) 3 u n' := fun u n' h => SR_take (Or.inl (by omega)) (SR_cg h (fun i a b => qn i (by omega)) (fun _ _ => rfl))
  generalize stTake Q 3 (32 + 14 * unP p) = X at *
  refine ⟨fun i h0 hi => ?_, fun j => ?_, fun u n' h => SR_drop (h2 u n' h), fun n' => ic_drop⟩
  · rw [dropC_ne (by omega) 6 (Nat.le_refl 6), h1 i (by omega), qn i h0]
  · rw [dropC_ne (by omega) 6 (Nat.le_refl 6), h1 0 (by omega), q0]
theorem ud_at {N : Mem} {cc : Nat} : (∀ j, j ≠ 5 → j ≠ 6 → mI (und N cc) 198 j = mI N 198 j) ∧ mI (und N cc) 198 5 = nI (cc - 1) ∧ (∀ i, i ≠ 198 → mI (und N cc) i = mI N i) ∧ mL (und N cc) 199 = cpF (mL N 199) 0 (mL N 201) (cc - 1) 220 ∧ ∀ i, i ≠ 199 → mL (und N cc) i = mL N i := by
  unfold und
  refine ⟨fun j a b => ?_, ?_, fun i a => ?_, sL_self _ _ _, fun i a => ?_⟩
  · show mI (pI (thr N 0) 198 5 (nI (cc - 1))) 198 j = _
    rw [pI_k a]
    unfold thr
    rw [pI_k b]
  · show mI (pI (thr N 0) 198 5 (nI (cc - 1))) 198 5 = _
    exact pI_at9 _ _ _ _
  · show mI (pI (thr N 0) 198 5 (nI (cc - 1))) i = _
    rw [sI_ne a]
    unfold thr
    rw [sI_ne a]
  · rw [sL_ne9 a]
    rfl
theorem sm_undo (h : IV M n p c)  : SmN True l jX6_undo jX7_undo 3 120 4 160 [.ref 0] [.ref 198] M Inv := by
  have hS := h.S
  have hz := h.z
  have hn := h.n32
  have hn1 := h.n1
  obtain ⟨p1, p2, p3, p4, p5, p6⟩ := h.2.2.1
  by_cases h0 : c = 0
  · subst h0
    exact ⟨_, _, _, _, v_undo hS p3, t_undo hS p5, hS, (rf_thr (Rf.rf M)).S hS, fun _ => rfl, iv_thr h⟩
  · have hc1 : 1 ≤ c := Nat.pos_of_ne_zero h0
    have eu : unP p = (p + 8 - c + (c - 1)) % 8 := by
      unfold unP
      split
      · rename_i q
        rw [q]
        omega
      · omega
    have hlast := p6 (c - 1) (by omega)
    rw [← eu] at hlast
    have hu := u_undo (l := l) h.D (SR_keep hlast) hc1
    have hc : Cf M (unM M p c) := cf_unM
    obtain ⟨b1', b2, b3, b4⟩ := un_at (M := M) (p := p) (cc := c)
    have hSR := b3 _ _ hlast
    have hIC := b4 n
    clear b3 b4
    have n9 := n_undo (l := l) (M := unM M p c) (hc.S hS) (by rw [hc.I (Nat.le_refl 198)]; exact p5) p4 hc1
    generalize unM M p c = X at *
    obtain ⟨d1, d2, d3, d4, d5⟩ := ud_at (N := X) (cc := c)
    have hS2 : Shp (und X c) := (rf_und (Rf.rf _)).S (hc.S hS)
    refine ⟨_, _, _, _, hu, n9, hc.S hS, hS2, fun _ => rfl, n, unP p, c - 1, ?_⟩
    generalize und X c = Y at *
    have e : ∀ i, i ≠ 0 → i ≠ 198 → (i < 3 ∨ (17 ≤ i ∧ i < 175) ∨ 187 ≤ i) → mI Y i = mI M i := fun i h1 h2 h3 => by
      rw [d3 i h2]
      exact b1' i h1 h3
    have eL : ∀ i, i ≠ 199 → mL Y i = mL M i := fun i h2 => by rw [d5 i h2, hc.L]
    have e8 : ∀ j, j ≠ 5 → j ≠ 6 → mI Y 198 j = mI M 198 j := fun j h1 h2 => by
      rw [d1 j h1 h2, hc.I (Nat.le_refl 198)]
    have e0 : ∀ j, mI Y 0 j = if j = 4 then nI (unP p) else if j = 5 then nI (c - 1) else mI M 0 j := fun j => by
      rw [d3 0 (by decide)]
      exact b2 j
    have hp8 : unP p < 8 := by
      unfold unP
      split <;> omega
    refine ⟨hS2, SR_cg hSR (fun i h1 h2 => d3 i (by omega)) (fun j hj => ?_), ⟨?_, hp8, ?_, by omega, d2, fun i hi => ?_⟩, is_cg h.2.2.2.1 (fun i h1 h2 => e i (by omega) (by omega) (by omega)) (e 203 (by decide) (by decide) (by decide)) (eL 202 (by decide)), ic_cg hIC (fun i h1 h2 => d3 i (by omega)) (fun i h1 h2 => d3 i (by omega)), ir_cg h.2.2.2.2.2.1 (e 1 (by decide) (by decide) (by decide)) (e 2 (by decide) (by decide) (by decide)) (e 204 (by decide) (by decide) (by decide)) (e8 8 (by decide) (by decide)) (e8 14 (by decide) (by decide)) (e8 15 (by decide) (by decide)), ix_cg h.2.2.2.2.2.2 (e 188 (by decide) (by decide) (by decide)) (eL 209 (by decide)) ?_ (e8 24 (by decide) (by decide))⟩
    · rw [d4, hc.L]
      unfold cpF
      rw [if_pos ⟨by omega, by omega⟩]
      show _ = mL M 201 (220 * (c - 1) + j)
      congr 1
      omega
    · rw [e0, if_pos rfl]
    · rw [e0, if_neg (by decide), if_pos rfl]
    · have e9 : (unP p + 8 - (c - 1) + i) % 8 = (p + 8 - c + i) % 8 := by omega
      rw [e9]
      have hm : (p + 8 - c + i) % 8 < 8 := Nat.mod_lt _ (by decide)
      exact SR_cg (p6 i (by omega)) (fun j h1 h2 => e j (by omega) (by omega) (by omega)) (fun j _ => by rw [eL 201 (by decide)])
    · rw [e0, if_neg (by decide), if_neg (by decide)]

end
