/-! calls that change, from the invariant to the invariant (5991) -/
section
variable {l : Launch} {M : Mem} {n p c : Nat}
theorem ap_tx {len : Nat} {T R : Nat → Int32} {x : Int64} (hT : ∀ i, i < len → ∃ j, j < 256 ∧ T i = nI j ∧ R i = sx (nI j)) : ∀ k, len + mrB x k ≤ 600 → ∀ i, i < len + mrB x k → ∃ j, j < 256 ∧ (apL len T x k).2 i = nI j ∧ (apB len R x k).2 i = sx (nI j)
  | 0, _ => fun i hi => hT i hi
  | k + 1, h => fun i hi => by
    unfold apL apB
    unfold mrB at h hi
    by_cases e : bI x k = 0
    · rw [if_pos e] at h hi
      rw [if_pos e, if_pos e]
      exact ap_tx hT k h i hi
    · rw [if_neg e] at h hi
      rw [if_neg e, if_neg e, if_pos (by rw [ap_n k (by omega)]; omega)]
      show ∃ j, j < 256 ∧ fun_set (apL len T x k).2 (apL len T x k).1 (bI x k) i = nI j ∧ fun_set (apB len R x k).2 (apB len R x k).1 (sx (bI x k)) i = sx (nI j)
      rw [ap_n k (by omega), apB_1]
      by_cases q : i = len + mrB x k
      · rw [q, fs_self, fs_self]
        obtain ⟨j, j1, j2, -⟩ := bI_n x k
        exact ⟨j, j1, j2, by rw [j2]⟩
      · rw [fs_ne _ _ q, fs_ne _ _ q]
        exact ap_tx hT k (by omega) i (by omega)
theorem ap_iv (h : IV M n p c) {Q R : Nat × (Nat → Int32)} {len' : Nat} (hle : len' ≤ 600) (a1 : Q.1 = len') (a2 : R.1 = len') (a3 : ∀ i, i < len' → ∃ j, j < 256 ∧ Q.2 i = nI j ∧ R.2 i = sx (nI j)) : IV (agM (thr (apQ M Q) 0) R) n p c := by
  obtain ⟨-, r2, r3⟩ := h.2.2.2.2.2.1
  have hS2 : Shp (agM (thr (apQ M Q) 0) R) := h.S
  have b1' : ∀ i, i ≠ 1 → i ≠ 2 → i ≠ 198 → i ≠ 204 → mI (agM (thr (apQ M Q) 0) R) i = mI M i := fun i h1 h2 h3 h4 => by
    unfold agM thr apQ
    rw [sI_ne h3, sI_ne h4, sI_ne h3, sI_ne h1, sI_ne h2]
  have b2 : ∀ j, mI (agM (thr (apQ M Q) 0) R) 1 j = if j = 1 then nI Q.1 else mI M 1 j := fun j => by
    unfold agM thr apQ
    rw [sI_ne (by decide), sI_ne (by decide), sI_ne (by decide), pI_at, sI_ne (by decide)]
    by_cases e2 : j = 1
    · rw [if_pos ⟨rfl, e2⟩, if_pos e2]
    · rw [if_neg (fun h => e2 h.2), if_neg e2]
  have b3 : mI (agM (thr (apQ M Q) 0) R) 2 = Q.2 := by
    unfold agM thr apQ
    rw [sI_ne (by decide), sI_ne (by decide), sI_ne (by decide), sI_ne (by decide), sI_self]
  have b4 : ∀ j, j ≠ 6 → j ≠ 8 → mI (agM (thr (apQ M Q) 0) R) 198 j = mI M 198 j := fun j h1 h2 => by
    unfold agM thr apQ
    rw [pI_k h2, sI_ne (by decide), pI_k h1, sI_ne (by decide), sI_ne (by decide)]
  have b5 := agM_8 (M := thr (apQ M Q) 0) R
  have b6 := agM_t (M := thr (apQ M Q) 0) R
  have bL : mL (agM (thr (apQ M Q) 0) R) = mL M := rfl
  generalize agM (thr (apQ M Q) 0) R = Y at *
  have e0 := b1' 0 (by decide) (by decide) (by decide) (by decide)
  refine ⟨hS2, SR_cg h.2.1 (fun i h1 h2 => b1' i (by omega) (by omega) (by omega) (by omega)) (fun i _ => by rw [bL]), ip_cg h.2.2.1 (fun i h1 h2 => b1' i (by omega) (by omega) (by omega) (by omega)) (by rw [e0]) (by rw [e0]) (b4 5 (by decide) (by decide)) (by rw [bL]), is_cg h.2.2.2.1 (fun i h1 h2 => b1' i (by omega) (by omega) (by omega) (by omega)) (b1' 203 (by decide) (by decide) (by decide) (by decide)) (by rw [bL]), ic_cg h.2.2.2.2.1 (fun i h1 h2 => b1' i (by omega) (by omega) (by omega) (by omega)) (fun i h1 h2 => b1' i (by omega) (by omega) (by omega) (by omega)), ⟨⟨len', hle, by rw [b2, if_pos rfl, a1], by rw [b5, a2], fun i hi => ?_⟩, ?_, ?_⟩, ix_cg h.2.2.2.2.2.2 (b1' 188 (by decide) (by decide) (by decide) (by decide)) (by rw [bL]) (by rw [e0]) (b4 24 (by decide) (by decide))⟩
  · obtain ⟨j, j1, j2, j3⟩ := a3 i hi
    exact ⟨j, j1, by rw [b3]; exact j2, by rw [b6]; exact j3⟩
  · rw [b4 14 (by decide) (by decide), b2, if_neg (by decide)]
    exact r2
  · have e5 : mI Y 1 5 = mI M 1 5 := by rw [b2, if_neg (by decide)]
    have e4 : mI Y 1 4 = mI M 1 4 := by rw [b2, if_neg (by decide)]
    rw [b4 15 (by decide) (by decide), e5, e4]
    exact r3
theorem ap_204 {Q : Nat × (Nat → Int32)} : mI (apQ M Q) 204 = mI M 204 := by
  unfold apQ
  rw [sI_ne (by decide), sI_ne (by decide)]
theorem ap_go (h : IV M n p c) {len : Nat} {x : Int64} {k : Nat} (l1 : len ≤ 600) (l4 : ∀ i, i < len → ∃ j, j < 256 ∧ mI M 2 i = nI j ∧ mI M 204 i = sx (nI j)) : IV (if 600 < len + mrB x k then thr (if 600 < len + mrN x k then M else apQ M (apL len (mI M 2) x k)) 0 else agM (thr (if 600 < len + mrN x k then M else apQ M (apL len (mI M 2) x k)) 0) (apB len (mI (if 600 < len + mrN x k then M else apQ M (apL len (mI M 2) x k)) 204) x k)) n p c := by
  rw [mrB_n]
  by_cases e : 600 < len + mrB x k
  · rw [if_pos e, if_pos e]
    exact iv_r h (rq_thr (Rq.rf _))
  · rw [if_neg e, if_neg e, ap_204]
    have hle : len + mrB x k ≤ 600 := Nat.le_of_not_lt e
    exact ap_iv h hle (ap_n k hle) (apB_1 len (mI M 204) x k) (ap_tx l4 k hle)
theorem sm_append (h : IV M n p c) (x1 : Int64) : SmN True l jX6_append jX7_append 1 30 4 160 [.ref 0, .long x1] [.ref 198, .long x1] M Inv := by
  have hS := h.S
  have hz := h.z
  have hn := h.n32
  have hn1 := h.n1
  obtain ⟨⟨len, l1, l2, l3, l4⟩, r2, r3⟩ := h.2.2.2.2.2.1
  have q := q_append (l := l) (x := x1) hS l2 l1
  have hc : Cf M (apM M len x1) := cf_apM
  have n9 := n_append (l := l) (M := apM M len x1) (x := x1) (hc.S hS) (by rw [hc.I (Nat.le_refl 198)]; exact l3) l1
  have hI := ap_go (x := x1) (k := 8) h l1 l4
  exact ⟨_, _, _, _, q, n9, hc.S hS, (rf_agE (Rf.rf _)).S (hc.S hS), fun _ => ap_V M, n, p, c, hI⟩

end
