/-! what goes with an edge, in a desk -/
section
variable {M : Mem} {n p c : Nat}
theorem gl_lo (h : IV M n p c) {s a b : Nat} (hs : s < 6) (ha : a < n) (hb9 : b < n) (h0 : hb (mI M (6 + 2 * s) a) b = true) : ∃ k, k ≤ 1024 ∧ loV M s a b n = nI k ∧ pOv (Am M s) n - pTv (Am M s) n a b = nI k ∧ pTv (Am M s) n a b - pOv (Am M s) n = -nI k := by
  have hn := h.n32
  have hI : IV (lwMem M s a b n) n p c := iv_lwMem h
  have hrow : Am (lwMem M s a b n) s = Am M s := by
    have e := lwMem_ne (M := M) (s := s) (a := a) (b := b) (n := n) (i := 6 + 2 * s) (by omega)
    funext r
    exact congrFun e r
  have hg := cl_rows hI hs
  rw [hrow] at hg
  unfold loV
  rw [show 176 + 2 * s = 175 + 2 * s + 1 by omega]
  refine gl_lB (f := Am M s) (h.wf hs) hg ha hb9 hn h0 (fun r hr => ?_)
  unfold lwMem
  rw [sI_self]
  unfold tnF fun_set
  by_cases e : r = a
  · rw [if_pos e, if_pos e]
    exact clr_x (by omega) h0
  · rw [if_neg e, if_neg e]
    exact wr_lt hr
theorem gl_lq (h : IV M n p c) {s a b : Nat} (hs : s < 6) (ha : a < n) (hb9 : b < n) (h0 : hb (mI M (6 + 2 * s) a) b = true) : pOv (Am M s) n - pTv (Am M s) n a b = loV M s a b n := by
  obtain ⟨k, -, k2, k3, -⟩ := gl_lo h hs ha hb9 h0
  exact k3.trans k2.symm
theorem gl_wi (h : IV M n p c) {s a : Nat} {q : Mem × Int32 × Int32} (hs : s < 6) (ha : a < n) (hq : IV q.1 n p c) (hN : Nr M q.1) (he : q.2 = mtS (Am M s) n true (32 * a)) : ∀ j, j ≤ n → (wkI s n a q j).2 = mtS (Am M s) n true (32 * a + j)
  | 0, _ => he
  | j + 1, hj => by
    have hn := h.n32
    have hj2 : j < n := by omega
    have ih := gl_wi h hs ha hq hN he j (by omega)
    have hI := iv_wkI (a := a) hs hq j
    have hNj := (wkI_nr (n := n) (a := a) hN hs j).2 (6 + 2 * s) (by omega)
    have hge := gl_ge (f := Am M s) (n := n) (bit := true) (32 * a + j)
    show (if wkL (wkI s n a q j).1 s n a j ≤ (wkI s n a q j).2.2 then (wkI s n a q j).2 else (32 * nI a + nI j, wkL (wkI s n a q j).1 s n a j)) = mtS (Am M s) n true (32 * a + j + 1)
    rw [ih, gl_m1 hj2 hn, gl_nu]
    generalize (wkI s n a q j).1 = Mj at *
    have hA : Am Mj s = Am M s := by
      funext r
      exact congrFun hNj r
    generalize mtS (Am M s) n true (32 * a + j) = S at *
    unfold wkL
    rw [hNj]
    by_cases h0 : hb (mI M (6 + 2 * s) a) j = true
    · obtain ⟨k, k1, k2, -, k3⟩ := gl_lo hI hs ha hj2 (by rw [hNj]; exact h0)
      rw [hA] at k3
      have h9 : hb (Am M s a) j = true := h0
      rw [if_pos h0, if_pos h9, k2, k3, gl_a2 k (by omega)]
      by_cases h2 : S.2 < nI k
      · rw [if_pos h2, if_neg (Int32.not_le.mpr h2)]
      · rw [if_neg h2, if_pos (Int32.not_lt.mp h2)]
    · have h9 : ¬ hb (Am M s a) j = true := h0
      rw [if_neg h0, if_pos hge, if_neg h9]
theorem gl_wo (h : IV M n p c) {s : Nat} (hs : s < 6) : ∀ a, a ≤ n → (wkO M s n a).2 = mtS (Am M s) n true (32 * a)
  | 0, _ => rfl
  | a + 1, ha => by
    show (wkI s n a (wkO M s n a) n).2 = _
    rw [gl_m3 h.n32]
    exact gl_wi h hs (by omega) (iv_wkO h hs a) (wkO_nr h.S hs a) (gl_wo h hs a (by omega)) n (Nat.le_refl n)
end
