/-! what is drawn, loaded -/
section
variable {M M' Mx : Mem} {n len : Nat} {ts : List ST9} {t : ST9} {u : Nat → Int64} {us : Nat → Nat → Int64}
theorem anL_SR {x : Int32} (h : SR M 17 u n) : ∀ k, k ≤ 6 → SR (anL M x k) 17 (anI u x k) n
  | 0, _ => by
    rw [anL.eq_1]
    exact h
  | k + 1, hk => by
    have h9 := SR_anb (s := k) (x := x) (by omega) (anL_SR (x := x) h k (by omega))
    rw [show 17 + 2 + 2 * k = 19 + 2 * k by omega] at h9
    rw [anL.eq_2]
    exact h9
theorem ld_cv {X : Mem} (hS : Shp X) (h3 : SR X 3 u n) (h4 : mI X 0 4 = 0) (h5 : mI X 0 5 = 0) (hI : IC X n) (h188 : mI X 188 0 = 0) : CV (pI X 0 14 0) n 0 0 u us := by
  have e1 : ∀ i, i ≠ 0 → mI (pI X 0 14 0) i = mI X i := fun i hi => pI_i hi
  have e2 : ∀ j, j ≠ 14 → mI (pI X 0 14 0) 0 j = mI X 0 j := fun j hj => pI_k hj
  have hS' : Shp (pI X 0 14 0) := hS
  generalize pI X 0 14 0 = Y at *
  refine ⟨hS', SR_cg h3 (fun i hi _ => e1 i (by omega)) (fun _ _ => rfl), ⟨(e2 4 (by decide)).trans h4, by decide, (e2 5 (by decide)).trans h5, by decide, fun i hi => absurd hi (Nat.not_lt_zero i)⟩, fun s hs h1 r hr => ?_, by rw [e1 188 (by decide)]; exact h188⟩
  rw [e1 _ (by omega)] at h1
  rw [e1 _ (by omega), e1 _ (by omega)]
  exact hI s hs h1 r hr
theorem ri_SR (a1 : riN Mx len = n) (a3 : SR (riR Mx len).1 17 u n) : SR (riM Mx len) 17 (anI u (nI n) 6) n := by
  have h9 := anL_SR (x := nI n) a3 6 (Nat.le_refl 6)
  have e : ∀ i, i ≠ 1 → mI (riM Mx len) i = mI (anL (riR Mx len).1 (nI n) 6) i := fun i hi => by
    unfold riM
    rw [a1, sI_ne hi, rd_ne hi]
  generalize anL (riR Mx len).1 (nI n) 6 = Y at *
  generalize riM Mx len = X at *
  exact SR_cg h9 (fun i hi _ => e i (by omega)) (fun _ _ => rfl)
theorem rp_0 {R : Mem} (hR : Shp R) (h : SR R 17 u n) (h4 : mI R 0 4 = 0) (h188 : mI R 188 0 = 0) (h5 : mI R 1 5 = 0) : CV (pI (replM R 17) 0 14 0) n 0 0 u us ∧ mI (pI (replM R 17) 0 14 0) 1 5 = 0 := by
  obtain ⟨r1, r2, r3, r4⟩ := rp_at (M := R) (o := 17) (by decide)
  have hS := replM_S hR 17
  have q3 := r3 u n h
  have q0 := r2 4
  have q5 := r2 5
  have q188 := congrFun (r1 188 (by decide) (Or.inr (Or.inr (by decide)))) 0
  have q1 := congrFun (r1 1 (by decide) (Or.inl (by decide))) 5
  have q4 := r4 n
  rw [if_neg (by decide)] at q0
  rw [if_pos rfl] at q5
  clear r1 r2 r3 r4
  generalize replM R 17 = X at *
  refine ⟨ld_cv hS q3 (q0.trans h4) q5 q4 (q188.trans h188), ?_⟩
  have e1 : mI (pI X 0 14 0) 1 = mI X 1 := pI_i (by decide)
  rw [e1]
  exact q1.trans h5
/-- the class's object behind the load -/
theorem ld_fin (hS : Shp Mx) (hn1 : 1 ≤ n) (hn : n ≤ 9) (hC : sC n (bgF (fun _ => 0) n) ts) (h2 : ∀ j, j < (szW n ++ sT n ts).length → mI Mx 2 j = (szW n ++ sT n ts).getD j 0) (hl : (szW n ++ sT n ts).length = len) (h4 : mI Mx 0 4 = 0) (h188 : mI Mx 188 0 = 0) : (riR Mx len).2.2.2.2.1 = 0 ∧ riN Mx len = n ∧ CV (pI (replM (riM Mx len) 17) 0 14 0) n 0 0 (anI (sF n (bgF (fun _ => 0) n) ts) (nI n) 6) us ∧ mI (pI (replM (riM Mx len) 17) 0 14 0) 1 5 = 0 := by
  have hg : sg (mI Mx 2) 0 (szW n ++ sT n ts) := fun i hi => (congrArg (mI Mx 2) (Nat.zero_add i)).trans (h2 i hi)
  obtain ⟨a1, a2, a3⟩ := st_all (M := Mx) (T := mI Mx 2) hn1 hn rfl hg hC hl
  have e0 := congrFun (riM_o (len := len) hS (i := 0) (by decide) (Or.inl (by decide))) 4
  have e188 := congrFun (riM_o (len := len) hS (i := 188) (by decide) (Or.inr (by decide))) 0
  exact ⟨a2, a1, rp_0 (riM_S hS) (ri_SR a1 a3) (e0.trans h4) (e188.trans h188) (riM_5.trans a2)⟩
end
