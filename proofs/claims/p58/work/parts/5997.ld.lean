/-! load, from the invariant to the invariant -/
section
variable {l : Launch} {M N R Y : Mem} {n p c len : Nat} {T : Nat → Int32} {r : RP}
theorem anK_I {x : Int32} : ∀ k, mI (anK R x k) = mI R ∧ (∀ i, i ≠ 199 → mL (anK R x k) i = mL R i)
  | 0 => by
    rw [anK.eq_1]
    exact ⟨rfl, fun _ _ => rfl⟩
  | k + 1 => by
    obtain ⟨h1, h2⟩ := anK_I (x := x) k
    rw [anK.eq_2]
    generalize anK R x k = Z at *
    have hl : mI (lkM Z k x) = mI Z ∧ ∀ i, i ≠ 199 → mL (lkM Z k x) i = mL Z i := by
      unfold lkM
      split
      · exact ⟨rfl, fun i hi => by rw [sL_ne9 hi, sL_ne9 hi]⟩
      · exact ⟨rfl, fun _ _ => rfl⟩
    unfold anM
    exact ⟨hl.1.trans h1, fun i hi => by rw [sL_ne9 hi, hl.2 i hi, h2 i hi]⟩
theorem lrM_I {j : Nat} (h : j = 5 ∨ j = 24) : mI (lrM N T len) 198 j = mI N 198 j := by
  unfold lrM
  generalize (lrR T len (mI N 198 10) (mI N 198 12) (mL N 200)).2 = q
  generalize (lrR T len (mI N 198 10) (mI N 198 12) (mL N 200)).1 = w
  have h1 : mI (psM (sL (thr N 0) 200 w) q) 198 = prF (mI (thr N 0) 198) q := sI_self _ _ _
  rw [h1]
  have h2 : mI (thr N 0) 198 j = mI N 198 j := by
    unfold thr
    rw [pI_k (by omega)]
  rcases h with rfl | rfl
  · exact h2
  · exact h2
theorem lrM_o : (∀ i, i ≠ 198 → mI (lrM N T len) i = mI N i) ∧ ∀ i, i ≠ 200 → mL (lrM N T len) i = mL N i := by
  unfold lrM
  generalize (lrR T len (mI N 198 10) (mI N 198 12) (mL N 200)).2 = q
  generalize (lrR T len (mI N 198 10) (mI N 198 12) (mL N 200)).1 = w
  refine ⟨fun i hi => ?_, fun i hi => ?_⟩
  · rw [ps_ne hi]
    show mI (thr N 0) i = _
    unfold thr
    rw [sI_ne hi]
  · show mL (sL (thr N 0) 200 w) i = _
    rw [sL_ne9 hi]
    rfl
theorem lrD_at : (∀ j, j = 5 ∨ j = 24 → mI (lrD N T len r) 198 j = mI N 198 j) ∧ mI (lrD N T len r) 198 8 = 0 ∧ mI (lrD N T len r) 198 14 = r.2.2.2.1 ∧ mI (lrD N T len r) 198 15 = (if r.2.2.2.1 = 0 then -1 else r.2.2.1) ∧ (∀ i, i ≠ 198 → mI (lrD N T len r) i = mI N i) ∧ ∀ i, i ≠ 200 → mL (lrD N T len r) i = mL N i := by
  have h1 := fun j h => lrM_I (N := N) (T := T) (len := len) (j := j) h
  obtain ⟨h2, h3⟩ := lrM_o (N := N) (T := T) (len := len)
  unfold lrD
  generalize lrM N T len = Z at *
  refine ⟨fun j hj => ?_, ?_, ?_, pI_at9 _ _ _ _, fun i hi => ?_, fun i hi => h3 i hi⟩
  · rw [pI_k (by omega), pI_k (by omega), pI_k (by omega), h1 j hj]
  · rw [pI_k (by decide), pI_k (by decide), pI_at9]
  · rw [pI_k (by decide), pI_at9]
  · rw [sI_ne hi, sI_ne hi, sI_ne hi, h2 i hi]
theorem riM_o (hS : Shp M) {i : Nat} (h1 : i ≠ 1) (h : i < 17 ∨ 31 ≤ i) : mI (riM M len) i = mI M i := by
  have h2 := (riR_ok (len := len) hS).1.2 i h
  unfold riM
  rw [sI_ne h1, rd_ne h1, anL_ne (by omega) 6 (Nat.le_refl 6), h2]
theorem riM_1 : mI (riM M len) 1 1 = 0 := by
  unfold riM
  exact pI_at9 _ _ _ _
theorem riM_4 : mI (riM M len) 1 4 = (riR M len).2.2.2.1 := by
  unfold riM
  rw [pI_k (by decide)]
  exact rd_4
theorem riM_R {u : Nat → Int64} {n' : Nat} (h : SR (anL (riR M len).1 (nI (riN M len)) 6) 17 u n') : SR (riM M len) 17 u n' := by
  unfold riM
  generalize anL (riR M len).1 (nI (riN M len)) 6 = Z at *
  exact SR_cg h (fun i a b => by rw [sI_ne (by omega), rd_ne (by omega)]) (fun _ _ => rfl)
theorem ld_IV (h : IV M n p c) {n' : Nat} (hS : Shp Y) (hSR : SR Y 3 (mL Y 199) n') (hIC : IC Y n') (e : ∀ i, (32 ≤ i ∧ i < 175) ∨ (187 ≤ i ∧ i < 198) ∨ 199 ≤ i → mI Y i = mI M i) (e04 : mI Y 0 4 = mI M 0 4) (e05 : mI Y 0 5 = 0) (e85 : mI Y 198 5 = 0) (eL : ∀ i, i ≠ 199 → i ≠ 200 → mL Y i = mL M i) (hIR : IR Y) (e014 : mI Y 0 14 = 0) (e24 : mI Y 198 24 = mI M 198 24) : IV Y n' p 0 := by
  obtain ⟨x1, x2, x3, w, w1, w2⟩ := h.2.2.2.2.2.2
  exact ⟨hS, hSR, ⟨by rw [e04]; exact h.2.2.1.1, h.2.2.1.2.1, e05, Nat.zero_le 8, e85, fun i hi => absurd hi (Nat.not_lt_zero i)⟩, is_cg h.2.2.2.1 (fun i a b => e i (by omega)) (e 203 (by omega)) (eL 202 (by decide) (by decide)), hIC, hIR, by rw [e 188 (by omega)]; exact x1, fun i hi => by rw [eL 209 (by decide) (by decide)]; exact x2 i hi, ⟨0, by decide, e014⟩, w, w1, by rw [e24]; exact w2⟩
theorem ld_IE (h : IV M n p c) (hS : Shp Y) (e : ∀ i, i ≠ 1 → i ≠ 198 → i < 17 ∨ 31 ≤ i → mI Y i = mI M i) (e85 : mI Y 198 5 = mI M 198 5) (eL : ∀ i, i ≠ 200 → mL Y i = mL M i) (hIR : IR Y) (e24 : mI Y 198 24 = mI M 198 24) : IV Y n p c := by
  have e0 := e 0 (by decide) (by decide) (by decide)
  exact ⟨hS, SR_cg h.2.1 (fun i a b => e i (by omega) (by omega) (by omega)) (fun i _ => by rw [eL 199 (by decide)]), ip_cg h.2.2.1 (fun i a b => e i (by omega) (by omega) (by omega)) (by rw [e0]) (by rw [e0]) e85 (eL 201 (by decide)), is_cg h.2.2.2.1 (fun i a b => e i (by omega) (by omega) (by omega)) (e 203 (by decide) (by decide) (by decide)) (eL 202 (by decide)), ic_cg h.2.2.2.2.1 (fun i a b => e i (by omega) (by omega) (by omega)) (fun i a b => e i (by omega) (by omega) (by omega)), hIR, ix_cg h.2.2.2.2.2.2 (e 188 (by decide) (by decide) (by decide)) (eL 209 (by decide)) (by rw [e0]) e24⟩
theorem ld_IR {s : RP} (hE : EqE s r) (e1 : mI Y 1 1 = 0) (e5 : mI Y 1 5 = s.2.2.2.1) (e4 : mI Y 1 4 = s.2.2.1) (e8 : mI Y 198 8 = 0) (e14 : mI Y 198 14 = r.2.2.2.1) (e15 : mI Y 198 15 = (if r.2.2.2.1 = 0 then -1 else r.2.2.1)) : IR Y :=
  ⟨⟨0, Nat.zero_le _, e1, e8, fun i hi => absurd hi (Nat.not_lt_zero i)⟩, by rw [e14, e5, hE.2.1], by rw [e15, e5, e4, hE.2.1, hE.1]⟩
theorem ld_tx (hc : Cf M N) (l4 : txt M (mI M 2) len) : txt N (mI M 2) len := fun i hi => by
  obtain ⟨j, j1, j2, j3⟩ := l4 i hi
  exact ⟨j, j1, j2, by rw [hc.I (by decide)]; exact j3⟩
theorem sm_load (h : IV M n p c) : SmN True l jX6_load jX7_load 9 260 8 220 [.ref 0] [.ref 198] M Inv := by
  have hS := h.S
  obtain ⟨⟨len, l1, l2, l3, l4⟩, r2, r3⟩ := h.2.2.2.2.2.1
  have q := u_load (l := l) hS l2 l1
  by_cases e : (riR M len).2.2.2.2.1 = 0
  · rw [if_pos e, if_pos e] at q
    have hcR : Cf M (riM M len) := cf_riM
    have hc : Cf M (pI (replM (riM M len) 17) 0 14 0) := cf_pI (by decide) (hcR.tr cf_replM)
    obtain ⟨b1', b2, b3, b4⟩ := rp_at (M := riM M len) (o := 17) (Nat.le_refl 17)
    have hN0 : ∀ i, i ≠ 0 → mI (pI (replM (riM M len) 17) 0 14 0) i = mI (replM (riM M len) 17) i := fun i hi => sI_ne hi
    have hN1 : ∀ j, mI (pI (replM (riM M len) 17) 0 14 0) 0 j = if j = 14 then 0 else mI (replM (riM M len) 17) 0 j := fun j => by
      rw [pI_at]
      by_cases z : j = 14
      · rw [if_pos ⟨rfl, z⟩, if_pos z]
      · rw [if_neg (fun y => z y.2), if_neg z]
    generalize pI (replM (riM M len) 17) 0 14 0 = N at *
    obtain ⟨e1, e2, e3⟩ := ri_lr (len := len) (b9 := mI N 198 10) (e9 := mI N 198 12) (u := mL N 200) hS
    have n9 := n_load (l := l) (M := N) (T := mI M 2) (len := len) (hc.S hS) (ld_tx hc l4) (by rw [hc.I (Nat.le_refl 198)]; exact l3) l1
    have er : (lrR (mI M 2) len (mI N 198 10) (mI N 198 12) (mL N 200)).2.2.2.2.1 = 0 := by rw [← e2.2.1]; exact e
    have hS2 : Shp (ldE N (mI M 2) len (lrR (mI M 2) len (mI N 198 10) (mI N 198 12) (mL N 200)).2) := (rf_ldE (Rf.rf _)).S (hc.S hS)
    have hSR0 := e3 e
    refine ⟨_, _, _, _, q, n9, hc.S hS, hS2, fun _ => ?_, lrN (mI M 2) len (mI N 198 10) (mI N 198 12), p, 0, ?_⟩
    · unfold ldV
      rw [if_pos er, e1]
    · unfold ldE at hS2 ⊢
      rw [if_pos er] at hS2 ⊢
      have hCL : mL (lrC N (mI M 2) len (lrR (mI M 2) len (mI N 198 10) (mI N 198 12) (mL N 200)).2) 199 = cpF (mL N 199) 0 (lrR (mI M 2) len (mI N 198 10) (mI N 198 12) (mL N 200)).1 0 220 := by
        unfold lrC
        exact sL_self _ _ _
      have hSR1 : SR (riR M len).1 17 (mL (lrC N (mI M 2) len (lrR (mI M 2) len (mI N 198 10) (mI N 198 12) (mL N 200)).2) 199) (lrN (mI M 2) len (mI N 198 10) (mI N 198 12)) := SR_cg hSR0 (fun _ _ _ => rfl) (fun j hj => by
        rw [hCL]
        unfold cpF
        rw [if_pos ⟨by omega, by omega⟩]
        congr 1)
      obtain ⟨d1, d2, d3, d4, d5, d6⟩ := lrD_at (N := N) (T := mI M 2) (len := len) (r := (lrR (mI M 2) len (mI N 198 10) (mI N 198 12) (mL N 200)).2)
      have c1 : ∀ j, j ≠ 5 → mI (lrC N (mI M 2) len (lrR (mI M 2) len (mI N 198 10) (mI N 198 12) (mL N 200)).2) 198 j = mI (lrD N (mI M 2) len (lrR (mI M 2) len (mI N 198 10) (mI N 198 12) (mL N 200)).2) 198 j := fun j hj => by
        unfold lrC
        rw [pI_k hj]
      have c2 : mI (lrC N (mI M 2) len (lrR (mI M 2) len (mI N 198 10) (mI N 198 12) (mL N 200)).2) 198 5 = 0 := by
        unfold lrC
        exact pI_at9 _ _ _ _
      have c3 : ∀ i, i ≠ 198 → mI (lrC N (mI M 2) len (lrR (mI M 2) len (mI N 198 10) (mI N 198 12) (mL N 200)).2) i = mI (lrD N (mI M 2) len (lrR (mI M 2) len (mI N 198 10) (mI N 198 12) (mL N 200)).2) i := fun i hi => by
        unfold lrC
        rw [sI_ne hi]
      have c4 : ∀ i, i ≠ 199 → mL (lrC N (mI M 2) len (lrR (mI M 2) len (mI N 198 10) (mI N 198 12) (mL N 200)).2) i = mL (lrD N (mI M 2) len (lrR (mI M 2) len (mI N 198 10) (mI N 198 12) (mL N 200)).2) i := fun i hi => by
        unfold lrC
        show mL (sL _ 199 _) i = _
        rw [sL_ne9 hi]
      generalize (lrR (mI M 2) len (mI N 198 10) (mI N 198 12) (mL N 200)).2 = r at *
      generalize lrD N (mI M 2) len r = D at *
      generalize lrC N (mI M 2) len r = C at *
      generalize lrN (mI M 2) len (mI N 198 10) (mI N 198 12) = n' at *
      have hSR2 := SR_anL (x := nI n') hSR1 6 (Nat.le_refl 6)
      rw [← e1] at hSR2
      have hSR3 := b3 _ _ (riM_R hSR2)
      obtain ⟨a1, a2⟩ := anK_I (R := C) (x := nI n') 6
      rw [e1] at hSR3
      generalize anK C (nI n') 6 = Y at *
      have hI : ∀ i, i ≠ 0 → i ≠ 198 → mI Y i = mI (replM (riM M len) 17) i := fun i h0 h8 => by rw [a1, c3 i h8, d5 i h8, hN0 i h0]
      have hI0 : ∀ j, mI Y 0 j = if j = 14 then 0 else mI (replM (riM M len) 17) 0 j := fun j => by
        rw [a1, c3 0 (by decide), d5 0 (by decide)]
        exact hN1 j
      have h1I : ∀ j, mI Y 1 j = mI (riM M len) 1 j := fun j => by rw [hI 1 (by decide) (by decide), b1' 1 (by decide) (by decide)]
      refine ld_IV h hS2 (SR_cg hSR3 (fun i a b => hI i (by omega) (by omega)) (fun _ _ => rfl)) (ic_cg (b4 n') (fun i a b => hI i (by omega) (by omega)) (fun i a b => hI i (by omega) (by omega))) (fun i hi => ?_) ?_ ?_ ?_ (fun i h1 h2 => ?_) (ld_IR e2 ?_ ?_ ?_ ?_ ?_ ?_) ?_ ?_
      · rw [hI i (by omega) (by omega), b1' i (by omega) (by omega), riM_o hS (by omega) (by omega)]
      · rw [hI0, if_neg (by decide), b2, if_neg (by decide), riM_o hS (by decide) (by decide)]
      · rw [hI0, if_neg (by decide), b2, if_pos rfl]
      · rw [a1, c2]
      · rw [a2 i h1, c4 i h1, d6 i h2, hc.L]
      · rw [h1I, riM_1]
      · rw [h1I, riM_5]
      · rw [h1I, riM_4]
      · rw [a1, c1 8 (by decide), d2]
      · rw [a1, c1 14 (by decide), d3]
      · rw [a1, c1 15 (by decide), d4]
      · rw [hI0, if_pos rfl]
      · rw [a1, c1 24 (by decide), d1 24 (Or.inr rfl), hc.I (Nat.le_refl 198)]
  · rw [if_neg e, if_neg e] at q
    have hc : Cf M (riM M len) := cf_riM
    have hXo : ∀ i, i ≠ 1 → i < 17 ∨ 31 ≤ i → mI (riM M len) i = mI M i := fun i h1 h2 => riM_o hS h1 h2
    have x1 := riM_1 (M := M) (len := len)
    have x5 := riM_5 (M := M) (len := len)
    have x4 := riM_4 (M := M) (len := len)
    generalize riM M len = N at *
    obtain ⟨e1, e2, -⟩ := ri_lr (len := len) (b9 := mI N 198 10) (e9 := mI N 198 12) (u := mL N 200) hS
    have n9 := n_load (l := l) (M := N) (T := mI M 2) (len := len) (hc.S hS) (ld_tx hc l4) (by rw [hc.I (Nat.le_refl 198)]; exact l3) l1
    have er : ¬ (lrR (mI M 2) len (mI N 198 10) (mI N 198 12) (mL N 200)).2.2.2.2.1 = 0 := by rw [← e2.2.1]; exact e
    have hS2 : Shp (ldE N (mI M 2) len (lrR (mI M 2) len (mI N 198 10) (mI N 198 12) (mL N 200)).2) := (rf_ldE (Rf.rf _)).S (hc.S hS)
    refine ⟨_, _, _, _, q, n9, hc.S hS, hS2, fun _ => ?_, n, p, c, ?_⟩
    · unfold ldV
      rw [if_neg er, e2.2.2 e]
    · unfold ldE at hS2 ⊢
      rw [if_neg er] at hS2 ⊢
      obtain ⟨d1, d2, d3, d4, d5, d6⟩ := lrD_at (N := N) (T := mI M 2) (len := len) (r := (lrR (mI M 2) len (mI N 198 10) (mI N 198 12) (mL N 200)).2)
      generalize (lrR (mI M 2) len (mI N 198 10) (mI N 198 12) (mL N 200)).2 = r at *
      generalize lrD N (mI M 2) len r = Y at *
      refine ld_IE h hS2 (fun i h1 h2 h3 => by rw [d5 i h2, hXo i h1 h3]) ?_ (fun i hi => by rw [d6 i hi, hc.L]) (ld_IR e2 ?_ ?_ ?_ d2 d3 d4) ?_
      · rw [d1 5 (Or.inl rfl), hc.I (Nat.le_refl 198)]
      · rw [d5 1 (by decide), x1]
      · rw [d5 1 (by decide), x5]
      · rw [d5 1 (by decide), x4]
      · rw [d1 24 (Or.inr rfl), hc.I (Nat.le_refl 198)]
end
