/-! calls that change, from the invariant to the invariant (5989) -/
section
variable {l : Launch} {M : Mem} {n p c : Nat}
theorem ic_cg {M2 : Mem} (h : IC M n) (e : ∀ i, 6 ≤ i → i < 17 → mI M2 i = mI M i) (e2 : ∀ i, 175 ≤ i → i < 187 → mI M2 i = mI M i) : IC M2 n := fun s hs h1 r hr => by
  rw [e2 _ (by omega) (by omega)] at h1
  rw [e2 _ (by omega) (by omega), e _ (by omega) (by omega)]
  exact h s hs h1 r hr
theorem is_cg {M2 : Mem} (h : IS M) (e : ∀ i, 145 ≤ i → i < 174 → mI M2 i = mI M i) (e203 : mI M2 203 = mI M 203) (e202 : mL M2 202 = mL M 202) : IS M2 := fun q hq => by
  obtain ⟨k1, k2⟩ := h q hq
  refine ⟨fun s hs6 => by rw [e _ (by omega) (by omega)]; exact k1 s hs6, ?_⟩
  rw [e 173 (by decide) (by decide), e203, e202]
  rcases k2 with k2 | ⟨a1, a2, n', a3⟩
  · exact Or.inl k2
  · exact Or.inr ⟨a1, a2, n', SR_cg a3 (fun i a b => e i (by omega) (by omega)) (fun j _ => rfl)⟩
theorem ir_cg {M2 : Mem} (h : IR M) (e1 : mI M2 1 = mI M 1) (e2 : mI M2 2 = mI M 2) (e204 : mI M2 204 = mI M 204) (e8 : mI M2 198 8 = mI M 198 8) (e14 : mI M2 198 14 = mI M 198 14) (e15 : mI M2 198 15 = mI M 198 15) : IR M2 := by
  obtain ⟨⟨len, l1, l2, l3, l4⟩, r2, r3⟩ := h
  refine ⟨⟨len, l1, by rw [e1]; exact l2, by rw [e8]; exact l3, fun i hi => ?_⟩, by rw [e14, e1]; exact r2, by rw [e15, e1]; exact r3⟩
  obtain ⟨j, j1, j2, j3⟩ := l4 i hi
  exact ⟨j, j1, by rw [e2]; exact j2, by rw [e204]; exact j3⟩
theorem ix_cg {M2 : Mem} (h : IX M) (e188 : mI M2 188 = mI M 188) (e209 : mL M2 209 = mL M 209) (e0 : mI M2 0 14 = mI M 0 14) (e24 : mI M2 198 24 = mI M 198 24) : IX M2 := by
  obtain ⟨x1, x2, x3, x4⟩ := h
  exact ⟨by rw [e188]; exact x1, fun i hi => by rw [e209]; exact x2 i hi, by rw [e0]; exact x3, by rw [e24]; exact x4⟩
theorem ip_cg {M2 : Mem} (h : IP M n p c) (e : ∀ i, 32 ≤ i → i < 144 → mI M2 i = mI M i) (e4 : mI M2 0 4 = mI M 0 4) (e5 : mI M2 0 5 = mI M 0 5) (e8 : mI M2 198 5 = mI M 198 5) (e201 : mL M2 201 = mL M 201) : IP M2 n p c := by
  obtain ⟨p1, p2, p3, p4, p5, p6⟩ := h
  refine ⟨by rw [e4]; exact p1, p2, by rw [e5]; exact p3, p4, by rw [e8]; exact p5, fun i hi => ?_⟩
  have hm : (p + 8 - c + i) % 8 < 8 := Nat.mod_lt _ (by decide)
  exact SR_cg (p6 i hi) (fun j a b => e j (by omega) (by omega)) (fun j _ => by rw [e201])
theorem wrt_at {N : Mem} {x : Int32} : mI (wrtM N n x) 198 24 = nI n ∧ (∀ j, j ≠ 6 → j ≠ 24 → mI (wrtM N n x) 198 j = mI N 198 j) ∧ (∀ i, i ≠ 198 → i ≠ 211 → mI (wrtM N n x) i = mI N i) ∧ mL (wrtM N n x) = mL N := by
  unfold wrtM
  refine ⟨?_, fun j a b => ?_, fun i a b => ?_, rfl⟩
  · rw [sI_ne (by decide), pI_at9]
  · rw [sI_ne (by decide), pI_k b]
    unfold thr
    rw [pI_k a]
  · rw [sI_ne b, sI_ne a]
    unfold thr
    rw [sI_ne a]
theorem wo_at {x : Int32} : mI (woM M x n n) 0 14 = nI n ∧ (∀ j, j ≠ 14 → mI (woM M x n n) 0 j = mI M 0 j) ∧ ∀ i, i ≠ 0 → i ≠ 197 → mI (woM M x n n) i = mI M i := by
  unfold woM
  refine ⟨?_, fun j a => ?_, fun i a b => ?_⟩
  · rw [sI_ne (by decide), pI_at9]
  · rw [sI_ne (by decide), pI_k a]
  · rw [sI_ne b, sI_ne a]
theorem sm_writeRow (h : IV M n p c) (x1 : Int32) (x2 : Int32) : SmI True l jL_writeRow jX7_writeRow 9 164 2 12 4 [.ref 0, .int x1, .int x2, .ref 212] [.ref 198, .int x1, .int x2] M Inv := by
  have hS := h.S
  have hz := h.z
  have hn := h.n32
  have hn1 := h.n1
  by_cases hr : inR x1 6 ∧ inR x2 n
  · obtain ⟨s, hs, rfl⟩ := inR_of hr.1 (by decide)
    obtain ⟨r, hr2, rfl⟩ := inR_of hr.2 (by omega)
    have q := q_writeRow (l := l) hS hz hn hs hr2
    have hc : Cf M (woM M (mI M (6 + 2 * s) r) n n) := cf_woM
    obtain ⟨a1, a2, a3⟩ := wo_at (M := M) (n := n) (x := mI M (6 + 2 * s) r)
    have n9 := fun v => n_writeRow (l := l) (iv_A (v := v) h hc) hs hr2
    generalize hX : woM M (mI M (6 + 2 * s) r) n n = X at *
    refine uI (hc.S hS) (w_writeRow q (shK hS rfl) (shK (hc.S hS) rfl)) (n9 _) (fun _ => rfl) (rf_wrtM (Rf.rf _)) t6_wrtM ⟨n, p, c, ?_⟩
    obtain ⟨b1', b2, b3, b4⟩ := wrt_at (N := pL X 212 0 (nI n).toInt64) (n := n) (x := Am M s r)
    have hS2 : Shp (wrtM (pL X 212 0 (nI n).toInt64) n (Am M s r)) := (rf_wrtM (Rf.rf _)).S (hc.S hS)
    generalize wrtM (pL X 212 0 (nI n).toInt64) n (Am M s r) = Y at *
    have e : ∀ i, i ≠ 0 → i ≠ 197 → i ≠ 198 → i ≠ 211 → mI Y i = mI M i := fun i h1 h2 h3 h4 => (b3 i h3 h4).trans (a3 i h1 h2)
    have eL : ∀ i, i ≠ 212 → mL Y i = mL M i := fun i hi => by rw [b4, sL_ne9 hi, hc.L]
    have e0 : ∀ j, j ≠ 14 → mI Y 0 j = mI M 0 j := fun j hj => by rw [b3 0 (by decide) (by decide)]; exact a2 j hj
    have e8 : ∀ j, j ≠ 6 → j ≠ 24 → mI Y 198 j = mI M 198 j := fun j h1 h2 => by rw [b2 j h1 h2]; exact congrFun (a3 198 (by decide) (by decide)) j
    refine ⟨hS2, SR_cg h.2.1 (fun i h1 h2 => e i (by omega) (by omega) (by omega) (by omega)) (fun i _ => by rw [eL 199 (by decide)]), ip_cg h.2.2.1 (fun i h1 h2 => e i (by omega) (by omega) (by omega) (by omega)) (e0 4 (by decide)) (e0 5 (by decide)) (e8 5 (by decide) (by decide)) (eL 201 (by decide)), is_cg h.2.2.2.1 (fun i h1 h2 => e i (by omega) (by omega) (by omega) (by omega)) (e 203 (by decide) (by decide) (by decide) (by decide)) (eL 202 (by decide)), ic_cg h.2.2.2.2.1 (fun i h1 h2 => e i (by omega) (by omega) (by omega) (by omega)) (fun i h1 h2 => e i (by omega) (by omega) (by omega) (by omega)), ir_cg h.2.2.2.2.2.1 (e 1 (by decide) (by decide) (by decide) (by decide)) (e 2 (by decide) (by decide) (by decide) (by decide)) (e 204 (by decide) (by decide) (by decide) (by decide)) (e8 8 (by decide) (by decide)) (e8 14 (by decide) (by decide)) (e8 15 (by decide) (by decide)), ?_⟩
    obtain ⟨x1, x2, -, -⟩ := h.2.2.2.2.2.2
    refine ⟨by rw [e 188 (by decide) (by decide) (by decide) (by decide)]; exact x1, fun i hi => by rw [eL 209 (by decide)]; exact x2 i hi, ⟨n, hn, ?_⟩, n, hn, b1'⟩
    rw [b3 0 (by decide) (by decide)]
    exact a1
  · exact xI h (by decide) (wx_writeRow (x_writeRow hS hz hr) (shK hS rfl)) (t_writeRow h.R hr)

theorem sv_IS (h : IV M n p c) {q : Nat} {Y : Mem} (hq : q < 2) (e : ∀ i, 145 ≤ i → i < 173 → mI Y i = mI (stTake M (145 + 14 * q) 3) i) (e1 : ∀ j, mI Y 173 j = if j = q then 1 else mI M 173 j) (e2 : ∀ j, mI Y 203 j = if j = q then 1 else mI M 203 j) (eL : mL Y 202 = cpF (mL M 202) q (mL M 199) 0 220) : IS Y := fun t ht => by
  have hT : SR (stTake M (145 + 14 * q) 3) (145 + 14 * q) (mL M 199) n := SR_take (Or.inr (by omega)) h.2.1
  by_cases et : t = q
  · subst et
    have hY : SR Y (145 + 14 * t) (fun j => mL Y 202 (220 * t + j)) n := SR_cg hT (fun i a b => e i (by omega) (by omega)) (fun i hi => by
      show mL Y 202 (220 * t + i) = mL M 199 i
      rw [eL]
      unfold cpF
      rw [if_pos ⟨by omega, by omega⟩]
      congr 1
      omega)
    exact ⟨SR_keep hY, Or.inr ⟨by rw [e1, if_pos rfl], by rw [e2, if_pos rfl], n, hY⟩⟩
  · obtain ⟨k1, k2⟩ := h.2.2.2.1 t ht
    have e9 : ∀ i, 145 + 14 * t ≤ i → i < 159 + 14 * t → mI Y i = mI M i := fun i a b => by
      rw [e i (by omega) (by omega)]
      exact stTake_ne (by omega)
    refine ⟨fun s hs => by rw [e9 _ (by omega) (by omega)]; exact k1 s hs, ?_⟩
    rw [e1, if_neg et, e2, if_neg et]
    rcases k2 with k2 | ⟨a1, a2, n', a3⟩
    · exact Or.inl k2
    · refine Or.inr ⟨a1, a2, n', SR_cg a3 (fun i a b => e9 i (by omega) (by omega)) (fun j hj => ?_)⟩
      show mL Y 202 (220 * t + j) = _
      rw [eL]
      unfold cpF
      rw [if_neg (by omega)]
theorem sa_at {N : Mem} {q : Nat} : (∀ j, j ≠ 6 → mI (saM N q) 198 j = mI N 198 j) ∧ (∀ j, mI (saM N q) 203 j = if j = q then 1 else mI N 203 j) ∧ (∀ i, i ≠ 198 → i ≠ 203 → mI (saM N q) i = mI N i) ∧ mL (saM N q) 202 = cpF (mL N 202) q (mL N 199) 0 220 ∧ ∀ i, i ≠ 202 → mL (saM N q) i = mL N i := by
  unfold saM
  refine ⟨fun j a => ?_, fun j => ?_, fun i a b => ?_, ?_, fun i a => ?_⟩
  · rw [sI_ne (by decide)]
    show mI (thr N 0) 198 j = _
    unfold thr
    rw [pI_k a]
  · rw [pI_at]
    by_cases e : j = q
    · rw [if_pos ⟨rfl, e⟩, if_pos e]
    · rw [if_neg (fun h => e h.2), if_neg e]
      show mI (thr N 0) 203 j = _
      unfold thr
      rw [sI_ne (by decide)]
  · rw [sI_ne b]
    show mI (thr N 0) i = _
    unfold thr
    rw [sI_ne a]
  · show mL (sL (thr N 0) 202 _) 202 = _
    exact sL_self _ _ _
  · show mL (sL (thr N 0) 202 _) i = _
    rw [sL_ne9 a]
    rfl
theorem sv_at {q : Nat} (hq : q < 2) : (∀ j, mI (svM M q) 173 j = if j = q then 1 else mI M 173 j) ∧ (∀ i, i ≠ 173 → mI (svM M q) i = mI (stTake M (145 + 14 * q) 3) i) := by
  unfold svM
  refine ⟨fun j => ?_, fun i a => sI_ne a⟩
  rw [pI_at]
  by_cases e : j = q
  · rw [if_pos ⟨rfl, e⟩, if_pos e]
  · rw [if_neg (fun h => e h.2), if_neg e, stTake_ne (by omega)]
theorem sm_saveSnapshot (h : IV M n p c) (x1 : Int32) : SmI True l jL_saveSnapshot jX7_saveSnapshot 8 161 1 6 4 [.ref 0, .int x1, .ref 212] [.ref 198, .int x1] M Inv := by
  have hS := h.S
  have hz := h.z
  have hn := h.n32
  have hn1 := h.n1
  by_cases hr : ¬ x1 < 0 ∧ x1 ≤ 1
  · obtain ⟨q, hq9, rfl⟩ := nI_of2 (M := 1) (n := 1) (by decide) hr.1 hr.2
    have hq : q < 2 := by omega
    have hu := u_save (l := l) hS h.D.2.2.2.2.2.2.2 hq
    rw [hz] at hu
    have hc : Cf M (svM M q) := cf_svM hq
    obtain ⟨a1, a2⟩ := sv_at (M := M) hq
    have n9 := fun v => n_saveSnapshot (l := l) (iv_A (v := v) h hc) hq
    generalize svM M q = X at *
    refine uI (hc.S hS) (w_saveSnapshot hu (shK hS rfl) (shK (hc.S hS) rfl)) (n9 _) (fun _ => rfl) (rf_saM (Rf.rf _)) t6_saM ⟨n, p, c, ?_⟩
    obtain ⟨b1', b2, b3, b4, b5⟩ := sa_at (N := pL X 212 0 (nI n).toInt64) (q := q)
    have hS2 : Shp (saM (pL X 212 0 (nI n).toInt64) q) := (rf_saM (Rf.rf _)).S (hc.S hS)
    generalize saM (pL X 212 0 (nI n).toInt64) q = Y at *
    have e : ∀ i, i < 145 + 14 * q ∨ 159 + 14 * q ≤ i → i ≠ 173 → i ≠ 198 → i ≠ 203 → mI Y i = mI M i := fun i h1 h2 h3 h4 => by
      rw [b3 i h3 h4]
      show mI X i = mI M i
      rw [a2 i h2]
      exact stTake_ne (by omega)
    have eL : ∀ i, i ≠ 212 → i ≠ 202 → mL Y i = mL M i := fun i hi h2 => by rw [b5 i h2, sL_ne9 hi, hc.L]
    have e8 : ∀ j, j ≠ 6 → mI Y 198 j = mI M 198 j := fun j h1 => by
      rw [b1' j h1]
      show mI X 198 j = _
      rw [hc.I (Nat.le_refl 198)]
    refine ⟨hS2, SR_cg h.2.1 (fun i h1 h2 => e i (by omega) (by omega) (by omega) (by omega)) (fun i _ => by rw [eL 199 (by decide) (by decide)]), ip_cg h.2.2.1 (fun i h1 h2 => e i (by omega) (by omega) (by omega) (by omega)) (by rw [e 0 (by omega) (by decide) (by decide) (by decide)]) (by rw [e 0 (by omega) (by decide) (by decide) (by decide)]) (e8 5 (by decide)) (eL 201 (by decide) (by decide)), sv_IS h hq (fun i h1 h2 => by rw [b3 i (by omega) (by omega)]; exact a2 i (by omega)) (fun j => by rw [b3 173 (by decide) (by decide)]; exact a1 j) (fun j => ?_) ?_, ic_cg h.2.2.2.2.1 (fun i h1 h2 => e i (by omega) (by omega) (by omega) (by omega)) (fun i h1 h2 => e i (by omega) (by omega) (by omega) (by omega)), ir_cg h.2.2.2.2.2.1 (e 1 (by omega) (by decide) (by decide) (by decide)) (e 2 (by omega) (by decide) (by decide) (by decide)) (e 204 (by omega) (by decide) (by decide) (by decide)) (e8 8 (by decide)) (e8 14 (by decide)) (e8 15 (by decide)), ix_cg h.2.2.2.2.2.2 (e 188 (by omega) (by decide) (by decide) (by decide)) (eL 209 (by decide) (by decide)) (by rw [e 0 (by omega) (by decide) (by decide) (by decide)]) (e8 24 (by decide))⟩
    · rw [b2 j]
      show (if j = q then 1 else mI X 203 j) = _
      rw [hc.I (by decide)]
    · rw [b4, sL_ne9 (by decide), sL_ne9 (by decide), hc.L]
  · exact xI h (by decide) (wx_saveSnapshot (x_save hS hr) (shK hS rfl)) (t_saveSnapshot hS hr)

end
