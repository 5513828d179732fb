/-! products and powers beside the counts of the state -/
section
variable {M N K Y T R : Mem} {n p c : Nat}
theorem SR_ct {X : Mem} {u : Nat → Int64} {a b : Nat} (h : SR M 3 u n) (h3 : mI X 3 3 = nI a) (h4 : mI X 3 4 = nI b) (h1 : mI X 3 1 = mI M 3 1) (h2 : mI X 3 2 = mI M 3 2) (hi : ∀ i, 4 ≤ i → i < 17 → mI X i = mI M i) : SR X 3 (fun_set (fun_set u 2 (lN a)) 3 (lN b)) n := by
  obtain ⟨⟨a1, a2, a3, a4⟩, ⟨bl, b1', b2, b3, b4⟩, -, -, hS⟩ := h
  have g : ∀ j, j ≠ 2 → j ≠ 3 → fun_set (fun_set u 2 (lN a)) 3 (lN b) j = u j := fun j h2 h3 => by rw [fsu_at, if_neg h3, fsu_at, if_neg h2]
  refine ⟨⟨a1, a2, by rw [h1]; exact a3, by rw [g 0 (by decide) (by decide)]; exact a4⟩, ⟨bl, b1', b2, by rw [h2]; exact b3, by rw [g 1 (by decide) (by decide)]; exact b4⟩, ⟨a, h3, by rw [fsu_at, if_neg (by decide), fsu_at, if_pos rfl]⟩, ⟨b, h4, by rw [fsu_at, if_pos rfl]⟩, fun s hs => ?_⟩
  exact SS_cg (hS s hs) (fun j _ _ => by rw [hi _ (by omega) (by omega)]) (fun r _ => by rw [hi _ (by omega) (by omega)]) ⟨g _ (by omega) (by omega), g _ (by omega) (by omega), g _ (by omega) (by omega), g _ (by omega) (by omega)⟩ (fun r _ => g _ (by omega) (by omega))
theorem wk_3 {j : Nat} : mI (workM Y) 3 j = if j = 4 then mI Y 187 7 else if j = 3 then mI Y 187 6 else mI Y 3 j := by
  unfold workM
  rw [pI_at, pI_at]
  by_cases e : j = 4
  · rw [if_pos ⟨rfl, e⟩, if_pos e]
  · rw [if_neg (fun h => e h.2), if_neg e]
    by_cases e2 : j = 3
    · rw [if_pos ⟨rfl, e2⟩, if_pos e2]
    · rw [if_neg (fun h => e2 h.2), if_neg e2]
theorem wk_ne {i : Nat} (h : i ≠ 3) : mI (workM Y) i = mI Y i := by
  unfold workM
  rw [sI_ne h, sI_ne h]
theorem bg_5 {f : Int32} : mI (begMem R f) 187 5 = f := by
  unfold begMem
  exact pI_at9 _ _ _ _
theorem pr_X {a b bl : Nat} {fl : Bool} (ha : a < 6) (hb9 : b < 6) (h0 : mI R 188 0 = 0) (hb1 : 1 ≤ bl) (hb8 : bl ≤ 8) (hn : n ≤ 32) : mI (prM R a b n bl (b1 fl)) 188 0 = 0 ∧ mI (prM R a b n bl (b1 fl)) 3 3 = nI (mdN n bl (blocks n bl)) ∧ mI (prM R a b n bl (b1 fl)) 3 4 = nI (tkN (mI R (6 + 2 * a)) n bl (blocks n bl)) ∧ (∀ j, j ≠ 3 → j ≠ 4 → mI (prM R a b n bl (b1 fl)) 3 j = mI R 3 j) ∧ (∀ i, i ≠ 3 → i ≠ 187 → i ≠ 188 → i ≠ 195 → mI (prM R a b n bl (b1 fl)) i = mI R i) ∧ ∀ r, r < n → mI (prM R a b n bl (b1 fl)) 195 r = mlF fl (mI R (6 + 2 * a)) (mI R (6 + 2 * b)) n r := by
  obtain ⟨m1, m2, m3, m4⟩ := mul_all (fl := fl) (a := mI R (6 + 2 * a)) (b := mI R (6 + 2 * b)) (tb := mI R 188) (g := mI R 195) h0 hb1 hb8 hn
  have eE : mulEnd (begMem R (b1 fl)) n bl (6 + 2 * a) (6 + 2 * b) 195 = mulIt (b1 fl) n bl (mI R (6 + 2 * a)) (mI R (6 + 2 * b)) (mI R 188) (mI R 195) (blocks n bl) := by
    unfold mulEnd
    rw [bg_5, begMem_ne (by omega), begMem_ne (by omega), begMem_ne (by decide), begMem_ne (by decide)]
  unfold prM
  rw [eE]
  generalize mulIt (b1 fl) n bl (mI R (6 + 2 * a)) (mI R (6 + 2 * b)) (mI R 188) (mI R 195) (blocks n bl) = e at *
  have hB : ∀ i, i ≠ 187 → mI (begMem R (b1 fl)) i = mI R i := fun i hi => begMem_ne hi
  generalize begMem R (b1 fl) = B at *
  have q188 : mI (mulMem B 195 e) 188 = e.1 := by
    unfold mulMem
    rw [sI_ne (by decide), sI_ne (by decide), sI_self]
  have q195 : mI (mulMem B 195 e) 195 = e.2.1 := by
    unfold mulMem
    rw [sI_ne (by decide), sI_self]
  have q6 : mI (mulMem B 195 e) 187 6 = e.2.2.1 := by
    unfold mulMem
    rw [sI_self, fs_ne _ _ (by decide), fs_self]
  have q7 : mI (mulMem B 195 e) 187 7 = e.2.2.2 := by
    unfold mulMem
    rw [sI_self, fs_self]
  have qn : ∀ i, i ≠ 187 → i ≠ 188 → i ≠ 195 → mI (mulMem B 195 e) i = mI R i := fun i h1 h2 h3 => by rw [mulMem_ne h1 h2 h3, hB i h1]
  refine ⟨by rw [wk_ne (by decide), q188]; exact m1, by rw [wk_3, if_neg (by decide), if_pos rfl, q6]; exact m3, by rw [wk_3, if_pos rfl, q7]; exact m4, fun j h1 h2 => by rw [wk_3, if_neg h2, if_neg h1, qn 3 (by decide) (by decide) (by decide)], fun i h1 h2 h3 h4 => by rw [wk_ne h1, qn i h2 h3 h4], fun r hr => by rw [wk_ne (by decide), q195]; exact m2 r hr⟩
theorem rsM_at {s : RS} : mI (rsMem Y s) 188 = s.2.1 ∧ mI (rsMem Y s) 187 6 = s.2.2.2.2.1 ∧ mI (rsMem Y s) 187 7 = s.2.2.2.2.2 := by
  unfold rsMem
  refine ⟨by rw [sI_ne (by decide), sI_ne (by decide), sI_ne (by decide), sI_self], by rw [sI_self, fs_ne _ _ (by decide), fs_self], by rw [sI_self, fs_self]⟩
theorem pw_X {s bl m : Nat} {fl : Bool} {g : Nat → Int32} (hs : s < 6) (h0 : mI R 188 0 = 0) (hb1 : 1 ≤ bl) (hb8 : bl ≤ 8) (hn : n ≤ 32) (hm : m ≤ 1000000) (hg : ∀ r, r < n → mI R (6 + 2 * s) r = g r) {u : Nat → Int64} (h : SR R 3 u n) (hu : mL K 199 = u) : mI (pwM R s n bl (b1 fl) (nI m)) 188 0 = 0 ∧ (∀ i, 4 ≤ i → i < 187 → mI (pwM R s n bl (b1 fl) (nI m)) i = mI R i) ∧ (∀ r, r < n → mI (pwM R s n bl (b1 fl) (nI m)) (rsP (pwE R s n bl (b1 fl) (nI m))) r = (pqE K g fl n bl (nI m)).1 r) ∧ SR (pwM R s n bl (b1 fl) (nI m)) 3 (fun_set (fun_set u 2 (pqE K g fl n bl (nI m)).2.1) 3 (pqE K g fl n bl (nI m)).2.2.1) n ∧ Cu R (pwM R s n bl (b1 fl) (nI m)) := by
  have h1 := pwR_all (fl := fl) (bl := bl) (base := mI R (6 + 2 * s)) (s0 := rs0 (begMem R (b1 fl)) n) (q0 := pwS K) hm ⟨by
    show mI (begMem R (b1 fl)) 188 0 = 0
    rw [begMem_ne (by decide)]
    exact h0, fun r hr => wr_lt hr, fun h9 => h9.elim⟩ hb1 hb8 hn hg
  have e6 : pwE R s n bl (b1 fl) (nI m) = rsIt (b1 fl) n bl (mI R (6 + 2 * s)) (nI m) (rs0 (begMem R (b1 fl)) n) 20 := by
    unfold pwE raiseEnd
    rw [bg_5, begMem_ne (by omega)]
  rw [← e6] at h1
  have hq0 : m = 0 → pqE K g fl n bl (nI m) = pwS K := by
    intro e
    subst e
    rfl
  have eq9 : pwL g fl n bl (nI m) (hiB (nI m) 21) (pwS K) = pqE K g fl n bl (nI m) := rfl
  rw [eq9] at h1
  have hC : Cu R (pwM R s n bl (b1 fl) (nI m)) := ⟨cf_pwM, fun i hi => by
    unfold pwM
    generalize pwE R s n bl (b1 fl) (nI m) = e
    split
    · rw [wk_ne (by omega), rsMem_ne (by omega), begMem_ne (by omega)]
    · rw [rsMem_ne (by omega), begMem_ne (by omega)]⟩
  have hp := (rs_ids (pwE R s n bl (b1 fl) (nI m))).1
  have hpos : 0 < nI m ↔ 0 < m := nI_ltI (a := 0) (b := m) (by omega) (by omega)
  refine ⟨?_, ?_, ?_, ?_, hC⟩
  · have g1 := h1.1
    unfold pwM
    generalize pwE R s n bl (b1 fl) (nI m) = e at *
    split
    · rw [wk_ne (by decide), rsM_at.1]
      exact g1
    · rw [rsM_at.1]
      exact g1
  · intro i a b
    unfold pwM
    generalize pwE R s n bl (b1 fl) (nI m) = e at *
    split
    · rw [wk_ne (by omega), rsMem_ne (by omega), begMem_ne (by omega)]
    · rw [rsMem_ne (by omega), begMem_ne (by omega)]
  · intro r hr
    have g1 := h1.2.1 r hr
    rw [← rs_C (M := begMem R (b1 fl))] at g1
    unfold pwM
    generalize pwE R s n bl (b1 fl) (nI m) = e at *
    split
    · rw [wk_ne (by omega)]
      exact g1
    · exact g1
  · by_cases e0 : 0 < m
    · obtain ⟨a, b, g1, g2, g3, g4⟩ := h1.2.2 e0
      rw [g3, g4]
      refine SR_ct h ?_ ?_ ?_ ?_ (fun i a9 b9 => ?_) <;> unfold pwM <;> rw [if_pos (hpos.mpr e0)] <;> generalize pwE R s n bl (b1 fl) (nI m) = e at *
      · rw [wk_3, if_neg (by decide), if_pos rfl, rsM_at.2.1]
        exact g1
      · rw [wk_3, if_pos rfl, rsM_at.2.2]
        exact g2
      · rw [wk_3, if_neg (by decide), if_neg (by decide), rsMem_ne (by decide), begMem_ne (by decide)]
      · rw [wk_3, if_neg (by decide), if_neg (by decide), rsMem_ne (by decide), begMem_ne (by decide)]
      · rw [wk_ne (by omega), rsMem_ne (by omega), begMem_ne (by omega)]
    · have em : m = 0 := by omega
      rw [hq0 em]
      have e2 : (pwS K).2.1 = u 2 := by rw [← hu]; rfl
      have e3 : (pwS K).2.2.1 = u 3 := by rw [← hu]; rfl
      rw [e2, e3]
      refine SR_cg h (fun i a b => ?_) (fun j _ => ?_)
      · unfold pwM
        rw [if_neg (fun q => e0 (hpos.mp q))]
        generalize pwE R s n bl (b1 fl) (nI m) = e at *
        rw [rsMem_ne (by omega), begMem_ne (by omega)]
      · rw [fsu_at, fsu_at]
        split
        · rename_i q
          rw [q]
        · split
          · rename_i q
            rw [q]
          · rfl
/-- the reference's memories -/
theorem ru_ctM {a b : Nat} (h : Ru K N) : Ru K (ctM N a b) := by
  unfold ctM
  exact ru_sL (ru_sL h)
theorem ru_hdM {x k : Nat} {f : Nat → Int32} (hi : x = 205 ∨ x = 206 ∨ x = 207) (h : Ru K N) : Ru K (hdM N x k f) := h.tr (rq_hdM hi (Rq.rf _)).ru
theorem ru_h2 {x : Nat} {f : Nat → Int64} (hi : x = 205 ∨ x = 206 ∨ x = 207) (h : Ru K N) : Ru K (sL N x f) := h.tr (rq_sL hi (Rq.rf _)).ru
theorem ru_muM {fl : Bool} {f g : Nat → Int32} {bl : Nat} (h : Ru K N) : Ru K (muM N fl f g n bl) := by
  unfold muM
  exact ru_hdM (Or.inr (Or.inr rfl)) (ru_ctM h)
theorem ru_pqM {s : PW} (h : Ru K N) : Ru K (pqM N n s) := by
  unfold pqM
  exact ru_hdM (Or.inl rfl) (ru_h2 (Or.inr (Or.inr rfl)) (ru_sL (ru_sL h)))
theorem kp_L {i : Nat} (h : i ≠ 201) : mL (kepM Y c) i = mL Y i := sL_ne h
theorem kp_L1 : mL (kepM Y c) 201 = cpF (paW (mL Y 201) c) (paC c) (mL Y 199) 0 220 := sL_self _ _ _
theorem kp_o {i : Nat} (h : i ≠ 198) : mI (kepM Y c) i = mI Y i := sI_ne h
theorem kp_198 {j : Nat} : mI (kepM Y c) 198 j = if j = 5 then nI (paC c + 1) else mI Y 198 j := by
  unfold kepM
  rw [pI_at]
  by_cases e : j = 5
  · rw [if_pos ⟨rfl, e⟩, if_pos e]
  · rw [if_neg (fun h => e h.2), if_neg e]
theorem ru_kep (h : Rq T Y) : Ru (kepM T c) (kepM Y c) := by
  obtain ⟨⟨f1, f2, f3, f4, f5, f6, f7⟩, ⟨l1, l2, l3⟩, hb9, ⟨i1, i2⟩, h8⟩ := h
  refine ⟨⟨f1, f2, f3, f4, f5, fun i hi => by rw [kp_o (by omega), kp_o (by omega)]; exact f6 i hi, fun i hi => by rw [kp_L (by omega), kp_L (by omega)]; exact f7 i hi⟩, ⟨by rw [kp_L1, kp_L1, l1, l2], by rw [kp_L (by decide), kp_L (by decide)]; exact l3⟩, fun q i hi => ?_, ⟨by rw [kp_o (by decide), kp_o (by decide)]; exact i1, by rw [kp_o (by decide), kp_o (by decide)]; exact i2⟩, fun j h6 h22 => ?_⟩
  · have := hb9 (fun i hi => by
      have := q i hi
      rw [kp_L (by decide)] at this
      exact this) i hi
    rw [kp_L (by decide)]
    exact this
  · rw [kp_198, kp_198, h8 j h6 h22]
theorem iv_E {s : Nat} : esR True n (ivE M s n) (ivR R n (Am M s)) := el_E (M := M) (P := True) (fun _ i hi => wr_lt hi)
theorem ivR_cg {f : Nat → Int32} (h : mI N 210 = mI M 210) : ivR N n f = ivR M n f := by
  unfold ivR
  rw [h]
end
