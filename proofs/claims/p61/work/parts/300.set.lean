/-! a matrix laid into a desk; an action's last steps -/
section
variable {l : Launch} {M M' M1 M2 : Mem} {A P n p c d m b s t MC MS : Nat} {w : Int32} {u u' u1 : Nat → Int64} {us : Nat → Nat → Int64} {ρ ρ' : Nat → Nat × Nat} {eo : Option Nat} {os : List OD} {nv : OD} {q q' : DQ} {f : Nat → Nat → Bool} {g : Nat → Int32}
theorem OW.mat2 (ho : OW ρ d n q) (h : DK M d n q u) (h1 : Mt M' m n (fun r => b + r) f) (h2 : (mK M).length ≤ m) (h3 : (mK M).length ≤ b) : OW (rhoM ρ d s m b n) d n (qM q s m b) := by
  obtain ⟨o1, o2, o3, o4, o5⟩ := ho.cg h (ρ' := rhoM ρ d s m b n) (fun i hi => rhoM_old h2 h3 hi)
  refine ⟨o1, o2, o3, o4, fun t ht => ?_⟩
  obtain ⟨p1, p2, p3⟩ := o5 t ht
  show rhoM ρ d s m b n (fun_set q.2.2.2.1 s m t) = _ ∧ _ ∧ ∀ r, r < n → rhoM ρ d s m b n (fun_set q.2.2.2.2.1 s (fun r => b + r) t r) = _
  by_cases e : t = s
  · subst e
    rw [fs_self, fs_self]
    refine ⟨by unfold rhoM; rw [if_pos rfl], p2, fun r hr => ?_⟩
    have hne : b + r ≠ m := fun z => by
      have h5 := (h1.2 r hr).2.1
      rw [show (fun r => b + r) r = m from z, h1.1] at h5
      cases h5
    unfold rhoM
    show (if b + r = m then _ else if b ≤ b + r ∧ b + r < b + n then (d, 30 + 16 * t + (b + r - b)) else _) = _
    rw [if_neg hne, if_pos ⟨by omega, by omega⟩, show b + r - b = r by omega]
  · rw [fs_ne _ _ e, fs_ne _ _ e]
    exact ⟨p1, p2, p3⟩
/-- the numbers behind a matrix laid into slot t -/
theorem ly_rI {r : Nat} (hr : r < n) : rI (lyF u t g n) t r = g r := by
  unfold rI
  rw [ly_at, if_pos ⟨by omega, by omega⟩, show 28 + 32 * t + r - (28 + 32 * t) = r by omega, uL_32]
theorem ly_E (ht : t < 6) (hs : s < 6) (e : s ≠ t) (hn : n ≤ 32) : uE u (lyF u t g n) n s := ⟨fun r hr => by rw [ly_at, if_neg (by omega)], by rw [ly_at, if_neg (by omega)], by rw [ly_at, if_neg (by omega)], by rw [ly_at, if_neg (by omega)], by rw [ly_at, if_neg (by omega)]⟩
theorem ly_lo {j : Nat} (hj : j < 28) : lyF u t g n j = u j := by rw [ly_at, if_neg (by omega)]
/-- the law's set -/
theorem st_law (hD : DK M d n q u) (hO : OW ρ d n q) (hx : Xt (fun i => i = d) M M1) (hD1 : DK M1 d n q u1) (hm : Mt M1 m n (fun r => b + r) f) (h2 : (mK M).length ≤ m) (h3 : (mK M).length ≤ b) (ht : t < 6) (hg : ∀ r c, r < n → c < n → f r c = hb (g r) c) (hn : n ≤ 32) : ∃ M2, EvR l jX7_set 2 60 0 0 [.ref d, .int (nI t), .ref m] M1 (.inl none) M2 ∧ DK M2 d n (qM q t m b) (anU (lyF u1 t g n) t (nI n)) ∧ OW (rhoM ρ d t m b n) d n (qM q t m b) ∧ Xt (fun i => i = d ∨ i = q.1 ∨ i = q.2.2.2.2.2 t) M M2 ∧ (∀ i, i < (mK M).length → rhoM ρ d t m b n i = ρ i) ∧ (∀ i, i < (mK M).length → (i = d ∨ i = q.1 ∨ i = q.2.2.2.2.2 t) → (ρ i).1 = d) ∧ Mt M2 m n (fun r => b + r) f := by
  have hO2 : OW (rhoM ρ d t m b n) d n (qM q t m b) := hO.mat2 hD hm h2 h3
  obtain ⟨⟨k, k1, k2⟩, -⟩ := (hD1.2.2.2 t ht).2
  have hc1 := hD1.2.2.1.1
  have h5 := (hD1.2.2.2 t ht).2.2.2.1
  have hmat : DK (sR M1 q.1 (fun_set (mR M1 q.1) t (some m))) d n (qM q t m b) (lyF u1 t g n) := hD1.mat hm (fun r c hr hc => by rw [ly_rI hr]; exact hg r c hr hc) (fun s hs e => ly_E ht hs e hn) ⟨ly_lo (by omega), ly_lo (by omega), ly_lo (by omega), ly_lo (by omega)⟩ ⟨ly_lo (by omega), ly_lo (by omega), ly_lo (by omega)⟩
  have hk4 : lyF u1 t g n (4 + t) = b1L k := by rw [ly_lo (by omega)]; exact k2
  have hx2 : Xt (fun i => i = d ∨ i = q.1 ∨ i = q.2.2.2.2.2 t) M (dkAnew (sR M1 q.1 (fun_set (mR M1 q.1) t (some m))) (q.2.2.2.2.2 t) k (nI n)) := ((hx.up (W' := fun i => i = d ∨ i = q.1 ∨ i = q.2.2.2.2.2 t) (fun i _ e => Or.inl e)).sR (fun _ => Or.inr (Or.inl rfl))).tr' (dkAnew_xt (M := sR M1 q.1 (fun_set (mR M1 q.1) t (some m))) (c := q.2.2.2.2.2 t) (k := k) (x := nI n)) (fun i _ e => Or.inr (Or.inr e))
  have hx3 : Xt (fun i => i = q.1 ∨ i = q.2.2.2.2.2 t) M1 (dkAnew (sR M1 q.1 (fun_set (mR M1 q.1) t (some m))) (q.2.2.2.2.2 t) k (nI n)) := ((Xt.rf (fun i => i = q.1 ∨ i = q.2.2.2.2.2 t) M1).sR (fun _ => Or.inl rfl)).tr' (dkAnew_xt (M := sR M1 q.1 (fun_set (mR M1 q.1) t (some m))) (c := q.2.2.2.2.2 t) (k := k) (x := nI n)) (fun i _ e => Or.inr e)
  refine ⟨_, k_set hD1 ht hm hmat hO2 k1, hmat.anew hO2 ht hk4, hO2, hx2, fun i hi => rhoM_old h2 h3 hi, fun i _ e => ?_, hm.xt hx3 (fun e => ?_) (fun r hr e => ?_)⟩
  · obtain ⟨o1, o2, o3, o4, o5⟩ := hO
    rcases e with e | e | e
    · rw [e, o1]
    · rw [e, o2]
    · rw [e, (o5 t ht).2.1]
  · have h9 := hm.1
    rcases e with e | e
    · rw [e, hc1] at h9
      cases h9
    · rw [e, h5] at h9
      cases h9
  · have h9 : (mK M1)[b + r]? = some (.inl (.boolean, n)) := (hm.2 r hr).2.1
    rcases e with e | e
    · rw [e, hc1] at h9
      cases h9
    · rw [e, h5] at h9
      cases h9
/-- rows of the class and of the desk -/
theorem CV.rw (h : CV M n p c u us) (hs : s < 6) {r : Nat} (hr : r < n) : rI u s r = Am M s r := h.2.1.rw hs hr
theorem CV.bl (h : CV M n p c u us) : ∃ bl, 1 ≤ bl ∧ bl ≤ 8 ∧ mI M 3 2 = nI bl ∧ u 1 = lN bl := h.2.1.2.1
theorem DK.mm (h : DK M d n q u) (hv : CV M n p c u us) (hs : s < 6) : mR M q.1 s = some (q.2.2.2.1 s) ∧ Mt M (q.2.2.2.1 s) n (q.2.2.2.2.1 s) (fB (Am M s)) := ⟨(h.2.2.2 s hs).1.1, (h.2.2.2 s hs).1.2.cg (fun r c hr _ => by show hb (rI u s r) c = hb (Am M s r) c; rw [hv.rw hs hr])⟩
theorem Am_xt {W : Nat → Prop} (h : Shp M) (hx : Xt W M M') (hW : ∀ i, i < 198 → ¬ W i) (hs : s < 6) : Am M' s = Am M s := by
  have := shp_len h
  exact hx.I (by omega) (hW _ (by omega))
theorem AZ.am (h : AZ M A P n p c d u us ρ eo os nv) {W : Nat → Prop} (hx : Xt W M M') (hW : ∀ i, i < (mK M).length → W i → (ρ i).1 = d) (hs : s < 6) : Am M' s = Am M s := by
  have hl := shp_len h.1.S
  exact Am_xt h.1.S hx (fun i hi w => by
    have h1 := hW i (by omega) w
    rw [h.2.2.2.2.1.1 i hi] at h1
    have := h.2.2.2.2.2.1
    omega) hs
theorem AZ.i (h : AZ M A P n p c d u us ρ eo os nv) {W : Nat → Prop} (hx : Xt W M M') (hW : ∀ i, i < (mK M).length → W i → (ρ i).1 = d) {i : Nat} (hi : i < 198) : mI M' i = mI M i := by
  have hl := shp_len h.1.S
  exact hx.I (by omega) (fun w => by
    have h1 := hW i (by omega) w
    rw [h.2.2.2.2.1.1 i hi] at h1
    have := h.2.2.2.2.2.1
    omega)
theorem qM_t (hD : DK M d n (qM q t m b) u) (ht : t < 6) : mR M (qM q t m b).1 t = some m := by
  have h9 := (hD.2.2.2 t ht).1.1
  rw [show (qM q t m b).2.2.2.1 t = m from fs_self _ _ _] at h9
  exact h9
/-- behind the class's call -/
theorem k_fin (h : AZ M2 A P n p os.length d u (usO os) ρ eo os nv) (hu : nv.2.2 = u) (hD : DK M2 d n q u') (hO : OW ρ d n q) (hc : Cf M2 M') (hv : CV M' n (cyP p) (cyC os.length) u' (usP (usO os) os.length u)) : Go l jL_act 12 400 MC MS (QA A P n (mS M2)) 1338 [(0, .ref 0), (2, .ref P), (13, .ref nv.1), (14, .int w), (15, .int w), (16, .int 1)] [] 2 16 M' := by
  have e : mS M' = mS M2 := hc.2.2.2.2.2.1
  rw [← e]
  exact k_tail1 (h.cf hc hv) hu h.1.c8 (hD.cf hO h.2.2.2.2.2.1 h.2.2.2.2.1 hc) hO
end

