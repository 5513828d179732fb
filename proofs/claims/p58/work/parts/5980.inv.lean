/-! a change remembered on both sides -/
abbrev cyP (p : Nat) : Nat := if p = 7 then 0 else p + 1
abbrev cyC (c : Nat) : Nat := if c = 8 then 8 else c + 1
def Cu (R M1 : Mem) : Prop := Cf R M1 ∧ ∀ i, i < 3 ∨ (17 ≤ i ∧ i < 175) → mI M1 i = mI R i
def Ru (K M2 : Mem) : Prop := Rf K M2 ∧ (mL M2 201 = mL K 201 ∧ mL M2 202 = mL K 202) ∧ (bsOk K → bsOk M2) ∧ (mI M2 203 = mI K 203 ∧ mI M2 204 = mI K 204) ∧ ∀ j, j ≠ 6 → j ≠ 22 → mI M2 198 j = mI K 198 j
section
variable {M M1 M2 K N X : Mem} {n p c : Nat}
theorem rem_0 {j : Nat} : mI (remM M p c) 0 j = if j = 5 then nI (cyC c) else if j = 4 then nI (cyP p) else mI M 0 j := by
  have h0 : mI (stTake M (32 + 14 * p) 3) 0 = mI M 0 := stTake_ne (Or.inl (by omega))
  unfold remM
  generalize stTake M (32 + 14 * p) 3 = X at *
  rw [pI_at, pI_at, h0]
  by_cases e : j = 5
  · rw [if_pos ⟨rfl, e⟩, if_pos e]
  · rw [if_neg (fun h => e h.2), if_neg e]
    by_cases e2 : j = 4
    · rw [if_pos ⟨rfl, e2⟩, if_pos e2]
    · rw [if_neg (fun h => e2 h.2), if_neg e2]
theorem rem_i {i : Nat} (h0 : i ≠ 0) (h : i < 32 + 14 * p ∨ 46 + 14 * p ≤ i) : mI (remM M p c) i = mI M i := by
  have h1 : mI (stTake M (32 + 14 * p) 3) i = mI M i := stTake_ne (by omega)
  unfold remM
  generalize stTake M (32 + 14 * p) 3 = X at *
  rw [sI_ne h0, sI_ne h0, h1]
theorem rem_t (h : SR M 3 (mL M 199) n) : SR (remM M p c) (32 + 14 * p) (mL M 199) n := by
  have h1 : SR (stTake M (32 + 14 * p) 3) (32 + 14 * p) (mL M 199) n := SR_take (Or.inr (by omega)) h
  unfold remM
  generalize stTake M (32 + 14 * p) 3 = X at *
  exact SR_cg h1 (fun i h1 h2 => by rw [sI_ne (by omega), sI_ne (by omega)]) (fun _ _ => rfl)
theorem paC_n (hc : c ≤ 8) : paC c + 1 = cyC c := by
  unfold paC cyC
  split
  · rfl
  · rfl
theorem ring_up (h : IV M n p c) {i : Nat} (hi : i < cyC c) : SR (remM M p c) (32 + 14 * ((cyP p + 8 - cyC c + i) % 8)) (fun j => cpF (paW (mL M 201) c) (paC c) (mL M 199) 0 220 (220 * i + j)) n := by
  obtain ⟨p1, p2, p3, p4, p5, p6⟩ := h.2.2.1
  have hpc := paC_n p4
  by_cases e : i = paC c
  · have e2 : (cyP p + 8 - cyC c + i) % 8 = p := by
      have : cyP p = (p + 1) % 8 := by
        unfold cyP
        split
        · rename_i h9
          rw [h9]
        · omega
      have h9 : cyC c ≤ 8 := by unfold cyC; split <;> omega
      omega
    rw [e2]
    refine SR_cg (rem_t h.2.1) (fun _ _ _ => rfl) (fun j hj => ?_)
    unfold cpF
    rw [if_pos ⟨by omega, by omega⟩]
    congr 1
    omega
  · have hi2 : i < paC c := by omega
    have key : ∃ k, k < c ∧ (cyP p + 8 - cyC c + i) % 8 = (p + 8 - c + k) % 8 ∧ (p + 8 - c + k) % 8 ≠ p ∧ ∀ j, j < 220 → paW (mL M 201) c (220 * i + j) = mL M 201 (220 * k + j) := by
      have hn : cyP p = (p + 1) % 8 := by
        unfold cyP
        split
        · rename_i h9
          rw [h9]
        · omega
      by_cases q : c = 8
      · subst q
        have h7 : i < 7 := hi2
        refine ⟨i + 1, by omega, ?_, by omega, fun j hj => ?_⟩
        · rw [hn, show cyC 8 = 8 from rfl]
          omega
        · show shF (mL M 201) 1540 (220 * i + j) = _
          unfold shF
          rw [if_pos (by omega)]
          congr 1
          omega
      · have e3 : paC c = c := if_neg q
        have e4 : cyC c = c + 1 := if_neg q
        refine ⟨i, by omega, ?_, by omega, fun j hj => ?_⟩
        · rw [hn, e4]
          omega
        · unfold paW
          rw [if_neg q]
    obtain ⟨k, k1, k2, k3, k4⟩ := key
    rw [k2]
    have hm : (p + 8 - c + k) % 8 < 8 := Nat.mod_lt _ (by decide)
    have h6 := p6 k k1
    generalize (p + 8 - c + k) % 8 = t at *
    refine SR_cg h6 (fun j h1 h2 => rem_i (by omega) (by omega)) (fun j hj => ?_)
    unfold cpF
    rw [if_neg (by omega)]
    exact k4 j hj
/-- the reference's memory once the past is kept -/
theorem k0_I {j : Nat} (h5 : j ≠ 5) (h6 : j ≠ 6) : mI (k0M N c) 198 j = mI N 198 j := by
  unfold k0M kepM thr
  rw [pI_at, if_neg (fun h => h5 h.2)]
  show mI (pI N 198 6 0) 198 j = _
  rw [pI_at, if_neg (fun h => h6 h.2)]
theorem k0_5 : mI (k0M N c) 198 5 = nI (paC c + 1) := by
  unfold k0M kepM
  exact pI_at9 _ _ _ _
theorem k0_o {i : Nat} (h : i ≠ 198) : mI (k0M N c) i = mI N i := by
  unfold k0M kepM thr
  rw [sI_ne h]
  show mI (pI N 198 6 0) i = _
  exact sI_ne h
theorem k0_L1 : mL (k0M N c) 201 = cpF (paW (mL N 201) c) (paC c) (mL N 199) 0 220 := by
  unfold k0M kepM
  show mL (sL (thr N 0) 201 _) 201 = _
  exact sL_self _ _ _
theorem k0_L {i : Nat} (h : i ≠ 201) : mL (k0M N c) i = mL N i := k0M_ne h
theorem Cu.tr (h : Cu X M1) (g : Cu M1 M2) : Cu X M2 := ⟨h.1.tr g.1, fun i hi => (g.2 i hi).trans (h.2 i hi)⟩
theorem Cu.rf (X : Mem) : Cu X X := ⟨Cf.rf X, fun _ _ => rfl⟩
theorem Cq.cu (h : Cq X M1) : Cu X M1 := ⟨h.1, fun i hi => h.2 i (by omega)⟩
theorem Ru.tr (h : Ru K M1) (g : Ru M1 M2) : Ru K M2 := ⟨h.1.tr g.1, ⟨g.2.1.1.trans h.2.1.1, g.2.1.2.trans h.2.1.2⟩, fun q => g.2.2.1 (h.2.2.1 q), ⟨g.2.2.2.1.1.trans h.2.2.2.1.1, g.2.2.2.1.2.trans h.2.2.2.1.2⟩, fun j h1 h2 => (g.2.2.2.2 j h1 h2).trans (h.2.2.2.2 j h1 h2)⟩
theorem Rq.ru (h : Rq K M1) : Ru K M1 := ⟨h.1, ⟨h.2.1.2.1, h.2.1.2.2⟩, h.2.2.1, h.2.2.2.1, h.2.2.2.2⟩
theorem ru_sL {f : Nat → Int64} (h : Ru K M1) : Ru K (sL M1 199 f) := h.tr ⟨rf_sL (by decide) (Rf.rf _), ⟨sL_ne9 (by decide), sL_ne9 (by decide)⟩, fun q i hi => by
  rw [sL_ne9 (by decide)]
  exact q i hi, ⟨rfl, rfl⟩, fun _ _ _ => rfl⟩
theorem ru_lkM {s : Nat} {x : Int32} (h : Ru K M1) : Ru K (lkM M1 s x) := by
  unfold lkM
  split
  · exact ru_sL (ru_sL h)
  · exact h
theorem ru_anM {s : Nat} {x : Int32} (h : Ru K M1) : Ru K (anM M1 s x) := by
  unfold anM
  exact ru_sL (ru_lkM h)
theorem ru_lsM {t k : Nat} {f : Nat → Int32} (h : Ru K M1) : Ru K (lsM M1 t k f) := by
  unfold lsM lyM
  exact ru_anM (ru_sL h)
theorem cu_sI {i : Nat} {f : Nat → Int32} (hi : (3 ≤ i ∧ i < 17) ∨ (175 ≤ i ∧ i < 198)) (h : Cu X M1) : Cu X (sI M1 i f) := h.tr ⟨cf_sI (by omega) (Cf.rf _), fun j hj => sI_ne (by omega)⟩
theorem cu_pI {i j : Nat} {x : Int32} (hi : (3 ≤ i ∧ i < 17) ∨ (175 ≤ i ∧ i < 198)) (h : Cu X M1) : Cu X (pI M1 i j x) := cu_sI hi h
theorem cu_mxLook {s : Nat} {x : Int32} (hs : s < 6) (h : Cu X M1) : Cu X (mxLook M1 (5 + 2 * s) x) := by
  unfold mxLook
  split
  · exact h
  · exact cu_pI (by omega) (cu_pI (by omega) h)
theorem cu_mxAnew {s : Nat} {x : Int32} (hs : s < 6) (h : Cu X M1) : Cu X (mxAnew M1 (5 + 2 * s) x) := by
  unfold mxAnew
  split
  · exact h
  · exact cu_pI (by omega) (cu_mxLook hs h)
theorem cu_noteM {s : Nat} {x : Int32} (hs : s < 6) (h : Cu X M1) : Cu X (noteM M1 s x) := by
  unfold noteM
  exact cu_mxAnew hs (cu_pI (by omega) h)
theorem cu_storeM {r t k : Nat} (ht : t < 6) (h : Cu X M1) : Cu X (storeM M1 r t k) := by
  unfold storeM
  exact cu_noteM ht (cu_sI (by omega) h)
/-- the invariant over a change that both remember -/
theorem iv_u (h : IV M n p c) {v : Int64} (hC : Cu (remM M p c) M1) (hR : Ru (k0M (pL M1 212 0 v) c) M2) (hs : SR M2 3 (mL M2 199) n) (hc : IC M2 n) (h188 : mI M2 188 0 = 0) : IV M2 n (cyP p) (cyC c) := by
  have hp : p < 8 := h.2.2.1.2.1
  have hc8 : c ≤ 8 := h.2.2.1.2.2.2.1
  have hcm : Cf M M1 := (cf_remM hp).tr hC.1
  have hSN : Shp (pL M1 212 0 v) := hcm.S h.S
  have hNL : ∀ i, i ≠ 212 → mL (pL M1 212 0 v) i = mL M i := fun i hi => by rw [sL_ne9 hi, hcm.L]
  have hNI : ∀ i, mI (pL M1 212 0 v) i = mI M1 i := fun _ => rfl
  generalize pL M1 212 0 v = N at *
  have hK := rf_k0M (c := c) (Rf.rf N)
  have hI : ∀ i, i < 198 → mI M2 i = mI M1 i := fun i hi => by rw [hR.1.I hi, hK.I hi, hNI]
  have h9 : ∀ i, i < 3 ∨ (17 ≤ i ∧ i < 175) → mI M2 i = mI (remM M p c) i := fun i hi => by rw [hI i (by omega), hC.2 i hi]
  have hN198 : ∀ i, 198 ≤ i → mI N i = mI M i := fun i hi => by rw [hNI, hcm.I hi]
  have h8 : ∀ j, j ≠ 5 → j ≠ 6 → j ≠ 22 → mI M2 198 j = mI M 198 j := fun j a b d => by rw [hR.2.2.2.2 j b d, k0_I a b, hN198 198 (Nat.le_refl _)]
  have hpc := paC_n hc8
  obtain ⟨-, -, -, h4, -, ⟨⟨len, l1, l2, l3, l4⟩, r2, r3⟩, -, x2, ⟨kk, x3, x5⟩, w, w1, w2⟩ := id h
  refine ⟨hR.1.S (hK.S hSN), hs, ⟨?_, ?_, ?_, ?_, ?_, fun i hi => ?_⟩, fun q hq => ?_, hc, ⟨⟨len, l1, ?_, ?_, fun i hi => ?_⟩, ?_, ?_⟩, h188, hR.2.2.1 ?_, ⟨kk, x3, ?_⟩, w, w1, ?_⟩
  · rw [h9 0 (by decide), rem_0, if_neg (by decide), if_pos rfl]
  · unfold cyP
    split <;> omega
  · rw [h9 0 (by decide), rem_0, if_pos rfl]
  · unfold cyC
    split <;> omega
  · rw [hR.2.2.2.2 5 (by decide) (by decide), k0_5, hpc]
  · have hm : (cyP p + 8 - cyC c + i) % 8 < 8 := Nat.mod_lt _ (by decide)
    refine SR_cg (ring_up h hi) (fun j h1 h2 => h9 j (by omega)) (fun j _ => ?_)
    rw [hR.2.1.1, k0_L1, hNL 201 (by decide), hNL 199 (by decide)]
  · obtain ⟨k1, k2⟩ := h4 q hq
    have e : ∀ i, 145 ≤ i → i < 174 → mI M2 i = mI M i := fun i a b => by rw [h9 i (by omega), rem_i (by omega) (by omega)]
    have e3 : mI M2 203 = mI M 203 := by rw [hR.2.2.2.1.1, k0_o (by decide), hN198 203 (by decide)]
    refine ⟨fun s hs6 => by rw [e _ (by omega) (by omega)]; exact k1 s hs6, ?_⟩
    rw [e 173 (by decide) (by decide), e3]
    rcases k2 with k2 | ⟨a1, a2, n', a3⟩
    · exact Or.inl k2
    · refine Or.inr ⟨a1, a2, n', SR_cg a3 (fun i a b => e i (by omega) (by omega)) (fun j _ => ?_)⟩
      rw [hR.2.1.2, k0_L (by decide), hNL 202 (by decide)]
  · rw [h9 1 (by decide), rem_i (by decide) (by omega)]
    exact l2
  · rw [h8 8 (by decide) (by decide) (by decide)]
    exact l3
  · obtain ⟨j, j1, j2, j3⟩ := l4 i hi
    refine ⟨j, j1, ?_, ?_⟩
    · rw [h9 2 (by decide), rem_i (by decide) (by omega)]
      exact j2
    · rw [hR.2.2.2.1.2, k0_o (by decide), hN198 204 (by decide)]
      exact j3
  · rw [h8 14 (by decide) (by decide) (by decide), h9 1 (by decide), rem_i (by decide) (by omega)]
    exact r2
  · rw [h8 15 (by decide) (by decide) (by decide), h9 1 (by decide), rem_i (by decide) (by omega)]
    exact r3
  · intro i hi
    rw [k0_L (by decide), hNL 209 (by decide)]
    exact x2 i hi
  · rw [h9 0 (by decide), rem_0, if_neg (by decide), if_neg (by decide)]
    exact x5
  · rw [h8 24 (by decide) (by decide) (by decide)]
    exact w2
/-- a change that lays rows into a slot -/
theorem ic_an {s : Nat} {x : Int32} (hs : s < 6) (h : IC M n) : IC (mxAnew M (5 + 2 * s) x) n := fun t ht h1 r hr => by
  rw [mxAnew_ne (by omega)] at h1
  rw [mxAnew_ne (by omega), mxAnew_ne (by omega)]
  exact h t ht h1 r hr
theorem ic_lk {s : Nat} {x : Int32} (hs : s < 6) (h : IC M n) : IC (mxLook M (5 + 2 * s) x) n := fun t ht h1 r hr => by
  rw [mxLook_ne (by omega)] at h1
  rw [mxLook_ne (by omega), mxLook_ne (by omega)]
  exact h t ht h1 r hr
theorem ic_row {t : Nat} {g : Nat → Int32} {x : Int32} (ht9 : t < 6) (h : IC M n) : IC (noteM (sI M (6 + 2 * t) g) t x) n := by
  unfold noteM
  refine ic_an ht9 (fun s hs h1 r hr => ?_)
  by_cases e : s = t
  · subst e
    rw [pI_at, if_pos ⟨rfl, rfl⟩] at h1
    exact absurd rfl h1
  · rw [sI_ne (by omega), sI_ne (by omega)] at h1
    rw [sI_ne (by omega), sI_ne (by omega), sI_ne (by omega), sI_ne (by omega)]
    exact h s hs h1 r hr
theorem store_188 {r t k : Nat} (ht : t < 6) (h : mI M 188 0 = 0) : mI (storeM M r t k) 188 0 = 0 := by
  unfold storeM
  rw [noteM_ne (by omega) (by omega), sI_ne (by omega)]
  exact h
theorem ic_store {r t k : Nat} (ht : t < 6) (h : IC M n) : IC (storeM M r t k) n := by
  unfold storeM
  exact ic_row ht h
theorem iv_store (h : IV M n p c) {r t : Nat} {v : Int64} {f : Nat → Int32} (ht : t < 6) (hX : Cu (remM M p c) X) (hs : SR X 3 (mL K 199) n) (hC : IC X n) (h188 : mI X 188 0 = 0) (hg : ∀ i, i < n → mI X r i = f i) (hf : wfr n f) (hK : Ru (k0M (pL (storeM X r t n) 212 0 v) c) K) : IV (lsM K t n f) n (cyP p) (cyC c) := by
  have hI : ∀ i, i < 198 → mI (lsM K t n f) i = mI (storeM X r t n) i := fun i hi => by
    rw [(rf_lsM (t := t) (n := n) (f := f) (Rf.rf K)).I hi, hK.1.I hi, (rf_k0M (c := c) (Rf.rf _)).I hi]
  refine iv_u h (cu_storeM ht hX) (ru_lsM hK) ?_ (fun s hs6 h1 r9 hr => ?_) ?_
  · have e : mL (lsM K t n f) 199 = anU (lyF (mL K 199) t f n) t (nI n) := by
      unfold lsM
      rw [anM_U]
      unfold lyM
      rw [show mL (sL K 199 (lyF (mL K 199) t f n)) 199 = lyF (mL K 199) t f n from sL_self _ _ _]
    rw [e]
    exact SR_cg (SR_store ht hs hg hf) (fun i h1 h2 => hI i (by omega)) (fun _ _ => rfl)
  · rw [hI _ (by omega)] at h1
    rw [hI _ (by omega), hI _ (by omega)]
    exact ic_store ht hC s hs6 h1 r9 hr
  · rw [hI _ (by omega)]
    exact store_188 ht h188
end
