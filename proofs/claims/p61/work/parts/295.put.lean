/-! putting a bit, inverting, taking back: the class's side -/
section
variable {l : Launch} {M M1 M' X : Mem} {n p c : Nat} {u u1 u' : Nat → Int64} {us : Nat → Nat → Int64}
theorem pt_Xu (h : CV M n p c u us) {s r k : Nat} {b : Bool} (hs : s < 6) (hr : r < n) (hk : k < n) (hb0 : hb (Am M s r) k ≠ b) : ∃ g', ptM (remM M p c) s r k n (b1 b) = sI (ptF (remM M p c) s r k n) (175 + 2 * s + 1) g' ∧ (∀ i, i < n → g' i = wOut (tnF (Am M s) r k) n n i) ∧ ptV (remM M p c) s r k n (b1 b) = dfF (wOut (tnF (Am M s) r k) n n) (wOut (Am M s) n n) n := by
  have hp := h.2.2.1.2.1
  have hn := h.n32
  obtain ⟨k1, k2, k3⟩ := clRu h hs
  have e6 : mI (remM M p c) (6 + 2 * s) = Am M s := rem_m (by omega) (by omega) hp
  have hw := h.wf hs
  have f1 : mI (ptF (remM M p c) s r k n) (175 + 2 * s + 1) = mI (clOf (remM M p c) s n) (175 + 2 * s + 1) := by
    unfold ptF
    rw [sI_ne (by omega), mxLook_ne (by omega)]
  have f2 : mI (ptF (remM M p c) s r k n) (6 + 2 * s) = tnF (Am M s) r k := by
    unfold ptF
    rw [sI_self, e6]
    rfl
  have hne : ¬ b1 (hb (mI (remM M p c) (6 + 2 * s) r) k) = b1 b := by
    rw [e6, b1_eq]
    exact hb0
  unfold ptM ptV
  rw [if_neg hne, if_neg hne, f1, f2]
  unfold ptN
  generalize ptF (remM M p c) s r k n = F at *
  generalize mI (clOf (remM M p c) s n) (175 + 2 * s + 1) = g at *
  cases b with
  | false =>
    have h1 : hb (Am M s r) k = true := Bool.not_eq_false _ ▸ hb0
    rw [if_pos (show b1 false = 0 from rfl), if_pos (show b1 false = 0 from rfl)]
    exact ⟨_, rfl, fun i hi => put_0 hw k1 hr hk hn h1 hi, by rw [loss_F, loss_ok hw k1 hr hk hn h1 n (Nat.le_refl n)]⟩
  | true =>
    have h0 : hb (Am M s r) k = false := Bool.not_eq_true _ ▸ hb0
    rw [if_neg (show ¬ b1 true = 0 by decide), if_neg (show ¬ b1 true = 0 by decide)]
    exact ⟨_, rfl, fun i hi => put_1 hw k1 hr hk hn h0 hi, gain_ok hw k1 hr hk hn h0⟩
theorem pf_Xu (h : CV M n p c u us) {s r k : Nat} {g' : Nat → Int32} (hs : s < 6) (hr : r < n) (hk : k < n) (hg : ∀ i, i < n → g' i = wOut (tnF (Am M s) r k) n n i) : Cu (remM M p c) (sI (ptF (remM M p c) s r k n) (175 + 2 * s + 1) g') ∧ SR (sI (ptF (remM M p c) s r k n) (175 + 2 * s + 1) g') 3 (fun_set (lkU (u) s (prR (wOut (Am M s) n n) r n)) (28 + 32 * s + r) (uL (Am M s r ^^^ bitI k))) n ∧ IC (sI (ptF (remM M p c) s r k n) (175 + 2 * s + 1) g') n ∧ mI (sI (ptF (remM M p c) s r k n) (175 + 2 * s + 1) g') 188 0 = 0 := by
  have hp := h.2.2.1.2.1
  have hn := h.n32
  obtain ⟨k1, k2, k3⟩ := clRu h hs
  have e6 : mI (remM M p c) (6 + 2 * s) = Am M s := rem_m (by omega) (by omega) hp
  have hw := h.wf hs
  have hN : bcJ (ptN (remM M p c) s r n) = prR (wOut (Am M s) n n) r n := by
    unfold ptN
    rw [nd_n hr hn, prR_cg n k1]
  have h188 : mI (clOf (remM M p c) s n) 188 0 = 0 := by
    rw [cl_ne (by omega) (by omega)]
    exact X188u h rfl
  have hSR : SR (clOf (remM M p c) s n) 3 (u) n := sr_Xu h (fun i a b => cl_ne (by omega) (by omega))
  have e7 : mI (clOf (remM M p c) s n) (6 + 2 * s) = Am M s := by rw [cl_ne (by omega) (by omega), e6]
  unfold ptF
  rw [hN, e6]
  generalize clOf (remM M p c) s n = C at *
  have hL := SR_lk (x := prR (wOut (Am M s) n n) r n) hs hSR
  have hIC : ∀ t, t < 6 → t ≠ s → mI (mxLook C (5 + 2 * s) (prR (wOut (Am M s) n n) r n)) (175 + 2 * t) = mI C (175 + 2 * t) ∧ mI (mxLook C (5 + 2 * s) (prR (wOut (Am M s) n n) r n)) (176 + 2 * t) = mI C (176 + 2 * t) ∧ mI (mxLook C (5 + 2 * s) (prR (wOut (Am M s) n n) r n)) (6 + 2 * t) = mI C (6 + 2 * t) := fun t ht _ => ⟨mxLook_ne (by omega), mxLook_ne (by omega), mxLook_ne (by omega)⟩
  have e8 : mI (mxLook C (5 + 2 * s) (prR (wOut (Am M s) n n) r n)) (6 + 2 * s) = Am M s := by rw [mxLook_ne (by omega), e7]
  have e9 : mI (mxLook C (5 + 2 * s) (prR (wOut (Am M s) n n) r n)) 188 0 = 0 := by rw [mxLook_ne (by omega), h188]
  have hcu := cu_mxLook (x := prR (wOut (Am M s) n n) r n) hs k3
  generalize mxLook C (5 + 2 * s) (prR (wOut (Am M s) n n) r n) = D at *
  have hSet := SR_set (y := Am M s r ^^^ bitI k) hs hr hn hL (fun c hc => by
    rw [hb_xor, hw r hr c hc, hb_bitI (by omega), decide_eq_false (by omega)]
    rfl)
  rw [e8] at hSet
  refine ⟨cu_sI (by omega) (cu_sI (by omega) hcu), SR_cg hSet (fun i a b => sI_ne (by omega)) (fun _ _ => rfl), fun t ht h1 r9 hr9 => ?_, ?_⟩
  · by_cases e : t = s
    · subst e
      rw [show 176 + 2 * t = 175 + 2 * t + 1 by omega, sI_self, sI_ne (by omega), sI_self]
      exact hg r9 hr9
    · obtain ⟨i1, i2, i3⟩ := hIC t ht e
      rw [sI_ne (by omega), sI_ne (by omega), i1] at h1
      rw [sI_ne (by omega), sI_ne (by omega), sI_ne (by omega), sI_ne (by omega), i2, i3]
      exact k2 t ht h1 r9 hr9
  · rw [sI_ne (by omega), sI_ne (by omega)]
    exact e9
theorem c_put0 (h : CV M n p c u us) {s a b : Nat} {v : Bool} (hs : s < 6) (ha : a < n) (hb9 : b < n) (q : hb (Am M s a) b = v) : CA l jX6_put 9 160 3 18 [.ref 0, .int (nI s), .int (nI a), .int (nI b), .int (b1 v)] M n p c u (lkU u s 0) us 0 := by
  have hp := h.p8
  have hu := u_put (l := l) (f := b1 v) h.D hs ha hb9 (by cases v <;> first | exact Or.inl rfl | exact Or.inr rfl)
  have e6 : mI (remM M p c) (6 + 2 * s) = Am M s := rem_m (by omega) (by omega) hp
  have hne : b1 (hb (mI (remM M p c) (6 + 2 * s) a) b) = b1 v := by rw [e6, q]
  unfold ptV ptM at hu
  rw [if_pos hne, if_pos hne] at hu
  have hcu : Cu (remM M p c) (mxLook (remM M p c) (5 + 2 * s) 0) := cu_mxLook hs (Cu.rf _)
  refine ⟨_, hu, (cf_remM hp).tr hcu.1, cv_u h hcu (SR_lk hs (sr_Xu h (fun _ _ _ => rfl))) (ic_lk hs (ic_Xu h (fun _ _ _ => rfl))) ?_⟩
  rw [mxLook_ne (by omega)]
  exact X188u h rfl
theorem c_put1 (h : CV M n p c u us) {s a b : Nat} {v : Bool} (hs : s < 6) (ha : a < n) (hb9 : b < n) (q : hb (Am M s a) b ≠ v) : CA l jX6_put 9 160 3 18 [.ref 0, .int (nI s), .int (nI a), .int (nI b), .int (b1 v)] M n p c u (fun_set (lkU u s (prR (wOut (Am M s) n n) a n)) (28 + 32 * s + a) (uL (Am M s a ^^^ bitI b))) us (dfF (wOut (tnF (Am M s) a b) n n) (wOut (Am M s) n n) n) := by
  have hp := h.p8
  have hu := u_put (l := l) (f := b1 v) h.D hs ha hb9 (by cases v <;> first | exact Or.inl rfl | exact Or.inr rfl)
  obtain ⟨g', e1, e2, e3⟩ := pt_Xu h hs ha hb9 q
  rw [e1, e3] at hu
  obtain ⟨c1, c2, c3, c4⟩ := pf_Xu h hs ha hb9 e2
  exact ⟨_, hu, (cf_remM hp).tr c1.1, cv_u h c1 c2 c3 c4⟩
theorem c_undo (h : CV M n p c u us) (hc1 : 1 ≤ c) : ∃ M', EvR l jX6_undo 3 120 0 0 [.ref 0] M (.inl (some (.int (nI (c - 1))))) M' ∧ Cf M M' ∧ CV M' n (unP p) (c - 1) (us (c - 1)) us := by
  have hS := h.S
  obtain ⟨p1, p2, p3, p4, p6⟩ := h.2.2.1
  have eu : unP p = (p + 8 - c + (c - 1)) % 8 := by
    unfold unP
    split
    · rename_i q
      rw [q]
      omega
    · omega
  have hlast := p6 (c - 1) (by omega)
  rw [← eu] at hlast
  have hu := u_undo (l := l) h.D (SR_keep hlast) hc1
  have hc : Cf M (unM M p c) := cf_unM
  obtain ⟨b1', b2, b3, b4⟩ := un_at (M := M) (p := p) (cc := c)
  have hSR := b3 _ _ hlast
  have hIC := b4 n
  clear b3 b4
  generalize unM M p c = X at *
  have hp8 : unP p < 8 := by
    unfold unP
    split <;> omega
  refine ⟨_, hu, hc, hc.S hS, hSR, ⟨?_, hp8, ?_, by omega, fun i hi => ?_⟩, hIC, ?_⟩
  · rw [b2, if_pos rfl]
  · rw [b2, if_neg (by decide), if_pos rfl]
  · have e9 : (unP p + 8 - (c - 1) + i) % 8 = (p + 8 - c + i) % 8 := by omega
    rw [e9]
    have hm : (p + 8 - c + i) % 8 < 8 := Nat.mod_lt _ (by decide)
    exact SR_cg (p6 i (by omega)) (fun j h1 h2 => b1' j (by omega) (by omega)) (fun _ _ => rfl)
  · rw [b1' 188 (by decide) (by omega)]
    exact h.2.2.2.2
theorem v_undo (hS : Shp M) (h : mI M 0 5 = 0) : EvR l jX6_undo 3 120 0 0 [.ref 0] M (.inl (some (.int (-1)))) M := by
  refine ev_intro rfl (nb rfl) rfl ?_
  refine g_aload_n (pc := 0) dX6_undo_0 rfl trivial ?_
  refine g_getf (pc := 1) (v := .int _) dX6_undo_1 fk_X6_106 (shK hS rfl) (fun _ => congrArg Value.int (h)) ?_
  refine g_if_ne (pc := 4) (tgt := 9) dX6_undo_4 rfl (fun h4 => absurd h4 ((fun q => q rfl))) (fun _ => ?_)
  refine g_iconst (pc := 7) (v := (-1)) dX6_undo_7 rfl ?_
  refine g_ireturn (pc := 8) dX6_undo_8 rfl rfl ?_
  exact ⟨rfl, rfl⟩
theorem c_undo0 (h : CV M n p 0 u us) : EvR l jX6_undo 3 120 0 0 [.ref 0] M (.inl (some (.int (-1)))) M := v_undo h.S h.2.2.1.2.2.1
theorem elM_cv (h : CV M n p c u us) (s : ES) : CV (elMem M s) n p c u us ∧ Cf M (elMem M s) ∧ ∀ i, i < 187 → mI (elMem M s) i = mI M i := by
  have hc : Cf M (elMem M s) := cf_elMem
  have hne : ∀ i, i < 191 → mI (elMem M s) i = mI M i := fun i hi => by
    unfold elMem
    rw [sI_ne (by omega), sI_ne (by omega), sI_ne (by omega), sI_ne (by omega)]
  generalize elMem M s = Y at *
  obtain ⟨p1, p2, p3, p4, p6⟩ := h.2.2.1
  refine ⟨⟨hc.S h.S, SR_cg h.2.1 (fun i a b => hne i (by omega)) (fun _ _ => rfl), ⟨by rw [hne 0 (by decide)]; exact p1, p2, by rw [hne 0 (by decide)]; exact p3, p4, fun i hi => ?_⟩, ic_cg h.2.2.2.1 (fun i a b => hne i (by omega)) (fun i a b => hne i (by omega)), by rw [hne 188 (by decide)]; exact h.2.2.2.2⟩, hc, fun i hi => hne i (by omega)⟩
  have hm : (p + 8 - c + i) % 8 < 8 := Nat.mod_lt _ (by decide)
  exact SR_cg (p6 i hi) (fun j h1 h2 => hne j (by omega)) (fun _ _ => rfl)
theorem c_invert0 (h : CV M n p c u us) {s t : Nat} (hs : s < 6) (ht : t < 6) (q : (ivE M s n).2.2.2 < n) : ∃ M', EvR l jX6_invert 7 150 2 12 [.ref 0, .int (nI s), .int (nI t)] M (.inl (some (.int (-3)))) M' ∧ Cf M M' ∧ CV M' n p c u us := by
  have hu := u_invert (l := l) h.D hs ht
  rw [if_pos q, if_pos q] at hu
  obtain ⟨a1, a2, -⟩ := elM_cv h (ivE M s n)
  exact ⟨_, hu, a2, a1⟩
theorem ivE_wf {s : Nat} (hn : n ≤ 32) : wfr n (ivE M s n).2.1 := by
  unfold ivE elAll
  exact el_wf n _ (Nat.zero_le n) (fun r hr c hc => by
    show hb (wr (mI M 193) bitI n r) c = false
    rw [wr_lt hr, hb_bitI (by omega), decide_eq_false (by omega)])
theorem ivE_cg {s : Nat} (hs : s < 6) (e : ∀ i, i < 198 → mI M' i = mI M i) : ivE M' s n = ivE M s n := by
  unfold ivE elAll
  rw [e (6 + 2 * s) (by omega), e 192 (by decide), e 193 (by decide), e 194 (by decide)]
theorem c_invert1 (h : CV M n p c u us) {s t : Nat} (hs : s < 6) (ht : t < 6) (q : ¬ (ivE M s n).2.2.2 < n) : CA l jX6_invert 7 150 2 12 [.ref 0, .int (nI s), .int (nI t)] M n p c u (anU (lyF u t (ivE M s n).2.1 n) t (nI n)) us (onesF (ivE M s n).2.1 n) := by
  have hn := h.n32
  have hu := u_invert (l := l) h.D hs ht
  rw [if_neg q, if_neg q] at hu
  obtain ⟨hi, hcE, -⟩ := elM_cv h (ivE M s n)
  have hp := h.p8
  have e193 : mI (remM (elMem M (ivE M s n)) p c) 193 = (ivE M s n).2.1 := by
    rw [rem_m (by decide) (by decide) hp, el_r]
  have hwf : wfr n (ivE M s n).2.1 := ivE_wf hn
  generalize ivE M s n = E at *
  generalize elMem M E = Y at *
  obtain ⟨a1, a2, a3⟩ := cv_store (X := remM Y p c) (r := 193) (f := E.2.1) hi ht (Cu.rf _) (sr_Xu hi (fun _ _ _ => rfl)) (ic_Xu hi (fun _ _ _ => rfl)) (X188u hi rfl) (fun i _ => by rw [e193]) hwf
  rw [a3] at hu
  exact ⟨_, hu, hcE.tr a1, a2⟩
end
