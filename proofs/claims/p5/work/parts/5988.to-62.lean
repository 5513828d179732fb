-- 5988.us
section
/-! calls that change, from the invariant to the invariant (5988) -/
section
variable {l : Launch} {M : Mem} {n p c : Nat}
theorem uU {E : Prop} {J J7 : Jm} {F L mc ms F7 : Nat} {As As7 : List Value} {M1 : Mem} {w w' : Int32} (h : IV M n p c) (G : Mem → Mem) (hX : Cu (remM M p c) M1) (h1 : Shp M1 → EvR l J F L mc ms As M (.inl (some (.int 0))) (pL M1 212 0 w.toInt64)) (h2 : ∀ v : Int64, Rr (pL M1 212 0 v) n (Am M) → mI (pL M1 212 0 v) 198 5 = nI c → EvR l J7 F7 160 0 0 As7 (pL M1 212 0 v) (.inl (some (.int w'))) (G (pL M1 212 0 v))) (he : E → w' = w) (hG : ∀ N, Ru (k0M N c) (G N)) (h6 : ∀ N, t6 (G N)) (hs : ∀ N, mL N 199 = mL M 199 → SR M1 3 (mL (G N) 199) n) (hC : IC M1 n) (h188 : mI M1 188 0 = 0) : SmI E l J J7 F L mc ms F7 As As7 M Inv := by
  have hcf : Cf M M1 := (cf_remM h.2.2.1.2.1).tr hX.1
  have hN : ∀ v : Int64, mL (pL M1 212 0 v) 199 = mL M 199 := fun v => by rw [sL_ne9 (by decide), hcf.L]
  have hI : ∀ v : Int64, ∀ i, i < 198 → mI (G (pL M1 212 0 v)) i = mI M1 i := fun v i hi => by
    rw [(hG _).1.I hi, (rf_k0M (c := c) (Rf.rf _)).I hi]
  refine uI (hcf.S h.S) (h1 (hcf.S h.S)) (h2 _ (iv_A h hcf) (iv_c5 h hcf _)) he ((rf_k0M (Rf.rf _)).tr (hG _).1) (h6 _) ⟨n, _, _, iv_u h hX (hG _) (SR_cg (hs _ (hN _)) (fun i a b => hI _ i (by omega)) (fun _ _ => rfl)) ?_ ?_⟩
  · intro t ht a r hr
    rw [hI _ _ (by omega)] at a
    rw [hI _ _ (by omega), hI _ _ (by omega)]
    exact hC t ht a r hr
  · rw [hI _ _ (by omega)]
    exact h188
theorem pt_X (h : IV M n p c) {s r k : Nat} {b : Bool} (hs : s < 6) (hr : r < n) (hk : k < n) (hb0 : hb (Am M s r) k ≠ b) : ∃ g', ptM (remM M p c) s r k n (b1 b) = sI (ptF (remM M p c) s r k n) (175 + 2 * s + 1) g' ∧ (∀ i, i < n → g' i = wOut (tnF (Am M s) r k) n n i) ∧ ptV (remM M p c) s r k n (b1 b) = dfF (wOut (tnF (Am M s) r k) n n) (wOut (Am M s) n n) n := by
  have hp := h.2.2.1.2.1
  have hn := h.n32
  obtain ⟨k1, k2, k3⟩ := clR h hs
  have e6 : mI (remM M p c) (6 + 2 * s) = Am M s := rem_m (by omega) (by omega) hp
  have hw := h.wf hs
  have f1 : mI (ptF (remM M p c) s r k n) (175 + 2 * s + 1) = mI (clOf (remM M p c) s n) (175 + 2 * s + 1) := by
    unfold ptF
    rw [sI_ne (by omega), mxLook_ne (by omega)]
  have f2 : mI (ptF (remM M p c) s r k n) (6 + 2 * s) = tnF (Am M s) r k := by
    unfold ptF
    rw [sI_self, e6]
    rfl
  have hne : ¬ b1 (hb (mI (remM M p c) (6 + 2 * s) r) k) = b1 b := by
    rw [e6, b1_eq]
    exact hb0
  unfold ptM ptV
  rw [if_neg hne, if_neg hne, f1, f2]
  unfold ptN
  generalize ptF (remM M p c) s r k n = F at *
  generalize mI (clOf (remM M p c) s n) (175 + 2 * s + 1) = g at *
  cases b with
  | false =>
    have h1 : hb (Am M s r) k = true := Bool.not_eq_false _ ▸ hb0
    rw [if_pos (show b1 false = 0 from rfl), if_pos (show b1 false = 0 from rfl)]
    exact ⟨_, rfl, fun i hi => put_0 hw k1 hr hk hn h1 hi, by rw [loss_F, loss_ok hw k1 hr hk hn h1 n (Nat.le_refl n)]⟩
  | true =>
    have h0 : hb (Am M s r) k = false := Bool.not_eq_true _ ▸ hb0
    rw [if_neg (show ¬ b1 true = 0 by decide), if_neg (show ¬ b1 true = 0 by decide)]
    exact ⟨_, rfl, fun i hi => put_1 hw k1 hr hk hn h0 hi, gain_ok hw k1 hr hk hn h0⟩
theorem pf_X (h : IV M n p c) {s r k : Nat} {g' : Nat → Int32} (hs : s < 6) (hr : r < n) (hk : k < n) (hg : ∀ i, i < n → g' i = wOut (tnF (Am M s) r k) n n i) : Cu (remM M p c) (sI (ptF (remM M p c) s r k n) (175 + 2 * s + 1) g') ∧ SR (sI (ptF (remM M p c) s r k n) (175 + 2 * s + 1) g') 3 (fun_set (lkU (mL M 199) s (prR (wOut (Am M s) n n) r n)) (28 + 32 * s + r) (uL (Am M s r ^^^ bitI k))) n ∧ IC (sI (ptF (remM M p c) s r k n) (175 + 2 * s + 1) g') n ∧ mI (sI (ptF (remM M p c) s r k n) (175 + 2 * s + 1) g') 188 0 = 0 := by
  have hp := h.2.2.1.2.1
  have hn := h.n32
  obtain ⟨k1, k2, k3⟩ := clR h hs
  have e6 : mI (remM M p c) (6 + 2 * s) = Am M s := rem_m (by omega) (by omega) hp
  have hw := h.wf hs
  have hN : bcJ (ptN (remM M p c) s r n) = prR (wOut (Am M s) n n) r n := by
    unfold ptN
    rw [nd_n hr hn, prR_cg n k1]
  have h188 : mI (clOf (remM M p c) s n) 188 0 = 0 := by
    rw [cl_ne (by omega) (by omega)]
    exact X188 h rfl
  have hSR : SR (clOf (remM M p c) s n) 3 (mL M 199) n := sr_X h (fun i a b => cl_ne (by omega) (by omega)) rfl
  have e7 : mI (clOf (remM M p c) s n) (6 + 2 * s) = Am M s := by rw [cl_ne (by omega) (by omega), e6]
  unfold ptF
  rw [hN, e6]
  generalize clOf (remM M p c) s n = C at *
  have hL := SR_lk (x := prR (wOut (Am M s) n n) r n) hs hSR
  have hIC : ∀ t, t < 6 → t ≠ s → mI (mxLook C (5 + 2 * s) (prR (wOut (Am M s) n n) r n)) (175 + 2 * t) = mI C (175 + 2 * t) ∧ mI (mxLook C (5 + 2 * s) (prR (wOut (Am M s) n n) r n)) (176 + 2 * t) = mI C (176 + 2 * t) ∧ mI (mxLook C (5 + 2 * s) (prR (wOut (Am M s) n n) r n)) (6 + 2 * t) = mI C (6 + 2 * t) := fun t ht _ => ⟨mxLook_ne (by omega), mxLook_ne (by omega), mxLook_ne (by omega)⟩
  have e8 : mI (mxLook C (5 + 2 * s) (prR (wOut (Am M s) n n) r n)) (6 + 2 * s) = Am M s := by rw [mxLook_ne (by omega), e7]
  have e9 : mI (mxLook C (5 + 2 * s) (prR (wOut (Am M s) n n) r n)) 188 0 = 0 := by rw [mxLook_ne (by omega), h188]
  have hcu := cu_mxLook (x := prR (wOut (Am M s) n n) r n) hs k3
  generalize mxLook C (5 + 2 * s) (prR (wOut (Am M s) n n) r n) = D at *
  have hSet := SR_set (y := Am M s r ^^^ bitI k) hs hr hn hL (fun c hc => by
    rw [hb_xor, hw r hr c hc, hb_bitI (by omega), decide_eq_false (by omega)]
    rfl)
  rw [e8] at hSet
  refine ⟨cu_sI (by omega) (cu_sI (by omega) hcu), SR_cg hSet (fun i a b => sI_ne (by omega)) (fun _ _ => rfl), fun t ht h1 r9 hr9 => ?_, ?_⟩
  · by_cases e : t = s
    · subst e
      rw [show 176 + 2 * t = 175 + 2 * t + 1 by omega, sI_self, sI_ne (by omega), sI_self]
      exact hg r9 hr9
    · obtain ⟨i1, i2, i3⟩ := hIC t ht e
      rw [sI_ne (by omega), sI_ne (by omega), i1] at h1
      rw [sI_ne (by omega), sI_ne (by omega), sI_ne (by omega), sI_ne (by omega), i2, i3]
      exact k2 t ht h1 r9 hr9
  · rw [sI_ne (by omega), sI_ne (by omega)]
    exact e9
theorem sm_put (h : IV M n p c) (x1 : Int32) (x2 : Int32) (x3 : Int32) (x4 : Bool) : SmI True l jL_put jX7_put 10 187 3 18 4 [.ref 0, .int x1, .int x2, .int x3, .int (b1 x4), .ref 212] [.ref 198, .int x1, .int x2, .int x3, .int (b1 x4)] M Inv := by
  have hS := h.S
  have hz := h.z
  have hn := h.n32
  have hn1 := h.n1
  have hc8 := h.2.2.1.2.2.2.1
  by_cases hr : inR x1 6 ∧ inR x2 n ∧ inR x3 n
  · obtain ⟨s, hs, rfl⟩ := inR_of hr.1 (by decide)
    obtain ⟨a, ha, rfl⟩ := inR_of hr.2.1 (by omega)
    obtain ⟨b, hb9, rfl⟩ := inR_of hr.2.2 (by omega)
    have hu := u_put (l := l) (f := b1 x4) h.D hs ha hb9 (k01_b x4)
    have e6 : mI (remM M p c) (6 + 2 * s) = Am M s := rem_m (by omega) (by omega) h.2.2.1.2.1
    by_cases q : hb (Am M s a) b = x4
    · have hne : b1 (hb (mI (remM M p c) (6 + 2 * s) a) b) = b1 x4 := by rw [e6, q]
      unfold ptV ptM at hu
      rw [if_pos hne, if_pos hne] at hu
      refine uU h (fun N => lkM (k0M N c) s 0) (cu_mxLook hs (Cu.rf _)) (fun hS9 => w_put hu (shK hS rfl) (shK hS9 rfl)) (fun v a9 b9 => o_put a9 b9 hc8 hs ha hb9 q) (fun _ => rfl) (fun N => ru_lkM (Ru.rf _)) (fun N => t6_lkM t6_k0M) (fun N hN => ?_) (ic_lk hs (ic_X h (fun _ _ _ => rfl))) ?_
      · rw [lkM_U, k0_L (by decide), hN]
        exact SR_lk hs (sr_X h (fun _ _ _ => rfl) rfl)
      · rw [mxLook_ne (by omega)]
        exact X188 h rfl
    · obtain ⟨g', e1, e2, e3⟩ := pt_X h hs ha hb9 q
      rw [e1, e3] at hu
      obtain ⟨c1, c2, c3, c4⟩ := pf_X h hs ha hb9 e2
      refine uU h (fun N => rpM N n s a b (Am M s) c) c1 (fun hS9 => w_put hu (shK hS rfl) (shK hS9 rfl)) (fun v a9 b9 => n_put a9 b9 hc8 hs ha hb9 q) (fun _ => rfl) (fun N => ?_) (fun N => t6_rpM) (fun N hN => ?_) c3 c4
      · unfold rpM rpM1 srM
        exact ru_hdM (Or.inl rfl) (ru_sL (ru_lkM (ru_hdM (Or.inr (Or.inl rfl)) (ru_hdM (Or.inl rfl) (Ru.rf _)))))
      · have e9 : mL (rpM N n s a b (Am M s) c) 199 = fun_set (lkU (mL M 199) s (prR (wOut (Am M s) n n) a n)) (28 + 32 * s + a) (uL (Am M s a ^^^ bitI b)) := by
          unfold rpM rpM1 srM
          rw [hdM_ne (by decide), pL_0, lkM_U, hdM_ne (by decide), hdM_ne (by decide), k0_L (by decide), hN]
        rw [e9]
        exact c2
  · exact xI h (by decide) (wx_put (x_put hS hz hr) (shK hS rfl)) (t_put h.R hr)

end
end
-- 5989.us
section
/-! calls that change, from the invariant to the invariant (5989) -/
section
variable {l : Launch} {M : Mem} {n p c : Nat}
theorem ic_cg {M2 : Mem} (h : IC M n) (e : ∀ i, 6 ≤ i → i < 17 → mI M2 i = mI M i) (e2 : ∀ i, 175 ≤ i → i < 187 → mI M2 i = mI M i) : IC M2 n := fun s hs h1 r hr => by
  rw [e2 _ (by omega) (by omega)] at h1
  rw [e2 _ (by omega) (by omega), e _ (by omega) (by omega)]
  exact h s hs h1 r hr
theorem is_cg {M2 : Mem} (h : IS M) (e : ∀ i, 145 ≤ i → i < 174 → mI M2 i = mI M i) (e203 : mI M2 203 = mI M 203) (e202 : mL M2 202 = mL M 202) : IS M2 := fun q hq => by
  obtain ⟨k1, k2⟩ := h q hq
  refine ⟨fun s hs6 => by rw [e _ (by omega) (by omega)]; exact k1 s hs6, ?_⟩
  rw [e 173 (by decide) (by decide), e203, e202]
  rcases k2 with k2 | ⟨a1, a2, n', a3⟩
  · exact Or.inl k2
  · exact Or.inr ⟨a1, a2, n', SR_cg a3 (fun i a b => e i (by omega) (by omega)) (fun j _ => rfl)⟩
theorem ir_cg {M2 : Mem} (h : IR M) (e1 : mI M2 1 = mI M 1) (e2 : mI M2 2 = mI M 2) (e204 : mI M2 204 = mI M 204) (e8 : mI M2 198 8 = mI M 198 8) (e14 : mI M2 198 14 = mI M 198 14) (e15 : mI M2 198 15 = mI M 198 15) : IR M2 := by
  obtain ⟨⟨len, l1, l2, l3, l4⟩, r2, r3⟩ := h
  refine ⟨⟨len, l1, by rw [e1]; exact l2, by rw [e8]; exact l3, fun i hi => ?_⟩, by rw [e14, e1]; exact r2, by rw [e15, e1]; exact r3⟩
  obtain ⟨j, j1, j2, j3⟩ := l4 i hi
  exact ⟨j, j1, by rw [e2]; exact j2, by rw [e204]; exact j3⟩
theorem ix_cg {M2 : Mem} (h : IX M) (e188 : mI M2 188 = mI M 188) (e209 : mL M2 209 = mL M 209) (e0 : mI M2 0 14 = mI M 0 14) (e24 : mI M2 198 24 = mI M 198 24) : IX M2 := by
  obtain ⟨x1, x2, x3, x4⟩ := h
  exact ⟨by rw [e188]; exact x1, fun i hi => by rw [e209]; exact x2 i hi, by rw [e0]; exact x3, by rw [e24]; exact x4⟩
theorem ip_cg {M2 : Mem} (h : IP M n p c) (e : ∀ i, 32 ≤ i → i < 144 → mI M2 i = mI M i) (e4 : mI M2 0 4 = mI M 0 4) (e5 : mI M2 0 5 = mI M 0 5) (e8 : mI M2 198 5 = mI M 198 5) (e201 : mL M2 201 = mL M 201) : IP M2 n p c := by
  obtain ⟨p1, p2, p3, p4, p5, p6⟩ := h
  refine ⟨by rw [e4]; exact p1, p2, by rw [e5]; exact p3, p4, by rw [e8]; exact p5, fun i hi => ?_⟩
  have hm : (p + 8 - c + i) % 8 < 8 := Nat.mod_lt _ (by decide)
  exact SR_cg (p6 i hi) (fun j a b => e j (by omega) (by omega)) (fun j _ => by rw [e201])
theorem wrt_at {N : Mem} {x : Int32} : mI (wrtM N n x) 198 24 = nI n ∧ (∀ j, j ≠ 6 → j ≠ 24 → mI (wrtM N n x) 198 j = mI N 198 j) ∧ (∀ i, i ≠ 198 → i ≠ 211 → mI (wrtM N n x) i = mI N i) ∧ mL (wrtM N n x) = mL N := by
  unfold wrtM
  refine ⟨?_, fun j a b => ?_, fun i a b => ?_, rfl⟩
  · rw [sI_ne (by decide), pI_at9]
  · rw [sI_ne (by decide), pI_k b]
    unfold thr
    rw [pI_k a]
  · rw [sI_ne b, sI_ne a]
    unfold thr
    rw [sI_ne a]
theorem wo_at {x : Int32} : mI (woM M x n n) 0 14 = nI n ∧ (∀ j, j ≠ 14 → mI (woM M x n n) 0 j = mI M 0 j) ∧ ∀ i, i ≠ 0 → i ≠ 197 → mI (woM M x n n) i = mI M i := by
  unfold woM
  refine ⟨?_, fun j a => ?_, fun i a b => ?_⟩
  · rw [sI_ne (by decide), pI_at9]
  · rw [sI_ne (by decide), pI_k a]
  · rw [sI_ne b, sI_ne a]
theorem sm_writeRow (h : IV M n p c) (x1 : Int32) (x2 : Int32) : SmI True l jL_writeRow jX7_writeRow 9 164 2 12 4 [.ref 0, .int x1, .int x2, .ref 212] [.ref 198, .int x1, .int x2] M Inv := by
  have hS := h.S
  have hz := h.z
  have hn := h.n32
  have hn1 := h.n1
  by_cases hr : inR x1 6 ∧ inR x2 n
  · obtain ⟨s, hs, rfl⟩ := inR_of hr.1 (by decide)
    obtain ⟨r, hr2, rfl⟩ := inR_of hr.2 (by omega)
    have q := q_writeRow (l := l) hS hz hn hs hr2
    have hc : Cf M (woM M (mI M (6 + 2 * s) r) n n) := cf_woM
    obtain ⟨a1, a2, a3⟩ := wo_at (M := M) (n := n) (x := mI M (6 + 2 * s) r)
    have n9 := fun v => n_writeRow (l := l) (iv_A (v := v) h hc) hs hr2
    generalize hX : woM M (mI M (6 + 2 * s) r) n n = X at *
    refine uI (hc.S hS) (w_writeRow q (shK hS rfl) (shK (hc.S hS) rfl)) (n9 _) (fun _ => rfl) (rf_wrtM (Rf.rf _)) t6_wrtM ⟨n, p, c, ?_⟩
    obtain ⟨b1', b2, b3, b4⟩ := wrt_at (N := pL X 212 0 (nI n).toInt64) (n := n) (x := Am M s r)
    have hS2 : Shp (wrtM (pL X 212 0 (nI n).toInt64) n (Am M s r)) := (rf_wrtM (Rf.rf _)).S (hc.S hS)
    generalize wrtM (pL X 212 0 (nI n).toInt64) n (Am M s r) = Y at *
    have e : ∀ i, i ≠ 0 → i ≠ 197 → i ≠ 198 → i ≠ 211 → mI Y i = mI M i := fun i h1 h2 h3 h4 => (b3 i h3 h4).trans (a3 i h1 h2)
    have eL : ∀ i, i ≠ 212 → mL Y i = mL M i := fun i hi => by rw [b4, sL_ne9 hi, hc.L]
    have e0 : ∀ j, j ≠ 14 → mI Y 0 j = mI M 0 j := fun j hj => by rw [b3 0 (by decide) (by decide)]; exact a2 j hj
    have e8 : ∀ j, j ≠ 6 → j ≠ 24 → mI Y 198 j = mI M 198 j := fun j h1 h2 => by rw [b2 j h1 h2]; exact congrFun (a3 198 (by decide) (by decide)) j
    refine ⟨hS2, SR_cg h.2.1 (fun i h1 h2 => e i (by omega) (by omega) (by omega) (by omega)) (fun i _ => by rw [eL 199 (by decide)]), ip_cg h.2.2.1 (fun i h1 h2 => e i (by omega) (by omega) (by omega) (by omega)) (e0 4 (by decide)) (e0 5 (by decide)) (e8 5 (by decide) (by decide)) (eL 201 (by decide)), is_cg h.2.2.2.1 (fun i h1 h2 => e i (by omega) (by omega) (by omega) (by omega)) (e 203 (by decide) (by decide) (by decide) (by decide)) (eL 202 (by decide)), ic_cg h.2.2.2.2.1 (fun i h1 h2 => e i (by omega) (by omega) (by omega) (by omega)) (fun i h1 h2 => e i (by omega) (by omega) (by omega) (by omega)), ir_cg h.2.2.2.2.2.1 (e 1 (by decide) (by decide) (by decide) (by decide)) (e 2 (by decide) (by decide) (by decide) (by decide)) (e 204 (by decide) (by decide) (by decide) (by decide)) (e8 8 (by decide) (by decide)) (e8 14 (by decide) (by decide)) (e8 15 (by decide) (by decide)), ?_⟩
    obtain ⟨x1, x2, -, -⟩ := h.2.2.2.2.2.2
    refine ⟨by rw [e 188 (by decide) (by decide) (by decide) (by decide)]; exact x1, fun i hi => by rw [eL 209 (by decide)]; exact x2 i hi, ⟨n, hn, ?_⟩, n, hn, b1'⟩
    rw [b3 0 (by decide) (by decide)]
    exact a1
  · exact xI h (by decide) (wx_writeRow (x_writeRow hS hz hr) (shK hS rfl)) (t_writeRow h.R hr)

theorem sv_IS (h : IV M n p c) {q : Nat} {Y : Mem} (hq : q < 2) (e : ∀ i, 145 ≤ i → i < 173 → mI Y i = mI (stTake M (145 + 14 * q) 3) i) (e1 : ∀ j, mI Y 173 j = if j = q then 1 else mI M 173 j) (e2 : ∀ j, mI Y 203 j = if j = q then 1 else mI M 203 j) (eL : mL Y 202 = cpF (mL M 202) q (mL M 199) 0 220) : IS Y := fun t ht => by
  have hT : SR (stTake M (145 + 14 * q) 3) (145 + 14 * q) (mL M 199) n := SR_take (Or.inr (by omega)) h.2.1
  by_cases et : t = q
  · subst et
    have hY : SR Y (145 + 14 * t) (fun j => mL Y 202 (220 * t + j)) n := SR_cg hT (fun i a b => e i (by omega) (by omega)) (fun i hi => by
      show mL Y 202 (220 * t + i) = mL M 199 i
      rw [eL]
      unfold cpF
      rw [if_pos ⟨by omega, by omega⟩]
      congr 1
      omega)
    exact ⟨SR_keep hY, Or.inr ⟨by rw [e1, if_pos rfl], by rw [e2, if_pos rfl], n, hY⟩⟩
  · obtain ⟨k1, k2⟩ := h.2.2.2.1 t ht
    have e9 : ∀ i, 145 + 14 * t ≤ i → i < 159 + 14 * t → mI Y i = mI M i := fun i a b => by
      rw [e i (by omega) (by omega)]
      exact stTake_ne (by omega)
    refine ⟨fun s hs => by rw [e9 _ (by omega) (by omega)]; exact k1 s hs, ?_⟩
    rw [e1, if_neg et, e2, if_neg et]
    rcases k2 with k2 | ⟨a1, a2, n', a3⟩
    · exact Or.inl k2
    · refine Or.inr ⟨a1, a2, n', SR_cg a3 (fun i a b => e9 i (by omega) (by omega)) (fun j hj => ?_)⟩
      show mL Y 202 (220 * t + j) = _
      rw [eL]
      unfold cpF
      rw [if_neg (by omega)]
theorem sa_at {N : Mem} {q : Nat} : (∀ j, j ≠ 6 → mI (saM N q) 198 j = mI N 198 j) ∧ (∀ j, mI (saM N q) 203 j = if j = q then 1 else mI N 203 j) ∧ (∀ i, i ≠ 198 → i ≠ 203 → mI (saM N q) i = mI N i) ∧ mL (saM N q) 202 = cpF (mL N 202) q (mL N 199) 0 220 ∧ ∀ i, i ≠ 202 → mL (saM N q) i = mL N i := by
  unfold saM
  refine ⟨fun j a => ?_, fun j => ?_, fun i a b => ?_, ?_, fun i a => ?_⟩
  · rw [sI_ne (by decide)]
    show mI (thr N 0) 198 j = _
    unfold thr
    rw [pI_k a]
  · rw [pI_at]
    by_cases e : j = q
    · rw [if_pos ⟨rfl, e⟩, if_pos e]
    · rw [if_neg (fun h => e h.2), if_neg e]
      show mI (thr N 0) 203 j = _
      unfold thr
      rw [sI_ne (by decide)]
  · rw [sI_ne b]
    show mI (thr N 0) i = _
    unfold thr
    rw [sI_ne a]
  · show mL (sL (thr N 0) 202 _) 202 = _
    exact sL_self _ _ _
  · show mL (sL (thr N 0) 202 _) i = _
    rw [sL_ne9 a]
    rfl
theorem sv_at {q : Nat} (hq : q < 2) : (∀ j, mI (svM M q) 173 j = if j = q then 1 else mI M 173 j) ∧ (∀ i, i ≠ 173 → mI (svM M q) i = mI (stTake M (145 + 14 * q) 3) i) := by
  unfold svM
  refine ⟨fun j => ?_, fun i a => sI_ne a⟩
  rw [pI_at]
  by_cases e : j = q
  · rw [if_pos ⟨rfl, e⟩, if_pos e]
  · rw [if_neg (fun h => e h.2), if_neg e, stTake_ne (by omega)]
theorem sm_saveSnapshot (h : IV M n p c) (x1 : Int32) : SmI True l jL_saveSnapshot jX7_saveSnapshot 8 161 1 6 4 [.ref 0, .int x1, .ref 212] [.ref 198, .int x1] M Inv := by
  have hS := h.S
  have hz := h.z
  have hn := h.n32
  have hn1 := h.n1
  by_cases hr : ¬ x1 < 0 ∧ x1 ≤ 1
  · obtain ⟨q, hq9, rfl⟩ := nI_of2 (M := 1) (n := 1) (by decide) hr.1 hr.2
    have hq : q < 2 := by omega
    have hu := u_save (l := l) hS h.D.2.2.2.2.2.2.2 hq
    rw [hz] at hu
    have hc : Cf M (svM M q) := cf_svM hq
    obtain ⟨a1, a2⟩ := sv_at (M := M) hq
    have n9 := fun v => n_saveSnapshot (l := l) (iv_A (v := v) h hc) hq
    generalize svM M q = X at *
    refine uI (hc.S hS) (w_saveSnapshot hu (shK hS rfl) (shK (hc.S hS) rfl)) (n9 _) (fun _ => rfl) (rf_saM (Rf.rf _)) t6_saM ⟨n, p, c, ?_⟩
    obtain ⟨b1', b2, b3, b4, b5⟩ := sa_at (N := pL X 212 0 (nI n).toInt64) (q := q)
    have hS2 : Shp (saM (pL X 212 0 (nI n).toInt64) q) := (rf_saM (Rf.rf _)).S (hc.S hS)
    generalize saM (pL X 212 0 (nI n).toInt64) q = Y at *
    have e : ∀ i, i < 145 + 14 * q ∨ 159 + 14 * q ≤ i → i ≠ 173 → i ≠ 198 → i ≠ 203 → mI Y i = mI M i := fun i h1 h2 h3 h4 => by
      rw [b3 i h3 h4]
      show mI X i = mI M i
      rw [a2 i h2]
      exact stTake_ne (by omega)
    have eL : ∀ i, i ≠ 212 → i ≠ 202 → mL Y i = mL M i := fun i hi h2 => by rw [b5 i h2, sL_ne9 hi, hc.L]
    have e8 : ∀ j, j ≠ 6 → mI Y 198 j = mI M 198 j := fun j h1 => by
      rw [b1' j h1]
      show mI X 198 j = _
      rw [hc.I (Nat.le_refl 198)]
    refine ⟨hS2, SR_cg h.2.1 (fun i h1 h2 => e i (by omega) (by omega) (by omega) (by omega)) (fun i _ => by rw [eL 199 (by decide) (by decide)]), ip_cg h.2.2.1 (fun i h1 h2 => e i (by omega) (by omega) (by omega) (by omega)) (by rw [e 0 (by omega) (by decide) (by decide) (by decide)]) (by rw [e 0 (by omega) (by decide) (by decide) (by decide)]) (e8 5 (by decide)) (eL 201 (by decide) (by decide)), sv_IS h hq (fun i h1 h2 => by rw [b3 i (by omega) (by omega)]; exact a2 i (by omega)) (fun j => by rw [b3 173 (by decide) (by decide)]; exact a1 j) (fun j => ?_) ?_, ic_cg h.2.2.2.2.1 (fun i h1 h2 => e i (by omega) (by omega) (by omega) (by omega)) (fun i h1 h2 => e i (by omega) (by omega) (by omega) (by omega)), ir_cg h.2.2.2.2.2.1 (e 1 (by omega) (by decide) (by decide) (by decide)) (e 2 (by omega) (by decide) (by decide) (by decide)) (e 204 (by omega) (by decide) (by decide) (by decide)) (e8 8 (by decide)) (e8 14 (by decide)) (e8 15 (by decide)), ix_cg h.2.2.2.2.2.2 (e 188 (by omega) (by decide) (by decide) (by decide)) (eL 209 (by decide) (by decide)) (by rw [e 0 (by omega) (by decide) (by decide) (by decide)]) (e8 24 (by decide))⟩
    · rw [b2 j]
      show (if j = q then 1 else mI X 203 j) = _
      rw [hc.I (by decide)]
    · rw [b4, sL_ne9 (by decide), sL_ne9 (by decide), hc.L]
  · exact xI h (by decide) (wx_saveSnapshot (x_save hS hr) (shK hS rfl)) (t_saveSnapshot hS hr)

end
end
-- 5990.us
section
/-! calls that change, from the invariant to the invariant (59895) -/
section
variable {l : Launch} {M : Mem} {n p c : Nat}
theorem shp_N9 {X : Mem} {v : Int64} (h : Shp X) : Shp (pL X 212 0 v) := h
theorem dr_at {X : Mem} : ∀ k, k ≤ 6 → ∀ s, s < k → mI (dropC X k) (175 + 2 * s) 1 = 0
  | 0, _, s, hs => absurd hs (Nat.not_lt_zero _)
  | k + 1, hk, s, hs => by
    rw [dropC, pI_at]
    by_cases e : s = k
    · rw [if_pos ⟨by omega, rfl⟩]
    · rw [if_neg (by omega)]
      exact dr_at k (by omega) s (by omega)
theorem ic_drop {X : Mem} : IC (dropC X 6) n := fun s hs h1 => absurd (dr_at 6 (Nat.le_refl 6) s hs) h1
theorem SR_drop {X : Mem} {u : Nat → Int64} (h : SR X 3 u n) : SR (dropC X 6) 3 u n := SR_cg h (fun i a b => dropC_ne (Or.inl (by omega)) 6 (Nat.le_refl 6)) (fun _ _ => rfl)
theorem R_of {Y : Mem} (hS : Shp Y) (h : SR Y 3 (mL Y 199) n) : Rr Y n (Am Y) := ⟨hS, h.1.2.2.2, h.1.1, h.1.2.1, fun s r hs hr => by
  have h9 := (h.2.2.2.2 s hs).2.2.2.2.1 r hr
  rw [show 3 + 3 + 2 * s = 6 + 2 * s by omega] at h9
  exact h9⟩
theorem rp_at {o : Nat} (hd : 17 ≤ o) : (∀ i, i ≠ 0 → (i < 3 ∨ (17 ≤ i ∧ i < 175) ∨ 187 ≤ i) → mI (replM M o) i = mI M i) ∧ (∀ j, mI (replM M o) 0 j = if j = 5 then 0 else mI M 0 j) ∧ (∀ u n', SR M o u n' → SR (replM M o) 3 u n') ∧ ∀ n', IC (replM M o) n' := by
  have h1 : ∀ i, (i < 3 ∨ 17 ≤ i) → mI (stTake M 3 o) i = mI M i := fun i hi => stTake_ne hi
  have h2 : ∀ u n', SR M o u n' → SR (stTake M 3 o) 3 u n' := fun u n' h => SR_take (Or.inl hd) h
  unfold replM
  generalize stTake M 3 o = X at *
  refine ⟨fun i h0 hi => ?_, fun j => ?_, fun u n' h => ?_, fun n' => ic_drop⟩
  · rw [dropC_ne (by omega) 6 (Nat.le_refl 6), sI_ne h0, h1 i (by omega)]
  · rw [dropC_ne (by omega) 6 (Nat.le_refl 6), pI_at, h1 0 (by omega)]
    by_cases e : j = 5
    · rw [if_pos ⟨rfl, e⟩, if_pos e]
    · rw [if_neg (fun h => e h.2), if_neg e]
  · exact SR_drop (SR_cg (h2 u n' h) (fun i a b => sI_ne (by omega)) (fun _ _ => rfl))
theorem re_at {N : Mem} {q : Nat} : (∀ j, j ≠ 5 → j ≠ 6 → mI (reM N q) 198 j = mI N 198 j) ∧ mI (reM N q) 198 5 = 0 ∧ (∀ i, i ≠ 198 → mI (reM N q) i = mI N i) ∧ mL (reM N q) 199 = cpF (mL N 199) 0 (mL N 202) q 220 ∧ ∀ i, i ≠ 199 → mL (reM N q) i = mL N i := by
  unfold reM
  refine ⟨fun j a b => ?_, pI_at9 _ _ _ _, fun i a => ?_, ?_, fun i a => ?_⟩
  · rw [pI_k a]
    show mI (thr N 0) 198 j = _
    unfold thr
    rw [pI_k b]
  · rw [sI_ne a]
    show mI (thr N 0) i = _
    unfold thr
    rw [sI_ne a]
  · show mL (sL (thr N 0) 199 _) 199 = _
    exact sL_self _ _ _
  · show mL (sL (thr N 0) 199 _) i = _
    rw [sL_ne9 a]
    rfl
theorem sm_restoreSnapshot (h : IV M n p c) (x1 : Int32) : SmI True l jL_restoreSnapshot jX7_restoreSnapshot 8 191 1 6 4 [.ref 0, .int x1, .ref 212] [.ref 198, .int x1] M Inv := by
  have hS := h.S
  have hz := h.z
  have hn := h.n32
  have hn1 := h.n1
  by_cases hr : ¬ x1 < 0 ∧ x1 ≤ 1
  · obtain ⟨q, hq9, rfl⟩ := nI_of2 (M := 1) (n := 1) (by decide) hr.1 hr.2
    have hq : q < 2 := by omega
    obtain ⟨k1, k2⟩ := h.2.2.2.1 q hq
    have hu := u_restore (l := l) hS k1 hq
    rcases k2 with ⟨a1, a2⟩ | ⟨a1, a2, n', a3⟩
    · rw [if_pos a1, if_pos a1] at hu
      have n9 := fun v => o_restoreSnapshot (l := l) (M := pL M 212 0 v) hS hq a2
      exact uI hS (w_restoreSnapshot hu (shK hS rfl) (shK hS rfl)) (n9 _) (fun _ => rfl) (rf_thr (Rf.rf _)) t6_thr ⟨n, p, c, iv_r (iv_1 h) (rq_thr (Rq.rf _))⟩
    · have ne0 : ¬ mI M 173 q = 0 := by
        rw [a1]
        decide
      rw [if_neg ne0, if_neg ne0, a3.1.2.2.1] at hu
      have hc : Cf M (replM M (145 + 14 * q)) := cf_replM
      obtain ⟨b1', b2, b3, b4⟩ := rp_at (M := M) (o := 145 + 14 * q) (by omega)
      have hSR := b3 _ _ a3
      have hIC := b4 n'
      clear b3 b4
      generalize replM M (145 + 14 * q) = X at *
      obtain ⟨d1, d2, d3, d4, d5⟩ := re_at (N := pL X 212 0 (nI n').toInt64) (q := q)
      have hSN : Shp (pL X 212 0 (nI n').toInt64) := shp_N9 (hc.S hS)
      have hS2 : Shp (reM (pL X 212 0 (nI n').toInt64) q) := Rf.S (M := pL X 212 0 (nI n').toInt64) (rf_reM (Rf.rf _)) hSN
      have hSR2 : SR (reM (pL X 212 0 (nI n').toInt64) q) 3 (mL (reM (pL X 212 0 (nI n').toInt64) q) 199) n' := SR_cg hSR (fun i h1 h2 => by
        rw [d3 i (by omega)]) (fun j hj => by
        rw [d4, sL_ne9 (by decide), sL_ne9 (by decide), hc.L]
        unfold cpF
        rw [if_pos ⟨by omega, by omega⟩]
        show _ = mL M 202 (220 * q + j)
        congr 1
        omega)
      have n9 := n_restoreSnapshot (l := l) (M := pL X 212 0 (nI n').toInt64) hSN (R_of hS2 hSR2) hq (by
        show ¬ mI X 203 q = 0
        rw [hc.I (by decide), a2]
        decide)
      refine uI (hc.S hS) (w_restoreSnapshot hu (shK hS rfl) (shK (hc.S hS) rfl)) n9 (fun _ => rfl) (rf_reM (Rf.rf _)) t6_reM ⟨n', p, 0, ?_⟩
      generalize reM (pL X 212 0 (nI n').toInt64) q = Y at *
      have e : ∀ i, i ≠ 0 → i ≠ 198 → (i < 3 ∨ (17 ≤ i ∧ i < 175) ∨ 187 ≤ i) → mI Y i = mI M i := fun i h1 h2 h3 => by
        rw [d3 i h2]
        exact b1' i h1 h3
      have eL : ∀ i, i ≠ 212 → i ≠ 199 → mL Y i = mL M i := fun i hi h2 => by rw [d5 i h2, sL_ne9 hi, hc.L]
      have e8 : ∀ j, j ≠ 5 → j ≠ 6 → mI Y 198 j = mI M 198 j := fun j h1 h2 => by
        rw [d1 j h1 h2]
        show mI X 198 j = _
        rw [hc.I (Nat.le_refl 198)]
      have e0 : ∀ j, mI Y 0 j = if j = 5 then 0 else mI M 0 j := fun j => by
        rw [d3 0 (by decide)]
        exact b2 j
      refine ⟨hS2, hSR2, ⟨?_, h.2.2.1.2.1, ?_, Nat.zero_le 8, d2, fun i hi => absurd hi (Nat.not_lt_zero i)⟩, is_cg h.2.2.2.1 (fun i h1 h2 => e i (by omega) (by omega) (by omega)) (e 203 (by decide) (by decide) (by decide)) (eL 202 (by decide) (by decide)), ?_, ir_cg h.2.2.2.2.2.1 (e 1 (by decide) (by decide) (by decide)) (e 2 (by decide) (by decide) (by decide)) (e 204 (by decide) (by decide) (by decide)) (e8 8 (by decide) (by decide)) (e8 14 (by decide) (by decide)) (e8 15 (by decide) (by decide)), ix_cg h.2.2.2.2.2.2 (e 188 (by decide) (by decide) (by decide)) (eL 209 (by decide) (by decide)) ?_ (e8 24 (by decide) (by decide))⟩
      · rw [e0, if_neg (by decide)]
        exact h.2.2.1.1
      · rw [e0, if_pos rfl]
        rfl
      · exact ic_cg hIC (fun i h1 h2 => d3 i (by omega)) (fun i h1 h2 => d3 i (by omega))
      · rw [e0, if_neg (by decide)]
  · exact xI h (by decide) (wx_restoreSnapshot (x_restore hS hr) (shK hS rfl)) (t_restoreSnapshot hS hr)

theorem un_at {cc : Nat} : (∀ i, i ≠ 0 → (i < 3 ∨ (17 ≤ i ∧ i < 175) ∨ 187 ≤ i) → mI (unM M p cc) i = mI M i) ∧ (∀ j, mI (unM M p cc) 0 j = if j = 4 then nI (unP p) else if j = 5 then nI (cc - 1) else mI M 0 j) ∧ (∀ u n', SR M (32 + 14 * unP p) u n' → SR (unM M p cc) 3 u n') ∧ ∀ n', IC (unM M p cc) n' := by
  have q0 : ∀ j, mI (pI (pI M 0 5 (nI (cc - 1))) 0 4 (nI (unP p))) 0 j = if j = 4 then nI (unP p) else if j = 5 then nI (cc - 1) else mI M 0 j := fun j => by
    rw [pI_at, pI_at]
    by_cases e : j = 4
    · rw [if_pos ⟨rfl, e⟩, if_pos e]
    · rw [if_neg (fun h => e h.2), if_neg e]
      by_cases e2 : j = 5
      · rw [if_pos ⟨rfl, e2⟩, if_pos e2]
      · rw [if_neg (fun h => e2 h.2), if_neg e2]
  have qn : ∀ i, i ≠ 0 → mI (pI (pI M 0 5 (nI (cc - 1))) 0 4 (nI (unP p))) i = mI M i := fun i hi => by rw [sI_ne hi, sI_ne hi]
  unfold unM
  generalize pI (pI M 0 5 (nI (cc - 1))) 0 4 (nI (unP p)) = Q at *
  have h1 : ∀ i, (i < 3 ∨ 17 ≤ i) → mI (stTake Q 3 (32 + 14 * unP p)) i = mI Q i := fun i hi => stTake_ne hi
  have h2 : ∀ u n', SR M (32 + 14 * unP p) u n' → SR (stTake Q 3 (32 + 14 * unP p)) 3 u n' := fun u n' h => SR_take (Or.inl (by omega)) (SR_cg h (fun i a b => qn i (by omega)) (fun _ _ => rfl))
  generalize stTake Q 3 (32 + 14 * unP p) = X at *
  refine ⟨fun i h0 hi => ?_, fun j => ?_, fun u n' h => SR_drop (h2 u n' h), fun n' => ic_drop⟩
  · rw [dropC_ne (by omega) 6 (Nat.le_refl 6), h1 i (by omega), qn i h0]
  · rw [dropC_ne (by omega) 6 (Nat.le_refl 6), h1 0 (by omega), q0]
theorem ud_at {N : Mem} {cc : Nat} : (∀ j, j ≠ 5 → j ≠ 6 → mI (und N cc) 198 j = mI N 198 j) ∧ mI (und N cc) 198 5 = nI (cc - 1) ∧ (∀ i, i ≠ 198 → mI (und N cc) i = mI N i) ∧ mL (und N cc) 199 = cpF (mL N 199) 0 (mL N 201) (cc - 1) 220 ∧ ∀ i, i ≠ 199 → mL (und N cc) i = mL N i := by
  unfold und
  refine ⟨fun j a b => ?_, ?_, fun i a => ?_, sL_self _ _ _, fun i a => ?_⟩
  · show mI (pI (thr N 0) 198 5 (nI (cc - 1))) 198 j = _
    rw [pI_k a]
    unfold thr
    rw [pI_k b]
  · show mI (pI (thr N 0) 198 5 (nI (cc - 1))) 198 5 = _
    exact pI_at9 _ _ _ _
  · show mI (pI (thr N 0) 198 5 (nI (cc - 1))) i = _
    rw [sI_ne a]
    unfold thr
    rw [sI_ne a]
  · rw [sL_ne9 a]
    rfl
theorem sm_undo (h : IV M n p c)  : SmN True l jX6_undo jX7_undo 3 120 4 160 [.ref 0] [.ref 198] M Inv := by
  have hS := h.S
  have hz := h.z
  have hn := h.n32
  have hn1 := h.n1
  obtain ⟨p1, p2, p3, p4, p5, p6⟩ := h.2.2.1
  by_cases h0 : c = 0
  · subst h0
    exact ⟨_, _, _, _, v_undo hS p3, t_undo hS p5, hS, (rf_thr (Rf.rf M)).S hS, fun _ => rfl, iv_thr h⟩
  · have hc1 : 1 ≤ c := Nat.pos_of_ne_zero h0
    have eu : unP p = (p + 8 - c + (c - 1)) % 8 := by
      unfold unP
      split
      · rename_i q
        rw [q]
        omega
      · omega
    have hlast := p6 (c - 1) (by omega)
    rw [← eu] at hlast
    have hu := u_undo (l := l) h.D (SR_keep hlast) hc1
    have hc : Cf M (unM M p c) := cf_unM
    obtain ⟨b1', b2, b3, b4⟩ := un_at (M := M) (p := p) (cc := c)
    have hSR := b3 _ _ hlast
    have hIC := b4 n
    clear b3 b4
    have n9 := n_undo (l := l) (M := unM M p c) (hc.S hS) (by rw [hc.I (Nat.le_refl 198)]; exact p5) p4 hc1
    generalize unM M p c = X at *
    obtain ⟨d1, d2, d3, d4, d5⟩ := ud_at (N := X) (cc := c)
    have hS2 : Shp (und X c) := (rf_und (Rf.rf _)).S (hc.S hS)
    refine ⟨_, _, _, _, hu, n9, hc.S hS, hS2, fun _ => rfl, n, unP p, c - 1, ?_⟩
    generalize und X c = Y at *
    have e : ∀ i, i ≠ 0 → i ≠ 198 → (i < 3 ∨ (17 ≤ i ∧ i < 175) ∨ 187 ≤ i) → mI Y i = mI M i := fun i h1 h2 h3 => by
      rw [d3 i h2]
      exact b1' i h1 h3
    have eL : ∀ i, i ≠ 199 → mL Y i = mL M i := fun i h2 => by rw [d5 i h2, hc.L]
    have e8 : ∀ j, j ≠ 5 → j ≠ 6 → mI Y 198 j = mI M 198 j := fun j h1 h2 => by
      rw [d1 j h1 h2, hc.I (Nat.le_refl 198)]
    have e0 : ∀ j, mI Y 0 j = if j = 4 then nI (unP p) else if j = 5 then nI (c - 1) else mI M 0 j := fun j => by
      rw [d3 0 (by decide)]
      exact b2 j
    have hp8 : unP p < 8 := by
      unfold unP
      split <;> omega
    refine ⟨hS2, SR_cg hSR (fun i h1 h2 => d3 i (by omega)) (fun j hj => ?_), ⟨?_, hp8, ?_, by omega, d2, fun i hi => ?_⟩, is_cg h.2.2.2.1 (fun i h1 h2 => e i (by omega) (by omega) (by omega)) (e 203 (by decide) (by decide) (by decide)) (eL 202 (by decide)), ic_cg hIC (fun i h1 h2 => d3 i (by omega)) (fun i h1 h2 => d3 i (by omega)), ir_cg h.2.2.2.2.2.1 (e 1 (by decide) (by decide) (by decide)) (e 2 (by decide) (by decide) (by decide)) (e 204 (by decide) (by decide) (by decide)) (e8 8 (by decide) (by decide)) (e8 14 (by decide) (by decide)) (e8 15 (by decide) (by decide)), ix_cg h.2.2.2.2.2.2 (e 188 (by decide) (by decide) (by decide)) (eL 209 (by decide)) ?_ (e8 24 (by decide) (by decide))⟩
    · rw [d4, hc.L]
      unfold cpF
      rw [if_pos ⟨by omega, by omega⟩]
      show _ = mL M 201 (220 * (c - 1) + j)
      congr 1
      omega
    · rw [e0, if_pos rfl]
    · rw [e0, if_neg (by decide), if_pos rfl]
    · have e9 : (unP p + 8 - (c - 1) + i) % 8 = (p + 8 - c + i) % 8 := by omega
      rw [e9]
      have hm : (p + 8 - c + i) % 8 < 8 := Nat.mod_lt _ (by decide)
      exact SR_cg (p6 i (by omega)) (fun j h1 h2 => e j (by omega) (by omega) (by omega)) (fun j _ => by rw [eL 201 (by decide)])
    · rw [e0, if_neg (by decide), if_neg (by decide)]

end
end
-- 5991.us
section
/-! calls that change, from the invariant to the invariant (5991) -/
section
variable {l : Launch} {M : Mem} {n p c : Nat}
theorem ap_tx {len : Nat} {T R : Nat → Int32} {x : Int64} (hT : ∀ i, i < len → ∃ j, j < 256 ∧ T i = nI j ∧ R i = sx (nI j)) : ∀ k, len + mrB x k ≤ 600 → ∀ i, i < len + mrB x k → ∃ j, j < 256 ∧ (apL len T x k).2 i = nI j ∧ (apB len R x k).2 i = sx (nI j)
  | 0, _ => fun i hi => hT i hi
  | k + 1, h => fun i hi => by
    unfold apL apB
    unfold mrB at h hi
    by_cases e : bI x k = 0
    · rw [if_pos e] at h hi
      rw [if_pos e, if_pos e]
      exact ap_tx hT k h i hi
    · rw [if_neg e] at h hi
      rw [if_neg e, if_neg e, if_pos (by rw [ap_n k (by omega)]; omega)]
      show ∃ j, j < 256 ∧ fun_set (apL len T x k).2 (apL len T x k).1 (bI x k) i = nI j ∧ fun_set (apB len R x k).2 (apB len R x k).1 (sx (bI x k)) i = sx (nI j)
      rw [ap_n k (by omega), apB_1]
      by_cases q : i = len + mrB x k
      · rw [q, fs_self, fs_self]
        obtain ⟨j, j1, j2, -⟩ := bI_n x k
        exact ⟨j, j1, j2, by rw [j2]⟩
      · rw [fs_ne _ _ q, fs_ne _ _ q]
        exact ap_tx hT k (by omega) i (by omega)
theorem ap_iv (h : IV M n p c) {Q R : Nat × (Nat → Int32)} {len' : Nat} (hle : len' ≤ 600) (a1 : Q.1 = len') (a2 : R.1 = len') (a3 : ∀ i, i < len' → ∃ j, j < 256 ∧ Q.2 i = nI j ∧ R.2 i = sx (nI j)) : IV (agM (thr (apQ M Q) 0) R) n p c := by
  obtain ⟨-, r2, r3⟩ := h.2.2.2.2.2.1
  have hS2 : Shp (agM (thr (apQ M Q) 0) R) := h.S
  have b1' : ∀ i, i ≠ 1 → i ≠ 2 → i ≠ 198 → i ≠ 204 → mI (agM (thr (apQ M Q) 0) R) i = mI M i := fun i h1 h2 h3 h4 => by
    unfold agM thr apQ
    rw [sI_ne h3, sI_ne h4, sI_ne h3, sI_ne h1, sI_ne h2]
  have b2 : ∀ j, mI (agM (thr (apQ M Q) 0) R) 1 j = if j = 1 then nI Q.1 else mI M 1 j := fun j => by
    unfold agM thr apQ
    rw [sI_ne (by decide), sI_ne (by decide), sI_ne (by decide), pI_at, sI_ne (by decide)]
    by_cases e2 : j = 1
    · rw [if_pos ⟨rfl, e2⟩, if_pos e2]
    · rw [if_neg (fun h => e2 h.2), if_neg e2]
  have b3 : mI (agM (thr (apQ M Q) 0) R) 2 = Q.2 := by
    unfold agM thr apQ
    rw [sI_ne (by decide), sI_ne (by decide), sI_ne (by decide), sI_ne (by decide), sI_self]
  have b4 : ∀ j, j ≠ 6 → j ≠ 8 → mI (agM (thr (apQ M Q) 0) R) 198 j = mI M 198 j := fun j h1 h2 => by
    unfold agM thr apQ
    rw [pI_k h2, sI_ne (by decide), pI_k h1, sI_ne (by decide), sI_ne (by decide)]
  have b5 := agM_8 (M := thr (apQ M Q) 0) R
  have b6 := agM_t (M := thr (apQ M Q) 0) R
  have bL : mL (agM (thr (apQ M Q) 0) R) = mL M := rfl
  generalize agM (thr (apQ M Q) 0) R = Y at *
  have e0 := b1' 0 (by decide) (by decide) (by decide) (by decide)
  refine ⟨hS2, SR_cg h.2.1 (fun i h1 h2 => b1' i (by omega) (by omega) (by omega) (by omega)) (fun i _ => by rw [bL]), ip_cg h.2.2.1 (fun i h1 h2 => b1' i (by omega) (by omega) (by omega) (by omega)) (by rw [e0]) (by rw [e0]) (b4 5 (by decide) (by decide)) (by rw [bL]), is_cg h.2.2.2.1 (fun i h1 h2 => b1' i (by omega) (by omega) (by omega) (by omega)) (b1' 203 (by decide) (by decide) (by decide) (by decide)) (by rw [bL]), ic_cg h.2.2.2.2.1 (fun i h1 h2 => b1' i (by omega) (by omega) (by omega) (by omega)) (fun i h1 h2 => b1' i (by omega) (by omega) (by omega) (by omega)), ⟨⟨len', hle, by rw [b2, if_pos rfl, a1], by rw [b5, a2], fun i hi => ?_⟩, ?_, ?_⟩, ix_cg h.2.2.2.2.2.2 (b1' 188 (by decide) (by decide) (by decide) (by decide)) (by rw [bL]) (by rw [e0]) (b4 24 (by decide) (by decide))⟩
  · obtain ⟨j, j1, j2, j3⟩ := a3 i hi
    exact ⟨j, j1, by rw [b3]; exact j2, by rw [b6]; exact j3⟩
  · rw [b4 14 (by decide) (by decide), b2, if_neg (by decide)]
    exact r2
  · have e5 : mI Y 1 5 = mI M 1 5 := by rw [b2, if_neg (by decide)]
    have e4 : mI Y 1 4 = mI M 1 4 := by rw [b2, if_neg (by decide)]
    rw [b4 15 (by decide) (by decide), e5, e4]
    exact r3
theorem ap_204 {Q : Nat × (Nat → Int32)} : mI (apQ M Q) 204 = mI M 204 := by
  unfold apQ
  rw [sI_ne (by decide), sI_ne (by decide)]
theorem ap_go (h : IV M n p c) {len : Nat} {x : Int64} {k : Nat} (l1 : len ≤ 600) (l4 : ∀ i, i < len → ∃ j, j < 256 ∧ mI M 2 i = nI j ∧ mI M 204 i = sx (nI j)) : IV (if 600 < len + mrB x k then thr (if 600 < len + mrN x k then M else apQ M (apL len (mI M 2) x k)) 0 else agM (thr (if 600 < len + mrN x k then M else apQ M (apL len (mI M 2) x k)) 0) (apB len (mI (if 600 < len + mrN x k then M else apQ M (apL len (mI M 2) x k)) 204) x k)) n p c := by
  rw [mrB_n]
  by_cases e : 600 < len + mrB x k
  · rw [if_pos e, if_pos e]
    exact iv_r h (rq_thr (Rq.rf _))
  · rw [if_neg e, if_neg e, ap_204]
    have hle : len + mrB x k ≤ 600 := Nat.le_of_not_lt e
    exact ap_iv h hle (ap_n k hle) (apB_1 len (mI M 204) x k) (ap_tx l4 k hle)
theorem sm_append (h : IV M n p c) (x1 : Int64) : SmN True l jX6_append jX7_append 1 30 4 160 [.ref 0, .long x1] [.ref 198, .long x1] M Inv := by
  have hS := h.S
  have hz := h.z
  have hn := h.n32
  have hn1 := h.n1
  obtain ⟨⟨len, l1, l2, l3, l4⟩, r2, r3⟩ := h.2.2.2.2.2.1
  have q := q_append (l := l) (x := x1) hS l2 l1
  have hc : Cf M (apM M len x1) := cf_apM
  have n9 := n_append (l := l) (M := apM M len x1) (x := x1) (hc.S hS) (by rw [hc.I (Nat.le_refl 198)]; exact l3) l1
  have hI := ap_go (x := x1) (k := 8) h l1 l4
  exact ⟨_, _, _, _, q, n9, hc.S hS, (rf_agE (Rf.rf _)).S (hc.S hS), fun _ => ap_V M, n, p, c, hI⟩

end
end
-- 5992.ld
section
/-! both readers: after an error the class reads on, the reference stops -/
def EqS (s t : RP) : Prop := s.2.2.1 = t.2.2.1 ∧ s.2.2.2.1 = t.2.2.2.1 ∧ (s.2.2.2.1 ≠ 0 → s.2.2.2.2 = t.2.2.2.2) ∧ (s.2.2.2.1 = 0 → s.1 = t.1 ∧ s.2.1 = t.2.1)
/-- an error stays -/
def KpS (s t : RP) : Prop := s.2.2.2.1 ≠ 0 → t.2.2 = s.2.2
section
variable {s t u : RP} {T : Nat → Int32} {len n : Nat}
theorem KpS.tr (h : KpS s t) (g : KpS t u) : KpS s u := fun e => by
  have h1 := h e
  have h2 := g (by rw [h1]; exact e)
  rw [h2, h1]
theorem KpS.e (h : KpS s t) (e : s.2.2.2.1 ≠ 0) : t.2.2.2.1 ≠ 0 := by
  rw [h e]
  exact e
theorem EqS.kp (h : EqS s t) (g : KpS s u) (e : s.2.2.2.1 ≠ 0) : EqS u t := by
  have h1 := g e
  obtain ⟨a, b, c, d⟩ := h
  unfold EqS
  rw [h1]
  exact ⟨a, b, c, fun q => absurd q e⟩
theorem EqS.e0 (h : EqS s t) : s.2.2.2.1 = 0 ↔ t.2.2.2.1 = 0 := by rw [h.2.1]
theorem kp_fail {k a : Int32} : KpS s (rFail k a s) := fun e => by
  unfold rFail
  rw [if_neg e]
theorem eq_fail {k a : Int32} (h : EqS s t) : EqS (rFail k a s) (rFail k a t) := by
  unfold rFail
  by_cases e : s.2.2.2.1 = 0
  · rw [if_pos e, if_pos (h.e0.mp e)]
    obtain ⟨a1, a2, a3, a4⟩ := h
    refine ⟨a1, rfl, fun _ => rfl, fun _ => a4 e⟩
  · rw [if_neg e, if_neg (fun q => e (h.e0.mpr q))]
    exact h
theorem kp_twd : KpS s (twd T len s) := fun _ => rfl
theorem eq_twd (h : EqS s t) : EqS (twd T len s) (twd T len t) := by
  obtain ⟨a1, a2, a3, a4⟩ := h
  refine ⟨a1, a2, a3, fun e => ?_⟩
  have := (a4 e).1
  unfold twd
  rw [this]
  exact ⟨rfl, rfl⟩
theorem kp_tdg : KpS s (tdg T len s) := by
  unfold tdg
  split
  · exact KpS.tr (t := tdg0 T len s) (fun _ => rfl) kp_fail
  · exact fun _ => rfl
theorem eq_tdg (h : EqS s t) (e : s.2.2.2.1 = 0) : EqS (tdg T len s) (tdg T len t) := by
  have h1 := (h.2.2.2 e).1
  have h0 : EqS (tdg0 T len s) (tdg0 T len t) := by
    obtain ⟨a1, a2, a3, a4⟩ := h
    refine ⟨a1, a2, a3, fun _ => ?_⟩
    unfold tdg0
    rw [h1]
    exact ⟨rfl, rfl⟩
  unfold tdg
  rw [h1]
  split
  · exact eq_fail h0
  · exact h0
theorem kp_tnm {lo hi : Int32} : KpS s (tnm T len lo hi s) := by
  unfold tnm
  split
  · exact kp_tdg.tr kp_fail
  · exact kp_tdg
theorem eq_tnm {lo hi : Int32} (h : EqS s t) : EqS (tnm T len lo hi s) (nmS T len lo hi t) := by
  by_cases e : s.2.2.2.1 = 0
  · have h1 := (h.2.2.2 e).1
    unfold nmS
    rw [if_pos (h.e0.mp e)]
    unfold tnm
    rw [h1]
    split
    · exact eq_fail (eq_tdg h e)
    · exact eq_tdg h e
  · unfold nmS
    rw [if_neg (fun q => e (h.e0.mpr q))]
    exact h.kp kp_tnm e
theorem eq_tnv {lo hi : Int32} (h : EqS s t) : tnv T len lo hi s = nmV T len lo hi t := by
  have h2 := eq_tnm (T := T) (len := len) (lo := lo) (hi := hi) h
  by_cases e : s.2.2.2.1 = 0
  · have h1 := (h.2.2.2 e).1
    have e2 := h.e0.mp e
    unfold nmS at h2
    rw [if_pos e2] at h2
    unfold nmV
    rw [if_pos e2]
    unfold tnv
    by_cases q : (tnm T len lo hi s).2.2.2.1 = 0
    · rw [if_pos q, if_pos (h2.e0.mp q), h1]
    · rw [if_neg q, if_neg (fun q9 => q (h2.e0.mpr q9))]
  · unfold nmV
    rw [if_neg (fun q => e (h.e0.mpr q))]
    unfold tnv
    rw [if_neg (kp_tnm.e e)]
theorem eq_tnN {k : Nat} (h : EqS s t) : tnN T len k s = nmN T len k t := by
  unfold tnN nmN
  rw [eq_tnv h]
/-- a row of zeros and ones -/
theorem kp_tbI {b : Nat} {a : Int32} : ∀ k, KpS s (tbI T b a s k).1
  | 0 => fun _ => rfl
  | k + 1 => by
    unfold tbI
    split
    · exact (kp_tbI k).tr kp_fail
    · split
      · exact kp_tbI k
      · exact kp_tbI k
theorem kp_tbs : KpS s (tbs T len n s).1 := by
  unfold tbs
  split
  · exact kp_tdg.tr (kp_tbI n)
  · exact kp_tdg.tr kp_fail
theorem tb_ok {b : Nat} {a : Int32} (e : s.2.2.2.1 = 0) : ∀ k, k ≤ 32 → (isB T b k = true → tbI T b a s k = (s, rbB T b k)) ∧ (isB T b k = false → (tbI T b a s k).1 = rFail 2 a s)
  | 0, _ => ⟨fun _ => rfl, fun h => by cases h⟩
  | k + 1, hk => by
    obtain ⟨i1, i2⟩ := tb_ok (b := b) (a := a) e k (by omega)
    constructor
    · intro h
      unfold isB at h
      rw [Bool.and_eq_true, decide_eq_true_iff] at h
      have h1 := i1 h.1
      unfold tbI rbB
      rw [if_neg (Int32.not_lt.mpr h.2), h1]
      by_cases q : T (b + k) = 49
      · rw [if_pos q, if_pos ⟨by omega, q⟩]
      · rw [if_neg q, if_neg (fun z => q z.2), Int32.or_zero]
    · intro h
      unfold isB at h
      rw [Bool.and_eq_false_iff, decide_eq_false_iff_not] at h
      unfold tbI
      by_cases q : isB T b k = true
      · have h2 : ¬ T (b + k) ≤ 49 := by
          rcases h with h | h
          · rw [q] at h
            cases h
          · exact h
        rw [if_pos (Int32.not_le.mp h2), i1 q]
      · have h3 := i2 (Bool.eq_false_iff.mpr q)
        have h4 : ¬ (rFail 2 a s).2.2.2.1 = 0 := by
          unfold rFail
          rw [if_pos e]
          show ¬ (2 : Int32) = 0
          decide
        split
        · show rFail 2 a (tbI T b a s k).1 = _
          rw [h3]
          unfold rFail at h4 ⊢
          rw [if_neg h4]
        · split
          · exact h3
          · exact h3
end
end
-- 5993.ld
section
/-! what is described, on both sides -/
section
variable {M X : Mem} {b n : Nat} {u : Nat → Int64}
theorem SR_rowb {t : Nat} {f g : Nat → Int32} (ht : t < 6) (h : SR M b u n) (hg : ∀ r, r < n → g r = f r) (hf : wfr n f) : SR (sI M (b + 3 + 2 * t) g) b (lyF u t f n) n := by
  obtain ⟨⟨a1, a2, a3, a4⟩, ⟨bl, b1', b2, b3, b4⟩, ⟨y, y1, y2⟩, ⟨z, z1, z2⟩, hS⟩ := h
  have e : ∀ i, i ≠ b + 3 + 2 * t → mI (sI M (b + 3 + 2 * t) g) i = mI M i := fun i hi => sI_ne hi
  have gu : ∀ j, j < 28 → lyF u t f n j = u j := fun j hj => by rw [ly_at, if_neg (fun h => by omega)]
  refine ⟨⟨a1, a2, by rw [e b (by omega)]; exact a3, by rw [gu 0 (by decide)]; exact a4⟩, ⟨bl, b1', b2, by rw [e b (by omega)]; exact b3, by rw [gu 1 (by decide)]; exact b4⟩, ⟨y, by rw [e b (by omega)]; exact y1, by rw [gu 2 (by decide)]; exact y2⟩, ⟨z, by rw [e b (by omega)]; exact z1, by rw [gu 3 (by decide)]; exact z2⟩, fun s hs => ?_⟩
  by_cases q : s = t
  · subst q
    obtain ⟨⟨k', f1, f2⟩, f3, f4, f5, f6, f7⟩ := hS s ht
    have e2 := e (b + 2 + 2 * s) (by omega)
    have e3 : mI (sI M (b + 3 + 2 * s) g) (b + 3 + 2 * s) = g := by rw [sI_self]
    refine ⟨⟨k', by rw [e2]; exact f1, by rw [gu _ (by omega)]; exact f2⟩, by rw [e2, gu _ (by omega)]; exact f3, by rw [e2, gu _ (by omega)]; exact f4, by rw [e2, gu _ (by omega)]; exact f5, fun r hr => ?_, fun r hr c hc => ?_⟩
    · rw [e3, ly_at, if_pos ⟨by omega, by omega⟩, hg r hr, show 28 + 32 * s + r - (28 + 32 * s) = r by omega]
    · rw [e3, hg r hr]
      exact hf r hr c hc
  · exact SS_cg (hS s hs) (fun j _ _ => by rw [e _ (by omega)]) (fun r _ => by rw [e _ (by omega)]) ⟨gu _ (by omega), gu _ (by omega), gu _ (by omega), gu _ (by omega)⟩ (fun r hr => by rw [ly_at, if_neg (fun h => by omega)])
theorem SR_setb {s r : Nat} {y : Int32} (hs : s < 6) (hr : r < n) (hn : n ≤ 32) (h : SR X b u n) (hy : ∀ c, n ≤ c → hb y c = false) : SR (sI X (b + 3 + 2 * s) (fun_set (mI X (b + 3 + 2 * s)) r y)) b (fun_set u (28 + 32 * s + r) (uL y)) n := by
  obtain ⟨-, -, -, -, c6, c7⟩ := h.2.2.2.2 s hs
  have hw : wfr n (fun_set (mI X (b + 3 + 2 * s)) r y) := fun x hx c hc => by
    unfold fun_set
    split
    · exact hy c hc
    · exact c7 x hx c hc
  refine SR_cg (SR_rowb hs h (fun _ _ => rfl) hw) (fun _ _ _ => rfl) (fun i hi => ?_)
  rw [fsu_at, ly_at]
  by_cases e : 28 + 32 * s ≤ i ∧ i < 28 + 32 * s + n
  · rw [if_pos e]
    by_cases e2 : i = 28 + 32 * s + r
    · rw [if_pos e2, e2, show 28 + 32 * s + r - (28 + 32 * s) = r by omega, fs_self]
    · rw [if_neg e2, fs_ne _ _ (by omega)]
      have := c6 (i - (28 + 32 * s)) (by omega)
      rw [show 28 + 32 * s + (i - (28 + 32 * s)) = i by omega] at this
      exact this
  · rw [if_neg e, if_neg (by omega)]
theorem SR_kpb {s : Nat} {k : Bool} (hs : s < 6) (h : SR X b u n) : SR (pI X (b + 2 + 2 * s) 1 (b1 k)) b (fun_set u (4 + s) (b1L k)) n := by
  obtain ⟨⟨a1, a2, a3, a4⟩, ⟨bl, b1', b2, b3, b4⟩, ⟨y, y1, y2⟩, ⟨z, z1, z2⟩, hS⟩ := h
  have e : ∀ i, i ≠ b + 2 + 2 * s → mI (pI X (b + 2 + 2 * s) 1 (b1 k)) i = mI X i := fun i hi => sI_ne hi
  have g : ∀ j, j ≠ 4 + s → fun_set u (4 + s) (b1L k) j = u j := fun j hj => fs_ne _ _ hj
  refine ⟨⟨a1, a2, by rw [e b (by omega)]; exact a3, by rw [g 0 (by omega)]; exact a4⟩, ⟨bl, b1', b2, by rw [e b (by omega)]; exact b3, by rw [g 1 (by omega)]; exact b4⟩, ⟨y, by rw [e b (by omega)]; exact y1, by rw [g 2 (by omega)]; exact y2⟩, ⟨z, by rw [e b (by omega)]; exact z1, by rw [g 3 (by omega)]; exact z2⟩, fun t ht => ?_⟩
  by_cases q : t = s
  · subst q
    obtain ⟨-, c3, c4, c5, c6, c7⟩ := hS t ht
    refine ⟨⟨k, by rw [pI_at, if_pos ⟨rfl, rfl⟩], by rw [fs_self]⟩, ?_, ?_, ?_, fun r hr => ?_, fun r hr c hc => ?_⟩
    · rw [pI_at, if_neg (by omega), g _ (by omega)]
      exact c3
    · rw [pI_at, if_neg (by omega), g _ (by omega)]
      exact c4
    · rw [pI_at, if_neg (by omega), g _ (by omega)]
      exact c5
    · rw [g _ (by omega), e _ (by omega)]
      exact c6 r hr
    · rw [e _ (by omega)]
      exact c7 r hr c hc
  · exact SS_cg (hS t ht) (fun j _ _ => by rw [e _ (by omega)]) (fun r _ => by rw [e _ (by omega)]) ⟨g _ (by omega), g _ (by omega), g _ (by omega), g _ (by omega)⟩ (fun r _ => g _ (by omega))
theorem SR_blb {m : Nat} (h1 : 1 ≤ m) (h8 : m ≤ 8) (h : SR X b u n) : SR (pI X b 2 (nI m)) b (fun_set u 1 (lN m)) n := by
  obtain ⟨⟨a1, a2, a3, a4⟩, -, ⟨y, y1, y2⟩, ⟨z, z1, z2⟩, hSS⟩ := h
  have g : ∀ j, j ≠ 1 → fun_set u 1 (lN m) j = u j := fun j hj => fs_ne _ _ hj
  have e : ∀ i, i ≠ b → mI (pI X b 2 (nI m)) i = mI X i := fun i hi => sI_ne hi
  have e3 : ∀ j, j ≠ 2 → mI (pI X b 2 (nI m)) b j = mI X b j := fun j hj => pI_k hj
  refine ⟨⟨a1, a2, by rw [e3 1 (by decide)]; exact a3, by rw [g 0 (by decide)]; exact a4⟩, ⟨m, h1, h8, by rw [pI_at9], by rw [fs_self]⟩, ⟨y, by rw [e3 3 (by decide)]; exact y1, by rw [g 2 (by decide)]; exact y2⟩, ⟨z, by rw [e3 4 (by decide)]; exact z1, by rw [g 3 (by decide)]; exact z2⟩, fun t ht => ?_⟩
  exact SS_cg (hSS t ht) (fun j _ _ => by rw [e _ (by omega)]) (fun r _ => by rw [e _ (by omega)]) ⟨g _ (by omega), g _ (by omega), g _ (by omega), g _ (by omega)⟩ (fun r _ => g _ (by omega))
end
/-! statements of both readers -/
section
variable {M : Mem} {s t : RP} {T : Nat → Int32} {len n : Nat} {u : Nat → Int64}
/-- a statement read on both sides -/
def StR (len n : Nat) (A : Mem × RP) (B : (Nat → Int64) × RP) : Prop := EqS A.2 B.2 ∧ (A.2.2.2.2.1 = 0 → SR A.1 17 B.1 n)
theorem StR_mk {A1 : Mem} {A2 : RP} {B : (Nat → Int64) × RP} (h1 : EqS A2 B.2) (h2 : A2.2.2.2.1 = 0 → SR A1 17 B.1 n) : StR len n (A1, A2) B := ⟨h1, h2⟩
theorem kp_e {a b : RP} (h : KpS a b) (e : b.2.2.2.1 = 0) : a.2.2.2.1 = 0 := Decidable.byContradiction (fun q => h.e q e)
theorem ed_D {a r c : Nat} (ha : a < 6) (hr : r < n) (hc : c < n) (hn : n ≤ 32) (hs0 : SR M 17 u n) : SR (sI M (20 + 2 * a) (fun_set (mI M (20 + 2 * a)) r (mI M (20 + 2 * a) r ||| bitI c))) 17 (fun_set u (28 + 32 * a + r) (u (28 + 32 * a + r) ||| uL (bitI c))) n := by
  obtain ⟨-, -, -, -, c6, c7⟩ := hs0.2.2.2.2 a ha
  rw [c6 r hr, uL_or]
  rw [show 17 + 3 + 2 * a = 20 + 2 * a by omega] at c7 ⊢
  have h9 := SR_setb (r := r) (y := mI M (20 + 2 * a) r ||| bitI c) ha hr hn hs0 (fun i hi => by
    rw [hb_or, c7 r hr i hi, hb_bitI (by omega), decide_eq_false (by omega)]
    rfl)
  rw [show 17 + 3 + 2 * a = 20 + 2 * a by omega] at h9
  exact h9
theorem st_ed (hn1 : 1 ≤ n) (hn : n ≤ 32) (h : EqS s t) (hD : s.2.2.2.1 = 0 → SR M 17 u n) : StR len n (edM M len n s, edS (mI M 2) len n s) (gE (mI M 2) len n u t) := by
  have hn2 : n - 1 < 2147483648 := by omega
  have hn3 : n - 1 < n := by omega
  have h1 := eq_tnm (T := mI M 2) (len := len) (lo := 0) (hi := nI 5) h
  have h2 := eq_tnm (T := mI M 2) (len := len) (lo := 0) (hi := nI (n - 1)) h1
  have h3 := eq_tnm (T := mI M 2) (len := len) (lo := 0) (hi := nI (n - 1)) h2
  have q1 := eq_tnN (T := mI M 2) (len := len) (k := 5) h
  have q2 := eq_tnN (T := mI M 2) (len := len) (k := n - 1) h1
  have q3 := eq_tnN (T := mI M 2) (len := len) (k := n - 1) h2
  have l1 := (tnN_ok (mI M 2) len (h := 5) (by decide) s).2
  have l2 := (tnN_ok (mI M 2) len (h := n - 1) hn2 (tnm (mI M 2) len 0 (nI 5) s)).2
  have l3 := (tnN_ok (mI M 2) len (h := n - 1) hn2 (tnm (mI M 2) len 0 (nI (n - 1)) (tnm (mI M 2) len 0 (nI 5) s))).2
  have hk : KpS s (edS (mI M 2) len n s) := (kp_tnm.tr kp_tnm).tr kp_tnm
  have g2 : (gE (mI M 2) len n u t).2 = nmS (mI M 2) len 0 (nI (n - 1)) (nmS (mI M 2) len 0 (nI (n - 1)) (nmS (mI M 2) len 0 (nI 5) t)) := rfl
  have e3 : EqS (edS (mI M 2) len n s) (gE (mI M 2) len n u t).2 := by
    rw [g2]
    exact h3
  refine StR_mk e3 (fun e8 => ?_)
  have e' := e3.e0.mp e8
  rw [g2] at e'
  have hE : (gE (mI M 2) len n u t).1 = fun_set u (28 + 32 * nmN (mI M 2) len 5 t + nmN (mI M 2) len (n - 1) (nmS (mI M 2) len 0 (nI 5) t)) (u (28 + 32 * nmN (mI M 2) len 5 t + nmN (mI M 2) len (n - 1) (nmS (mI M 2) len 0 (nI 5) t)) ||| uL (bitI (nmN (mI M 2) len (n - 1) (nmS (mI M 2) len 0 (nI (n - 1)) (nmS (mI M 2) len 0 (nI 5) t))))) := if_pos e'
  rw [hE, ← q1, ← q2, ← q3]
  unfold edM
  exact ed_D (Nat.lt_succ_of_le l1) (Nat.lt_of_le_of_lt l2 hn3) (Nat.lt_of_le_of_lt l3 hn3) hn (hD (kp_e hk e8))
theorem st_bl (h : EqS s t) (hD : s.2.2.2.1 = 0 → SR M 17 u n) : StR len n (pI M 17 2 (tnv (mI M 2) len 1 8 s), tnm (mI M 2) len 1 8 s) (gBk (mI M 2) len u t) := by
  have h1 := eq_tnm (T := mI M 2) (len := len) (lo := 1) (hi := 8) h
  have h2 := eq_tnv (T := mI M 2) (len := len) (lo := 1) (hi := 8) h
  unfold StR gBk
  rw [← h2]
  refine ⟨h1, fun e => ?_⟩
  obtain ⟨g1, g2⟩ := tnv_in (mI M 2) len 1 8 s (by decide)
  obtain ⟨m, hm, em⟩ := nI_of2 (x := tnv (mI M 2) len 1 8 s) (M := 8) (n := 8) (by decide) (fun q => g1 (Int32.lt_trans q (by decide))) (Int32.not_lt.mp g2)
  have hm1 : 1 ≤ m := by
    rcases Nat.eq_zero_or_pos m with q | q
    · rw [em, q] at g1
      exact absurd (by decide) g1
    · exact q
  show SR (pI M 17 2 (tnv (mI M 2) len 1 8 s)) 17 (fun_set u 1 (tnv (mI M 2) len 1 8 s).toInt64) n
  rw [em, show (nI m).toInt64 = lN m from nI_l (by omega)]
  exact SR_blb hm1 (by omega) (hD (kp_e kp_tnm e))
theorem st_kp (h : EqS s t) (hD : s.2.2.2.1 = 0 → SR M 17 u n) : StR len n (rkM M len s, rkS M len s) (gK (mI M 2) len u t) := by
  have h1 := eq_tnm (T := mI M 2) (len := len) (lo := 0) (hi := nI 5) h
  have q1 := eq_tnN (T := mI M 2) (len := len) (k := 5) h
  have l1 := (tnN_ok (mI M 2) len (h := 5) (by decide) s).2
  have hk : KpS s (tnm (mI M 2) len 0 (nI 5) s) := kp_tnm
  unfold StR rkM rkS gK
  rw [← q1]
  generalize tnN (mI M 2) len 5 s = a at *
  generalize tnm (mI M 2) len 0 (nI 5) s = s1 at *
  generalize nmS (mI M 2) len 0 (nI 5) t = t1 at *
  have ha : a < 6 := by omega
  by_cases e : s1.2.2.2.1 = 0
  · have hs0 := hD (kp_e hk e)
    obtain ⟨⟨k, k1, k2⟩, -⟩ := hs0.2.2.2.2 a ha
    rw [show 17 + 2 + 2 * a = 19 + 2 * a by omega] at k1
    have hkp := SR_kpb (k := true) ha hs0
    rw [show 17 + 2 + 2 * a = 19 + 2 * a by omega] at hkp
    show EqS (if mI M (19 + 2 * a) 1 = 0 then s1 else rFail 3 s1.2.1 s1) (if t1.2.2.2.1 = 0 ∧ u (4 + a) = 1 then rFail 3 t1.2.1 t1 else t1) ∧ ((if mI M (19 + 2 * a) 1 = 0 then s1 else rFail 3 s1.2.1 s1).2.2.2.1 = 0 → SR (pI M (19 + 2 * a) 1 1) 17 (fun_set u (4 + a) 1) n)
    rw [k1, k2]
    refine ⟨?_, fun _ => hkp⟩
    cases k
    · rw [if_pos ((b1_0k false).mpr rfl), if_neg (fun q => by cases (b1L_1 false).mp q.2)]
      exact h1
    · rw [if_neg (fun q => by cases (b1_0k true).mp q), if_pos ⟨h1.e0.mp e, (b1L_1 true).mpr rfl⟩, (h1.2.2.2 e).2]
      exact eq_fail h1
  · have hf : ∀ k a, rFail k a s1 = s1 := fun k a => by
      unfold rFail
      rw [if_neg e]
    show EqS (if mI M (19 + 2 * a) 1 = 0 then s1 else rFail 3 s1.2.1 s1) (if t1.2.2.2.1 = 0 ∧ u (4 + a) = 1 then rFail 3 t1.2.1 t1 else t1) ∧ ((if mI M (19 + 2 * a) 1 = 0 then s1 else rFail 3 s1.2.1 s1).2.2.2.1 = 0 → SR (pI M (19 + 2 * a) 1 1) 17 (fun_set u (4 + a) 1) n)
    rw [hf, ite_self, if_neg (fun q => e (h1.e0.mpr q.1))]
    exact ⟨h1, fun q => absurd q e⟩
end
end
-- 5994.ld
section
/-! rows and kinds of both readers -/
section
variable {M : Mem} {s t : RP} {T : Nat → Int32} {len n : Nat} {u : Nat → Int64}
theorem rb_z {b : Nat} {c : Nat} : ∀ k, k ≤ 32 → k ≤ c → hb (rbB T b k) c = false
  | 0, _, _ => hb_0 c
  | k + 1, hk, hc => by
    unfold rbB
    rw [hb_or, rb_z k (by omega) (by omega)]
    split
    · rw [hb_bitI (by omega), decide_eq_false (by omega)]
      rfl
    · rw [hb_0]
      rfl
theorem dig_b {b : Nat} : ¬ (b < len ∧ isDi (T b) = true) ↔ b = digP T len b := by
  unfold digP
  constructor
  · intro h
    by_cases q : b < len
    · obtain ⟨d, hd⟩ : ∃ d, len - b = d + 1 := ⟨len - b - 1, by omega⟩
      rw [hd]
      unfold scan
      rw [if_neg (fun z => h ⟨q, z⟩)]
    · rw [show len - b = 0 by omega]
      rfl
  · intro h q
    obtain ⟨d, hd⟩ : ∃ d, len - b = d + 1 := ⟨len - b - 1, by omega⟩
    rw [hd] at h
    unfold scan at h
    rw [if_pos q.2] at h
    have := (scan_le isDi T d (b + 1)).1
    omega
/-- the digits of a row -/
theorem tb_R {a r : Nat} (hn1 : 1 ≤ n) (hn : n ≤ 32) (h : EqS s t) (e : s.2.2.2.1 = 0) : EqS (tbs T len n s).1 (gRb T len n a r u t (skipP T len t.1)).2 ∧ ((tbs T len n s).1.2.2.2.1 = 0 → (gRb T len n a r u t (skipP T len t.1)).1 = fun_set u (28 + 32 * a + r) (uL (tbs T len n s).2) ∧ ∀ c, n ≤ c → hb (tbs T len n s).2 c = false) := by
  obtain ⟨a1, a2, a3, a4⟩ := h
  have e2 : t.2.2.2.1 = 0 := by rw [← a2]; exact e
  have hp := (a4 e).1
  unfold tbs gRb
  rw [hp]
  generalize hb9 : skipP T len t.1 = b
  have h0 : EqS (digP T len b, nI b, s.2.2) (digP T len b, nI b, t.2.2) := ⟨a1, a2, fun q => absurd e q, fun _ => ⟨rfl, rfl⟩⟩
  have eT0 : tdg0 T len s = (digP T len b, nI b, s.2.2) := by
    unfold tdg0
    rw [hp, hb9]
  have eT : tdg T len s = if b = digP T len b then rFail 1 (nI b) (digP T len b, nI b, s.2.2) else (digP T len b, nI b, s.2.2) := by
    unfold tdg
    rw [eT0, hp, hb9]
  rw [eT]
  have g1 : ∀ k p, rFail k (nI b) (p, nI b, t.2.2) = (p, nI b, t.2.2.1, k, nI b) := fun k p => by
    unfold rFail
    rw [if_pos (show (p, nI b, t.2.2).2.2.2.1 = 0 from e2)]
  have g2 : ∀ k p, rFail k (nI b) (p, nI b, s.2.2) = (p, nI b, s.2.2.1, k, nI b) := fun k p => by
    unfold rFail
    rw [if_pos (show (p, nI b, s.2.2).2.2.2.1 = 0 from e)]
  by_cases q : b = digP T len b
  · have q2 : ¬ (b < len ∧ isDi (T b) = true) := dig_b.mpr q
    rw [if_pos q, if_neg q2, g1, g2, if_neg (show ¬ digP T len b - b = n by omega)]
    have g3 : rFail 2 (nI b) (digP T len b, nI b, s.2.2.1, 1, nI b) = (digP T len b, nI b, s.2.2.1, 1, nI b) := by
      unfold rFail
      exact if_neg (show ¬ (1 : Int32) = 0 by decide)
    show EqS (rFail 2 (nI b) (digP T len b, nI b, s.2.2.1, 1, nI b)) (b, nI b, t.2.2.1, 1, nI b) ∧ ((rFail 2 (nI b) (digP T len b, nI b, s.2.2.1, 1, nI b)).2.2.2.1 = 0 → _)
    rw [g3]
    exact ⟨⟨a1, rfl, fun _ => rfl, fun z => absurd z (show ¬ (1 : Int32) = 0 by decide)⟩, fun z => absurd z (show ¬ (1 : Int32) = 0 by decide)⟩
  · have q2 : b < len ∧ isDi (T b) = true := Decidable.byContradiction (fun z => q (dig_b.mp z))
    rw [if_neg q, if_pos q2]
    by_cases q3 : digP T len b - b = n
    · rw [if_pos q3]
      obtain ⟨t1, t2⟩ := tb_ok (T := T) (b := b) (a := nI b) (s := (digP T len b, nI b, s.2.2)) e n hn
      rw [q3]
      by_cases q4 : isB T b n = true
      · rw [t1 q4, if_pos ⟨q4, rfl⟩]
        exact ⟨h0, fun _ => ⟨rfl, fun c hc => rb_z n hn hc⟩⟩
      · rw [if_neg (fun z => q4 z.1), t2 (Bool.eq_false_iff.mpr q4), g1, g2]
        exact ⟨⟨a1, rfl, fun _ => rfl, fun z => absurd z (show ¬ (2 : Int32) = 0 by decide)⟩, fun z => absurd z (show ¬ (2 : Int32) = 0 by decide)⟩
    · rw [if_neg q3, if_neg (fun z => q3 z.2), g1, g2]
      exact ⟨⟨a1, rfl, fun _ => rfl, fun z => absurd z (show ¬ (2 : Int32) = 0 by decide)⟩, fun z => absurd z (show ¬ (2 : Int32) = 0 by decide)⟩
theorem st_rr (hn1 : 1 ≤ n) (hn : n ≤ 32) (h : EqS s t) (hD : s.2.2.2.1 = 0 → SR M 17 u n) : StR len n (rrM M len n s, rrS (mI M 2) len n s) (gR (mI M 2) len n u t) := by
  have hn2 : n - 1 < 2147483648 := by omega
  have hn3 : n - 1 < n := by omega
  have h1 := eq_tnm (T := mI M 2) (len := len) (lo := 0) (hi := nI 5) h
  have h2 := eq_tnm (T := mI M 2) (len := len) (lo := 0) (hi := nI (n - 1)) h1
  have q1 := eq_tnN (T := mI M 2) (len := len) (k := 5) h
  have q2 := eq_tnN (T := mI M 2) (len := len) (k := n - 1) h1
  have l1 := Nat.lt_succ_of_le (tnN_ok (mI M 2) len (h := 5) (by decide) s).2
  have l2 := Nat.lt_of_le_of_lt (tnN_ok (mI M 2) len (h := n - 1) hn2 (tnm (mI M 2) len 0 (nI 5) s)).2 hn3
  have hk : KpS s (tnm (mI M 2) len 0 (nI (n - 1)) (tnm (mI M 2) len 0 (nI 5) s)) := KpS.tr (t := tnm (mI M 2) len 0 (nI 5) s) kp_tnm kp_tnm
  unfold StR rrM rrS gR
  rw [← q1, ← q2]
  clear q1 q2 h1
  generalize tnN (mI M 2) len 5 s = a at *
  generalize tnN (mI M 2) len (n - 1) (tnm (mI M 2) len 0 (nI 5) s) = r at *
  generalize tnm (mI M 2) len 0 (nI (n - 1)) (tnm (mI M 2) len 0 (nI 5) s) = s2 at *
  generalize nmS (mI M 2) len 0 (nI (n - 1)) (nmS (mI M 2) len 0 (nI 5) t) = t2 at *
  by_cases e : s2.2.2.2.1 = 0
  · rw [if_pos (h2.e0.mp e)]
    obtain ⟨b1', b2⟩ := tb_R (T := mI M 2) (len := len) (u := u) (a := a) (r := r) hn1 hn h2 e
    refine ⟨b1', fun e9 => ?_⟩
    obtain ⟨c1, c2⟩ := b2 e9
    show SR (sI M (20 + 2 * a) (fun_set (mI M (20 + 2 * a)) r (tbs (mI M 2) len n s2).2)) 17 (gRb (mI M 2) len n a r u t2 (skipP (mI M 2) len t2.1)).1 n
    rw [c1]
    have h9 := SR_setb (y := (tbs (mI M 2) len n s2).2) l1 l2 hn (hD (kp_e hk e)) c2
    rw [show 17 + 3 + 2 * a = 20 + 2 * a by omega] at h9
    exact h9
  · rw [if_neg (fun q => e (h2.e0.mpr q))]
    exact ⟨h2.kp kp_tbs e, fun q => absurd q (kp_tbs.e e)⟩
/-- kinds of rows -/
theorem kd_w : strW 17 = strW 4 ∧ strW 18 = strW 5 ∧ strW 19 = strW 6 ∧ strW 20 = strW 7 := by decide +kernel
theorem kd_V {b p i : Nat} : kdV T b p n i = if khF T b p = 4 then none else some (flF (khF T b p) n i) := by
  obtain ⟨k1, k2, k3, k4⟩ := kd_w
  unfold kdV khF
  rw [k1, k2, k3, k4]
  by_cases c1 : wdQ T b p (strW 4) = true
  · rw [if_pos c1, if_pos c1]
    rfl
  · rw [if_neg c1, if_neg c1]
    by_cases c2 : wdQ T b p (strW 5) = true
    · rw [if_pos c2, if_pos c2]
      rfl
    · rw [if_neg c2, if_neg c2]
      by_cases c3 : wdQ T b p (strW 6) = true
      · rw [if_pos c3, if_pos c3]
        rfl
      · rw [if_neg c3, if_neg c3]
        by_cases c4 : wdQ T b p (strW 7) = true
        · rw [if_pos c4, if_pos c4]
          rfl
        · rw [if_neg c4, if_neg c4]
          rfl
theorem kp_fi {b p : Nat} : ∀ k, KpS s (fiS T b p n s k)
  | 0 => fun _ => rfl
  | k + 1 => by
    unfold fiS kdS
    split
    · exact (kp_fi k).tr kp_fail
    · exact kp_fi k
theorem fail_2 {k a k' a' : Int32} (hk : k ≠ 0) : rFail k' a' (rFail k a s) = rFail k a s := by
  have h : ¬ (rFail k a s).2.2.2.1 = 0 := by
    unfold rFail
    by_cases e : s.2.2.2.1 = 0
    · rw [if_pos e]
      exact hk
    · rw [if_neg e]
      exact e
  generalize rFail k a s = z at *
  unfold rFail
  rw [if_neg h]
theorem fi_4 {b p : Nat} (h : khF T b p = 4) : ∀ k, fiS T b p n s (k + 1) = rFail 1 (nI b) s
  | 0 => by
    unfold fiS kdS
    rw [kd_V, if_pos h, if_pos rfl]
    rfl
  | k + 1 => by
    rw [fiS, fi_4 h k]
    unfold kdS
    rw [kd_V, if_pos h, if_pos rfl]
    exact fail_2 (by decide)
theorem fi_n {b p : Nat} (h : khF T b p ≠ 4) : ∀ k, fiS T b p n s k = s
  | 0 => rfl
  | k + 1 => by
    rw [fiS, fi_n h k]
    unfold kdS
    rw [kd_V, if_neg h, if_neg (fun q => by cases q)]
theorem fl_wf {k : Nat} (hn1 : 1 ≤ n) (hn : n ≤ 32) : wfr n (flF k n) := fun r hr c hc => by
  unfold flF
  split
  · rw [hb_bitI (by omega), decide_eq_false (by omega)]
  · split
    · rw [hb_lowM hn, decide_eq_false (by omega)]
    · split
      · split
        · rw [hb_bitI (by omega), decide_eq_false (by omega)]
        · rw [show (1 : Int32) = bitI 0 by decide +kernel, hb_bitI (by omega), decide_eq_false (by omega)]
      · rw [hb_lowM (by omega), decide_eq_false (by omega)]
end
end
-- 5995.ld
section
/-! statements and the text of both readers -/
section
variable {M : Mem} {s t : RP} {T : Nat → Int32} {len n : Nat} {u : Nat → Int64}
theorem st_fi (hn1 : 1 ≤ n) (hn : n ≤ 32) (h : EqS s t) (hD : s.2.2.2.1 = 0 → SR M 17 u n) : StR len n (rfM M len n s, rfS (mI M 2) len n s) (gF (mI M 2) len n u t) := by
  obtain ⟨n1, rfl⟩ : ∃ n1, n = n1 + 1 := ⟨n - 1, by omega⟩
  have h1 := eq_tnm (T := mI M 2) (len := len) (lo := 0) (hi := nI 5) h
  have q1 := eq_tnN (T := mI M 2) (len := len) (k := 5) h
  have l1 := Nat.lt_succ_of_le (tnN_ok (mI M 2) len (h := 5) (by decide) s).2
  have hk : KpS s (tnm (mI M 2) len 0 (nI 5) s) := kp_tnm
  unfold StR rfM rfS gF
  rw [← q1]
  clear q1
  generalize tnN (mI M 2) len 5 s = a at *
  generalize tnm (mI M 2) len 0 (nI 5) s = s1 at *
  generalize nmS (mI M 2) len 0 (nI 5) t = t1 at *
  have h2 := eq_twd (T := mI M 2) (len := len) h1
  have hk2 : KpS s1 (twd (mI M 2) len s1) := kp_twd
  by_cases e : s1.2.2.2.1 = 0
  · have hp := (h1.2.2.2 e).1
    have hw : (twd (mI M 2) len s1).1 = (twd (mI M 2) len t1).1 := by
      unfold twd
      rw [hp]
    have e2 : (twd (mI M 2) len t1).2.2.2.1 = 0 := (h1.e0.mp e)
    rw [hp, hw]
    generalize skipP (mI M 2) len t1.1 = b at *
    generalize hp9 : (twd (mI M 2) len t1).1 = p9 at *
    by_cases q : khF (mI M 2) b p9 = 4
    · rw [if_pos q, fi_4 q n1]
      have h3 := eq_fail (k := 1) (a := nI b) h2
      refine ⟨h3, fun z => absurd z ?_⟩
      show ¬ (rFail 1 (nI b) (twd (mI M 2) len s1)).2.2.2.1 = 0
      unfold rFail
      rw [if_pos (show (twd (mI M 2) len s1).2.2.2.1 = 0 from e)]
      show ¬ (1 : Int32) = 0
      decide
    · rw [if_neg q, fi_n q, if_pos e2]
      refine ⟨h2, fun _ => ?_⟩
      have h9 := SR_rowb (f := flF (khF (mI M 2) b p9) (n1 + 1)) (g := wr (mI M (20 + 2 * a)) (kdG (mI M 2) b p9 (n1 + 1)) (n1 + 1)) l1 (hD (kp_e hk e)) (fun r hr => by
        rw [wr_lt hr]
        unfold kdG
        rw [kd_V, if_neg q]
        rfl) (fl_wf hn1 hn)
      rw [show 17 + 3 + 2 * a = 20 + 2 * a by omega] at h9
      exact h9
  · have h4 : KpS s1 (fiS (mI M 2) (skipP (mI M 2) len s1.1) (twd (mI M 2) len s1).1 (n1 + 1) (twd (mI M 2) len s1) (n1 + 1)) := hk2.tr (kp_fi _)
    have e1 : ¬ t1.2.2.2.1 = 0 := fun q => e (h1.e0.mpr q)
    have e2 : ¬ (twd (mI M 2) len t1).2.2.2.1 = 0 := e1
    have h5 := h1.kp h4 e
    have h6 : EqS (fiS (mI M 2) (skipP (mI M 2) len s1.1) (twd (mI M 2) len s1).1 (n1 + 1) (twd (mI M 2) len s1) (n1 + 1)) (twd (mI M 2) len t1) := by
      obtain ⟨a1, a2, a3, a4⟩ := h5
      exact ⟨a1, a2, a3, fun q => absurd q (h4.e e)⟩
    refine ⟨?_, fun q => absurd q (h4.e e)⟩
    have h7 : rFail 1 (nI (skipP (mI M 2) len t1.1)) (twd (mI M 2) len t1) = twd (mI M 2) len t1 := by
      unfold rFail
      rw [if_neg e2]
    rw [h7, if_neg e2, ite_self]
    exact h6
theorem kd_w2 : strW 14 = strW 1 ∧ strW 15 = strW 2 ∧ strW 16 = strW 3 ∧ strW 21 = strW 8 ∧ strW 22 = strW 9 ∧ strW 13 = strW 0 := by decide +kernel
/-- the readers' numbers but for the start of what is read -/
def EqW (s t : RP) : Prop := s.2.2.1 = t.2.2.1 ∧ s.2.2.2.1 = t.2.2.2.1 ∧ (s.2.2.2.1 ≠ 0 → s.2.2.2.2 = t.2.2.2.2) ∧ (s.2.2.2.1 = 0 → s.1 = t.1)
theorem EqS.w (h : EqS s t) : EqW s t := ⟨h.1, h.2.1, h.2.2.1, fun e => (h.2.2.2 e).1⟩
theorem eq_twd' (h : EqW s t) : EqS (twd T len s) (twd T len t) := by
  obtain ⟨a1, a2, a3, a4⟩ := h
  refine ⟨a1, a2, a3, fun e => ?_⟩
  have := a4 e
  unfold twd
  rw [this]
  exact ⟨rfl, rfl⟩
theorem st_all (hn1 : 1 ≤ n) (hn : n ≤ 32) (h : EqW s t) (e : s.2.2.2.1 = 0) (hD : SR M 17 u n) : StR len n (rsR M len n s) (gS (mI M 2) len n u t) := by
  obtain ⟨k1, k2, k3, k4, k5, -⟩ := kd_w2
  have h2 := eq_twd' (T := mI M 2) (len := len) h
  have hp := h.2.2.2 e
  have hw : (twd (mI M 2) len s).1 = (twd (mI M 2) len t).1 := by
    unfold twd
    rw [hp]
  unfold rsR gS
  rw [k1, k2, k3, k4, k5, hp, hw]
  generalize twd (mI M 2) len s = s1 at *
  generalize skipP (mI M 2) len t.1 = b at *
  generalize hp9 : (twd (mI M 2) len t).1 = p9 at *
  generalize twd (mI M 2) len t = t1 at *
  have hD' : s1.2.2.2.1 = 0 → SR M 17 u n := fun _ => hD
  by_cases c1 : wdQ (mI M 2) b p9 (strW 1) = true
  · rw [if_pos c1, if_pos c1]
    exact st_ed hn1 hn h2 hD'
  · rw [if_neg c1, if_neg c1]
    by_cases c2 : wdQ (mI M 2) b p9 (strW 2) = true
    · rw [if_pos c2, if_pos c2]
      exact st_rr hn1 hn h2 hD'
    · rw [if_neg c2, if_neg c2]
      by_cases c3 : wdQ (mI M 2) b p9 (strW 3) = true
      · rw [if_pos c3, if_pos c3]
        exact st_fi hn1 hn h2 hD'
      · rw [if_neg c3, if_neg c3]
        by_cases c4 : wdQ (mI M 2) b p9 (strW 8) = true
        · rw [if_pos c4, if_pos c4]
          exact st_kp h2 hD'
        · rw [if_neg c4, if_neg c4]
          by_cases c5 : wdQ (mI M 2) b p9 (strW 9) = true
          · rw [if_pos c5, if_pos c5]
            exact st_bl h2 hD'
          · rw [if_neg c5, if_neg c5]
            exact ⟨eq_fail h2, fun _ => hD⟩
/-- the ends of both readers -/
def EqE (s t : RP) : Prop := s.2.2.1 = t.2.2.1 ∧ s.2.2.2.1 = t.2.2.2.1 ∧ (s.2.2.2.1 ≠ 0 → s.2.2.2.2 = t.2.2.2.2)
theorem rsL_e : ∀ d, s.2.2.2.1 ≠ 0 → (rsL len n d M s).1 = M ∧ (rsL len n d M s).2.2.2 = s.2.2
  | 0, _ => by
    rw [rsL.eq_1]
    exact ⟨rfl, rfl⟩
  | d + 1, e => by
    rw [rsL.eq_2, decide_eq_false e, Bool.false_and, if_neg Bool.false_ne_true]
    exact ⟨rfl, rfl⟩
theorem mv_e (e : t.2.2.2.1 ≠ 0) : mvS T len t = t ∧ mvB T len t = false := by
  unfold mvS mvB
  rw [if_neg e, decide_eq_false e]
  exact ⟨rfl, rfl⟩
theorem gL_e : ∀ d, t.2.2.2.1 ≠ 0 → gL T len n d u t = (u, t)
  | 0, e => by rw [gL.eq_1, (mv_e e).1]
  | d + 1, e => by rw [gL.eq_2, (mv_e e).2, if_neg Bool.false_ne_true, (mv_e e).1]
theorem rs_loop (hn1 : 1 ≤ n) (hn : n ≤ 32) (hT : mI M 2 = T) : ∀ (d : Nat) (M1 : Mem) (u : Nat → Int64) (s t : RP), Shp M1 → mI M1 2 = T → EqW s t → t.1 ≤ len → (s.2.2.2.1 = 0 → len ≤ t.1 + d) → (s.2.2.2.1 = 0 → SR M1 17 u n) → EqE (rsL len n d M1 s).2 (gL T len n d u t).2 ∧ ((rsL len n d M1 s).2.2.2.2.1 = 0 → SR (rsL len n d M1 s).1 17 (gL T len n d u t).1 n)
  | d, M1, u, s, t, hS, hM, hW, hl, hd, hD => by
    by_cases e : s.2.2.2.1 = 0
    · have e2 : t.2.2.2.1 = 0 := by rw [← hW.2.1]; exact e
      have hp := hW.2.2.2 e
      cases d with
      | zero =>
        have h9 := hd e
        rw [rsL.eq_1, gL.eq_1]
        have hk : ¬ skipP T len t.1 < len := by
          have := (skipP_le (T := T) hl).1
          omega
        have hm : mvS T len t = nxS T len t := by
          unfold mvS
          rw [if_pos e2, if_neg hk]
        rw [hm]
        exact ⟨⟨hW.1, hW.2.1, hW.2.2.1⟩, fun _ => hD e⟩
      | succ d =>
        rw [rsL.eq_2, gL.eq_2, decide_eq_true e, Bool.true_and, hM]
        have hks : (skp T len s).1 = skipP T len t.1 := by
          unfold skp
          rw [hp]
        by_cases c1 : skipP T len t.1 < len
        · rw [hp, decide_eq_true c1, if_pos rfl]
          by_cases c2 : T (skipP T len t.1) = 59
          · have ht : tsc T len (skp T len s) = (skipP T len t.1 + 1, s.2.1, s.2.2.1 + 1, s.2.2.2) := by
              unfold tsc
              rw [if_pos (by rw [hks]; exact ⟨c1, c2⟩), hks]
              rfl
            have hm : mvS T len t = (skipP T len t.1 + 1, nI (skipP T len t.1), t.2.2.1 + 1, t.2.2.2) := by
              unfold mvS
              rw [if_pos e2, if_pos c1, if_pos c2]
            have hb9 : mvB T len t = true := by
              unfold mvB
              rw [decide_eq_true e2, decide_eq_true c1, decide_eq_true c2]
              rfl
            have hW2 : EqW (skipP T len t.1 + 1, s.2.1, s.2.2.1 + 1, s.2.2.2) (skipP T len t.1 + 1, nI (skipP T len t.1), t.2.2.1 + 1, t.2.2.2) := ⟨by rw [hW.1], hW.2.1, hW.2.2.1, fun _ => rfl⟩
            rw [hb9, if_pos rfl, ht, if_pos (show (skipP T len t.1 + 1, s.2.1, s.2.2.1 + 1, s.2.2.2).2.2.2.1 = 0 from e), hm]
            have hSt := st_all (M := M1) (len := len) (u := u) hn1 hn hW2 (show (skipP T len t.1 + 1, s.2.1, s.2.2.1 + 1, s.2.2.2).2.2.2.1 = 0 from e) (hD e)
            have hok := rsR_ok (M := M1) (n := n) (s := (skipP T len t.1 + 1, s.2.1, s.2.2.1 + 1, s.2.2.2)) (len := len) hS (show skipP T len t.1 + 1 ≤ len from c1)
            have hg := gS_ok (T := T) (len := len) (n := n) (u := u) (s := (skipP T len t.1 + 1, nI (skipP T len t.1), t.2.2.1 + 1, t.2.2.2)) (show skipP T len t.1 + 1 ≤ len from c1)
            rw [hM] at hSt
            have hsk := (skipP_le (T := T) hl).1
            have hg1 : skipP T len t.1 + 1 ≤ (gS T len n u (skipP T len t.1 + 1, nI (skipP T len t.1), t.2.2.1 + 1, t.2.2.2)).2.1 := hg.1
            have hd2 := hd e
            exact rs_loop hn1 hn hT d _ _ _ _ hok.1.1 ((hok.1.2.1 2 (Or.inl (by decide))).trans hM) hSt.1.w hg.2.1 (fun _ => by omega) hSt.2
          · have ht : tsc T len (skp T len s) = rFail 1 (nI (skipP T len t.1)) (skp T len s) := by
              unfold tsc
              rw [if_neg (by rw [hks]; exact fun q => c2 q.2), hks]
            have hm : mvS T len t = rFail 1 (nI (skipP T len t.1)) (nxS T len t) := by
              unfold mvS
              rw [if_pos e2, if_pos c1, if_neg c2]
            have hb9 : mvB T len t = false := by
              unfold mvB
              rw [decide_eq_false c2, Bool.and_false]
            have h7 : (tsc T len (skp T len s)).2.2 = (s.2.2.1, 1, nI (skipP T len t.1)) := by
              rw [ht]
              unfold rFail
              rw [if_pos (show (skp T len s).2.2.2.1 = 0 from e)]
              rfl
            have h8 : (mvS T len t).2.2 = (t.2.2.1, 1, nI (skipP T len t.1)) := by
              rw [hm]
              unfold rFail
              rw [if_pos (show (nxS T len t).2.2.2.1 = 0 from e2)]
              rfl
            have h9 : (tsc T len (skp T len s)).2.2.2.1 ≠ 0 := by
              rw [h7]
              show ¬ (1 : Int32) = 0
              decide
            rw [hb9, if_neg Bool.false_ne_true, if_neg h9]
            obtain ⟨g1, g2⟩ := rsL_e (M := M1) (n := n) (len := len) d h9
            have g3 : (rsL len n d M1 (tsc T len (skp T len s))).2.2.2 = (s.2.2.1, 1, nI (skipP T len t.1)) := g2.trans h7
            generalize rsL len n d M1 (tsc T len (skp T len s)) = A at *
            refine ⟨⟨by rw [g3, h8]; exact hW.1, by rw [g3, h8], fun _ => by rw [g3, h8]⟩, fun q => absurd q ?_⟩
            rw [g3]
            show ¬ (1 : Int32) = 0
            decide
        · rw [hp, decide_eq_false c1, if_neg Bool.false_ne_true]
          have hm : mvS T len t = nxS T len t := by
            unfold mvS
            rw [if_pos e2, if_neg c1]
          have hb9 : mvB T len t = false := by
            unfold mvB
            rw [decide_eq_false c1, Bool.and_false, Bool.false_and]
          rw [hb9, if_neg Bool.false_ne_true, hm]
          exact ⟨⟨hW.1, hW.2.1, hW.2.2.1⟩, fun _ => hD e⟩
    · have e2 : t.2.2.2.1 ≠ 0 := fun q => e (by rw [hW.2.1]; exact q)
      obtain ⟨g1, g2⟩ := rsL_e (M := M1) (n := n) (len := len) d e
      rw [gL_e d e2]
      generalize rsL len n d M1 s = A at *
      refine ⟨⟨by rw [g2]; exact hW.1, by rw [g2]; exact hW.2.1, fun _ => by rw [g2]; exact hW.2.2.1 e⟩, fun q => absurd q ?_⟩
      rw [g2]
      exact e
end
end
-- 5996.ld
section
/-! a text read on both sides -/
section
variable {M N X R : Mem} {b n p c len : Nat} {u : Nat → Int64} {T : Nat → Int32} {s t : RP}
theorem SS_lkb {s : Nat} {x : Int32} (h : SS M b u n s) : SS (mxLook M (b + 2 + 2 * s) x) b (lkU u s x) n s := by
  obtain ⟨⟨k, a1, a2⟩, a3, a4, a5, a6, a7⟩ := h
  unfold SS mxLook lkU
  rw [a1, a2]
  cases k
  · rw [if_pos ((b1_0k false).mpr rfl), if_neg (fun h => by cases (b1L_1 false).mp h)]
    exact ⟨⟨false, a1, a2⟩, a3, a4, a5, a6, a7⟩
  · rw [if_neg (fun h => by cases (b1_0k true).mp h), if_pos ((b1L_1 true).mpr rfl)]
    have e3 : b + 3 + 2 * s ≠ b + 2 + 2 * s := by omega
    refine ⟨⟨true, ?_, ?_⟩, ?_, ?_, ?_, fun r hr => ?_, fun r hr c hc => ?_⟩
    · rw [pI_at, if_neg (fun h => absurd h.2 (by decide)), pI_at, if_neg (fun h => absurd h.2 (by decide))]
      exact a1
    · rw [fsu_at, if_neg (by omega), fsu_at, if_neg (by omega)]
      exact a2
    · rw [pI_at, if_neg (fun h => absurd h.2 (by decide)), pI_at, if_pos ⟨rfl, rfl⟩, fsu_at, if_neg (by omega), fsu_at, if_pos rfl, i64_32]
    · rw [pI_at, if_pos ⟨rfl, rfl⟩, pI_at, if_neg (fun h => absurd h.2 (by decide)), fsu_at, if_pos rfl, a4, Int64.toInt32_add, i64_32]
    · rw [pI_at, if_neg (fun h => absurd h.2 (by decide)), pI_at, if_neg (fun h => absurd h.2 (by decide)), fsu_at, if_neg (by omega), fsu_at, if_neg (by omega)]
      exact a5
    · rw [pI_at, if_neg (fun h => e3 h.1), pI_at, if_neg (fun h => e3 h.1), fsu_at, if_neg (by omega), fsu_at, if_neg (by omega)]
      exact a6 r hr
    · rw [pI_at, if_neg (fun h => e3 h.1), pI_at, if_neg (fun h => e3 h.1)]
      exact a7 r hr c hc
theorem SR_lkb {s : Nat} {x : Int32} (hs : s < 6) (h : SR M b u n) : SR (mxLook M (b + 2 + 2 * s) x) b (lkU u s x) n := by
  obtain ⟨⟨a1, a2, a3, a4⟩, ⟨bl, b1', b2, b3, b4⟩, ⟨y, y1, y2⟩, ⟨z, z1, z2⟩, hS⟩ := h
  have e : mI (mxLook M (b + 2 + 2 * s) x) b = mI M b := mxLook_ne (by omega)
  have g : ∀ j, j < 4 → lkU u s x j = u j := fun j hj => lkU_ne (by omega) (by omega)
  refine ⟨⟨a1, a2, by rw [e]; exact a3, by rw [g 0 (by decide)]; exact a4⟩, ⟨bl, b1', b2, by rw [e]; exact b3, by rw [g 1 (by decide)]; exact b4⟩, ⟨y, by rw [e]; exact y1, by rw [g 2 (by decide)]; exact y2⟩, ⟨z, by rw [e]; exact z1, by rw [g 3 (by decide)]; exact z2⟩, fun t ht => ?_⟩
  by_cases q : t = s
  · subst q
    exact SS_lkb (hS t ht)
  · exact SS_cg (hS t ht) (fun j _ _ => by rw [mxLook_ne (by omega)]) (fun r _ => by rw [mxLook_ne (by omega)]) ⟨lkU_ne (by omega) (by omega), lkU_ne (by omega) (by omega), lkU_ne (by omega) (by omega), lkU_ne (by omega) (by omega)⟩ (fun r _ => lkU_ne (by omega) (by omega))
theorem SR_anb {s : Nat} {x : Int32} (hs : s < 6) (h : SR M b u n) : SR (mxAnew M (b + 2 + 2 * s) x) b (anU u s x) n := by
  have h1 := SR_lkb (x := x) hs h
  obtain ⟨⟨k, k1, k2⟩, c3, c4, c5, c6, c7⟩ := h.2.2.2.2 s hs
  have hm : ∀ i j, mI (mxAnew M (b + 2 + 2 * s) x) i j = if i = b + 2 + 2 * s ∧ j = 4 ∧ k = true then mI (mxLook M (b + 2 + 2 * s) x) (b + 2 + 2 * s) 4 + 1 else mI (mxLook M (b + 2 + 2 * s) x) i j := fun i j => by
    unfold mxAnew
    rw [k1]
    cases k
    · rw [if_pos ((b1_0k false).mpr rfl), if_neg (fun h => by cases h.2.2)]
      unfold mxLook
      rw [k1, if_pos ((b1_0k false).mpr rfl)]
    · rw [if_neg (fun h => by cases (b1_0k true).mp h), pI_at]
      by_cases q : i = b + 2 + 2 * s ∧ j = 4
      · rw [if_pos q, if_pos ⟨q.1, q.2, rfl⟩]
      · rw [if_neg q, if_neg (fun h => q ⟨h.1, h.2.1⟩)]
  have hu : ∀ j, anU u s x j = if j = 22 + s then lkU u s x (22 + s) + b1L k else lkU u s x j := fun j => by
    unfold anU
    rw [fsu_at, k2]
  obtain ⟨⟨a1, a2, a3, a4⟩, ⟨bl, b1', b2, b3, b4⟩, ⟨y, y1, y2⟩, ⟨z, z1, z2⟩, hS⟩ := h1
  have e : ∀ j, mI (mxAnew M (b + 2 + 2 * s) x) b j = mI (mxLook M (b + 2 + 2 * s) x) b j := fun j => by rw [hm, if_neg (fun h => by omega)]
  have g : ∀ j, j ≠ 22 + s → anU u s x j = lkU u s x j := fun j hj => by rw [hu, if_neg hj]
  refine ⟨⟨a1, a2, by rw [e]; exact a3, by rw [g 0 (by omega)]; exact a4⟩, ⟨bl, b1', b2, by rw [e]; exact b3, by rw [g 1 (by omega)]; exact b4⟩, ⟨y, by rw [e]; exact y1, by rw [g 2 (by omega)]; exact y2⟩, ⟨z, by rw [e]; exact z1, by rw [g 3 (by omega)]; exact z2⟩, fun t ht => ?_⟩
  by_cases q : t = s
  · subst q
    obtain ⟨⟨k', f1, f2⟩, f3, f4, f5, f6, f7⟩ := hS t ht
    refine ⟨⟨k', by rw [hm, if_neg (fun h => by omega)]; exact f1, by rw [g _ (by omega)]; exact f2⟩, by rw [hm, if_neg (fun h => by omega), g _ (by omega)]; exact f3, by rw [hm, if_neg (fun h => by omega), g _ (by omega)]; exact f4, ?_, fun r hr => by rw [g _ (by omega), hm, if_neg (fun h => by omega)]; exact f6 r hr, fun r hr c hc => by rw [hm, if_neg (fun h => by omega)]; exact f7 r hr c hc⟩
    rw [hm, hu, if_pos rfl, f5]
    cases k
    · rw [if_neg (fun h => by cases h.2.2)]
      show (lkU u t x (22 + t)).toInt32 = (lkU u t x (22 + t) + 0).toInt32
      rw [Int64.add_zero]
    · rw [if_pos ⟨rfl, rfl, rfl⟩]
      show (lkU u t x (22 + t)).toInt32 + 1 = (lkU u t x (22 + t) + 1).toInt32
      rw [Int64.toInt32_add]
      rfl
  · exact SS_cg (hS t ht) (fun j _ _ => by rw [hm, if_neg (fun h => by omega)]) (fun r _ => by rw [hm, if_neg (fun h => by omega)]) ⟨g _ (by omega), g _ (by omega), g _ (by omega), g _ (by omega)⟩ (fun r _ => g _ (by omega))
theorem SR_anL {x : Int32} (h : SR X 17 (mL R 199) n) : ∀ k, k ≤ 6 → SR (anL X x k) 17 (mL (anK R x k) 199) n
  | 0, _ => by
    rw [anL.eq_1, anK.eq_1]
    exact h
  | k + 1, hk => by
    rw [anL.eq_2, anK.eq_2, anM_U, show 19 + 2 * k = 17 + 2 + 2 * k by omega]
    exact SR_anb (by omega) (SR_anL h k (by omega))
/-- an empty description -/
theorem mxE_at {m i j : Nat} : mI (mxEmpty M m) i j = if i = m ∧ 1 ≤ j ∧ j ≤ 4 then 0 else if i = m + 1 ∧ j < 32 then 0 else mI M i j := by
  unfold mxEmpty
  rw [pI_at, pI_at, pI_at, pI_at]
  by_cases e : i = m
  · subst e
    by_cases q : 1 ≤ j ∧ j ≤ 4
    · rw [if_pos (show i = i ∧ 1 ≤ j ∧ j ≤ 4 from ⟨rfl, q⟩)]
      have : j = 1 ∨ j = 2 ∨ j = 3 ∨ j = 4 := by omega
      rcases this with rfl | rfl | rfl | rfl
      · rw [if_neg (fun h => by omega), if_neg (fun h => by omega), if_neg (fun h => by omega), if_pos ⟨rfl, rfl⟩]
      · rw [if_neg (fun h => by omega), if_neg (fun h => by omega), if_pos ⟨rfl, rfl⟩]
      · rw [if_neg (fun h => by omega), if_pos ⟨rfl, rfl⟩]
      · rw [if_pos ⟨rfl, rfl⟩]
    · rw [if_neg (fun h => by omega), if_neg (fun h => by omega), if_neg (fun h => by omega), if_neg (fun h => by omega), if_neg (fun h => q h.2), if_neg (fun h => by omega)]
      exact congrFun (sI_ne (by omega)) j
  · rw [if_neg (fun h => e h.1), if_neg (fun h => e h.1), if_neg (fun h => e h.1), if_neg (fun h => e h.1), if_neg (fun h => e h.1)]
    by_cases e2 : i = m + 1
    · subst e2
      rw [sI_self]
      unfold wr
      by_cases q : j < 32
      · rw [if_pos q, if_pos ⟨rfl, q⟩]
      · rw [if_neg q, if_neg (fun h => q h.2)]
    · rw [if_neg (fun h => e2 h.1)]
      exact congrFun (sI_ne (by omega)) j
theorem stE_at : ∀ k, k ≤ 6 → ∀ s, s < k → (∀ j, 1 ≤ j → j ≤ 4 → mI (stEmptyL M b k) (b + 2 + 2 * s) j = 0) ∧ (∀ r, r < 32 → mI (stEmptyL M b k) (b + 3 + 2 * s) r = 0)
  | 0, _, s, hs => absurd hs (Nat.not_lt_zero _)
  | k + 1, hk, s, hs => by
    rw [stEmptyL.eq_2]
    by_cases e : s = k
    · subst e
      constructor
      · intro j h1 h2
        rw [mxE_at, if_pos ⟨rfl, h1, h2⟩]
      · intro r hr
        rw [mxE_at, if_neg (fun h => by omega), if_pos ⟨by omega, hr⟩]
    · obtain ⟨g1, g2⟩ := stE_at k (by omega) s (by omega)
      constructor
      · intro j h1 h2
        rw [mxE_at, if_neg (fun h => by omega), if_neg (fun h => by omega)]
        exact g1 j h1 h2
      · intro r hr
        rw [mxE_at, if_neg (fun h => by omega), if_neg (fun h => by omega)]
        exact g2 r hr
theorem bg_at {i : Nat} (hi : i < 220) : bgF u n i = if i = 1 then 4 else if i = 0 then lN n else 0 := by
  unfold bgF
  rw [fsu_at, fsu_at]
  unfold clF
  rw [if_pos hi]
theorem SR_emp (hn1 : 1 ≤ n) (hn : n ≤ 32) : SR (stEmpty M b (nI n)) b (bgF u n) n := by
  have h := stE_at (M := M) (b := b) 6 (Nat.le_refl 6)
  unfold stEmpty
  generalize stEmptyL M b 6 = M6 at h ⊢
  refine ⟨⟨hn1, hn, ?_, by rw [bg_at (by decide), if_neg (by decide), if_pos rfl]⟩, ⟨4, by decide, by decide, ?_, by rw [bg_at (by decide), if_pos rfl]; rfl⟩, ⟨0, ?_, by rw [bg_at (by decide), if_neg (by decide), if_neg (by decide)]; rfl⟩, ⟨0, ?_, by rw [bg_at (by decide), if_neg (by decide), if_neg (by decide)]; rfl⟩, fun s hs => ?_⟩
  · rw [pI_k (by decide), pI_k (by decide), pI_k (by decide), pI_at9]
  · rw [pI_k (by decide), pI_k (by decide), pI_at9]
    rfl
  · rw [pI_k (by decide), pI_at9]
    rfl
  · rw [pI_at9]
    rfl
  · obtain ⟨g1, g2⟩ := h s hs
    have e : ∀ i, i ≠ b → mI (pI (pI (pI (pI M6 b 1 (nI n)) b 2 4) b 3 0) b 4 0) i = mI M6 i := fun i hi => by rw [sI_ne hi, sI_ne hi, sI_ne hi, sI_ne hi]
    have z : ∀ i, 2 ≤ i → i < 220 → bgF u n i = 0 := fun i h1 h2 => by rw [bg_at h2, if_neg (by omega), if_neg (by omega)]
    refine ⟨⟨false, by rw [e _ (by omega), g1 1 (by decide) (by decide)]; rfl, by rw [z _ (by omega) (by omega)]; rfl⟩, by rw [e _ (by omega), g1 2 (by decide) (by decide), z _ (by omega) (by omega)]; rfl, by rw [e _ (by omega), g1 3 (by decide) (by decide), z _ (by omega) (by omega)]; rfl, by rw [e _ (by omega), g1 4 (by decide) (by decide), z _ (by omega) (by omega)]; rfl, fun r hr => by rw [e _ (by omega), g2 r (by omega), z _ (by omega) (by omega), uL_0], fun r hr c hc => by rw [e _ (by omega), g2 r (by omega), hb_0]⟩
theorem eq_sz {b0 b9 e9 : Int32} : EqS (rzS0 T len (0, b0, 0, 0, 0)) (szS0 T len (0, b9, 0, 0, e9)) := by
  have h := eq_twd' (T := T) (len := len) (s := (0, b0, 0, 0, 0)) (t := (0, b9, 0, 0, e9)) ⟨rfl, rfl, fun q => absurd rfl q, fun _ => rfl⟩
  have hw : (twd T len (0, b0, 0, 0, 0)).1 = (twd T len (0, b9, 0, 0, e9)).1 := rfl
  unfold rzS0 szS0
  rw [kd_w2.2.2.2.2.2, hw]
  by_cases q : wdQ T (skipP T len 0) (twd T len (0, b9, 0, 0, e9)).1 (strW 0) = true
  · rw [if_pos q, if_pos q]
    exact h
  · rw [if_neg q, if_neg q]
    exact eq_fail h
theorem sz_N {b0 b9 e9 : Int32} : rzN T len (0, b0, 0, 0, 0) = szN T len (0, b9, 0, 0, e9) := by
  unfold rzN szN rzV
  rw [eq_tnv eq_sz]
theorem ri_lr {b9 e9 : Int32} (hS : Shp M) : riN M len = lrN (mI M 2) len b9 e9 ∧ EqE (riR M len).2 (lrR (mI M 2) len b9 e9 u).2 ∧ ((riR M len).2.2.2.2.1 = 0 → SR (riR M len).1 17 (lrR (mI M 2) len b9 e9 u).1 (lrN (mI M 2) len b9 e9)) := by
  have e1 : riN M len = lrN (mI M 2) len b9 e9 := sz_N
  obtain ⟨-, n1, n2⟩ := szN_ok (mI M 2) len (0, b9, 0, 0, e9)
  refine ⟨e1, ?_⟩
  have hz : EqS (rzS (mI M 2) len (0, mI M 1 3, 0, 0, 0)) (szS (mI M 2) len (0, b9, 0, 0, e9)) := eq_tnm eq_sz
  have hle : (szS (mI M 2) len (0, b9, 0, 0, e9)).1 ≤ len := nmS_le (szS0_le (Nat.zero_le len))
  have h := rs_loop (M := stEmpty M 17 (nI (lrN (mI M 2) len b9 e9))) (T := mI M 2) (len := len) (n := lrN (mI M 2) len b9 e9) n1 n2 (by
    unfold stEmpty
    rw [sI_ne (by decide), sI_ne (by decide), sI_ne (by decide), sI_ne (by decide), stEmptyL_ne 6 (Nat.le_refl 6) (by decide)]) len (stEmpty M 17 (nI (lrN (mI M 2) len b9 e9))) (bgF u (lrN (mI M 2) len b9 e9)) _ _ (stEmpty_S hS 17 _) (by
    unfold stEmpty
    rw [sI_ne (by decide), sI_ne (by decide), sI_ne (by decide), sI_ne (by decide), stEmptyL_ne 6 (Nat.le_refl 6) (by decide)]) hz.w hle (fun _ => Nat.le_add_left _ _) (fun _ => SR_emp n1 n2)
  unfold riR lrR
  rw [e1]
  exact h
end
end
-- 5997.ld
section
/-! load, from the invariant to the invariant -/
section
variable {l : Launch} {M N R Y : Mem} {n p c len : Nat} {T : Nat → Int32} {r : RP}
theorem anK_I {x : Int32} : ∀ k, mI (anK R x k) = mI R ∧ (∀ i, i ≠ 199 → mL (anK R x k) i = mL R i)
  | 0 => by
    rw [anK.eq_1]
    exact ⟨rfl, fun _ _ => rfl⟩
  | k + 1 => by
    obtain ⟨h1, h2⟩ := anK_I (x := x) k
    rw [anK.eq_2]
    generalize anK R x k = Z at *
    have hl : mI (lkM Z k x) = mI Z ∧ ∀ i, i ≠ 199 → mL (lkM Z k x) i = mL Z i := by
      unfold lkM
      split
      · exact ⟨rfl, fun i hi => by rw [sL_ne9 hi, sL_ne9 hi]⟩
      · exact ⟨rfl, fun _ _ => rfl⟩
    unfold anM
    exact ⟨hl.1.trans h1, fun i hi => by rw [sL_ne9 hi, hl.2 i hi, h2 i hi]⟩
theorem lrM_I {j : Nat} (h : j = 5 ∨ j = 24) : mI (lrM N T len) 198 j = mI N 198 j := by
  unfold lrM
  generalize (lrR T len (mI N 198 10) (mI N 198 12) (mL N 200)).2 = q
  generalize (lrR T len (mI N 198 10) (mI N 198 12) (mL N 200)).1 = w
  have h1 : mI (psM (sL (thr N 0) 200 w) q) 198 = prF (mI (thr N 0) 198) q := sI_self _ _ _
  rw [h1]
  have h2 : mI (thr N 0) 198 j = mI N 198 j := by
    unfold thr
    rw [pI_k (by omega)]
  rcases h with rfl | rfl
  · exact h2
  · exact h2
theorem lrM_o : (∀ i, i ≠ 198 → mI (lrM N T len) i = mI N i) ∧ ∀ i, i ≠ 200 → mL (lrM N T len) i = mL N i := by
  unfold lrM
  generalize (lrR T len (mI N 198 10) (mI N 198 12) (mL N 200)).2 = q
  generalize (lrR T len (mI N 198 10) (mI N 198 12) (mL N 200)).1 = w
  refine ⟨fun i hi => ?_, fun i hi => ?_⟩
  · rw [ps_ne hi]
    show mI (thr N 0) i = _
    unfold thr
    rw [sI_ne hi]
  · show mL (sL (thr N 0) 200 w) i = _
    rw [sL_ne9 hi]
    rfl
theorem lrD_at : (∀ j, j = 5 ∨ j = 24 → mI (lrD N T len r) 198 j = mI N 198 j) ∧ mI (lrD N T len r) 198 8 = 0 ∧ mI (lrD N T len r) 198 14 = r.2.2.2.1 ∧ mI (lrD N T len r) 198 15 = (if r.2.2.2.1 = 0 then -1 else r.2.2.1) ∧ (∀ i, i ≠ 198 → mI (lrD N T len r) i = mI N i) ∧ ∀ i, i ≠ 200 → mL (lrD N T len r) i = mL N i := by
  have h1 := fun j h => lrM_I (N := N) (T := T) (len := len) (j := j) h
  obtain ⟨h2, h3⟩ := lrM_o (N := N) (T := T) (len := len)
  unfold lrD
  generalize lrM N T len = Z at *
  refine ⟨fun j hj => ?_, ?_, ?_, pI_at9 _ _ _ _, fun i hi => ?_, fun i hi => h3 i hi⟩
  · rw [pI_k (by omega), pI_k (by omega), pI_k (by omega), h1 j hj]
  · rw [pI_k (by decide), pI_k (by decide), pI_at9]
  · rw [pI_k (by decide), pI_at9]
  · rw [sI_ne hi, sI_ne hi, sI_ne hi, h2 i hi]
theorem riM_o (hS : Shp M) {i : Nat} (h1 : i ≠ 1) (h : i < 17 ∨ 31 ≤ i) : mI (riM M len) i = mI M i := by
  have h2 := (riR_ok (len := len) hS).1.2 i h
  unfold riM
  rw [sI_ne h1, rd_ne h1, anL_ne (by omega) 6 (Nat.le_refl 6), h2]
theorem riM_1 : mI (riM M len) 1 1 = 0 := by
  unfold riM
  exact pI_at9 _ _ _ _
theorem riM_4 : mI (riM M len) 1 4 = (riR M len).2.2.2.1 := by
  unfold riM
  rw [pI_k (by decide)]
  exact rd_4
theorem riM_R {u : Nat → Int64} {n' : Nat} (h : SR (anL (riR M len).1 (nI (riN M len)) 6) 17 u n') : SR (riM M len) 17 u n' := by
  unfold riM
  generalize anL (riR M len).1 (nI (riN M len)) 6 = Z at *
  exact SR_cg h (fun i a b => by rw [sI_ne (by omega), rd_ne (by omega)]) (fun _ _ => rfl)
theorem ld_IV (h : IV M n p c) {n' : Nat} (hS : Shp Y) (hSR : SR Y 3 (mL Y 199) n') (hIC : IC Y n') (e : ∀ i, (32 ≤ i ∧ i < 175) ∨ (187 ≤ i ∧ i < 198) ∨ 199 ≤ i → mI Y i = mI M i) (e04 : mI Y 0 4 = mI M 0 4) (e05 : mI Y 0 5 = 0) (e85 : mI Y 198 5 = 0) (eL : ∀ i, i ≠ 199 → i ≠ 200 → mL Y i = mL M i) (hIR : IR Y) (e014 : mI Y 0 14 = 0) (e24 : mI Y 198 24 = mI M 198 24) : IV Y n' p 0 := by
  obtain ⟨x1, x2, x3, w, w1, w2⟩ := h.2.2.2.2.2.2
  exact ⟨hS, hSR, ⟨by rw [e04]; exact h.2.2.1.1, h.2.2.1.2.1, e05, Nat.zero_le 8, e85, fun i hi => absurd hi (Nat.not_lt_zero i)⟩, is_cg h.2.2.2.1 (fun i a b => e i (by omega)) (e 203 (by omega)) (eL 202 (by decide) (by decide)), hIC, hIR, by rw [e 188 (by omega)]; exact x1, fun i hi => by rw [eL 209 (by decide) (by decide)]; exact x2 i hi, ⟨0, by decide, e014⟩, w, w1, by rw [e24]; exact w2⟩
theorem ld_IE (h : IV M n p c) (hS : Shp Y) (e : ∀ i, i ≠ 1 → i ≠ 198 → i < 17 ∨ 31 ≤ i → mI Y i = mI M i) (e85 : mI Y 198 5 = mI M 198 5) (eL : ∀ i, i ≠ 200 → mL Y i = mL M i) (hIR : IR Y) (e24 : mI Y 198 24 = mI M 198 24) : IV Y n p c := by
  have e0 := e 0 (by decide) (by decide) (by decide)
  exact ⟨hS, SR_cg h.2.1 (fun i a b => e i (by omega) (by omega) (by omega)) (fun i _ => by rw [eL 199 (by decide)]), ip_cg h.2.2.1 (fun i a b => e i (by omega) (by omega) (by omega)) (by rw [e0]) (by rw [e0]) e85 (eL 201 (by decide)), is_cg h.2.2.2.1 (fun i a b => e i (by omega) (by omega) (by omega)) (e 203 (by decide) (by decide) (by decide)) (eL 202 (by decide)), ic_cg h.2.2.2.2.1 (fun i a b => e i (by omega) (by omega) (by omega)) (fun i a b => e i (by omega) (by omega) (by omega)), hIR, ix_cg h.2.2.2.2.2.2 (e 188 (by decide) (by decide) (by decide)) (eL 209 (by decide)) (by rw [e0]) e24⟩
theorem ld_IR {s : RP} (hE : EqE s r) (e1 : mI Y 1 1 = 0) (e5 : mI Y 1 5 = s.2.2.2.1) (e4 : mI Y 1 4 = s.2.2.1) (e8 : mI Y 198 8 = 0) (e14 : mI Y 198 14 = r.2.2.2.1) (e15 : mI Y 198 15 = (if r.2.2.2.1 = 0 then -1 else r.2.2.1)) : IR Y :=
  ⟨⟨0, Nat.zero_le _, e1, e8, fun i hi => absurd hi (Nat.not_lt_zero i)⟩, by rw [e14, e5, hE.2.1], by rw [e15, e5, e4, hE.2.1, hE.1]⟩
theorem ld_tx (hc : Cf M N) (l4 : txt M (mI M 2) len) : txt N (mI M 2) len := fun i hi => by
  obtain ⟨j, j1, j2, j3⟩ := l4 i hi
  exact ⟨j, j1, j2, by rw [hc.I (by decide)]; exact j3⟩
theorem sm_load (h : IV M n p c) : SmN True l jX6_load jX7_load 9 260 8 220 [.ref 0] [.ref 198] M Inv := by
  have hS := h.S
  obtain ⟨⟨len, l1, l2, l3, l4⟩, r2, r3⟩ := h.2.2.2.2.2.1
  have q := u_load (l := l) hS l2 l1
  by_cases e : (riR M len).2.2.2.2.1 = 0
  · rw [if_pos e, if_pos e] at q
    have hcR : Cf M (riM M len) := cf_riM
    have hc : Cf M (pI (replM (riM M len) 17) 0 14 0) := cf_pI (by decide) (hcR.tr cf_replM)
    obtain ⟨b1', b2, b3, b4⟩ := rp_at (M := riM M len) (o := 17) (Nat.le_refl 17)
    have hN0 : ∀ i, i ≠ 0 → mI (pI (replM (riM M len) 17) 0 14 0) i = mI (replM (riM M len) 17) i := fun i hi => sI_ne hi
    have hN1 : ∀ j, mI (pI (replM (riM M len) 17) 0 14 0) 0 j = if j = 14 then 0 else mI (replM (riM M len) 17) 0 j := fun j => by
      rw [pI_at]
      by_cases z : j = 14
      · rw [if_pos ⟨rfl, z⟩, if_pos z]
      · rw [if_neg (fun y => z y.2), if_neg z]
    generalize pI (replM (riM M len) 17) 0 14 0 = N at *
    obtain ⟨e1, e2, e3⟩ := ri_lr (len := len) (b9 := mI N 198 10) (e9 := mI N 198 12) (u := mL N 200) hS
    have n9 := n_load (l := l) (M := N) (T := mI M 2) (len := len) (hc.S hS) (ld_tx hc l4) (by rw [hc.I (Nat.le_refl 198)]; exact l3) l1
    have er : (lrR (mI M 2) len (mI N 198 10) (mI N 198 12) (mL N 200)).2.2.2.2.1 = 0 := by rw [← e2.2.1]; exact e
    have hS2 : Shp (ldE N (mI M 2) len (lrR (mI M 2) len (mI N 198 10) (mI N 198 12) (mL N 200)).2) := (rf_ldE (Rf.rf _)).S (hc.S hS)
    have hSR0 := e3 e
    refine ⟨_, _, _, _, q, n9, hc.S hS, hS2, fun _ => ?_, lrN (mI M 2) len (mI N 198 10) (mI N 198 12), p, 0, ?_⟩
    · unfold ldV
      rw [if_pos er, e1]
    · unfold ldE at hS2 ⊢
      rw [if_pos er] at hS2 ⊢
      have hCL : mL (lrC N (mI M 2) len (lrR (mI M 2) len (mI N 198 10) (mI N 198 12) (mL N 200)).2) 199 = cpF (mL N 199) 0 (lrR (mI M 2) len (mI N 198 10) (mI N 198 12) (mL N 200)).1 0 220 := by
        unfold lrC
        exact sL_self _ _ _
      have hSR1 : SR (riR M len).1 17 (mL (lrC N (mI M 2) len (lrR (mI M 2) len (mI N 198 10) (mI N 198 12) (mL N 200)).2) 199) (lrN (mI M 2) len (mI N 198 10) (mI N 198 12)) := SR_cg hSR0 (fun _ _ _ => rfl) (fun j hj => by
        rw [hCL]
        unfold cpF
        rw [if_pos ⟨by omega, by omega⟩]
        congr 1)
      obtain ⟨d1, d2, d3, d4, d5, d6⟩ := lrD_at (N := N) (T := mI M 2) (len := len) (r := (lrR (mI M 2) len (mI N 198 10) (mI N 198 12) (mL N 200)).2)
      have c1 : ∀ j, j ≠ 5 → mI (lrC N (mI M 2) len (lrR (mI M 2) len (mI N 198 10) (mI N 198 12) (mL N 200)).2) 198 j = mI (lrD N (mI M 2) len (lrR (mI M 2) len (mI N 198 10) (mI N 198 12) (mL N 200)).2) 198 j := fun j hj => by
        unfold lrC
        rw [pI_k hj]
      have c2 : mI (lrC N (mI M 2) len (lrR (mI M 2) len (mI N 198 10) (mI N 198 12) (mL N 200)).2) 198 5 = 0 := by
        unfold lrC
        exact pI_at9 _ _ _ _
      have c3 : ∀ i, i ≠ 198 → mI (lrC N (mI M 2) len (lrR (mI M 2) len (mI N 198 10) (mI N 198 12) (mL N 200)).2) i = mI (lrD N (mI M 2) len (lrR (mI M 2) len (mI N 198 10) (mI N 198 12) (mL N 200)).2) i := fun i hi => by
        unfold lrC
        rw [sI_ne hi]
      have c4 : ∀ i, i ≠ 199 → mL (lrC N (mI M 2) len (lrR (mI M 2) len (mI N 198 10) (mI N 198 12) (mL N 200)).2) i = mL (lrD N (mI M 2) len (lrR (mI M 2) len (mI N 198 10) (mI N 198 12) (mL N 200)).2) i := fun i hi => by
        unfold lrC
        show mL (sL _ 199 _) i = _
        rw [sL_ne9 hi]
      generalize (lrR (mI M 2) len (mI N 198 10) (mI N 198 12) (mL N 200)).2 = r at *
      generalize lrD N (mI M 2) len r = D at *
      generalize lrC N (mI M 2) len r = C at *
      generalize lrN (mI M 2) len (mI N 198 10) (mI N 198 12) = n' at *
      have hSR2 := SR_anL (x := nI n') hSR1 6 (Nat.le_refl 6)
      rw [← e1] at hSR2
      have hSR3 := b3 _ _ (riM_R hSR2)
      obtain ⟨a1, a2⟩ := anK_I (R := C) (x := nI n') 6
      rw [e1] at hSR3
      generalize anK C (nI n') 6 = Y at *
      have hI : ∀ i, i ≠ 0 → i ≠ 198 → mI Y i = mI (replM (riM M len) 17) i := fun i h0 h8 => by rw [a1, c3 i h8, d5 i h8, hN0 i h0]
      have hI0 : ∀ j, mI Y 0 j = if j = 14 then 0 else mI (replM (riM M len) 17) 0 j := fun j => by
        rw [a1, c3 0 (by decide), d5 0 (by decide)]
        exact hN1 j
      have h1I : ∀ j, mI Y 1 j = mI (riM M len) 1 j := fun j => by rw [hI 1 (by decide) (by decide), b1' 1 (by decide) (by decide)]
      refine ld_IV h hS2 (SR_cg hSR3 (fun i a b => hI i (by omega) (by omega)) (fun _ _ => rfl)) (ic_cg (b4 n') (fun i a b => hI i (by omega) (by omega)) (fun i a b => hI i (by omega) (by omega))) (fun i hi => ?_) ?_ ?_ ?_ (fun i h1 h2 => ?_) (ld_IR e2 ?_ ?_ ?_ ?_ ?_ ?_) ?_ ?_
      · rw [hI i (by omega) (by omega), b1' i (by omega) (by omega), riM_o hS (by omega) (by omega)]
      · rw [hI0, if_neg (by decide), b2, if_neg (by decide), riM_o hS (by decide) (by decide)]
      · rw [hI0, if_neg (by decide), b2, if_pos rfl]
      · rw [a1, c2]
      · rw [a2 i h1, c4 i h1, d6 i h2, hc.L]
      · rw [h1I, riM_1]
      · rw [h1I, riM_5]
      · rw [h1I, riM_4]
      · rw [a1, c1 8 (by decide), d2]
      · rw [a1, c1 14 (by decide), d3]
      · rw [a1, c1 15 (by decide), d4]
      · rw [hI0, if_pos rfl]
      · rw [a1, c1 24 (by decide), d1 24 (Or.inr rfl), hc.I (Nat.le_refl 198)]
  · rw [if_neg e, if_neg e] at q
    have hc : Cf M (riM M len) := cf_riM
    have hXo : ∀ i, i ≠ 1 → i < 17 ∨ 31 ≤ i → mI (riM M len) i = mI M i := fun i h1 h2 => riM_o hS h1 h2
    have x1 := riM_1 (M := M) (len := len)
    have x5 := riM_5 (M := M) (len := len)
    have x4 := riM_4 (M := M) (len := len)
    generalize riM M len = N at *
    obtain ⟨e1, e2, -⟩ := ri_lr (len := len) (b9 := mI N 198 10) (e9 := mI N 198 12) (u := mL N 200) hS
    have n9 := n_load (l := l) (M := N) (T := mI M 2) (len := len) (hc.S hS) (ld_tx hc l4) (by rw [hc.I (Nat.le_refl 198)]; exact l3) l1
    have er : ¬ (lrR (mI M 2) len (mI N 198 10) (mI N 198 12) (mL N 200)).2.2.2.2.1 = 0 := by rw [← e2.2.1]; exact e
    have hS2 : Shp (ldE N (mI M 2) len (lrR (mI M 2) len (mI N 198 10) (mI N 198 12) (mL N 200)).2) := (rf_ldE (Rf.rf _)).S (hc.S hS)
    refine ⟨_, _, _, _, q, n9, hc.S hS, hS2, fun _ => ?_, n, p, c, ?_⟩
    · unfold ldV
      rw [if_neg er, e2.2.2 e]
    · unfold ldE at hS2 ⊢
      rw [if_neg er] at hS2 ⊢
      obtain ⟨d1, d2, d3, d4, d5, d6⟩ := lrD_at (N := N) (T := mI M 2) (len := len) (r := (lrR (mI M 2) len (mI N 198 10) (mI N 198 12) (mL N 200)).2)
      generalize (lrR (mI M 2) len (mI N 198 10) (mI N 198 12) (mL N 200)).2 = r at *
      generalize lrD N (mI M 2) len r = Y at *
      refine ld_IE h hS2 (fun i h1 h2 h3 => by rw [d5 i h2, hXo i h1 h3]) ?_ (fun i hi => by rw [d6 i hi, hc.L]) (ld_IR e2 ?_ ?_ ?_ d2 d3 d4) ?_
      · rw [d1 5 (Or.inl rfl), hc.I (Nat.le_refl 198)]
      · rw [d5 1 (by decide), x1]
      · rw [d5 1 (by decide), x5]
      · rw [d5 1 (by decide), x4]
      · rw [d1 24 (Or.inr rfl), hc.I (Nat.le_refl 198)]
end
end
-- 5998.fresh
section
/-! a new desk beside a new reference -/
theorem lkI_no {i j : Nat} : ∀ {L : List (Nat × Nat × Int32)}, L.all (fun q => !Nat.beq q.1 i) = true → lkI L i j = 0
  | [], _ => rfl
  | q :: L, h => by
    rw [List.all_cons, Bool.and_eq_true] at h
    unfold lkI
    have h1 : Nat.beq q.1 i = false := by
      have := h.1
      cases h9 : Nat.beq q.1 i
      · rfl
      · rw [h9] at this
        cases this
    rw [h1]
    exact lkI_no h.2
abbrev Z1 : Nat → Int32 := fun _ => 0
abbrev Z2 : Nat → Nat → Int32 := fun _ _ => 0
section
variable {l : Launch} {M M' : Mem}
theorem f_0 (h : Frs M) {i : Nat} (hi : FI.all (fun q => !Nat.beq q.1 i) = true) : mI M i = Z1 := funext fun j => by
  rw [h.2.1]
  exact lkI_no hi
theorem f_z (h : Frs M) : mI M 3 1 = nI 8 := by
  rw [h.2.1]
  decide +kernel
theorem f_bl (h : Frs M) : mI M 3 2 = nI 4 := by
  rw [h.2.1]
  decide +kernel
theorem fI_ok : ∀ s, s < 6 → FI.all (fun q => !Nat.beq q.1 (6 + 2 * s)) = true ∧ FI.all (fun q => !Nat.beq q.1 (5 + 2 * s)) = true ∧ FI.all (fun q => !Nat.beq q.1 (175 + 2 * s)) = true ∧ FI.all (fun q => !Nat.beq q.1 (176 + 2 * s)) = true := by decide +kernel
theorem f_rows (h : Frs M) {s : Nat} (hs : s < 6) : mI M (6 + 2 * s) = Z1 := f_0 h (fI_ok s hs).1
theorem f_mx (h : Frs M) {s : Nat} (hs : s < 6) : mI M (5 + 2 * s) = Z1 := f_0 h (fI_ok s hs).2.1
theorem f_cl0 (h : Frs M) {s : Nat} (hs : s < 6) : mI M (175 + 2 * s) = Z1 := f_0 h (fI_ok s hs).2.2.1
theorem f_cl1 (h : Frs M) {s : Nat} (hs : s < 6) : mI M (176 + 2 * s) = Z1 := f_0 h (fI_ok s hs).2.2.2
theorem f_D (h : Frs M) : Dk M 8 0 0 := ⟨h.1, f_z h, by decide, by rw [h.2.1]; decide +kernel, by decide, by rw [h.2.1]; decide +kernel, by decide, fun s hs => Or.inl (by
  rw [show 3 + 2 + 2 * s = 5 + 2 * s by omega, f_mx h hs])⟩
/-- the reference is new -/
def Fq (M : Mem) : Prop := Shp M ∧ (∀ i, i < 212 → mL M i = fun_set (fun _ _ => 0) 199 (bgF (fun _ => 0) 8) i) ∧ ∀ i, 198 ≤ i → ∀ j, mI M i j = lkI FI i j
theorem fq_0 (h : Frs M) (hc : Cf M M') : Fq M' := ⟨hc.S h.1, fun i _ => by rw [hc.L, h.2.2.1], fun i hi j => by rw [hc.I hi, h.2.1]⟩
theorem fq_1 {v : Int64} (h : Fq M) : Fq (pL M 212 0 v) := ⟨h.1, fun i hi => by
  rw [show mL (pL M 212 0 v) i = mL M i from sL_ne9 (by omega)]
  exact h.2.1 i hi, h.2.2⟩
theorem fq_2 {f : Nat → UInt64} (h : Fq M) : Fq (sD M 213 f) := h
theorem fq_L (h : Fq M) : mL M 199 = bgF (fun _ => 0) 8 := by
  rw [h.2.1 199 (by decide)]
  unfold fun_set
  rw [if_pos rfl]
theorem bg_ge {i : Nat} (hi : 2 ≤ i) : bgF (fun _ => 0) 8 i = 0 := by
  unfold bgF fun_set clF
  rw [if_neg (by omega), if_neg (by omega)]
  split <;> rfl
theorem fq_R (h : Fq M) : Rr M 8 Z2 := ⟨h.1, by rw [fq_L h]; decide +kernel, by decide, by decide, fun s r hs hr => by
  rw [fq_L h, bg_ge (by omega)]
  exact uL_0.symm⟩
theorem fq_c (h : Fq M) : mI M 198 5 = nI 0 := by
  rw [h.2.2 198 (by decide)]
  decide +kernel
theorem fq_bl (h : Fq M) : mL M 199 1 = lN 4 := by
  rw [fq_L h]
  decide +kernel
theorem fq_bs (h : Fq M) : bsOk M := fun i hi => by
  rw [h.2.1 209 (by decide)]
  unfold fun_set
  rw [if_neg (by decide)]
  show (0 : Int64) = uL (0 : Int64).toInt32
  decide +kernel
theorem fz_wf : wfA 8 Z2 := fun s r _ _ c _ => hb_0 c
theorem wr_z (n : Nat) : wr Z1 Z1 n = Z1 := by
  funext k
  unfold wr
  split <;> rfl
theorem wIn_z (m : Nat) : ∀ i, wIn Z1 m i = Z1
  | 0 => rfl
  | i + 1 => by
    unfold wIn
    rw [wIn_z m i, hb_0, if_neg (by decide)]
theorem wO_z (n : Nat) : ∀ k, wOut Z1 n k = Z1
  | 0 => rfl
  | k + 1 => by
    unfold wOut
    rw [wO_z n k, wIn_z]
theorem cl_new {s n : Nat} (h1 : mI M (175 + 2 * s) 1 = 0) (h2 : mI M (176 + 2 * s) = Z1) (h3 : mI M (6 + 2 * s) = Z1) : mI (clOf M s n) (175 + 2 * s + 1) = Z1 := by
  unfold clOf
  rw [if_pos h1]
  unfold clMake
  show mI (sI (sI M (175 + 2 * s + 1) _) (175 + 2 * s) _) (175 + 2 * s + 1) = _
  rw [sI_ne (by omega), sI_self, show 175 + 2 * s + 1 = 176 + 2 * s by omega, h2, h3, wr_z, wO_z]
theorem f_cl (h : Frs M) {s n : Nat} (hs : s < 6) : mI (clOf M s n) (175 + 2 * s + 1) = Z1 := cl_new (by rw [f_cl0 h hs]) (f_cl1 h hs) (f_rows h hs)
/-- the class's rows -/
theorem fq_A (h : Frs M) (hq : Fq M') : Rr M' 8 (Am M) := ⟨hq.1, (fq_R hq).2.1, by decide, by decide, fun s r hs hr => by
  rw [(fq_R hq).2.2.2.2 s r hs hr]
  show _ = uL (mI M (6 + 2 * s) r)
  rw [f_rows h hs]⟩
theorem am_wf (h : Frs M) : wfA 8 (Am M) := fun s r hs _ c _ => by
  show hb (mI M (6 + 2 * s) r) c = false
  rw [f_rows h hs]
  exact hb_0 c
theorem am_0 (h : Frs M) {s : Nat} (hs : s < 6) : Am M s = Z1 := f_rows h hs
end
end
-- 60.step
section
/-! the law: a step, the loop, the start -/
theorem and63 (x : Int32) : ∃ j, j < 64 ∧ x &&& 63 = nI j := by
  refine ⟨(x &&& 63).toBitVec.toNat, ?_, ?_⟩
  · rw [Int32.toBitVec_and, BitVec.toNat_and]
    exact Nat.lt_of_le_of_lt Nat.and_le_right (by decide)
  · apply Int32.toBitVec_inj.mp
    show _ = BitVec.ofNat 32 _
    refine BitVec.eq_of_toNat_eq ?_
    rw [BitVec.toNat_ofNat, Nat.mod_eq_of_lt (BitVec.isLt _)]
theorem bz (x : Int32) : b1 (!decide (x = 0)) = if x = 0 then 0 else 1 := by
  by_cases h : x = 0
  · rw [decide_eq_true h, if_pos h]
    rfl
  · rw [decide_eq_false h, if_neg h]
    rfl
section
variable {l : Launch} {Q : Res → Mem → Prop} {k n : Nat} {M : Mem} {S : Nat × (Nat → Int32)} {o : Nat}
theorem g_sX {J : Jm} {F L MC MS pc : Nat} {lv : List (Nat × Value)} {st : List Value} (kk : Go l J F L MC MS Q pc lv st k n (sX M)) : Go l J F L MC MS Q pc lv st k n M := by
  intro p e s m args below meth c G H locs cells slots ls hX hC hR hS hl hc hs
  have e1 : wl G (sX M) = wl G M := by
    unfold wl
    have e2 : ∀ i y, ent G (sX M) i y = ent G M i y := fun i y => ent_of (M := M) (M' := sX M) rfl rfl rfl rfl y
    show (mK M).mapIdx (fun i k => (gB G + i, ent G (sX M) i k)) = _
    simp only [e2]
  exact kk p e s m args below meth c G H locs cells slots ls hX hC ⟨by rw [e1]; exact hR.1, fun h => absurd (show false = true from h) (by decide), hR.2.2.1, hR.2.2.2⟩ hS hl hc hs
set_option maxRecDepth 20000 in
theorem law_step (hI : Inv M) (hSh : Shp M) (hs : mS M = S) (ho : o + 5 ≤ S.1) (hS9 : S.1 < 2147483648) (kont : ∀ M2, Shp M2 → Inv M2 → mS M2 = S → Go l jL_law 14 538 601024 7293034 Q 2724 (AL o) [] k n M2) (kend : Go l jL_law 14 538 601024 7293034 Q 2724 (AL o) [] k n M) : Go l jL_law 14 538 601024 7293034 Q 44 (AL o) [.int (S.2 o &&& 63)] (k + 4) (n + 24) M := by
  obtain ⟨n9, p9, c9, hI⟩ := hI
  obtain ⟨j, hj, e⟩ := and63 (S.2 o)
  rw [e]
  match j, hj with
  | 0, _ =>
    refine g_tableIn (pc := 44) (tgt := 292) (off := 248) dL_law_44 (by decide) (by decide) (by decide) (by decide) ?_
    obtain ⟨a9, b, M1, M2, h1, h2, s1, s2, hq, hP⟩ := sm_append (l := l) hI (l2 (S.2 (o + 1)) (S.2 (o + 2)))
    exact g_less (by omega) (by omega) (lc_0 hs ho hS9 hSh s1 s2 h1 h2 (fun e9 => kont M2 s2 hP e9))
  | 1, _ =>
    refine g_tableIn (pc := 44) (tgt := 349) (off := 305) dL_law_44 (by decide) (by decide) (by decide) (by decide) ?_
    obtain ⟨a9, b, M1, M2, h1, h2, s1, s2, hq, hP⟩ := sm_load (l := l) hI 
    exact g_less (by omega) (by omega) (lc_1 hs ho hS9 hSh s1 s2 h1 h2 (fun e9 => kont M2 s2 hP e9))
  | 2, _ =>
    refine g_tableIn (pc := 44) (tgt := 362) (off := 318) dL_law_44 (by decide) (by decide) (by decide) (by decide) ?_
    obtain ⟨a9, b, M1, M2, h1, h2, s1, s2, hq, hP⟩ := sm_loadError (l := l) hI 
    exact g_less (by omega) (by omega) (lc_2 hs ho hS9 hSh s1 s2 h1 h2 (fun e9 => kont M2 s2 hP e9))
  | 3, _ =>
    refine g_tableIn (pc := 44) (tgt := 375) (off := 331) dL_law_44 (by decide) (by decide) (by decide) (by decide) ?_
    obtain ⟨a9, b, M1, M2, h1, h2, s1, s2, hq, hP⟩ := sm_loadStatement (l := l) hI 
    exact g_less (by omega) (by omega) (lc_3 hs ho hS9 hSh s1 s2 h1 h2 (hq trivial) (fun e9 => kont M2 s2 hP e9))
  | 4, _ =>
    refine g_tableIn (pc := 44) (tgt := 388) (off := 344) dL_law_44 (by decide) (by decide) (by decide) (by decide) ?_
    obtain ⟨kk, b, M1, M2, h1, h2, s1, s2, ht, hq, hP⟩ := sm_count (l := l) hI (S.2 (o + 1))
    exact g_less (by omega) (by omega) (lc_4 hs ho hS9 hSh s1 s2 h1 h2 (fun e9 => kont M2 s2 hP e9))
  | 5, _ =>
    refine g_tableIn (pc := 44) (tgt := 416) (off := 372) dL_law_44 (by decide) (by decide) (by decide) (by decide) ?_
    obtain ⟨kk, b, M1, M2, h1, h2, s1, s2, ht, hq, hP⟩ := sm_bit (l := l) hI (S.2 (o + 1)) (S.2 (o + 2)) (S.2 (o + 3))
    exact g_less (by omega) (by omega) (lc_5 hs ho hS9 hSh s1 s2 h1 h2 (fun e9 => kont M2 s2 hP e9))
  | 6, _ =>
    refine g_tableIn (pc := 44) (tgt := 468) (off := 424) dL_law_44 (by decide) (by decide) (by decide) (by decide) ?_
    obtain ⟨kk, b, M1, M2, h1, h2, s1, s2, ht, hq, hP⟩ := sm_row (l := l) hI (S.2 (o + 1)) (S.2 (o + 2))
    exact g_less (by omega) (by omega) (lc_6 hs ho hS9 hSh s1 s2 h1 h2 (fun e9 => kont M2 s2 hP e9))
  | 7, _ =>
    refine g_tableIn (pc := 44) (tgt := 508) (off := 464) dL_law_44 (by decide) (by decide) (by decide) (by decide) ?_
    obtain ⟨kk, b, M1, M2, h1, h2, s1, s2, ht, hq, hP⟩ := sm_rank (l := l) hI (S.2 (o + 1)) (S.2 (o + 2)) (S.2 (o + 3))
    exact g_less (by omega) (by omega) (lc_7 hs ho hS9 hSh s1 s2 h1 h2 (fun e9 => kont M2 s2 hP e9))
  | 8, _ =>
    refine g_tableIn (pc := 44) (tgt := 560) (off := 516) dL_law_44 (by decide) (by decide) (by decide) (by decide) ?_
    obtain ⟨kk, b, M1, M2, h1, h2, s1, s2, ht, hq, hP⟩ := sm_select (l := l) hI (S.2 (o + 1)) (S.2 (o + 2)) (S.2 (o + 3))
    exact g_less (by omega) (by omega) (lc_8 hs ho hS9 hSh s1 s2 h1 h2 (fun e9 => kont M2 s2 hP e9))
  | 9, _ =>
    refine g_tableIn (pc := 44) (tgt := 612) (off := 568) dL_law_44 (by decide) (by decide) (by decide) (by decide) ?_
    obtain ⟨kk, b, M1, M2, h1, h2, s1, s2, ht, hq, hP⟩ := sm_ones (l := l) hI (S.2 (o + 1))
    exact g_less (by omega) (by omega) (lc_9 hs ho hS9 hSh s1 s2 h1 h2 (fun e9 => kont M2 s2 hP e9))
  | 10, _ =>
    refine g_tableIn (pc := 44) (tgt := 640) (off := 596) dL_law_44 (by decide) (by decide) (by decide) (by decide) ?_
    obtain ⟨kk, b, M1, M2, h1, h2, s1, s2, ht, hq, hP⟩ := sm_columnOnes (l := l) hI (S.2 (o + 1)) (S.2 (o + 2))
    exact g_less (by omega) (by omega) (lc_10 hs ho hS9 hSh s1 s2 h1 h2 (fun e9 => kont M2 s2 hP e9))
  | 11, _ =>
    refine g_tableIn (pc := 44) (tgt := 680) (off := 636) dL_law_44 (by decide) (by decide) (by decide) (by decide) ?_
    obtain ⟨kk, b, M1, M2, h1, h2, s1, s2, ht, hq, hP⟩ := sm_sameAs (l := l) hI (S.2 (o + 1)) (S.2 (o + 2))
    exact g_less (by omega) (by omega) (lc_11 hs ho hS9 hSh s1 s2 h1 h2 (fun e9 => kont M2 s2 hP e9))
  | 12, _ =>
    refine g_tableIn (pc := 44) (tgt := 720) (off := 676) dL_law_44 (by decide) (by decide) (by decide) (by decide) ?_
    obtain ⟨kk, b, M1, M2, h1, h2, s1, s2, ht, hq, hP⟩ := sm_classes (l := l) hI (S.2 (o + 1))
    exact g_less (by omega) (by omega) (lc_12 hs ho hS9 hSh s1 s2 h1 h2 (fun e9 => kont M2 s2 hP e9))
  | 13, _ =>
    refine g_tableIn (pc := 44) (tgt := 748) (off := 704) dL_law_44 (by decide) (by decide) (by decide) (by decide) ?_
    obtain ⟨kk, b, M1, M2, h1, h2, s1, s2, ht, hq, hP⟩ := sm_classOf (l := l) hI (S.2 (o + 1)) (S.2 (o + 2))
    exact g_less (by omega) (by omega) (lc_13 hs ho hS9 hSh s1 s2 h1 h2 (fun e9 => kont M2 s2 hP e9))
  | 14, _ =>
    refine g_tableIn (pc := 44) (tgt := 788) (off := 744) dL_law_44 (by decide) (by decide) (by decide) (by decide) ?_
    obtain ⟨kk, b, M1, M2, h1, h2, s1, s2, ht, hq, hP⟩ := sm_find (l := l) hI (S.2 (o + 1)) (l2 (S.2 (o + 2)) (S.2 (o + 3)))
    exact g_less (by omega) (by omega) (lc_14 hs ho hS9 hSh s1 s2 h1 h2 (fun e9 => kont M2 s2 hP e9))
  | 15, _ =>
    refine g_tableIn (pc := 44) (tgt := 860) (off := 816) dL_law_44 (by decide) (by decide) (by decide) (by decide) ?_
    obtain ⟨kk, b, M1, M2, h1, h2, s1, s2, ht, hq, hP⟩ := sm_nearest (l := l) hI (S.2 (o + 1)) (S.2 (o + 2))
    exact g_less (by omega) (by omega) (lc_15 hs ho hS9 hSh s1 s2 h1 h2 (fun e9 => kont M2 s2 hP e9))
  | 16, _ =>
    refine g_tableIn (pc := 44) (tgt := 900) (off := 856) dL_law_44 (by decide) (by decide) (by decide) (by decide) ?_
    obtain ⟨kk, b, M1, M2, h1, h2, s1, s2, ht, hq, hP⟩ := sm_density (l := l) hI (S.2 (o + 1))
    exact g_less (by omega) (by omega) (lc_16 hs ho hS9 hSh s1 s2 h1 h2 (fun e9 => kont M2 s2 hP e9))
  | 17, _ =>
    refine g_tableIn (pc := 44) (tgt := 929) (off := 885) dL_law_44 (by decide) (by decide) (by decide) (by decide) ?_
    obtain ⟨kk, b, M1, M2, h1, h2, s1, s2, ht, hq, hP⟩ := sm_isSymmetric (l := l) hI (S.2 (o + 1))
    exact g_less (by omega) (by omega) (lc_17 hs ho hS9 hSh s1 s2 h1 h2 (fun e9 => kont M2 s2 hP e9))
  | 18, _ =>
    refine g_tableIn (pc := 44) (tgt := 957) (off := 913) dL_law_44 (by decide) (by decide) (by decide) (by decide) ?_
    obtain ⟨kk, b, M1, M2, h1, h2, s1, s2, ht, hq, hP⟩ := sm_reaches (l := l) hI (S.2 (o + 1)) (S.2 (o + 2)) (S.2 (o + 3))
    exact g_less (by omega) (by omega) (lc_18 hs ho hS9 hSh s1 s2 h1 h2 (fun e9 => kont M2 s2 hP e9))
  | 19, _ =>
    refine g_tableIn (pc := 44) (tgt := 1009) (off := 965) dL_law_44 (by decide) (by decide) (by decide) (by decide) ?_
    obtain ⟨kk, b, M1, M2, h1, h2, s1, s2, ht, hq, hP⟩ := sm_reached (l := l) hI (S.2 (o + 1)) (S.2 (o + 2))
    exact g_less (by omega) (by omega) (lc_19 hs ho hS9 hSh s1 s2 h1 h2 (fun e9 => kont M2 s2 hP e9))
  | 20, _ =>
    refine g_tableIn (pc := 44) (tgt := 1049) (off := 1005) dL_law_44 (by decide) (by decide) (by decide) (by decide) ?_
    obtain ⟨kk, b, M1, M2, h1, h2, s1, s2, ht, hq, hP⟩ := sm_pairs (l := l) hI (S.2 (o + 1))
    exact g_less (by omega) (by omega) (lc_20 hs ho hS9 hSh s1 s2 h1 h2 (fun e9 => kont M2 s2 hP e9))
  | 21, _ =>
    refine g_tableIn (pc := 44) (tgt := 1077) (off := 1033) dL_law_44 (by decide) (by decide) (by decide) (by decide) ?_
    obtain ⟨kk, b, M1, M2, h1, h2, s1, s2, ht, hq, hP⟩ := sm_meanReach (l := l) hI (S.2 (o + 1))
    exact g_less (by omega) (by omega) (lc_21 hs ho hS9 hSh s1 s2 h1 h2 (fun e9 => kont M2 s2 hP e9))
  | 22, _ =>
    refine g_tableIn (pc := 44) (tgt := 1106) (off := 1062) dL_law_44 (by decide) (by decide) (by decide) (by decide) ?_
    obtain ⟨kk, b, M1, M2, h1, h2, s1, s2, ht, hq, hP⟩ := sm_component (l := l) hI (S.2 (o + 1)) (S.2 (o + 2))
    exact g_less (by omega) (by omega) (lc_22 hs ho hS9 hSh s1 s2 h1 h2 (fun e9 => kont M2 s2 hP e9))
  | 23, _ =>
    refine g_tableIn (pc := 44) (tgt := 1146) (off := 1102) dL_law_44 (by decide) (by decide) (by decide) (by decide) ?_
    obtain ⟨kk, b, M1, M2, h1, h2, s1, s2, ht, hq, hP⟩ := sm_components (l := l) hI (S.2 (o + 1))
    exact g_less (by omega) (by omega) (lc_23 hs ho hS9 hSh s1 s2 h1 h2 (fun e9 => kont M2 s2 hP e9))
  | 24, _ =>
    refine g_tableIn (pc := 44) (tgt := 1174) (off := 1130) dL_law_44 (by decide) (by decide) (by decide) (by decide) ?_
    obtain ⟨kk, b, M1, M2, h1, h2, s1, s2, ht, hq, hP⟩ := sm_distance (l := l) hI (S.2 (o + 1)) (S.2 (o + 2)) (S.2 (o + 3))
    exact g_less (by omega) (by omega) (lc_24 hs ho hS9 hSh s1 s2 h1 h2 (fun e9 => kont M2 s2 hP e9))
  | 25, _ =>
    refine g_tableIn (pc := 44) (tgt := 1226) (off := 1182) dL_law_44 (by decide) (by decide) (by decide) (by decide) ?_
    obtain ⟨kk, b, M1, M2, h1, h2, s1, s2, ht, hq, hP⟩ := sm_stepAt (l := l) hI (S.2 (o + 1)) (S.2 (o + 2)) (S.2 (o + 3)) (S.2 (o + 4))
    exact g_less (by omega) (by omega) (lc_25 hs ho hS9 hSh s1 s2 h1 h2 (fun e9 => kont M2 s2 hP e9))
  | 26, _ =>
    refine g_tableIn (pc := 44) (tgt := 1290) (off := 1246) dL_law_44 (by decide) (by decide) (by decide) (by decide) ?_
    obtain ⟨kk, b, M1, M2, h1, h2, s1, s2, ht, hq, hP⟩ := sm_around (l := l) hI (S.2 (o + 1)) (S.2 (o + 2))
    exact g_less (by omega) (by omega) (lc_26 hs ho hS9 hSh s1 s2 h1 h2 (fun e9 => kont M2 s2 hP e9))
  | 27, _ =>
    refine g_tableIn (pc := 44) (tgt := 1330) (off := 1286) dL_law_44 (by decide) (by decide) (by decide) (by decide) ?_
    obtain ⟨kk, b, M1, M2, h1, h2, s1, s2, ht, hq, hP⟩ := sm_girth (l := l) hI (S.2 (o + 1))
    exact g_less (by omega) (by omega) (lc_27 hs ho hS9 hSh s1 s2 h1 h2 (fun e9 => kont M2 s2 hP e9))
  | 28, _ =>
    refine g_tableIn (pc := 44) (tgt := 1358) (off := 1314) dL_law_44 (by decide) (by decide) (by decide) (by decide) ?_
    obtain ⟨kk, b, M1, M2, h1, h2, s1, s2, ht, hq, hP⟩ := sm_order (l := l) hI (S.2 (o + 1)) (S.2 (o + 2))
    exact g_less (by omega) (by omega) (lc_28 hs ho hS9 hSh s1 s2 h1 h2 (fun e9 => kont M2 s2 hP e9))
  | 29, _ =>
    refine g_tableIn (pc := 44) (tgt := 1398) (off := 1354) dL_law_44 (by decide) (by decide) (by decide) (by decide) ?_
    obtain ⟨kk, b, M1, M2, h1, h2, s1, s2, ht, hq, hP⟩ := sm_gained (l := l) hI (S.2 (o + 1)) (S.2 (o + 2)) (S.2 (o + 3))
    exact g_less (by omega) (by omega) (lc_29 hs ho hS9 hSh s1 s2 h1 h2 (fun e9 => kont M2 s2 hP e9))
  | 30, _ =>
    refine g_tableIn (pc := 44) (tgt := 1450) (off := 1406) dL_law_44 (by decide) (by decide) (by decide) (by decide) ?_
    obtain ⟨kk, b, M1, M2, h1, h2, s1, s2, ht, hq, hP⟩ := sm_lost (l := l) hI (S.2 (o + 1)) (S.2 (o + 2)) (S.2 (o + 3))
    exact g_less (by omega) (by omega) (lc_30 hs ho hS9 hSh s1 s2 h1 h2 (fun e9 => kont M2 s2 hP e9))
  | 31, _ =>
    refine g_tableIn (pc := 44) (tgt := 1502) (off := 1458) dL_law_44 (by decide) (by decide) (by decide) (by decide) ?_
    obtain ⟨kk, b, M1, M2, h1, h2, s1, s2, ht, hq, hP⟩ := sm_bestEdge (l := l) hI (S.2 (o + 1))
    exact g_less (by omega) (by omega) (lc_31 hs ho hS9 hSh s1 s2 h1 h2 (fun e9 => kont M2 s2 hP e9))
  | 32, _ =>
    refine g_tableIn (pc := 44) (tgt := 1530) (off := 1486) dL_law_44 (by decide) (by decide) (by decide) (by decide) ?_
    obtain ⟨kk, b, M1, M2, h1, h2, s1, s2, ht, hq, hP⟩ := sm_weakest (l := l) hI (S.2 (o + 1))
    exact g_less (by omega) (by omega) (lc_32 hs ho hS9 hSh s1 s2 h1 h2 (fun e9 => kont M2 s2 hP e9))
  | 33, _ =>
    refine g_tableIn (pc := 44) (tgt := 1558) (off := 1514) dL_law_44 (by decide) (by decide) (by decide) (by decide) ?_
    obtain ⟨kk, b, M1, M2, h1, h2, s1, s2, ht, hq, hP⟩ := sm_triangles (l := l) hI (S.2 (o + 1))
    exact g_less (by omega) (by omega) (lc_33 hs ho hS9 hSh s1 s2 h1 h2 (fun e9 => kont M2 s2 hP e9))
  | 34, _ =>
    refine g_tableIn (pc := 44) (tgt := 1586) (off := 1542) dL_law_44 (by decide) (by decide) (by decide) (by decide) ?_
    obtain ⟨kk, b, M1, M2, h1, h2, s1, s2, ht, hq, hP⟩ := sm_fieldRank (l := l) hI (S.2 (o + 1))
    exact g_less (by omega) (by omega) (lc_34 hs ho hS9 hSh s1 s2 h1 h2 (fun e9 => kont M2 s2 hP e9))
  | 35, _ =>
    refine g_tableIn (pc := 44) (tgt := 1614) (off := 1570) dL_law_44 (by decide) (by decide) (by decide) (by decide) ?_
    obtain ⟨kk, b, M1, M2, h1, h2, s1, s2, ht, hq, hP⟩ := sm_solve (l := l) hI (S.2 (o + 1)) (l2 (S.2 (o + 2)) (S.2 (o + 3)))
    exact g_less (by omega) (by omega) (lc_35 hs ho hS9 hSh s1 s2 h1 h2 (fun e9 => kont M2 s2 hP e9))
  | 36, _ =>
    refine g_tableIn (pc := 44) (tgt := 1686) (off := 1642) dL_law_44 (by decide) (by decide) (by decide) (by decide) ?_
    obtain ⟨kk, b, M1, M2, h1, h2, s1, s2, ht, hq, hP⟩ := sm_freedom (l := l) hI (S.2 (o + 1)) (l2 (S.2 (o + 2)) (S.2 (o + 3)))
    exact g_less (by omega) (by omega) (lc_36 hs ho hS9 hSh s1 s2 h1 h2 (fun e9 => kont M2 s2 hP e9))
  | 37, _ =>
    refine g_tableIn (pc := 44) (tgt := 1758) (off := 1714) dL_law_44 (by decide) (by decide) (by decide) (by decide) ?_
    obtain ⟨kk, b, M1, M2, h1, h2, s1, s2, ht, hq, hP⟩ := sm_pivot (l := l) hI (S.2 (o + 1)) (S.2 (o + 2))
    exact g_less (by omega) (by omega) (lc_37 hs ho hS9 hSh s1 s2 h1 h2 (fun e9 => kont M2 s2 hP e9))
  | 38, _ =>
    refine g_tableIn (pc := 44) (tgt := 1798) (off := 1754) dL_law_44 (by decide) (by decide) (by decide) (by decide) ?_
    obtain ⟨kk, b, M1, M2, h1, h2, s1, s2, ht, hq, hP⟩ := sm_put (l := l) hI (S.2 (o + 1)) (S.2 (o + 2)) (S.2 (o + 3)) (!decide (S.2 (o + 4) = 0))
    exact g_less (by omega) (by omega) (lc_38 (bz _) hs ho hS9 hSh s1 s2 h1 h2 (fun e9 => kont M2 s2 hP e9))
  | 39, _ =>
    refine g_tableIn (pc := 44) (tgt := 1878) (off := 1834) dL_law_44 (by decide) (by decide) (by decide) (by decide) ?_
    obtain ⟨kk, b, M1, M2, h1, h2, s1, s2, ht, hq, hP⟩ := sm_setRow (l := l) hI (S.2 (o + 1)) (S.2 (o + 2)) (l2 (S.2 (o + 3)) (S.2 (o + 4)))
    exact g_less (by omega) (by omega) (lc_39 hs ho hS9 hSh s1 s2 h1 h2 (fun e9 => kont M2 s2 hP e9))
  | 40, _ =>
    refine g_tableIn (pc := 44) (tgt := 1962) (off := 1918) dL_law_44 (by decide) (by decide) (by decide) (by decide) ?_
    obtain ⟨kk, b, M1, M2, h1, h2, s1, s2, ht, hq, hP⟩ := sm_copy (l := l) hI (S.2 (o + 1)) (S.2 (o + 2))
    exact g_less (by omega) (by omega) (lc_40 hs ho hS9 hSh s1 s2 h1 h2 (fun e9 => kont M2 s2 hP e9))
  | 41, _ =>
    refine g_tableIn (pc := 44) (tgt := 2002) (off := 1958) dL_law_44 (by decide) (by decide) (by decide) (by decide) ?_
    obtain ⟨kk, b, M1, M2, h1, h2, s1, s2, ht, hq, hP⟩ := sm_transpose (l := l) hI (S.2 (o + 1)) (S.2 (o + 2))
    exact g_less (by omega) (by omega) (lc_41 hs ho hS9 hSh s1 s2 h1 h2 (fun e9 => kont M2 s2 hP e9))
  | 42, _ =>
    refine g_tableIn (pc := 44) (tgt := 2042) (off := 1998) dL_law_44 (by decide) (by decide) (by decide) (by decide) ?_
    obtain ⟨kk, b, M1, M2, h1, h2, s1, s2, ht, hq, hP⟩ := sm_combine (l := l) hI (S.2 (o + 1)) (S.2 (o + 2)) (S.2 (o + 3)) (S.2 (o + 4))
    exact g_less (by omega) (by omega) (lc_42 hs ho hS9 hSh s1 s2 h1 h2 (fun e9 => kont M2 s2 hP e9))
  | 43, _ =>
    refine g_tableIn (pc := 44) (tgt := 2106) (off := 2062) dL_law_44 (by decide) (by decide) (by decide) (by decide) ?_
    obtain ⟨kk, b, M1, M2, h1, h2, s1, s2, ht, hq, hP⟩ := sm_product (l := l) hI (S.2 (o + 1)) (S.2 (o + 2)) (S.2 (o + 3)) (!decide (S.2 (o + 4) = 0))
    exact g_less (by omega) (by omega) (lc_43 (bz _) hs ho hS9 hSh s1 s2 h1 h2 (fun e9 => kont M2 s2 hP e9))
  | 44, _ =>
    refine g_tableIn (pc := 44) (tgt := 2186) (off := 2142) dL_law_44 (by decide) (by decide) (by decide) (by decide) ?_
    obtain ⟨kk, b, M1, M2, h1, h2, s1, s2, ht, hq, hP⟩ := sm_power (l := l) hI (S.2 (o + 1)) (S.2 (o + 2)) (S.2 (o + 3)) (!decide (S.2 (o + 4) = 0))
    exact g_less (by omega) (by omega) (lc_44 (bz _) hs ho hS9 hSh s1 s2 h1 h2 (fun e9 => kont M2 s2 hP e9))
  | 45, _ =>
    refine g_tableIn (pc := 44) (tgt := 2266) (off := 2222) dL_law_44 (by decide) (by decide) (by decide) (by decide) ?_
    obtain ⟨kk, b, M1, M2, h1, h2, s1, s2, ht, hq, hP⟩ := sm_invert (l := l) hI (S.2 (o + 1)) (S.2 (o + 2))
    exact g_less (by omega) (by omega) (lc_45 hs ho hS9 hSh s1 s2 h1 h2 (fun e9 => kont M2 s2 hP e9))
  | 46, _ =>
    refine g_tableIn (pc := 44) (tgt := 2306) (off := 2262) dL_law_44 (by decide) (by decide) (by decide) (by decide) ?_
    obtain ⟨kk, b, M1, M2, h1, h2, s1, s2, ht, hq, hP⟩ := sm_close (l := l) hI (S.2 (o + 1)) (S.2 (o + 2))
    exact g_less (by omega) (by omega) (lc_46 hs ho hS9 hSh s1 s2 h1 h2 (fun e9 => kont M2 s2 hP e9))
  | 47, _ =>
    refine g_tableIn (pc := 44) (tgt := 2346) (off := 2302) dL_law_44 (by decide) (by decide) (by decide) (by decide) ?_
    obtain ⟨kk, b, M1, M2, h1, h2, s1, s2, ht, hq, hP⟩ := sm_reduce (l := l) hI (S.2 (o + 1)) (S.2 (o + 2))
    exact g_less (by omega) (by omega) (lc_47 hs ho hS9 hSh s1 s2 h1 h2 (fun e9 => kont M2 s2 hP e9))
  | 48, _ =>
    refine g_tableIn (pc := 44) (tgt := 2386) (off := 2342) dL_law_44 (by decide) (by decide) (by decide) (by decide) ?_
    obtain ⟨kk, b, M1, M2, h1, h2, s1, s2, ht, hq, hP⟩ := sm_exchange (l := l) hI (S.2 (o + 1)) (S.2 (o + 2)) (S.2 (o + 3))
    exact g_less (by omega) (by omega) (lc_48 hs ho hS9 hSh s1 s2 h1 h2 (fun e9 => kont M2 s2 hP e9))
  | 49, _ =>
    refine g_tableIn (pc := 44) (tgt := 2438) (off := 2394) dL_law_44 (by decide) (by decide) (by decide) (by decide) ?_
    obtain ⟨kk, b, M1, M2, h1, h2, s1, s2, ht, hq, hP⟩ := sm_keep (l := l) hI (S.2 (o + 1)) (!decide (S.2 (o + 2) = 0))
    exact g_less (by omega) (by omega) (lc_49 (bz _) hs ho hS9 hSh s1 s2 h1 h2 (fun e9 => kont M2 s2 hP e9))
  | 50, _ =>
    refine g_tableIn (pc := 44) (tgt := 2494) (off := 2450) dL_law_44 (by decide) (by decide) (by decide) (by decide) ?_
    obtain ⟨kk, b, M1, M2, h1, h2, s1, s2, ht, hq, hP⟩ := sm_setBlock (l := l) hI (S.2 (o + 1))
    exact g_less (by omega) (by omega) (lc_50 hs ho hS9 hSh s1 s2 h1 h2 (fun e9 => kont M2 s2 hP e9))
  | 51, _ =>
    refine g_tableIn (pc := 44) (tgt := 2522) (off := 2478) dL_law_44 (by decide) (by decide) (by decide) (by decide) ?_
    obtain ⟨kk, b, M1, M2, h1, h2, s1, s2, ht, hq, hP⟩ := sm_kept (l := l) hI (S.2 (o + 1)) (S.2 (o + 2))
    exact g_less (by omega) (by omega) (lc_51 hs ho hS9 hSh s1 s2 h1 h2 (fun e9 => kont M2 s2 hP e9))
  | 52, _ =>
    refine g_tableIn (pc := 44) (tgt := 2562) (off := 2518) dL_law_44 (by decide) (by decide) (by decide) (by decide) ?_
    obtain ⟨kk, b, M1, M2, h1, h2, s1, s2, ht, hq, hP⟩ := sm_work (l := l) hI (S.2 (o + 1))
    exact g_less (by omega) (by omega) (lc_52 hs ho hS9 hSh s1 s2 h1 h2 (fun e9 => kont M2 s2 hP e9))
  | 53, _ =>
    refine g_tableIn (pc := 44) (tgt := 2590) (off := 2546) dL_law_44 (by decide) (by decide) (by decide) (by decide) ?_
    obtain ⟨kk, b, M1, M2, h1, h2, s1, s2, ht, hq, hP⟩ := sm_writeRow (l := l) hI (S.2 (o + 1)) (S.2 (o + 2))
    exact g_less (by omega) (by omega) (lc_53 hs ho hS9 hSh s1 s2 h1 h2 (fun e9 => kont M2 s2 hP e9))
  | 54, _ =>
    refine g_tableIn (pc := 44) (tgt := 2630) (off := 2586) dL_law_44 (by decide) (by decide) (by decide) (by decide) ?_
    obtain ⟨a9, b, M1, M2, h1, h2, s1, s2, hq, hP⟩ := sm_outputByte (l := l) hI (S.2 (o + 1))
    exact g_less (by omega) (by omega) (lc_54 hs ho hS9 hSh s1 s2 h1 h2 (fun e9 => kont M2 s2 hP e9))
  | 55, _ =>
    refine g_tableIn (pc := 44) (tgt := 2655) (off := 2611) dL_law_44 (by decide) (by decide) (by decide) (by decide) ?_
    obtain ⟨a9, b, M1, M2, h1, h2, s1, s2, hq, hP⟩ := sm_undo (l := l) hI 
    exact g_less (by omega) (by omega) (lc_55 hs ho hS9 hSh s1 s2 h1 h2 (fun e9 => kont M2 s2 hP e9))
  | 56, _ =>
    refine g_tableIn (pc := 44) (tgt := 2668) (off := 2624) dL_law_44 (by decide) (by decide) (by decide) (by decide) ?_
    obtain ⟨kk, b, M1, M2, h1, h2, s1, s2, ht, hq, hP⟩ := sm_saveSnapshot (l := l) hI (S.2 (o + 1))
    exact g_less (by omega) (by omega) (lc_56 hs ho hS9 hSh s1 s2 h1 h2 (fun e9 => kont M2 s2 hP e9))
  | 57, _ =>
    refine g_tableIn (pc := 44) (tgt := 2696) (off := 2652) dL_law_44 (by decide) (by decide) (by decide) (by decide) ?_
    obtain ⟨kk, b, M1, M2, h1, h2, s1, s2, ht, hq, hP⟩ := sm_restoreSnapshot (l := l) hI (S.2 (o + 1))
    exact g_less (by omega) (by omega) (lc_57 hs ho hS9 hSh s1 s2 h1 h2 (fun e9 => kont M2 s2 hP e9))
  | 58, _ =>
    refine g_tableOut (pc := 44) (tgt := 2724) dL_law_44 (by decide) (by decide) ?_
    exact g_less (by omega) (by omega) kend
  | 59, _ =>
    refine g_tableOut (pc := 44) (tgt := 2724) dL_law_44 (by decide) (by decide) ?_
    exact g_less (by omega) (by omega) kend
  | 60, _ =>
    refine g_tableOut (pc := 44) (tgt := 2724) dL_law_44 (by decide) (by decide) ?_
    exact g_less (by omega) (by omega) kend
  | 61, _ =>
    refine g_tableOut (pc := 44) (tgt := 2724) dL_law_44 (by decide) (by decide) ?_
    exact g_less (by omega) (by omega) kend
  | 62, _ =>
    refine g_tableOut (pc := 44) (tgt := 2724) dL_law_44 (by decide) (by decide) ?_
    exact g_less (by omega) (by omega) kend
  | 63, _ =>
    refine g_tableOut (pc := 44) (tgt := 2724) dL_law_44 (by decide) (by decide) ?_
    exact g_less (by omega) (by omega) kend
  | j + 64, hj => exact absurd hj (by omega)
theorem len5 {L o : Nat} (hL : L < 1073741824) (ho : o < 1073741824) : nI L - 5 < nI o ↔ L < o + 5 := by
  by_cases h : 5 ≤ L
  · rw [show nI L - 5 = nI (L - 5) from nI_sub' h, nI_ltI (by omega) (by omega)]
    omega
  · have h2 : ∀ L, L < 5 → nI L - 5 < 0 := by decide +kernel
    constructor
    · intro _
      omega
    · intro _
      exact Int32.lt_of_lt_of_le (h2 L (by omega)) (Int32.not_lt.mp (nI_pos (by omega)))
/-- no more calls: true -/
theorem law_out (hs : mS M = S) (hL : S.1 < 1073741824) (ho : o < 1073741824) (h : S.1 < o + 5) (hQ : Q (.inl (some (.int 1))) M) : Go l jL_law 14 538 601024 7293034 Q 28 (AL o) [] k n M := by
  refine g_iload (pc := 28) dL_law_28 rfl ?_
  refine g_aload_n (pc := 30) dL_law_30 rfl isA_0 ?_
  refine g_scriptLenS (pc := 31) dL_law_31 hs ?_
  refine g_iconst (pc := 32) (v := 5) dL_law_32 rfl ?_
  refine g_isub (pc := 33) dL_law_33 ?_
  refine g_icmp_gt (pc := 34) (tgt := 2730) dL_law_34 rfl (fun _ => ?_) (fun h34 => absurd (((len5 hL ho).mpr h)) h34)
  refine g_iconst (pc := 2730) (v := 1) dL_law_2730 rfl ?_
  refine g_ireturn (pc := 2731) dL_law_2731 rfl rfl ?_
  exact hQ
/-- one more call -/
theorem law_in (hs : mS M = S) (hL : S.1 < 1073741824) (ho : o < 1073741824) (h : o + 5 ≤ S.1) (kk : Go l jL_law 14 538 601024 7293034 Q 44 (AL o) [.int (S.2 o &&& 63)] k n M) : Go l jL_law 14 538 601024 7293034 Q 28 (AL o) [] k n M := by
  refine g_iload (pc := 28) dL_law_28 rfl ?_
  refine g_aload_n (pc := 30) dL_law_30 rfl isA_0 ?_
  refine g_scriptLenS (pc := 31) dL_law_31 hs ?_
  refine g_iconst (pc := 32) (v := 5) dL_law_32 rfl ?_
  refine g_isub (pc := 33) dL_law_33 ?_
  refine g_icmp_gt (pc := 34) (tgt := 2730) dL_law_34 rfl (fun h34 => absurd h34 ((fun q => by have := (len5 hL ho).mp q; omega))) (fun _ => ?_)
  refine g_aload_n (pc := 37) dL_law_37 rfl isA_0 ?_
  refine g_iload (pc := 38) dL_law_38 rfl ?_
  refine g_scriptLoadS (pc := 40) dL_law_40 rfl hs (by omega) (by omega) ?_
  refine g_bipush (pc := 41) (v := 63) dL_law_41 rfl ?_
  refine g_iand (pc := 43) dL_law_43 ?_
  exact kk
/-- on to the next call -/
theorem law_nx (kk : Go l jL_law 14 538 601024 7293034 Q 28 (AL (o + 5)) [] k n M) : Go l jL_law 14 538 601024 7293034 Q 2724 (AL o) [] k n M := by
  refine g_iinc (pc := 2724) (lv' := [(0, _), (1, _), (2, _), (3, _), (4, _), (5, _)]) dL_law_2724 rfl (nI_o5 _) (nl rfl) rfl ?_
  refine g_goto (pc := 2727) (tgt := 28) dL_law_2727 rfl ?_
  exact g_sub (lv' := AL (o + 5)) ⟨rfl, rfl, rfl, rfl, rfl, rfl, trivial⟩ kk
end
end
-- 61.start
section
/-! the law's start; p1: at most one call -/
section
variable {l : Launch} {Q : Res → Mem → Prop} {k n : Nat} {M : Mem} {S : Nat × (Nat → Int32)} {o L : Nat} {xs : Nat → Int32}
theorem law_made' {Y Z : Mem} (hx1 : mX Y = true) (e1 : (mK Y).length = 198) (hk0 : (mK (nK (M00 L xs) (.inr 6)))[0]? = some (.inr 6)) (c6 : EvR l jX6_init 3 90 197 4149 [.ref 0] (nK (M00 L xs) (.inr 6)) (.inl none) Y) (c7 : EvR l jX7_init 1 30 13 3466 [.ref 198] (nK Y (.inr 7)) (.inl none) Z) (e3 : (mK Z).length = 212) (hx3 : mX Z = true)
    (kk : Go l jL_law 14 538 601024 7293034 Q 28 (AL 0) [] 600810 7285377 (sX (nK (nK Z (kL 1)) (.inl (.double, 1))))) : Go l jL_law 14 538 601024 7293034 Q 0 [(0, .retAddr 0)] [] 601024 7293034 (M00 L xs) := by
  have hk1 : (mK (nK Y (.inr 7)))[198]? = some (.inr 7) := by
    have h9 := nK_new (M := Y) (k := .inr 7)
    rw [e1] at h9
    exact h9
  have e4 : (mK (nK Z (kL 1))).length = 213 := nK_n e3
  refine g_new (pc := 0) (nf := 15) (n := 7293019) (k := 601023) (ci := 6) (ty0 := tyX6) dL_law_0 rfl wd_115 wd_116 wd_95 inW6 tyX6_ok (new_df6 _) rfl rfl ?_
  rw [show (mK (M00 L xs)).length = 0 from rfl]
  refine g_dup (pc := 3) dL_law_3 rfl ?_
  refine g_invI_r (pc := 4) (As := []) dL_law_4 rfl (c6) rfl rfl hk0 rfl rfl lk_L_182 rfl (nb rfl) ⟨nb rfl, nb rfl⟩ rfl ?_
  refine g_astore_n (pc := 7) (lv' := [(0, _), (1, _)]) dL_law_7 trivial (nl rfl) rfl ?_
  refine g_new (pc := 8) (nf := 25) (n := 7288845) (k := 600825) (ci := 7) (ty0 := tyX7) dL_law_8 rfl wd_1206 wd_1207 wd_102 inW7 tyX7_ok (new_df7 _) rfl hx1 ?_
  rw [e1]
  refine g_dup (pc := 11) dL_law_11 rfl ?_
  refine g_invI_r (pc := 12) (As := []) dL_law_12 rfl (c7) rfl rfl hk1 rfl rfl lk_L_185 rfl (nb rfl) ⟨nb rfl, nb rfl⟩ rfl ?_
  refine g_astore_n (pc := 15) (lv' := [(0, _), (1, _), (2, _)]) dL_law_15 trivial (nl rfl) rfl ?_
  refine g_iconst (pc := 16) (v := 1) dL_law_16 rfl ?_
  refine g_newarray_long (pc := 17) (len := 1) (n := 7285378) (k := 600811) dL_law_17 wd_1292 rfl (by decide) hx3 ?_
  rw [e3]
  refine g_astore_n (pc := 19) (lv' := [(0, _), (1, _), (2, _), (3, _)]) dL_law_19 trivial (nl rfl) rfl ?_
  refine g_iconst (pc := 20) (v := 1) dL_law_20 rfl ?_
  refine g_newarray_double (pc := 21) (len := 1) (n := 7285377) (k := 600810) dL_law_21 wd_1784 rfl (by decide) hx3 ?_
  rw [e4]
  refine g_astore (pc := 23) (lv' := [(0, _), (1, _), (2, _), (3, _), (4, _)]) dL_law_23 trivial (nl rfl) rfl ?_
  refine g_iconst (pc := 25) (v := 0) dL_law_25 rfl ?_
  refine g_istore (pc := 26) (lv' := [(0, _), (1, _), (2, _), (3, _), (4, _), (5, _)]) dL_law_26 (nl rfl) rfl ?_
  refine g_sub (pc := 28) (lv' := AL 0) ⟨rfl, rfl, rfl, rfl, rfl, rfl, trivial⟩ ?_
  exact g_sX kk
theorem X7M_K (M : Mem) (m : Nat) : mK (X7M M m) = mK (R0M M m) := rfl
theorem X7M_X (M : Mem) (m : Nat) : mX (X7M M m) = mX (R0M M m) := rfl
theorem law_made (kk : ∀ M, Frs M → mS M = (L, xs) → Go l jL_law 14 538 601024 7293034 Q 28 (AL 0) [] 600810 7285377 M) : Go l jL_law 14 538 601024 7293034 Q 0 [(0, .retAddr 0)] [] 601024 7293034 (M00 L xs) := by
  have hk0 : (mK (nK (M00 L xs) (.inr 6)))[0]? = some (.inr 6) := nK_new (M := M00 L xs)
  have e1 : (mK (X6M (nK (M00 L xs) (.inr 6)) 0)).length = 198 := (bOk_len (madeX L xs)).trans lenX6
  have hx1 := (madeX L xs).1
  have hk1 : (mK (nK (X6M (nK (M00 L xs) (.inr 6)) 0) (.inr 7)))[198]? = some (.inr 7) := by
    have h9 := nK_new (M := X6M (nK (M00 L xs) (.inr 6)) 0) (k := .inr 7)
    rw [e1] at h9
    exact h9
  have hF := (M0_f L xs).1
  have hS := (M0_f L xs).2
  have e3 : (mK (X7M (nK (X6M (nK (M00 L xs) (.inr 6)) 0) (.inr 7)) 198)).length = 212 := (congrArg List.length (X7M_K _ _)).trans ((bOk_len (made L xs)).trans BMd_N)
  have hx3 : mX (X7M (nK (X6M (nK (M00 L xs) (.inr 6)) 0) (.inr 7)) 198) = true := (X7M_X _ _).trans (made L xs).1
  rw [M0.eq_1] at hF hS
  have c6 := j_X6 (l := l) (M := nK (M00 L xs) (.inr 6)) (m := 0) rfl hk0
  have c7 := j_X7 (l := l) (M := nK (X6M (nK (M00 L xs) (.inr 6)) 0) (.inr 7)) (m := 198) (nK_x hx1) hk1
  generalize X7M (nK (X6M (nK (M00 L xs) (.inr 6)) 0) (.inr 7)) 198 = Z at *
  generalize X6M (nK (M00 L xs) (.inr 6)) 0 = Y at *
  exact law_made' hx1 e1 hk0 c6 c7 e3 hx3 (kk _ hF hS)
end
end
-- 62.go
section
/-! from a new desk, call by call -/
section
variable {l : Launch} {Q : Res → Mem → Prop} {M : Mem} {S : Nat × (Nat → Int32)} {L : Nat} {xs : Nat → Int32}
theorem fr_v (h : Frs M) {i j : Nat} {v : Int32} (hd : lkI FI i j = v) : mI M i j = v := by
  rw [h.2.1]
  exact hd
theorem fK_ok : ∀ q, q < 2 → ∀ s, s < 6 → FI.all (fun z => !Nat.beq z.1 (145 + 14 * q + 2 + 2 * s)) = true := by decide +kernel
theorem frs_IV (h : Frs M) : IV M 8 0 0 := by
  have hL : mL M 199 = bgF (fun _ => 0) 8 := fq_L (fq_0 h (Cf.rf M))
  have z : ∀ i, 2 ≤ i → mL M 199 i = 0 := fun i hi => by
    rw [hL]
    exact bg_ge hi
  refine ⟨h.1, ⟨⟨by decide, by decide, f_z h, by rw [hL]; decide +kernel⟩, ⟨4, by decide, by decide, f_bl h, by rw [hL]; decide +kernel⟩, ⟨0, fr_v h (by decide +kernel), z 2 (by decide)⟩, ⟨0, fr_v h (by decide +kernel), z 3 (by decide)⟩, fun s hs => ?_⟩, ⟨fr_v h (by decide +kernel), by decide, fr_v h (by decide +kernel), by decide, fr_v h (by decide +kernel), fun i hi => absurd hi (Nat.not_lt_zero i)⟩, fun q hq => ?_, fun s hs h1 => ?_, ⟨⟨0, by decide, fr_v h (by decide +kernel), fr_v h (by decide +kernel), fun i hi => absurd hi (Nat.not_lt_zero i)⟩, ?_, ?_⟩, fr_v h (by decide +kernel), fq_bs (fq_0 h (Cf.rf M)), ⟨0, by decide, fr_v h (by decide +kernel)⟩, 0, by decide, fr_v h (by decide +kernel)⟩
  · unfold SS
    rw [show 3 + 2 + 2 * s = 5 + 2 * s by omega, show 3 + 3 + 2 * s = 6 + 2 * s by omega, f_mx h hs, f_rows h hs, z _ (by omega), z _ (by omega), z _ (by omega), z _ (by omega)]
    refine ⟨⟨false, rfl, rfl⟩, rfl, rfl, rfl, fun r _ => ?_, fun r _ c _ => hb_0 c⟩
    rw [z _ (by omega)]
    exact uL_0.symm
  · refine ⟨fun s hs => ?_, Or.inl ⟨?_, ?_⟩⟩
    · rw [f_0 h (fK_ok q hq s hs)]
      exact Or.inl rfl
    · rw [f_0 h (i := 173) (by decide +kernel)]
    · rw [f_0 h (i := 203) (by decide +kernel)]
  · rw [f_cl0 h hs] at h1
    exact absurd rfl h1
  · rw [fr_v h (i := 198) (j := 14) (v := 0) (by decide +kernel), fr_v h (i := 1) (j := 5) (v := 0) (by decide +kernel)]
  · rw [fr_v h (i := 198) (j := 15) (v := -1) (by decide +kernel), fr_v h (i := 1) (j := 5) (v := 0) (by decide +kernel), if_pos rfl]
theorem law_loop (hL : S.1 < 1073741824) (hQ : ∀ M, Q (.inl (some (.int 1))) M) : ∀ (d o : Nat) (M : Mem), Inv M → Shp M → mS M = S → o + 5 * (d + 1) < 1073741824 → S.1 < o + 5 * (d + 1) → Go l jL_law 14 538 601024 7293034 Q 28 (AL o) [] (4 * d) (24 * d) M
  | 0, o, M, _, _, hs, ho, h => law_out hs hL (by omega) (by omega) (hQ _)
  | d + 1, o, M, hI, hSh, hs, ho, h => by
    by_cases h5 : o + 5 ≤ S.1
    · refine law_in hs hL (by omega) h5 ?_
      exact law_step (k := 4 * d) (n := 24 * d) hI hSh hs h5 (by omega) (fun M2 h1 hI2 h2 => law_nx (law_loop hL hQ d (o + 5) M2 hI2 h1 h2 (by omega) (by omega))) (law_nx (law_loop hL hQ d (o + 5) M hI hSh hs (by omega) (by omega)))
    · exact law_out hs hL (by omega) (by omega) (hQ _)
theorem law_go (hL : L ≤ 2560) (hQ : ∀ M, Q (.inl (some (.int 1))) M) : Go l jL_law 14 538 601024 7293034 Q 0 [(0, .retAddr 0)] [] 601024 7293034 (M00 L xs) := by
  refine law_made fun M hF hS => ?_
  have hL2 : ((L, xs) : Nat × (Nat → Int32)).1 ≤ 2560 := hL
  generalize ((L, xs) : Nat × (Nat → Int32)) = S at *
  refine g_less (k' := 4 * 512) (n' := 24 * 512) (Nat.le_of_ble_eq_true rfl) (Nat.le_of_ble_eq_true rfl) ?_
  exact law_loop (S := S) (by omega) hQ 512 0 M ⟨8, 0, 0, frs_IV hF⟩ hF.1 hS (by omega) (by omega)
end
end
