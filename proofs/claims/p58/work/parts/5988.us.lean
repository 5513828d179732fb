/-! calls that change, from the invariant to the invariant (5988) -/
section
variable {l : Launch} {M : Mem} {n p c : Nat}
theorem uU {E : Prop} {J J7 : Jm} {F L mc ms F7 : Nat} {As As7 : List Value} {M1 : Mem} {w w' : Int32} (h : IV M n p c) (G : Mem → Mem) (hX : Cu (remM M p c) M1) (h1 : Shp M1 → EvR l J F L mc ms As M (.inl (some (.int 0))) (pL M1 212 0 w.toInt64)) (h2 : ∀ v : Int64, Rr (pL M1 212 0 v) n (Am M) → mI (pL M1 212 0 v) 198 5 = nI c → EvR l J7 F7 160 0 0 As7 (pL M1 212 0 v) (.inl (some (.int w'))) (G (pL M1 212 0 v))) (he : E → w' = w) (hG : ∀ N, Ru (k0M N c) (G N)) (h6 : ∀ N, t6 (G N)) (hs : ∀ N, mL N 199 = mL M 199 → SR M1 3 (mL (G N) 199) n) (hC : IC M1 n) (h188 : mI M1 188 0 = 0) : SmI E l J J7 F L mc ms F7 As As7 M Inv := by
  have hcf : Cf M M1 := (cf_remM h.2.2.1.2.1).tr hX.1
  have hN : ∀ v : Int64, mL (pL M1 212 0 v) 199 = mL M 199 := fun v => by rw [sL_ne9 (by decide), hcf.L]
  have hI : ∀ v : Int64, ∀ i, i < 198 → mI (G (pL M1 212 0 v)) i = mI M1 i := fun v i hi => by
    rw [(hG _).1.I hi, (rf_k0M (c := c) (Rf.rf _)).I hi]
  refine uI (hcf.S h.S) (h1 (hcf.S h.S)) (h2 _ (iv_A h hcf) (iv_c5 h hcf _)) he ((rf_k0M (Rf.rf _)).tr (hG _).1) (h6 _) ⟨n, _, _, iv_u h hX (hG _) (SR_cg (hs _ (hN _)) (fun i a b => hI _ i (by omega)) (fun _ _ => rfl)) ?_ ?_⟩
  · intro t ht a r hr
    rw [hI _ _ (by omega)] at a
    rw [hI _ _ (by omega), hI _ _ (by omega)]
    exact hC t ht a r hr
  · rw [hI _ _ (by omega)]
    exact h188
theorem pt_X (h : IV M n p c) {s r k : Nat} {b : Bool} (hs : s < 6) (hr : r < n) (hk : k < n) (hb0 : hb (Am M s r) k ≠ b) : ∃ g', ptM (remM M p c) s r k n (b1 b) = sI (ptF (remM M p c) s r k n) (175 + 2 * s + 1) g' ∧ (∀ i, i < n → g' i = wOut (tnF (Am M s) r k) n n i) ∧ ptV (remM M p c) s r k n (b1 b) = dfF (wOut (tnF (Am M s) r k) n n) (wOut (Am M s) n n) n := by
  have hp := h.2.2.1.2.1
  have hn := h.n32
  obtain ⟨k1, k2, k3⟩ := clR h hs
  have e6 : mI (remM M p c) (6 + 2 * s) = Am M s := rem_m (by omega) (by omega) hp
  have hw := h.wf hs
  have f1 : mI (ptF (remM M p c) s r k n) (175 + 2 * s + 1) = mI (clOf (remM M p c) s n) (175 + 2 * s + 1) := by
    unfold ptF
    rw [sI_ne (by omega), mxLook_ne (by omega)]
  have f2 : mI (ptF (remM M p c) s r k n) (6 + 2 * s) = tnF (Am M s) r k := by
    unfold ptF
    rw [sI_self, e6]
    rfl
  have hne : ¬ b1 (hb (mI (remM M p c) (6 + 2 * s) r) k) = b1 b := by
    rw [e6, b1_eq]
    exact hb0
  unfold ptM ptV
  rw [if_neg hne, if_neg hne, f1, f2]
  unfold ptN
  generalize ptF (remM M p c) s r k n = F at *
  generalize mI (clOf (remM M p c) s n) (175 + 2 * s + 1) = g at *
  cases b with
  | false =>
    have h1 : hb (Am M s r) k = true := Bool.not_eq_false _ ▸ hb0
    rw [if_pos (show b1 false = 0 from rfl), if_pos (show b1 false = 0 from rfl)]
    exact ⟨_, rfl, fun i hi => put_0 hw k1 hr hk hn h1 hi, by rw [loss_F, loss_ok hw k1 hr hk hn h1 n (Nat.le_refl n)]⟩
  | true =>
    have h0 : hb (Am M s r) k = false := Bool.not_eq_true _ ▸ hb0
    rw [if_neg (show ¬ b1 true = 0 by decide), if_neg (show ¬ b1 true = 0 by decide)]
    exact ⟨_, rfl, fun i hi => put_1 hw k1 hr hk hn h0 hi, gain_ok hw k1 hr hk hn h0⟩
theorem pf_X (h : IV M n p c) {s r k : Nat} {g' : Nat → Int32} (hs : s < 6) (hr : r < n) (hk : k < n) (hg : ∀ i, i < n → g' i = wOut (tnF (Am M s) r k) n n i) : Cu (remM M p c) (sI (ptF (remM M p c) s r k n) (175 + 2 * s + 1) g') ∧ SR (sI (ptF (remM M p c) s r k n) (175 + 2 * s + 1) g') 3 (fun_set (lkU (mL M 199) s (prR (wOut (Am M s) n n) r n)) (28 + 32 * s + r) (uL (Am M s r ^^^ bitI k))) n ∧ IC (sI (ptF (remM M p c) s r k n) (175 + 2 * s + 1) g') n ∧ mI (sI (ptF (remM M p c) s r k n) (175 + 2 * s + 1) g') 188 0 = 0 := by
  have hp := h.2.2.1.2.1
  have hn := h.n32
  obtain ⟨k1, k2, k3⟩ := clR h hs
  have e6 : mI (remM M p c) (6 + 2 * s) = Am M s := rem_m (by omega) (by omega) hp
  have hw := h.wf hs
  have hN : bcJ (ptN (remM M p c) s r n) = prR (wOut (Am M s) n n) r n := by
    unfold ptN
    rw [nd_n hr hn, prR_cg n k1]
  have h188 : mI (clOf (remM M p c) s n) 188 0 = 0 := by
    rw [cl_ne (by omega) (by omega)]
    exact X188 h rfl
  have hSR : SR (clOf (remM M p c) s n) 3 (mL M 199) n := sr_X h (fun i a b => cl_ne (by omega) (by omega)) rfl
  have e7 : mI (clOf (remM M p c) s n) (6 + 2 * s) = Am M s := by rw [cl_ne (by omega) (by omega), e6]
  unfold ptF
  rw [hN, e6]
  generalize clOf (remM M p c) s n = C at *
  have hL := SR_lk (x := prR (wOut (Am M s) n n) r n) hs hSR
  have hIC : ∀ t, t < 6 → t ≠ s → mI (mxLook C (5 + 2 * s) (prR (wOut (Am M s) n n) r n)) (175 + 2 * t) = mI C (175 + 2 * t) ∧ mI (mxLook C (5 + 2 * s) (prR (wOut (Am M s) n n) r n)) (176 + 2 * t) = mI C (176 + 2 * t) ∧ mI (mxLook C (5 + 2 * s) (prR (wOut (Am M s) n n) r n)) (6 + 2 * t) = mI C (6 + 2 * t) := fun t ht _ => ⟨mxLook_ne (by omega), mxLook_ne (by omega), mxLook_ne (by omega)⟩
  have e8 : mI (mxLook C (5 + 2 * s) (prR (wOut (Am M s) n n) r n)) (6 + 2 * s) = Am M s := by rw [mxLook_ne (by omega), e7]
  have e9 : mI (mxLook C (5 + 2 * s) (prR (wOut (Am M s) n n) r n)) 188 0 = 0 := by rw [mxLook_ne (by omega), h188]
  have hcu := cu_mxLook (x := prR (wOut (Am M s) n n) r n) hs k3
  generalize mxLook C (5 + 2 * s) (prR (wOut (Am M s) n n) r n) = D at *
  have hSet := SR_set (y := Am M s r ^^^ bitI k) hs hr hn hL (fun c hc => by
    rw [hb_xor, hw r hr c hc, hb_bitI (by omega), decide_eq_false (by omega)]
    rfl)
  rw [e8] at hSet
  refine ⟨cu_sI (by omega) (cu_sI (by omega) hcu), SR_cg hSet (fun i a b => sI_ne (by omega)) (fun _ _ => rfl), fun t ht h1 r9 hr9 => ?_, ?_⟩
  · by_cases e : t = s
    · subst e
      rw [show 176 + 2 * t = 175 + 2 * t + 1 by omega, sI_self, sI_ne (by omega), sI_self]
      exact hg r9 hr9
    · obtain ⟨i1, i2, i3⟩ := hIC t ht e
      rw [sI_ne (by omega), sI_ne (by omega), i1] at h1
      rw [sI_ne (by omega), sI_ne (by omega), sI_ne (by omega), sI_ne (by omega), i2, i3]
      exact k2 t ht h1 r9 hr9
  · rw [sI_ne (by omega), sI_ne (by omega)]
    exact e9
theorem sm_put (h : IV M n p c) (x1 : Int32) (x2 : Int32) (x3 : Int32) (x4 : Bool) : SmI True l jL_put jX7_put 10 187 3 18 4 [.ref 0, .int x1, .int x2, .int x3, .int (b1 x4), .ref 212] [.ref 198, .int x1, .int x2, .int x3, .int (b1 x4)] M Inv := by
  have hS := h.S
  have hz := h.z
  have hn := h.n32
  have hn1 := h.n1
  have hc8 := h.2.2.1.2.2.2.1
  by_cases hr : inR x1 6 ∧ inR x2 n ∧ inR x3 n
  · obtain ⟨s, hs, rfl⟩ := inR_of hr.1 (by decide)
    obtain ⟨a, ha, rfl⟩ := inR_of hr.2.1 (by omega)
    obtain ⟨b, hb9, rfl⟩ := inR_of hr.2.2 (by omega)
    have hu := u_put (l := l) (f := b1 x4) h.D hs ha hb9 (k01_b x4)
    have e6 : mI (remM M p c) (6 + 2 * s) = Am M s := rem_m (by omega) (by omega) h.2.2.1.2.1
    by_cases q : hb (Am M s a) b = x4
    · have hne : b1 (hb (mI (remM M p c) (6 + 2 * s) a) b) = b1 x4 := by rw [e6, q]
      unfold ptV ptM at hu
      rw [if_pos hne, if_pos hne] at hu
      refine uU h (fun N => lkM (k0M N c) s 0) (cu_mxLook hs (Cu.rf _)) (fun hS9 => w_put hu (shK hS rfl) (shK hS9 rfl)) (fun v a9 b9 => o_put a9 b9 hc8 hs ha hb9 q) (fun _ => rfl) (fun N => ru_lkM (Ru.rf _)) (fun N => t6_lkM t6_k0M) (fun N hN => ?_) (ic_lk hs (ic_X h (fun _ _ _ => rfl))) ?_
      · rw [lkM_U, k0_L (by decide), hN]
        exact SR_lk hs (sr_X h (fun _ _ _ => rfl) rfl)
      · rw [mxLook_ne (by omega)]
        exact X188 h rfl
    · obtain ⟨g', e1, e2, e3⟩ := pt_X h hs ha hb9 q
      rw [e1, e3] at hu
      obtain ⟨c1, c2, c3, c4⟩ := pf_X h hs ha hb9 e2
      refine uU h (fun N => rpM N n s a b (Am M s) c) c1 (fun hS9 => w_put hu (shK hS rfl) (shK hS9 rfl)) (fun v a9 b9 => n_put a9 b9 hc8 hs ha hb9 q) (fun _ => rfl) (fun N => ?_) (fun N => t6_rpM) (fun N hN => ?_) c3 c4
      · unfold rpM rpM1 srM
        exact ru_hdM (Or.inl rfl) (ru_sL (ru_lkM (ru_hdM (Or.inr (Or.inl rfl)) (ru_hdM (Or.inl rfl) (Ru.rf _)))))
      · have e9 : mL (rpM N n s a b (Am M s) c) 199 = fun_set (lkU (mL M 199) s (prR (wOut (Am M s) n n) a n)) (28 + 32 * s + a) (uL (Am M s a ^^^ bitI b)) := by
          unfold rpM rpM1 srM
          rw [hdM_ne (by decide), pL_0, lkM_U, hdM_ne (by decide), hdM_ne (by decide), k0_L (by decide), hN]
        rw [e9]
        exact c2
  · exact xI h (by decide) (wx_put (x_put hS hz hr) (shK hS rfl)) (t_put h.R hr)

end
