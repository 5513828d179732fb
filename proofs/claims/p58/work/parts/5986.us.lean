/-! calls that change, from the invariant to the invariant (5986) -/
section
variable {l : Launch} {M : Mem} {n p c : Nat}
theorem SR_set {X : Mem} {u : Nat → Int64} {s r : Nat} {y : Int32} (hs : s < 6) (hr : r < n) (hn : n ≤ 32) (h : SR X 3 u n) (hy : ∀ c, n ≤ c → hb y c = false) : SR (sI X (6 + 2 * s) (fun_set (mI X (6 + 2 * s)) r y)) 3 (fun_set u (28 + 32 * s + r) (uL y)) n := by
  obtain ⟨-, -, -, -, c6, c7⟩ := h.2.2.2.2 s hs
  rw [show 3 + 3 + 2 * s = 6 + 2 * s by omega] at c6 c7
  have hw : wfr n (fun_set (mI X (6 + 2 * s)) r y) := fun x hx c hc => by
    unfold fun_set
    split
    · exact hy c hc
    · exact c7 x hx c hc
  refine SR_cg (SR_row hs h (fun _ _ => rfl) hw) (fun _ _ _ => rfl) (fun i hi => ?_)
  rw [fsu_at, ly_at]
  by_cases e : 28 + 32 * s ≤ i ∧ i < 28 + 32 * s + n
  · rw [if_pos e]
    by_cases e2 : i = 28 + 32 * s + r
    · rw [if_pos e2, e2, show 28 + 32 * s + r - (28 + 32 * s) = r by omega, fs_self]
    · rw [if_neg e2, fs_ne _ _ (by omega)]
      have := c6 (i - (28 + 32 * s)) (by omega)
      rw [show 28 + 32 * s + (i - (28 + 32 * s)) = i by omega] at this
      exact this
  · rw [if_neg e, if_neg (by omega)]
theorem low_z {x : Int64} (hn : n ≤ 32) : ∀ c, n ≤ c → hb (x.toInt32 &&& lowM n) c = false := fun c hc => by
  rw [hb_and, hb_lowM hn, decide_eq_false (by omega), Bool.and_false]
theorem anS_9 {N : Mem} {s i : Nat} {x : Int32} {y : Int64} : mL (anM (pL N 199 i y) s x) 199 = anU (fun_set (mL N 199) i y) s x := by
  rw [anM_U, pL_0]
theorem sm_setRow (h : IV M n p c) (x1 : Int32) (x2 : Int32) (x3 : Int64) : SmI True l jL_setRow jX7_setRow 9 176 2 12 4 [.ref 0, .int x1, .int x2, .long x3, .ref 212] [.ref 198, .int x1, .int x2, .long x3] M Inv := by
  have hS := h.S
  have hz := h.z
  have hn := h.n32
  have hn1 := h.n1
  have hc8 := h.2.2.1.2.2.2.1
  by_cases hr : inR x1 6 ∧ inR x2 n
  · obtain ⟨s, hs, rfl⟩ := inR_of hr.1 (by decide)
    obtain ⟨r, hr2, rfl⟩ := inR_of hr.2 (by omega)
    have hp := h.2.2.1.2.1
    have hu := u_setRow (l := l) (x := x3) h.D hs hr2
    have e6 : mI (remM M p c) (6 + 2 * s) = mI M (6 + 2 * s) := rem_m (by omega) (by omega) hp
    have hcu : Cu (remM M p c) (swM M s r n p c x3) := by
      unfold swM
      exact cu_noteM hs (cu_sI (by omega) (Cu.rf _))
    have hcf : Cf M (swM M s r n p c x3) := (cf_remM hp).tr hcu.1
    have hN : mL (pL (swM M s r n p c x3) 212 0 (swV M s r n x3).toInt64) 199 = mL M 199 := by rw [sL_ne9 (by decide), hcf.L]
    have n9 := n_setRow (l := l) (x := x3) (iv_A (v := (swV M s r n x3).toInt64) h hcf) (iv_c5 h hcf _) hc8 hs hr2
    have hRu : Ru (k0M (pL (swM M s r n p c x3) 212 0 (swV M s r n x3).toInt64) c) (anM (srM (k0M (pL (swM M s r n p c x3) 212 0 (swV M s r n x3).toInt64) c) s r (x3.toInt32 &&& lowM n)) s (nI n)) := by
      unfold srM
      exact ru_anM (ru_sL (Ru.rf _))
    have hI : ∀ i, i < 198 → mI (anM (srM (k0M (pL (swM M s r n p c x3) 212 0 (swV M s r n x3).toInt64) c) s r (x3.toInt32 &&& lowM n)) s (nI n)) i = mI (swM M s r n p c x3) i := fun i hi => by
      rw [hRu.1.I hi, (rf_k0M (c := c) (Rf.rf _)).I hi]
    refine uI (hcf.S hS) (w_setRow hu (shK hS rfl) (shK (hcf.S hS) rfl)) n9 (fun _ => ?_) (rf_anM (rf_srM (rf_k0M (Rf.rf _)))) (t6_anM (t6_srM t6_k0M)) ⟨n, _, _, iv_u h hcu hRu ?_ ?_ ?_⟩
    · unfold swV
      rw [Int32.xor_comm]
    · have e9 : mL (anM (srM (k0M (pL (swM M s r n p c x3) 212 0 (swV M s r n x3).toInt64) c) s r (x3.toInt32 &&& lowM n)) s (nI n)) 199 = anU (fun_set (mL M 199) (28 + 32 * s + r) (uL (x3.toInt32 &&& lowM n))) s (nI n) := by
        unfold srM
        rw [anS_9, k0_L (by decide), hN]
      rw [e9]
      refine SR_cg (M := swM M s r n p c x3) ?_ (fun i h1 h2 => hI i (by omega)) (fun _ _ => rfl)
      unfold swM noteM
      rw [← e6]
      exact SR_an hs (SR_175 (by omega) (SR_set hs hr2 hn (sr_X h (fun _ _ _ => rfl) rfl) (low_z hn)))
    · intro t ht h1 r9 hr9
      rw [hI _ (by omega)] at h1
      rw [hI _ (by omega), hI _ (by omega)]
      refine (?_ : IC (swM M s r n p c x3) n) t ht h1 r9 hr9
      unfold swM
      exact ic_row hs (ic_X h (fun _ _ _ => rfl))
    · rw [hI _ (by omega)]
      unfold swM
      rw [noteM_ne (by omega) (by omega), sI_ne (by omega)]
      exact X188 h rfl
  · exact xI h (by decide) (wx_setRow (x_setRow hS hz hr) (shK hS rfl)) (t_setRow h.R hr)

end
