section
variable {l : Launch} {M : Mem} {n len : Nat} {s : RP}
theorem mxEmpty_1 {m : Nat} : mI (mxEmpty M m) m 1 = 0 := by
  unfold mxEmpty
  rw [pI_k (by decide), pI_k (by decide), pI_k (by decide), pI_self]
theorem mxEmpty_ne {m i : Nat} (h : i ≠ m) (h2 : i ≠ m + 1) : mI (mxEmpty M m) i = mI M i := by
  unfold mxEmpty
  rw [pI_i h, pI_i h, pI_i h, pI_i h, sI_ne h2]
theorem stEmptyL_k {b : Nat} : ∀ k, ∀ s, s < k → mI (stEmptyL M b k) (b + 2 + 2 * s) 1 = 0
  | 0, s, h => by omega
  | k + 1, s, h => by
    rw [stEmptyL]
    by_cases h1 : s = k
    · rw [h1]; exact mxEmpty_1
    · rw [mxEmpty_ne (by omega) (by omega)]; exact stEmptyL_k k s (by omega)
theorem stEmpty_k {b : Nat} {x : Int32} : keptOk (stEmpty M b x) b := fun s hs => by
  unfold stEmpty
  rw [pI_i (by omega), pI_i (by omega), pI_i (by omega), pI_i (by omega)]
  exact Or.inl (stEmptyL_k 6 s hs)
theorem mxLook_1 {m i : Nat} {x : Int32} : mI (mxLook M m x) i 1 = mI M i 1 := by
  unfold mxLook
  split
  · rfl
  · by_cases h : i = m
    · subst h; rw [pI_k (by decide), pI_k (by decide)]
    · rw [pI_i h, pI_i h]
theorem mxAnew_1 {m i : Nat} {x : Int32} : mI (mxAnew M m x) i 1 = mI M i 1 := by
  unfold mxAnew
  split
  · rfl
  · by_cases h : i = m
    · subst h; rw [pI_k (by decide), mxLook_1]
    · rw [pI_i h, mxLook_1]
theorem anL_1 {x : Int32} {i : Nat} : ∀ k, mI (anL M x k) i 1 = mI M i 1
  | 0 => by rw [anL]
  | k + 1 => by rw [anL, mxAnew_1, anL_1 k]
theorem kept_sI {a : Nat} {f : Nat → Int32} (h : keptOk M 17) : keptOk (sI M (20 + 2 * a) f) 17 := fun s hs => by
  rw [sI_ne (by omega)]; exact h s hs
theorem kept_pI {a : Nat} (h : keptOk M 17) : keptOk (pI M (19 + 2 * a) 1 1) 17 := fun s hs => by
  by_cases e : s = a
  · subst e
    rw [show 17 + 2 + 2 * s = 19 + 2 * s by omega, pI_self]
    exact Or.inr rfl
  · rw [pI_i (by omega)]; exact h s hs
theorem rsR_k {n : Nat} (h : keptOk M 17) : keptOk (rsR M len n s).1 17 := by
  have k1 : keptOk (edM M len n (twd (mI M 2) len s)) 17 := by unfold edM; exact kept_sI h
  have k2 : keptOk (rrM M len n (twd (mI M 2) len s)) 17 := by unfold rrM; exact kept_sI h
  have k3 : keptOk (rfM M len n (twd (mI M 2) len s)) 17 := by unfold rfM; exact kept_sI h
  have k8 : keptOk (rkM M len (twd (mI M 2) len s)) 17 := by unfold rkM; exact kept_pI h
  have k9 : keptOk (pI M 17 2 (tnv (mI M 2) len 1 8 (twd (mI M 2) len s))) 17 := fun s hs => by rw [pI_i (by omega)]; exact h s hs
  unfold rsR
  generalize twd (mI M 2) len s = s1 at *
  generalize skipP (mI M 2) len s.1 = b at *
  generalize wdQ (mI M 2) b s1.1 (strW 1) = c1
  generalize wdQ (mI M 2) b s1.1 (strW 2) = c2
  generalize wdQ (mI M 2) b s1.1 (strW 3) = c3
  generalize wdQ (mI M 2) b s1.1 (strW 8) = c8
  generalize wdQ (mI M 2) b s1.1 (strW 9) = c9
  generalize tnm (mI M 2) len 1 8 s1 = e9 at *
  generalize pI M 17 2 (tnv (mI M 2) len 1 8 s1) = m9 at *
  generalize rFail 1 (nI b) s1 = e0 at *
  generalize edM M len n s1 = m1 at *
  generalize edS (mI M 2) len n s1 = e1 at *
  generalize rrM M len n s1 = m2 at *
  generalize rrS (mI M 2) len n s1 = e2 at *
  generalize rfM M len n s1 = m3 at *
  generalize rfS (mI M 2) len n s1 = e3 at *
  generalize rkM M len s1 = m8 at *
  generalize rkS M len s1 = e8 at *
  cases c1 with
  | true => exact k1
  | false =>
  cases c2 with
  | true => exact k2
  | false =>
  cases c3 with
  | true => exact k3
  | false =>
  cases c8 with
  | true => exact k8
  | false =>
  cases c9 with
  | true => exact k9
  | false => exact h
theorem rsL_k {n : Nat} : ∀ (d : Nat) (M : Mem) (s : RP), keptOk M 17 → keptOk (rsL len n d M s).1 17
  | 0, M, s, h => by rw [rsL.eq_1]; exact h
  | d + 1, M, s, h => by
    rw [rsL.eq_2]
    have h3 := rsR_k (n := n) (len := len) (s := tsc (mI M 2) len (skp (mI M 2) len s)) h
    generalize tsc (mI M 2) len (skp (mI M 2) len s) = s2 at *
    generalize skp (mI M 2) len s = s1 at *
    generalize rsR M len n s2 = r at *
    split
    · split
      · exact rsL_k d r.1 r.2 h3
      · exact rsL_k d M s2 h
    · exact h
theorem riM_k : keptOk (riM M len) 17 := fun s hs => by
  unfold riM
  rw [pI_i (by omega), rd_ne (by omega), anL_1]
  unfold riR
  exact rsL_k len _ _ stEmpty_k s hs
theorem riR_ok (hS : Shp M) : (Shp (riR M len).1 ∧ (∀ i, i < 17 ∨ 31 ≤ i → mI (riR M len).1 i = mI M i)) ∧ mI (riR M len).1 17 1 = nI (riN M len) := by
  unfold riR
  have z2 : (rzS (mI M 2) len (0, mI M 1 3, 0, 0, 0)).1 ≤ len := by unfold rzS; exact tnm_le (rzS0_le (Nat.zero_le _))
  obtain ⟨⟨a1, a2, a3⟩, a4⟩ := rsL_ok (n := riN M len) len (stEmpty M 17 (nI (riN M len))) _ (stEmpty_S hS 17 _) z2
  exact ⟨⟨a1, fun i h => (a2 i h).trans (stEmpty_ne (by omega))⟩, a3.trans stEmpty_n⟩
theorem riM_S (hS : Shp M) : Shp (riM M len) := by
  unfold riM
  exact shp_pI (rd_S (anL_S (riR_ok hS).1.1 _ 6))
theorem riM_n (hS : Shp M) : mI (riM M len) 17 1 = nI (riN M len) := by
  unfold riM
  rw [pI_i (by decide), rd_ne (by decide), anL_ne (by decide) 6 (Nat.le_refl _)]
  exact (riR_ok hS).2
theorem riM_5 : mI (riM M len) 1 5 = (riR M len).2.2.2.2.1 := by
  unfold riM
  rw [pI_k (by decide)]
  exact rd_5
theorem riM_6 : mI (riM M len) 1 6 = (riR M len).2.2.2.2.2 := by
  unfold riM
  rw [pI_k (by decide)]
  exact rd_6
theorem u_load (hS : Shp M) (hl : mI M 1 1 = nI len) (hL : len ≤ 600) : EvR l jX6_load 9 260 0 0 [.ref 0] M (.inl (some (.int (if (riR M len).2.2.2.2.1 = 0 then nI (riN M len) else -100 - (riR M len).2.2.2.2.2)))) (if (riR M len).2.2.2.2.1 = 0 then pI (replM (riM M len) 17) 0 14 0 else riM M len) := by
  have q1 := r_readInto (l := l) hS hl hL
  have hS1 := riM_S (len := len) hS
  have h5 := riM_5 (M := M) (len := len)
  have h6 := riM_6 (M := M) (len := len)
  have hk := riM_k (M := M) (len := len)
  have hn1 := riM_n (len := len) hS
  generalize riN M len = n9 at *
  generalize riM M len = M1 at *
  generalize (riR M len).2.2.2.2.1 = e5 at *
  generalize (riR M len).2.2.2.2.2 = e6 at *
  have q2 := s_replaceState (l := l) hS1 st17 (by decide) hk
  have hS2 := replM_S hS1 17
  have e2 : mI (replM M1 17) 3 1 = nI n9 := replM_n.trans hn1
  generalize replM M1 17 = M2 at *
  have hS3 : Shp (pI M2 0 14 0) := shp_pI hS2
  have e3 : mI (pI M2 0 14 0) 3 1 = nI n9 := (congrFun (pI_i (by decide)) 1).trans e2
  refine ev_intro rfl (nb rfl) rfl ?_
  refine g_aload_n (pc := 0) dX6_load_0 rfl trivial ?_
  refine g_getf (pc := 1) dX6_load_1 fk_X6_10 (shK hS rfl) (fv_obj (shR hS rfl)) ?_
  refine g_aload_n (pc := 4) dX6_load_4 rfl trivial ?_
  refine g_getf (pc := 5) dX6_load_5 fk_X6_23 (shK hS rfl) (fv_obj (shR hS rfl)) ?_
  refine g_invV_r (pc := 8) (As := [_]) dX6_load_8 rfl (q1) rfl rfl (shK hS rfl) rfl rfl lk_X6_72 rfl (nb rfl) ⟨nb rfl, nb rfl⟩ rfl ?_
  refine g_aload_n (pc := 11) dX6_load_11 rfl trivial ?_
  refine g_getf (pc := 12) dX6_load_12 fk_X6_10 (shK hS1 rfl) (fv_obj (shR hS1 rfl)) ?_
  refine g_getf (pc := 15) (v := .int _) dX6_load_15 fk_X6_76 (shK hS1 rfl) (fun _ => congrArg Value.int (h5)) ?_
  refine g_if_eq (pc := 18) (tgt := 32) dX6_load_18 rfl (fun h18 => ?_) (fun h18 => ?_)
  · rw [if_pos h18, if_pos h18]
    refine g_aload_n (pc := 32) dX6_load_32 rfl trivial ?_
    refine g_aload_n (pc := 33) dX6_load_33 rfl trivial ?_
    refine g_getf (pc := 34) dX6_load_34 fk_X6_23 (shK hS1 rfl) (fv_obj (shR hS1 rfl)) ?_
    refine g_invV_r (pc := 37) (As := [_]) dX6_load_37 rfl (q2) rfl rfl (shK hS1 rfl) rfl rfl lk_X6_83 rfl (nb rfl) ⟨nb rfl, nb rfl⟩ rfl ?_
    refine g_aload_n (pc := 40) dX6_load_40 rfl trivial ?_
    refine g_iconst (pc := 41) (v := 0) dX6_load_41 rfl ?_
    refine g_putI (pc := 42) dX6_load_42 fp_X6_86 (shK hS2 rfl) ⟨rfl, rfl⟩ (fun _ _ _ _ => rfl) ?_
    refine g_aload_n (pc := 45) dX6_load_45 rfl trivial ?_
    refine g_getf (pc := 46) dX6_load_46 fk_X6_19 (shK hS3 rfl) (fv_obj (shR hS3 rfl)) ?_
    refine g_getf (pc := 49) (v := .int _) dX6_load_49 fk_X6_89 (shK hS3 rfl) (fun _ => congrArg Value.int (e3)) ?_
    refine g_ireturn (pc := 52) dX6_load_52 rfl rfl ?_
    exact ⟨rfl, rfl⟩
  · rw [if_neg h18, if_neg h18]
    refine g_bipush (pc := 21) (v := (-100)) dX6_load_21 rfl ?_
    refine g_aload_n (pc := 23) dX6_load_23 rfl trivial ?_
    refine g_getf (pc := 24) dX6_load_24 fk_X6_10 (shK hS1 rfl) (fv_obj (shR hS1 rfl)) ?_
    refine g_getf (pc := 27) (v := .int _) dX6_load_27 fk_X6_80 (shK hS1 rfl) (fun _ => congrArg Value.int (h6)) ?_
    refine g_isub (pc := 30) dX6_load_30 ?_
    refine g_ireturn (pc := 31) dX6_load_31 rfl rfl ?_
    exact ⟨rfl, rfl⟩
end
