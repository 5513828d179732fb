section
variable {l : Launch} {M : Mem} {s : RP} {len : Nat}
theorem rd_start : pI (pI (pI (pI M 1 2 0) 1 4 0) 1 5 0) 1 6 0 = rdM M (0, mI M 1 3, 0, 0, 0) := by
  refine mem_extI rfl rfl rfl rfl rfl rfl (fun i => ?_)
  by_cases i1 : i = 1
  · subst i1; funext j; simp only [rdM, rdF, sI, mI, pI, fun_set, if_true]
    by_cases j2 : j = 2
    · subst j2; rfl
    · by_cases j3 : j = 3
      · subst j3; rfl
      · by_cases j4 : j = 4
        · subst j4; rfl
        · by_cases j5 : j = 5
          · subst j5; rfl
          · by_cases j6 : j = 6
            · subst j6; rfl
            · simp [j2, j3, j4, j5, j6]
  · simp [rdM, sI, mI, pI, fun_set, i1]
/-- statements one after another, d at most -/
def rsL (len n : Nat) : Nat → Mem → RP → Mem × RP
  | 0, M, s => (M, s)
  | d + 1, M, s =>
    if (decide (s.2.2.2.1 = 0) && decide (skipP (mI M 2) len s.1 < len)) = true then
      (if (tsc (mI M 2) len (skp (mI M 2) len s)).2.2.2.1 = 0 then rsL len n d (rsR M len n (tsc (mI M 2) len (skp (mI M 2) len s))).1 (rsR M len n (tsc (mI M 2) len (skp (mI M 2) len s))).2
      else rsL len n d M (tsc (mI M 2) len (skp (mI M 2) len s)))
    else (M, skp (mI M 2) len s)
termination_by d => d
theorem tsc_le {T : Nat → Int32} (hp : s.1 ≤ len) : (tsc T len s).1 ≤ len := by
  unfold tsc
  split
  · rename_i h; exact h.1
  · rw [(rFail_1 _ _ _).1]; exact hp
theorem skp_le {T : Nat → Int32} (hp : s.1 ≤ len) : (skp T len s).1 ≤ len := (skipP_le hp).2
theorem rsL_ok {n : Nat} : ∀ (d : Nat) (M : Mem) (s : RP), Shp M → s.1 ≤ len → (Shp (rsL len n d M s).1 ∧ (∀ i, i < 17 ∨ 31 ≤ i → mI (rsL len n d M s).1 i = mI M i) ∧ mI (rsL len n d M s).1 17 1 = mI M 17 1) ∧ (rsL len n d M s).2.1 ≤ len
  | 0, M, s, hS, hp => by rw [rsL.eq_1]; exact ⟨⟨hS, fun i h => rfl, rfl⟩, hp⟩
  | d + 1, M, s, hS, hp => by
    rw [rsL.eq_2]
    have h1 := skp_le (T := mI M 2) hp
    have h2 := tsc_le (T := mI M 2) h1
    have h3 := rsR_ok (n := n) hS h2
    generalize tsc (mI M 2) len (skp (mI M 2) len s) = s2 at *
    generalize skp (mI M 2) len s = s1 at *
    generalize rsR M len n s2 = r at *
    split
    · split
      · obtain ⟨⟨a1, a2, a3⟩, a4⟩ := rsL_ok d r.1 r.2 h3.1.1 h3.2
        exact ⟨⟨a1, fun i h => (a2 i h).trans (h3.1.2.1 i h), a3.trans h3.1.2.2⟩, a4⟩
      · exact rsL_ok d M s2 hS h2
    · exact ⟨⟨hS, fun i h => rfl, rfl⟩, h1⟩
/-- what is made is noted -/
def anL (M : Mem) (x : Int32) : Nat → Mem
  | 0 => M
  | k + 1 => mxAnew (anL M x k) (19 + 2 * k) x
termination_by k => k
theorem anL_S (hS : Shp M) (x : Int32) : ∀ k, Shp (anL M x k)
  | 0 => by rw [anL]; exact hS
  | k + 1 => by rw [anL]; exact (anL_S hS x k).anew
theorem anL_ne {x : Int32} {i : Nat} (h : i < 19 ∨ 31 ≤ i) : ∀ k, k ≤ 6 → mI (anL M x k) i = mI M i
  | 0, _ => by rw [anL]
  | k + 1, hk => by rw [anL, mxAnew_ne (by omega), anL_ne h k (by omega)]
theorem mxLook_rd {m : Nat} {x : Int32} (h : 1 < m) : mxLook (rdM M s) m x = rdM (mxLook M m x) s := by
  unfold mxLook
  rw [rd_ne (by omega), rd_pI (by omega), rd_ne (by omega), rd_pI (by omega)]
  split <;> rfl
theorem mxAnew_rd {m : Nat} {x : Int32} (h : 1 < m) : mxAnew (rdM M s) m x = rdM (mxAnew M m x) s := by
  unfold mxAnew
  rw [rd_ne (by omega), mxLook_rd h, rd_ne (by omega), rd_pI (by omega)]
  split <;> rfl
theorem stEmptyL_ne {b i : Nat} : ∀ (k : Nat), k ≤ 6 → (i < b + 2 ∨ b + 14 ≤ i) → mI (stEmptyL M b k) i = mI M i
  | 0, _, _ => by rw [stEmptyL]
  | k + 1, h, h2 => by
    rw [stEmptyL]
    unfold mxEmpty
    rw [pI_i (by omega), pI_i (by omega), pI_i (by omega), pI_i (by omega), sI_ne (by omega)]
    exact stEmptyL_ne k (by omega) h2
theorem stEmpty_ne {b i : Nat} {n : Int32} (h : i < b ∨ b + 14 ≤ i) : mI (stEmpty M b n) i = mI M i := by
  unfold stEmpty; rw [pI_i (by omega), pI_i (by omega), pI_i (by omega), pI_i (by omega), stEmptyL_ne 6 (by omega) (by omega)]
theorem stEmpty_n {b : Nat} {n : Int32} : mI (stEmpty M b n) b 1 = n := by
  unfold stEmpty
  rw [pI_k (by decide), pI_k (by decide), pI_k (by decide), pI_self]
/-- the size read, as a number -/
def rzN (T : Nat → Int32) (len : Nat) (s : RP) : Nat := (rzV T len s).toNatClampNeg
theorem rzN_ok (T : Nat → Int32) (len : Nat) (s : RP) : rzV T len s = nI (rzN T len s) ∧ 1 ≤ rzN T len s ∧ rzN T len s ≤ 32 := by
  have h := tnv_in T len 1 32 (rzS0 T len s) (by decide)
  have hv : rzV T len s = tnv T len 1 32 (rzS0 T len s) := rfl
  rw [← hv] at h
  unfold rzN
  generalize rzV T len s = v at *
  obtain ⟨j, h3, h4⟩ := nI_of2 (x := v) (M := 32) (n := 32) (by decide) (fun q => h.1 (Int32.lt_trans q (by decide))) (Int32.not_lt.mp h.2)
  subst h4
  rw [nI_clamp (by omega)]
  refine ⟨rfl, Nat.pos_of_ne_zero fun q => ?_, h3⟩
  subst q
  exact h.1 (by decide)
def riN (M : Mem) (len : Nat) : Nat := rzN (mI M 2) len (0, mI M 1 3, 0, 0, 0)
def riR (M : Mem) (len : Nat) : Mem × RP := rsL len (riN M len) len (stEmpty M 17 (nI (riN M len))) (rzS (mI M 2) len (0, mI M 1 3, 0, 0, 0))
/-- a text read -/
def riM (M : Mem) (len : Nat) : Mem := pI (rdM (anL (riR M len).1 (nI (riN M len)) 6) (riR M len).2) 1 1 0
theorem r_readInto (hS : Shp M) (hl : mI M 1 1 = nI len) (hL : len ≤ 600) : EvR l jX4_readInto 8 220 0 0 [.ref 1, .ref 17] M (.inl none) (riM M len) := by
  have hS1 : ∀ s, Shp (rdM M s) := fun s => rd_S hS
  have z1 := r_readSize (l := l) (s := (0, mI M 1 3, 0, 0, 0)) hS hl hL (Nat.zero_le _)
  obtain ⟨n1, n2, n3⟩ := rzN_ok (mI M 2) len (0, mI M 1 3, 0, 0, 0)
  have z2 : (rzS (mI M 2) len (0, mI M 1 3, 0, 0, 0)).1 ≤ len := by unfold rzS; exact tnm_le (rzS0_le (Nat.zero_le _))
  rw [n1] at z1
  unfold riM riR
  have en : rzN (mI M 2) len (0, mI M 1 3, 0, 0, 0) = riN M len := rfl
  rw [en] at z1 n2 n3
  generalize riN M len = n at *
  have e1 : mI (stEmpty M 17 (nI n)) 1 1 = nI len := by rw [stEmpty_ne (by decide)]; exact hl
  have e17 : mI (stEmpty M 17 (nI n)) 17 1 = nI n := stEmpty_n
  have e2 : Shp (stEmpty M 17 (nI n)) := stEmpty_S hS 17 (nI n)
  generalize stEmpty M 17 (nI n) = M1 at *
  generalize rzS (mI M 2) len (0, mI M 1 3, 0, 0, 0) = s1 at *
  have hfin : ∀ (M2 : Mem) (s2 : RP), Shp M2 → mI M2 17 1 = nI n → Go l jX4_readInto 8 220 0 0 (fun r' M9 => r' = .inl none ∧ M9 = pI (rdM (anL M2 (nI n) 6) s2) 1 1 0) 64 [(0, .ref 1), (1, .ref 17)] [] 0 0 (rdM M2 s2) := by
    intro M2 s2 hS2 hz2
    refine g_iconst (pc := 64) (v := 0) dX4_readInto_64 rfl ?_
    refine g_istore_n (pc := 65) (lv' := [(0, _), (1, _), (2, _)]) dX4_readInto_65 (nl rfl) rfl ?_
    refine go_loop (pc := 66) 6 (fun i => [(0, .ref 1), (1, .ref 17), (2, .int (nI i))]) (fun i => rdM (anL M2 (nI n) i) s2) ⟨rfl, rfl, rfl, trivial⟩ (by rw [anL]) ?_ ?_
    · intro i hi ih
      have hS3 : Shp (rdM (anL M2 (nI n) i) s2) := rd_S (anL_S hS2 (nI n) i)
      have hz3 : mI (rdM (anL M2 (nI n) i) s2) 17 1 = nI n := (congrFun (rd_ne (by decide)) 1).trans ((congrFun (anL_ne (by decide) i (by omega)) 1).trans hz2)
      rw [anL.eq_2 M2 (nI n) i, ← mxAnew_rd (by omega)] at ih
      generalize rdM (anL M2 (nI n) i) s2 = M3 at *
      generalize pI (rdM (anL M2 (nI n) 6) s2) 1 1 0 = M9 at *
      obtain ⟨m1, m2, m3, m4⟩ := mx19 i hi
      refine g_iload_n (pc := 66) dX4_readInto_66 rfl ?_
      refine g_bipush (pc := 67) (v := 6) dX4_readInto_67 rfl ?_
      refine g_icmp_ge (pc := 69) (tgt := 91) dX4_readInto_69 rfl (fun h69 => absurd h69 (nI_ge (b := 6) hi (by omega))) (fun _ => ?_)
      refine g_aload_n (pc := 72) dX4_readInto_72 rfl trivial ?_
      refine g_getf (pc := 73) dX4_readInto_73 fk_X4_47 (shK hS3 rfl) (fv_arr (shR hS3 rfl)) ?_
      refine g_iload_n (pc := 76) dX4_readInto_76 rfl ?_
      refine g_aaload_Matrix (pc := 77) dX4_readInto_77 (shK hS3 rfl) rfl hi (by decide) (shR hS3 m2) ?_
      refine g_aload_n (pc := 78) dX4_readInto_78 rfl trivial ?_
      refine g_getf (pc := 79) (v := .int _) dX4_readInto_79 fk_X4_53 (shK hS3 rfl) (fun _ => congrArg Value.int (hz3)) ?_
      refine g_invV_r (pc := 82) (As := [_]) dX4_readInto_82 rfl (s_noteMadeAnew hS3 m1) rfl rfl (shK hS3 m1.1) rfl rfl lk_X4_56 rfl (nb rfl) ⟨nb rfl, nb rfl⟩ rfl ?_
      refine g_iinc (pc := 85) (lv' := [(0, _), (1, _), (2, _)]) dX4_readInto_85 rfl (nI_1 _) (nl rfl) rfl ?_
      refine g_goto (pc := 88) (tgt := 66) dX4_readInto_88 rfl ?_
      exact ih
    · have hS3 : Shp (rdM (anL M2 (nI n) 6) s2) := rd_S (anL_S hS2 (nI n) 6)
      generalize rdM (anL M2 (nI n) 6) s2 = M3 at *
      refine g_iload_n (pc := 66) dX4_readInto_66 rfl ?_
      refine g_bipush (pc := 67) (v := 6) dX4_readInto_67 rfl ?_
      refine g_icmp_ge (pc := 69) (tgt := 91) dX4_readInto_69 rfl (fun _ => ?_) (fun h69 => absurd (nI_le (Nat.le_refl 6) (by omega)) h69)
      refine g_aload_n (pc := 91) dX4_readInto_91 rfl trivial ?_
      refine g_iconst (pc := 92) (v := 0) dX4_readInto_92 rfl ?_
      refine g_putI (pc := 93) dX4_readInto_93 fp_X4_17 (shK hS3 rfl) ⟨rfl, rfl⟩ (fun _ _ _ _ => rfl) ?_
      refine g_return (pc := 96) dX4_readInto_96 rfl ?_
      exact ⟨rfl, rfl⟩
  refine ev_intro rfl (nb rfl) rfl ?_
  obtain ⟨S, hs⟩ : ∃ S, S = rsL len n len M1 s1 := ⟨_, rfl⟩
  rw [← hs]
  refine g_aload_n (pc := 0) dX4_readInto_0 rfl trivial ?_
  refine g_iconst (pc := 1) (v := 0) dX4_readInto_1 rfl ?_
  refine g_putI (pc := 2) dX4_readInto_2 fp_X4_21 (shK hS rfl) ⟨rfl, rfl⟩ (fun _ _ _ _ => rfl) ?_
  refine g_aload_n (pc := 5) dX4_readInto_5 rfl trivial ?_
  refine g_iconst (pc := 6) (v := 0) dX4_readInto_6 rfl ?_
  refine g_putI (pc := 7) dX4_readInto_7 fp_X4_24 (shK (shp_pI hS) rfl) ⟨rfl, rfl⟩ (fun _ _ _ _ => rfl) ?_
  refine g_aload_n (pc := 10) dX4_readInto_10 rfl trivial ?_
  refine g_iconst (pc := 11) (v := 0) dX4_readInto_11 rfl ?_
  refine g_putI (pc := 12) dX4_readInto_12 fp_X4_27 (shK (shp_pI (shp_pI hS)) rfl) ⟨rfl, rfl⟩ (fun _ _ _ _ => rfl) ?_
  refine g_aload_n (pc := 15) dX4_readInto_15 rfl trivial ?_
  refine g_iconst (pc := 16) (v := 0) dX4_readInto_16 rfl ?_
  refine g_putI (pc := 17) dX4_readInto_17 fp_X4_30 (shK (shp_pI (shp_pI (shp_pI hS))) rfl) ⟨rfl, rfl⟩ (fun _ _ _ _ => rfl) ?_
  refine go_cast rd_start ?_
  skip
  refine g_aload_n (pc := 20) dX4_readInto_20 rfl trivial ?_
  refine g_aload_n (pc := 21) dX4_readInto_21 rfl trivial ?_
  refine g_invV_r (pc := 22) (As := [_]) dX4_readInto_22 rfl (z1) rfl rfl (shK (hS1 _) rfl) rfl rfl lk_X4_33 rfl (nb rfl) ⟨nb rfl, nb rfl⟩ rfl ?_
  refine g_iconst (pc := 25) (v := 0) dX4_readInto_25 rfl ?_
  refine g_istore_n (pc := 26) (lv' := [(0, _), (1, _), (2, _)]) dX4_readInto_26 (nl rfl) rfl ?_
  refine go_while (pc := 27) (σ := Nat × Mem × RP) (fun q => q.1 ≤ len ∧ Shp q.2.1 ∧ mI q.2.1 1 1 = nI len ∧ mI q.2.1 17 1 = nI n ∧ q.2.2.1 ≤ len ∧ rsL len n (len - q.1) q.2.1 q.2.2 = S) (fun q => len - q.1) (fun q => [(0, .ref 1), (1, .ref 17), (2, .int (nI q.1))]) (fun q => rdM q.2.1 q.2.2) (0, M1, s1) ⟨rfl, rfl, rfl, trivial⟩ rfl ⟨Nat.zero_le _, e2, e1, e17, z2, hs.symm⟩ ?_
  rintro ⟨i, M2, s2⟩ ⟨h1, hS2, hl2, hz2, hp2, hq2⟩ ih
  simp only at h1 hS2 hl2 hz2 hp2 hq2 ih
  have hS3 : ∀ s, Shp (rdM M2 s) := fun s => rd_S hS2
  have hr1 : ∀ s, mI (rdM M2 s) 1 1 = nI len := fun s => rd_1.trans hl2
  by_cases hi : i < len
  · rw [show len - i = (len - (i + 1)) + 1 by omega, rsL.eq_2] at hq2
    have hp3 := skp_le (T := mI M2 2) hp2
    have hp4 := tsc_le (T := mI M2 2) hp3
    have qh := r_hasMore (l := l) hS2 hl2 hL hp2
    have qt := r_takeSemicolon (l := l) hS2 hl2 hL hp3
    have qs := r_readStatement (l := l) hS2 hl2 hL hp4 hz2 n2 n3
    have ok := rsR_ok (n := n) hS2 hp4
    have h5 : mI (rdM M2 (tsc (mI M2 2) len (skp (mI M2 2) len s2))) 1 5 = (tsc (mI M2 2) len (skp (mI M2 2) len s2)).2.2.2.1 := rd_5
    generalize (decide (s2.2.2.2.1 = 0) && decide (skipP (mI M2 2) len s2.1 < len)) = c at *
    generalize tsc (mI M2 2) len (skp (mI M2 2) len s2) = s4 at *
    generalize skp (mI M2 2) len s2 = s3 at *
    generalize rsR M2 len n s4 = r at *
    cases c with
    | false =>
      rw [if_neg (by decide)] at hq2
      rw [← hq2]
      refine g_iload_n (pc := 27) dX4_readInto_27 rfl ?_
      refine g_aload_n (pc := 28) dX4_readInto_28 rfl trivial ?_
      refine g_getf (pc := 29) (v := .int _) dX4_readInto_29 fk_X4_17 (shK (hS3 _) rfl) (fun _ => congrArg Value.int ((hr1 _))) ?_
      refine g_icmp_ge (pc := 32) (tgt := 64) dX4_readInto_32 rfl (fun h32 => absurd h32 (nI_ge hi (by omega))) (fun _ => ?_)
      refine g_aload_n (pc := 35) dX4_readInto_35 rfl trivial ?_
      refine g_invV_r (pc := 36) (As := []) dX4_readInto_36 rfl (qh) rfl rfl (shK (hS3 _) rfl) rfl rfl lk_X4_37 rfl (nb rfl) ⟨nb rfl, nb rfl⟩ rfl ?_
      refine g_if_eq (pc := 39) (tgt := 64) dX4_readInto_39 rfl (fun _ => ?_) (fun h39 => absurd (rfl) h39)
      exact g_sub (lv' := [(0, _), (1, _)]) ⟨rfl, rfl, trivial⟩ (hfin M2 s3 hS2 hz2)
    | true =>
      rw [if_pos rfl] at hq2
      refine g_iload_n (pc := 27) dX4_readInto_27 rfl ?_
      refine g_aload_n (pc := 28) dX4_readInto_28 rfl trivial ?_
      refine g_getf (pc := 29) (v := .int _) dX4_readInto_29 fk_X4_17 (shK (hS3 _) rfl) (fun _ => congrArg Value.int ((hr1 _))) ?_
      refine g_icmp_ge (pc := 32) (tgt := 64) dX4_readInto_32 rfl (fun h32 => absurd h32 (nI_ge hi (by omega))) (fun _ => ?_)
      refine g_aload_n (pc := 35) dX4_readInto_35 rfl trivial ?_
      refine g_invV_r (pc := 36) (As := []) dX4_readInto_36 rfl (qh) rfl rfl (shK (hS3 _) rfl) rfl rfl lk_X4_37 rfl (nb rfl) ⟨nb rfl, nb rfl⟩ rfl ?_
      refine g_if_eq (pc := 39) (tgt := 64) dX4_readInto_39 rfl (fun h39 => absurd h39 ((by decide))) (fun _ => ?_)
      refine g_aload_n (pc := 42) dX4_readInto_42 rfl trivial ?_
      refine g_invV_r (pc := 43) (As := []) dX4_readInto_43 rfl (qt) rfl rfl (shK (hS3 _) rfl) rfl rfl lk_X4_41 rfl (nb rfl) ⟨nb rfl, nb rfl⟩ rfl ?_
      refine g_aload_n (pc := 46) dX4_readInto_46 rfl trivial ?_
      refine g_getf (pc := 47) (v := .int _) dX4_readInto_47 fk_X4_27 (shK (hS3 _) rfl) (fun _ => congrArg Value.int (h5)) ?_
      refine g_if_ne (pc := 50) (tgt := 58) dX4_readInto_50 rfl (fun h50 => ?_) (fun h50 => ?_)
      · rw [if_neg h50] at hq2
        refine g_iinc (pc := 58) (lv' := [(0, _), (1, _), (2, _)]) dX4_readInto_58 rfl (nI_1 _) (nl rfl) rfl ?_
        refine g_goto (pc := 61) (tgt := 27) dX4_readInto_61 rfl ?_
        exact ih (i + 1, M2, s4) ⟨by simp only; omega, hS2, hl2, hz2, hp4, hq2⟩ (by simp only; omega)
      · rw [if_pos (Decidable.not_not.mp h50)] at hq2
        refine g_aload_n (pc := 53) dX4_readInto_53 rfl trivial ?_
        refine g_aload_n (pc := 54) dX4_readInto_54 rfl trivial ?_
        refine g_invV_r (pc := 55) (As := [_]) dX4_readInto_55 rfl (qs) rfl rfl (shK (hS3 _) rfl) rfl rfl lk_X4_44 rfl (nb rfl) ⟨nb rfl, nb rfl⟩ rfl ?_
        refine g_iinc (pc := 58) (lv' := [(0, _), (1, _), (2, _)]) dX4_readInto_58 rfl (nI_1 _) (nl rfl) rfl ?_
        refine g_goto (pc := 61) (tgt := 27) dX4_readInto_61 rfl ?_
        exact ih (i + 1, r.1, r.2) ⟨by simp only; omega, ok.1.1, (congrFun (ok.1.2.1 1 (by decide)) 1).trans hl2, ok.1.2.2.trans hz2, ok.2, hq2⟩ (by simp only; omega)
  · have hi' : i = len := by omega
    subst hi'
    rw [Nat.sub_self, rsL.eq_1] at hq2
    rw [← hq2]
    refine g_iload_n (pc := 27) dX4_readInto_27 rfl ?_
    refine g_aload_n (pc := 28) dX4_readInto_28 rfl trivial ?_
    refine g_getf (pc := 29) (v := .int _) dX4_readInto_29 fk_X4_17 (shK (hS3 _) rfl) (fun _ => congrArg Value.int ((hr1 _))) ?_
    refine g_icmp_ge (pc := 32) (tgt := 64) dX4_readInto_32 rfl (fun _ => ?_) (fun h32 => absurd (nI_le (Nat.le_refl _) (by omega)) h32)
    exact g_sub (lv' := [(0, _), (1, _)]) ⟨rfl, rfl, trivial⟩ (hfin M2 s2 hS2 hz2)
end
