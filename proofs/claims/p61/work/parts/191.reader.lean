section
variable {l : Launch} {M : Mem} {s : RP} {len : Nat}
def rFail (k a : Int32) (s : RP) : RP := if s.2.2.2.1 = 0 then (s.1, s.2.1, s.2.2.1, k, a) else s
theorem rFail_1 (k a : Int32) (s : RP) : (rFail k a s).1 = s.1 ∧ (rFail k a s).2.1 = s.2.1 := by unfold rFail; split <;> exact ⟨rfl, rfl⟩
theorem r_fail {k a : Int32} (hS : Shp M) : EvR l jX4_fail 0 0 0 0 [.ref 1, .int k, .int a] (rdM M s) (.inl none) (rdM M (rFail k a s)) := by
  have hS1 : Shp (rdM M s) := rd_S hS
  have h5 : mI (rdM M s) 1 5 = s.2.2.2.1 := rd_5
  refine ev_intro rfl (nb rfl) rfl ?_
  unfold rFail
  refine g_aload_n (pc := 0) dX4_fail_0 rfl trivial ?_
  refine g_getf (pc := 1) (v := .int _) dX4_fail_1 fk_X4_27 (shK hS1 rfl) (fun _ => congrArg Value.int (h5)) ?_
  refine g_if_ne (pc := 4) (tgt := 17) dX4_fail_4 rfl (fun h4 => ?_) (fun h4 => ?_)
  · rw [if_neg h4]
    refine g_return (pc := 17) dX4_fail_17 rfl ?_
    exact ⟨rfl, rfl⟩
  · rw [if_pos (Decidable.not_not.mp h4)]
    refine g_aload_n (pc := 7) dX4_fail_7 rfl trivial ?_
    refine g_iload_n (pc := 8) dX4_fail_8 rfl ?_
    refine g_putI (pc := 9) dX4_fail_9 fp_X4_27 (shK hS1 rfl) ⟨rfl, rfl⟩ (fun _ _ _ _ => rfl) ?_
    refine g_aload_n (pc := 12) dX4_fail_12 rfl trivial ?_
    refine g_iload_n (pc := 13) dX4_fail_13 rfl ?_
    refine g_putI (pc := 14) dX4_fail_14 fp_X4_30 (shK hS1 rfl) ⟨rfl, rfl⟩ (fun _ _ _ _ => rfl) ?_
    refine go_cast rd_p56 ?_
    refine g_return (pc := 17) dX4_fail_17 rfl ?_
    exact ⟨rfl, rfl⟩
def digP (T : Nat → Int32) (len p : Nat) : Nat := scan isDi T (len - p) p
theorem digP_le {T : Nat → Int32} {p : Nat} (h : p ≤ len) : p ≤ digP T len p ∧ digP T len p ≤ len := by have := scan_le isDi T (len - p) p; unfold digP; omega
def tdg0 (T : Nat → Int32) (len : Nat) (s : RP) : RP := (digP T len (skipP T len s.1), nI (skipP T len s.1), s.2.2)
def tdg (T : Nat → Int32) (len : Nat) (s : RP) : RP := if skipP T len s.1 = digP T len (skipP T len s.1) then rFail 1 (nI (skipP T len s.1)) (tdg0 T len s) else tdg0 T len s
theorem tdg_1 (T : Nat → Int32) (len : Nat) (s : RP) : (tdg T len s).1 = digP T len (skipP T len s.1) ∧ (tdg T len s).2.1 = nI (skipP T len s.1) := by
  unfold tdg; split
  · exact rFail_1 _ _ _
  · exact ⟨rfl, rfl⟩
theorem r_takeDigits (hS : Shp M) (hl : mI M 1 1 = nI len) (hL : len ≤ 600) (hp : s.1 ≤ len) : EvR l jX4_takeDigits 1 30 0 0 [.ref 1] (rdM M s) (.inl none) (rdM M (tdg (mI M 2) len s)) := by
  obtain ⟨S, hs⟩ : ∃ S, S = tdg (mI M 2) len s := ⟨_, rfl⟩
  obtain ⟨S0, hs0⟩ : ∃ S0, S0 = digP (mI M 2) len (skipP (mI M 2) len s.1) := ⟨_, rfl⟩
  rw [← hs]
  unfold tdg tdg0 at hs
  rw [← hs0] at hs
  unfold digP at hs0
  have hsk := skipP_le (T := mI M 2) hp
  have hS0 : Shp (rdM M (skp (mI M 2) len s)) := rd_S hS
  have hr0 : mI (rdM M (skp (mI M 2) len s)) 1 2 = nI (skipP (mI M 2) len s.1) := rd_2
  have hS9 : Shp (rdM M s) := rd_S hS
  refine ev_intro rfl (nb rfl) rfl ?_
  refine g_aload_n (pc := 0) dX4_takeDigits_0 rfl trivial ?_
  refine g_invV_r (pc := 1) (As := []) dX4_takeDigits_1 rfl (r_skipSpaces hS hl hL hp) rfl rfl (shK hS9 rfl) rfl rfl lk_X4_133 rfl (nb rfl) ⟨nb rfl, nb rfl⟩ rfl ?_
  refine g_aload_n (pc := 4) dX4_takeDigits_4 rfl trivial ?_
  refine g_aload_n (pc := 5) dX4_takeDigits_5 rfl trivial ?_
  refine g_getf (pc := 6) (v := .int _) dX4_takeDigits_6 fk_X4_21 (shK hS0 rfl) (fun _ => congrArg Value.int (hr0)) ?_
  refine g_putI (pc := 9) dX4_takeDigits_9 fp_X4_70 (shK hS0 rfl) ⟨rfl, rfl⟩ (fun _ _ _ _ => rfl) ?_
  refine go_cast rd_p3 ?_
  refine go_while (pc := 12) (σ := Nat) (fun p => p ≤ len ∧ scan isDi (mI M 2) (len - p) p = S0) (fun p => len - p) (fun _ => [(0, .ref 1)]) (fun p => rdM M (p, nI (skipP (mI M 2) len s.1), s.2.2)) (skipP (mI M 2) len s.1) ⟨rfl, trivial⟩ rfl ⟨hsk.2, hs0.symm⟩ ?_
  generalize skipP (mI M 2) len s.1 = q at *
  have hdone : ∀ p, p = S0 → p ≤ len → Go l jX4_takeDigits 1 30 0 0 (fun r' M9 => r' = .inl none ∧ M9 = rdM M S) 64 [(0, .ref 1)] [] 0 0 (rdM M (p, nI q, s.2.2)) := by
    intro p hp1 hp2
    subst hp1
    have hS1 : Shp (rdM M (p, nI q, s.2.2)) := rd_S hS
    have hr2 : mI (rdM M (p, nI q, s.2.2)) 1 2 = nI p := rd_2
    have hr3 : mI (rdM M (p, nI q, s.2.2)) 1 3 = nI q := rd_3
    rw [hs]
    refine g_aload_n (pc := 64) dX4_takeDigits_64 rfl trivial ?_
    refine g_getf (pc := 65) (v := .int _) dX4_takeDigits_65 fk_X4_70 (shK hS1 rfl) (fun _ => congrArg Value.int (hr3)) ?_
    refine g_aload_n (pc := 68) dX4_takeDigits_68 rfl trivial ?_
    refine g_getf (pc := 69) (v := .int _) dX4_takeDigits_69 fk_X4_21 (shK hS1 rfl) (fun _ => congrArg Value.int (hr2)) ?_
    refine g_icmp_ne (pc := 72) (tgt := 84) dX4_takeDigits_72 rfl (fun h72 => ?_) (fun h72 => ?_)
    · rw [if_neg (fun h => h72 (by rw [h]))]
      refine g_return (pc := 84) dX4_takeDigits_84 rfl ?_
      exact ⟨rfl, rfl⟩
    · rw [if_pos ((nI_eq (by omega) (by omega)).mp (Decidable.not_not.mp h72))]
      refine g_aload_n (pc := 75) dX4_takeDigits_75 rfl trivial ?_
      refine g_iconst (pc := 76) (v := 1) dX4_takeDigits_76 rfl ?_
      refine g_aload_n (pc := 77) dX4_takeDigits_77 rfl trivial ?_
      refine g_getf (pc := 78) (v := .int _) dX4_takeDigits_78 fk_X4_70 (shK hS1 rfl) (fun _ => congrArg Value.int (hr3)) ?_
      refine g_invV_r (pc := 81) (As := [_, _]) dX4_takeDigits_81 rfl (r_fail hS) rfl rfl (shK hS1 rfl) rfl rfl lk_X4_73 rfl (nb rfl) ⟨nb rfl, nb rfl⟩ rfl ?_
      refine g_return (pc := 84) dX4_takeDigits_84 rfl ?_
      exact ⟨rfl, rfl⟩
  rintro p ⟨h1, h2⟩ ih
  have hS1 : Shp (rdM M (p, nI q, s.2.2)) := rd_S hS
  have hr2 : mI (rdM M (p, nI q, s.2.2)) 1 2 = nI p := rd_2
  have hr1 : mI (rdM M (p, nI q, s.2.2)) 1 1 = nI len := rd_1.trans hl
  by_cases hi : p < len
  · rw [show len - p = (len - (p + 1)) + 1 by omega, scan] at h2
    refine g_aload_n (pc := 12) dX4_takeDigits_12 rfl trivial ?_
    refine g_getf (pc := 13) (v := .int _) dX4_takeDigits_13 fk_X4_21 (shK hS1 rfl) (fun _ => congrArg Value.int (hr2)) ?_
    refine g_aload_n (pc := 16) dX4_takeDigits_16 rfl trivial ?_
    refine g_getf (pc := 17) (v := .int _) dX4_takeDigits_17 fk_X4_17 (shK hS1 rfl) (fun _ => congrArg Value.int (hr1)) ?_
    refine g_icmp_ge (pc := 20) (tgt := 64) dX4_takeDigits_20 rfl (fun h20 => absurd h20 (nI_ge hi (by omega))) (fun _ => ?_)
    refine g_aload_n (pc := 23) dX4_takeDigits_23 rfl trivial ?_
    refine g_getf (pc := 24) dX4_takeDigits_24 fk_X4_9 (shK hS1 rfl) (fv_arr (shR hS1 rfl)) ?_
    refine g_aload_n (pc := 27) dX4_takeDigits_27 rfl trivial ?_
    refine g_getf (pc := 28) (v := .int _) dX4_takeDigits_28 fk_X4_21 (shK hS1 rfl) (fun _ => congrArg Value.int (hr2)) ?_
    refine g_iaload (pc := 31) dX4_takeDigits_31 (shK hS1 rfl) rfl (show p < 600 by omega) (nl rfl) ?_
    rw [rd_ne (by decide)]
    refine g_bipush (pc := 32) (v := 48) dX4_takeDigits_32 rfl ?_
    refine g_icmp_lt (pc := 34) (tgt := 64) dX4_takeDigits_34 rfl (fun h34 => ?_) (fun h34 => ?_)
    · rw [if_neg (by unfold isDi; simp [h34])] at h2
      exact hdone p h2 h1
    · refine g_aload_n (pc := 37) dX4_takeDigits_37 rfl trivial ?_
      refine g_getf (pc := 38) dX4_takeDigits_38 fk_X4_9 (shK hS1 rfl) (fv_arr (shR hS1 rfl)) ?_
      refine g_aload_n (pc := 41) dX4_takeDigits_41 rfl trivial ?_
      refine g_getf (pc := 42) (v := .int _) dX4_takeDigits_42 fk_X4_21 (shK hS1 rfl) (fun _ => congrArg Value.int (hr2)) ?_
      refine g_iaload (pc := 45) dX4_takeDigits_45 (shK hS1 rfl) rfl (show p < 600 by omega) (nl rfl) ?_
      rw [rd_ne (by decide)]
      refine g_bipush (pc := 46) (v := 57) dX4_takeDigits_46 rfl ?_
      refine g_icmp_gt (pc := 48) (tgt := 64) dX4_takeDigits_48 rfl (fun h48 => ?_) (fun h48 => ?_)
      · rw [if_neg (by unfold isDi; simp [h48])] at h2
        exact hdone p h2 h1
      · rw [if_pos (by unfold isDi; simp [h34, h48])] at h2
        refine g_aload_n (pc := 51) dX4_takeDigits_51 rfl trivial ?_
        refine g_dup (pc := 52) dX4_takeDigits_52 rfl ?_
        refine g_getf (pc := 53) (v := .int _) dX4_takeDigits_53 fk_X4_21 (shK hS1 rfl) (fun _ => congrArg Value.int (hr2)) ?_
        refine g_iconst (pc := 56) (v := 1) dX4_takeDigits_56 rfl ?_
        refine g_iadd (pc := 57) dX4_takeDigits_57 ?_
        refine g_putI (pc := 58) dX4_takeDigits_58 fp_X4_21 (shK hS1 rfl) ⟨rfl, rfl⟩ (fun _ _ _ _ => rfl) ?_
        refine go_cast (rd_p2 (nI_1 p)) ?_
        refine g_goto (pc := 61) (tgt := 12) dX4_takeDigits_61 rfl ?_
        exact ih (p + 1) ⟨by omega, h2⟩ (by omega)
  · have hi' : p = len := by omega
    subst hi'
    refine g_aload_n (pc := 12) dX4_takeDigits_12 rfl trivial ?_
    refine g_getf (pc := 13) (v := .int _) dX4_takeDigits_13 fk_X4_21 (shK hS1 rfl) (fun _ => congrArg Value.int (hr2)) ?_
    refine g_aload_n (pc := 16) dX4_takeDigits_16 rfl trivial ?_
    refine g_getf (pc := 17) (v := .int _) dX4_takeDigits_17 fk_X4_17 (shK hS1 rfl) (fun _ => congrArg Value.int (hr1)) ?_
    refine g_icmp_ge (pc := 20) (tgt := 64) dX4_takeDigits_20 rfl (fun _ => ?_) (fun h20 => absurd (nI_le (Nat.le_refl _) (by omega)) h20)
    exact hdone p (by rw [← h2, Nat.sub_self]; rfl) h1
def least9 (x y : Int32) : Int32 := if y < x then y else x
def valF (T : Nat → Int32) (q : Nat) : Nat → Int32
  | 0 => 0
  | k + 1 => least9 (10 * valF T q k + T (q + k) - 48) 1000
def numV (T : Nat → Int32) (len p : Nat) : Int32 := valF T (skipP T len p) (digP T len (skipP T len p) - skipP T len p)
def tnm (T : Nat → Int32) (len : Nat) (lo hi : Int32) (s : RP) : RP := if numV T len s.1 < lo ∨ hi < numV T len s.1 then rFail 2 (nI (skipP T len s.1)) (tdg T len s) else tdg T len s
def tnv (T : Nat → Int32) (len : Nat) (lo hi : Int32) (s : RP) : Int32 := if (tnm T len lo hi s).2.2.2.1 = 0 then numV T len s.1 else lo
theorem tnm_1 (T : Nat → Int32) (len : Nat) (lo hi : Int32) (s : RP) : (tnm T len lo hi s).1 = digP T len (skipP T len s.1) ∧ (tnm T len lo hi s).2.1 = nI (skipP T len s.1) := by
  unfold tnm; split
  · rw [(rFail_1 _ _ _).1, (rFail_1 _ _ _).2]; exact tdg_1 T len s
  · exact tdg_1 T len s
theorem tnv_in (T : Nat → Int32) (len : Nat) (lo hi : Int32) (s : RP) (h : ¬ hi < lo) : ¬ tnv T len lo hi s < lo ∧ ¬ hi < tnv T len lo hi s := by
  unfold tnv
  split
  · rename_i h0
    unfold tnm at h0
    split at h0
    · unfold rFail at h0
      split at h0
      · exact absurd h0 (show ¬ (2 : Int32) = 0 by decide)
      · contradiction
    · rename_i h1
      exact ⟨fun h2 => h1 (Or.inl h2), fun h2 => h1 (Or.inr h2)⟩
  · exact ⟨Int32.lt_irrefl, h⟩
theorem r_takeNumber {lo hi : Int32} (hS : Shp M) (hl : mI M 1 1 = nI len) (hL : len ≤ 600) (hp : s.1 ≤ len) : EvR l jX4_takeNumber 2 60 0 0 [.ref 1, .int lo, .int hi] (rdM M s) (.inl (some (.int (tnv (mI M 2) len lo hi s)))) (rdM M (tnm (mI M 2) len lo hi s)) := by
  have hsk := skipP_le (T := mI M 2) hp
  have hdg := digP_le (T := mI M 2) hsk.2
  have hS9 : Shp (rdM M s) := rd_S hS
  have hS1 : Shp (rdM M (tdg (mI M 2) len s)) := rd_S hS
  have hr2 : mI (rdM M (tdg (mI M 2) len s)) 1 2 = nI (digP (mI M 2) len (skipP (mI M 2) len s.1)) := by rw [rd_2, (tdg_1 _ _ _).1]
  have hr3 : mI (rdM M (tdg (mI M 2) len s)) 1 3 = nI (skipP (mI M 2) len s.1) := by rw [rd_3, (tdg_1 _ _ _).2]
  have er : mI (rdM M (tdg (mI M 2) len s)) 2 = mI M 2 := rd_ne (by decide)
  have hfin : ∀ s1 v, s1 = tnm (mI M 2) len lo hi s → (if s1.2.2.2.1 = 0 then v else lo) = tnv (mI M 2) len lo hi s → Go l jX4_takeNumber 2 60 0 0 (fun r' M9 => r' = .inl (some (.int (tnv (mI M 2) len lo hi s))) ∧ M9 = rdM M (tnm (mI M 2) len lo hi s)) 68 [(0, .ref 1), (1, .int lo), (2, .int hi), (3, .int v)] [] 0 0 (rdM M s1) := by
    intro s1 v e1 e2
    have hS2 : Shp (rdM M s1) := rd_S hS
    have hr5 : mI (rdM M s1) 1 5 = s1.2.2.2.1 := rd_5
    rw [← e1, ← e2]
    refine g_aload_n (pc := 68) dX4_takeNumber_68 rfl trivial ?_
    refine g_getf (pc := 69) (v := .int _) dX4_takeNumber_69 fk_X4_27 (shK hS2 rfl) (fun _ => congrArg Value.int (hr5)) ?_
    refine g_if_ne (pc := 72) (tgt := 79) dX4_takeNumber_72 rfl (fun h72 => ?_) (fun h72 => ?_)
    · rw [if_neg h72]
      refine g_iload_n (pc := 79) dX4_takeNumber_79 rfl ?_
      refine g_ireturn (pc := 80) dX4_takeNumber_80 rfl rfl ?_
      exact ⟨rfl, rfl⟩
    · rw [if_pos (Decidable.not_not.mp h72)]
      refine g_iload_n (pc := 75) dX4_takeNumber_75 rfl ?_
      refine g_goto (pc := 76) (tgt := 80) dX4_takeNumber_76 rfl ?_
      refine g_ireturn (pc := 80) dX4_takeNumber_80 rfl rfl ?_
      exact ⟨rfl, rfl⟩
  have ev : valF (mI M 2) (skipP (mI M 2) len s.1) (digP (mI M 2) len (skipP (mI M 2) len s.1) - skipP (mI M 2) len s.1) = numV (mI M 2) len s.1 := rfl
  have e1 : tnm (mI M 2) len lo hi s = if numV (mI M 2) len s.1 < lo ∨ hi < numV (mI M 2) len s.1 then rFail 2 (nI (skipP (mI M 2) len s.1)) (tdg (mI M 2) len s) else tdg (mI M 2) len s := rfl
  have e2 : tnv (mI M 2) len lo hi s = if (tnm (mI M 2) len lo hi s).2.2.2.1 = 0 then numV (mI M 2) len s.1 else lo := rfl
  refine ev_intro rfl (nb rfl) rfl ?_
  generalize numV (mI M 2) len s.1 = V at *
  generalize tnv (mI M 2) len lo hi s = V9 at *
  generalize tnm (mI M 2) len lo hi s = s9 at *
  refine g_aload_n (pc := 0) dX4_takeNumber_0 rfl trivial ?_
  refine g_invV_r (pc := 1) (As := []) dX4_takeNumber_1 rfl (r_takeDigits hS hl hL hp) rfl rfl (shK hS9 rfl) rfl rfl lk_X4_136 rfl (nb rfl) ⟨nb rfl, nb rfl⟩ rfl ?_
  refine g_iconst (pc := 4) (v := 0) dX4_takeNumber_4 rfl ?_
  refine g_istore_n (pc := 5) (lv' := [(0, _), (1, _), (2, _), (3, _)]) dX4_takeNumber_5 (nl rfl) rfl ?_
  refine g_aload_n (pc := 6) dX4_takeNumber_6 rfl trivial ?_
  refine g_getf (pc := 7) (v := .int _) dX4_takeNumber_7 fk_X4_70 (shK hS1 rfl) (fun _ => congrArg Value.int (hr3)) ?_
  refine g_istore (pc := 10) (lv' := [(0, _), (1, _), (2, _), (3, _), (4, _)]) dX4_takeNumber_10 (nl rfl) rfl ?_
  refine go_while (pc := 12) (σ := Nat) (fun k => k ≤ digP (mI M 2) len (skipP (mI M 2) len s.1) - skipP (mI M 2) len s.1) (fun k => digP (mI M 2) len (skipP (mI M 2) len s.1) - skipP (mI M 2) len s.1 - k) (fun k => [(0, .ref 1), (1, .int lo), (2, .int hi), (3, .int (valF (mI M 2) (skipP (mI M 2) len s.1) k)), (4, .int (nI (skipP (mI M 2) len s.1 + k)))]) (fun _ => rdM M (tdg (mI M 2) len s)) 0 ⟨rfl, rfl, rfl, rfl, rfl, trivial⟩ rfl (Nat.zero_le _) ?_
  generalize digP (mI M 2) len (skipP (mI M 2) len s.1) = p at *
  generalize skipP (mI M 2) len s.1 = q at *
  generalize tdg (mI M 2) len s = s1 at *
  intro k h1 ih
  by_cases hi : q + k < p
  · have ih := ih (k + 1) (by omega) (by omega)
    rw [valF] at ih
    refine g_iload (pc := 12) dX4_takeNumber_12 rfl ?_
    refine g_aload_n (pc := 14) dX4_takeNumber_14 rfl trivial ?_
    refine g_getf (pc := 15) (v := .int _) dX4_takeNumber_15 fk_X4_21 (shK hS1 rfl) (fun _ => congrArg Value.int (hr2)) ?_
    refine g_icmp_ge (pc := 18) (tgt := 49) dX4_takeNumber_18 rfl (fun h18 => absurd h18 (nI_ge hi (by omega))) (fun _ => ?_)
    refine g_bipush (pc := 21) (v := 10) dX4_takeNumber_21 rfl ?_
    refine g_iload_n (pc := 23) dX4_takeNumber_23 rfl ?_
    refine g_imul (pc := 24) dX4_takeNumber_24 ?_
    refine g_aload_n (pc := 25) dX4_takeNumber_25 rfl trivial ?_
    refine g_getf (pc := 26) dX4_takeNumber_26 fk_X4_9 (shK hS1 rfl) (fv_arr (shR hS1 rfl)) ?_
    refine g_iload (pc := 29) dX4_takeNumber_29 rfl ?_
    refine g_iaload (pc := 31) dX4_takeNumber_31 (shK hS1 rfl) rfl (show q + k < 600 by omega) (nl rfl) ?_
    rw [er]
    refine g_iadd (pc := 32) dX4_takeNumber_32 ?_
    refine g_bipush (pc := 33) (v := 48) dX4_takeNumber_33 rfl ?_
    refine g_isub (pc := 35) dX4_takeNumber_35 ?_
    refine g_sipush (pc := 36) (v := 1000) dX4_takeNumber_36 rfl ?_
    refine g_mmin (pc := 39) dX4_takeNumber_39 wd_429 wd_430 wd_107 wd_431 (nb rfl) (nb rfl) ?_
    refine g_istore_n (pc := 42) (lv' := [(0, _), (1, _), (2, _), (3, _), (4, _)]) dX4_takeNumber_42 (nl rfl) rfl ?_
    refine g_iinc (pc := 43) (lv' := [(0, _), (1, _), (2, _), (3, _), (4, _)]) dX4_takeNumber_43 rfl (nI_1 _) (nl rfl) rfl ?_
    refine g_goto (pc := 46) (tgt := 12) dX4_takeNumber_46 rfl ?_
    exact ih
  · have hk : k = p - q := by omega
    subst hk
    rw [ev]
    refine g_iload (pc := 12) dX4_takeNumber_12 rfl ?_
    refine g_aload_n (pc := 14) dX4_takeNumber_14 rfl trivial ?_
    refine g_getf (pc := 15) (v := .int _) dX4_takeNumber_15 fk_X4_21 (shK hS1 rfl) (fun _ => congrArg Value.int (hr2)) ?_
    refine g_icmp_ge (pc := 18) (tgt := 49) dX4_takeNumber_18 rfl (fun _ => ?_) (fun h18 => absurd (nI_le (by omega) (by omega)) h18)
    refine g_iload_n (pc := 49) dX4_takeNumber_49 rfl ?_
    refine g_iload_n (pc := 50) dX4_takeNumber_50 rfl ?_
    refine g_icmp_lt (pc := 51) (tgt := 59) dX4_takeNumber_51 rfl (fun h51 => ?_) (fun h51 => ?_)
    · rw [if_pos (Or.inl h51)] at e1
      refine g_aload_n (pc := 59) dX4_takeNumber_59 rfl trivial ?_
      refine g_iconst (pc := 60) (v := 2) dX4_takeNumber_60 rfl ?_
      refine g_aload_n (pc := 61) dX4_takeNumber_61 rfl trivial ?_
      refine g_getf (pc := 62) (v := .int _) dX4_takeNumber_62 fk_X4_70 (shK hS1 rfl) (fun _ => congrArg Value.int (hr3)) ?_
      refine g_invV_r (pc := 65) (As := [_, _]) dX4_takeNumber_65 rfl (r_fail hS) rfl rfl (shK hS1 rfl) rfl rfl lk_X4_73 rfl (nb rfl) ⟨nb rfl, nb rfl⟩ rfl ?_
      exact g_sub (lv' := [(0, _), (1, _), (2, _), (3, _)]) ⟨rfl, rfl, rfl, rfl, trivial⟩ (hfin _ _ e1.symm (by rw [e2, e1]))
    · refine g_iload_n (pc := 54) dX4_takeNumber_54 rfl ?_
      refine g_iload_n (pc := 55) dX4_takeNumber_55 rfl ?_
      refine g_icmp_le (pc := 56) (tgt := 68) dX4_takeNumber_56 rfl (fun h56 => ?_) (fun h56 => ?_)
      · rw [if_neg (not_or.mpr ⟨h51, Int32.not_lt.mpr h56⟩)] at e1
        exact g_sub (lv' := [(0, _), (1, _), (2, _), (3, _)]) ⟨rfl, rfl, rfl, rfl, trivial⟩ (hfin _ _ e1.symm (by rw [e2, e1]))
      · rw [if_pos (Or.inr (Int32.not_le.mp h56))] at e1
        refine g_aload_n (pc := 59) dX4_takeNumber_59 rfl trivial ?_
        refine g_iconst (pc := 60) (v := 2) dX4_takeNumber_60 rfl ?_
        refine g_aload_n (pc := 61) dX4_takeNumber_61 rfl trivial ?_
        refine g_getf (pc := 62) (v := .int _) dX4_takeNumber_62 fk_X4_70 (shK hS1 rfl) (fun _ => congrArg Value.int (hr3)) ?_
        refine g_invV_r (pc := 65) (As := [_, _]) dX4_takeNumber_65 rfl (r_fail hS) rfl rfl (shK hS1 rfl) rfl rfl lk_X4_73 rfl (nb rfl) ⟨nb rfl, nb rfl⟩ rfl ?_
        exact g_sub (lv' := [(0, _), (1, _), (2, _), (3, _)]) ⟨rfl, rfl, rfl, rfl, trivial⟩ (hfin _ _ e1.symm (by rw [e2, e1]))
end
