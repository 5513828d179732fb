/-! drawn numbers; the text, told -/
section
variable {l : Launch} {M : Mem} {n d k : Nat} {S : Nat × (Nat → Int32)}
theorem nI_div {a b : Nat} (ha : a < 2147483648) (hb9 : b < 2147483648) : nI a / nI b = nI (a / b) := Int32.toInt_inj.mp (by
  have h := Nat.div_le_self a b
  rw [Int32.toInt_div, nI_toInt (n := a) (by omega), nI_toInt (n := b) (by omega), nI_toInt (n := a / b) (by omega), ← Int.ofNat_tdiv]
  generalize a / b = c at *
  exact Int.bmod_eq_of_le (by omega) (by omega))
theorem isA_0 : isA (.retAddr 0) := by
  show 0 ≠ 1
  decide
theorem nI_inj9 {a b : Nat} (ha : a < 2147483648) (hb9 : b < 2147483648) (h : nI a = nI b) : a = b := by
  have h1 := congrArg Int32.toInt h
  rw [nI_toInt (n := a) (by omega), nI_toInt (n := b) (by omega)] at h1
  exact Int.ofNat.inj h1
theorem nI_mul {a b : Nat} : nI a * nI b = nI (a * b) := (Int32.ofNat_mul _ _).symm
theorem nI_rem {a b : Nat} (ha : a < 2147483648) (hb9 : b < 2147483648) : nI a - nI a / nI b * nI b = nI (a % b) := by
  rw [nI_div ha hb9, nI_mul, nI_sub' (Nat.div_mul_le_self a b)]
  congr 1
  have h := Nat.div_add_mod a b
  rw [Nat.mul_comm] at h
  omega
theorem and_pos (x : Int32) : ∃ v, v < 2147483648 ∧ x &&& 2147483647 = nI v := by
  refine ⟨(x &&& 2147483647).toBitVec.toNat, ?_, Int32.toBitVec_inj.mp ?_⟩
  · rw [Int32.toBitVec_and, BitVec.toNat_and]
    exact Nat.lt_of_le_of_lt Nat.and_le_right (by decide)
  · show _ = BitVec.ofNat 32 (x &&& 2147483647).toBitVec.toNat
    rw [BitVec.ofNat_toNat, BitVec.setWidth_eq]
/-- the k-th drawn number -/
def atI (S : Nat × (Nat → Int32)) (k : Nat) : Int32 := if 1 < S.1 then S.2 (k % (S.1 - 1) + 1) &&& 2147483647 else 7919 * nI k &&& 2147483647
theorem atI_n (S : Nat × (Nat → Int32)) (k : Nat) : ∃ v, v < 2147483648 ∧ atI S k = nI v := by
  unfold atI
  split
  · exact and_pos _
  · exact and_pos _
noncomputable def atN (S : Nat × (Nat → Int32)) (k : Nat) : Nat := (atI_n S k).choose
theorem atN_lt (S : Nat × (Nat → Int32)) (k : Nat) : atN S k < 2147483648 := (atI_n S k).choose_spec.1
theorem atN_e (S : Nat × (Nat → Int32)) (k : Nat) : atI S k = nI (atN S k) := (atI_n S k).choose_spec.2
theorem k_at (hk : k < 2147483648) (hl : (mS M).1 < 2147483648) : EvR l jL_at 0 0 0 0 [.retAddr 0, .int (nI k)] M (.inl (some (.int (nI (atN (mS M) k))))) M := by
  refine ev_intro rfl (nb rfl) rfl ?_
  rw [← atN_e]
  by_cases h : 1 < (mS M).1
  · have hr : k % ((mS M).1 - 1) < (mS M).1 - 1 := Nat.mod_lt _ (by omega)
    have h0 : ¬ (nI ((mS M).1 - 1) = 0) := fun z => by
      have z2 := nI_inj9 (a := (mS M).1 - 1) (b := 0) (by omega) (by decide) z
      omega
    refine g_aload_n (pc := 0) dL_at_0 rfl isA_0 ?_
    refine g_scriptLen (pc := 1) dL_at_1 ?_
    refine g_iconst (pc := 2) (v := 1) dL_at_2 rfl ?_
    refine g_icmp_le (pc := 3) (tgt := 22) dL_at_3 rfl (fun h3 => absurd h3 ((fun z => absurd (Int32.lt_of_lt_of_le (nI_gt h hl) z) Int32.lt_irrefl))) (fun _ => ?_)
    refine g_aload_n (pc := 6) dL_at_6 rfl isA_0 ?_
    refine g_iload_n (pc := 7) dL_at_7 rfl ?_
    refine g_aload_n (pc := 8) dL_at_8 rfl isA_0 ?_
    refine g_scriptLen (pc := 9) dL_at_9 ?_
    refine g_iconst (pc := 10) (v := 1) dL_at_10 rfl ?_
    refine g_isub (pc := 11) dL_at_11 ?_
    rw [show nI (mS M).1 - 1 = nI ((mS M).1 - 1) from nI_m1 (by omega)]
    refine g_irem (pc := 12) dL_at_12 h0 ?_
    rw [nI_rem hk (by omega)]
    refine g_iconst (pc := 13) (v := 1) dL_at_13 rfl ?_
    refine g_iadd (pc := 14) dL_at_14 ?_
    rw [show nI (k % ((mS M).1 - 1)) + 1 = nI (k % ((mS M).1 - 1) + 1) from nI_add _ 1]
    refine g_scriptLoad (pc := 15) dL_at_15 rfl (by omega) (by omega) ?_
    refine g_ldc (pc := 16) dL_at_16 wd_x443 ?_
    refine g_iand (pc := 18) dL_at_18 ?_
    refine g_goto (pc := 19) (tgt := 30) dL_at_19 rfl ?_
    refine g_ireturn (pc := 30) dL_at_30 rfl rfl ?_
    exact ⟨congrArg (fun z => Sum.inl (some (Value.int z))) (if_pos h).symm, rfl⟩
  · refine g_aload_n (pc := 0) dL_at_0 rfl isA_0 ?_
    refine g_scriptLen (pc := 1) dL_at_1 ?_
    refine g_iconst (pc := 2) (v := 1) dL_at_2 rfl ?_
    refine g_icmp_le (pc := 3) (tgt := 22) dL_at_3 rfl (fun _ => ?_) (fun h3 => absurd (nI_le (Nat.not_lt.mp h) (by decide)) h3)
    refine g_sipush (pc := 22) (v := 7919) dL_at_22 rfl ?_
    refine g_iload_n (pc := 25) dL_at_25 rfl ?_
    refine g_imul (pc := 26) dL_at_26 ?_
    refine g_ldc (pc := 27) dL_at_27 wd_x443 ?_
    refine g_iand (pc := 29) dL_at_29 ?_
    refine g_ireturn (pc := 30) dL_at_30 rfl rfl ?_
    exact ⟨congrArg (fun z => Sum.inl (some (Value.int z))) (if_neg h).symm, rfl⟩
end

