/-! a text told eight characters at a time -/
theorem shI_n : ∀ k, k < 8 → shI k = nI (56 - 8 * k) ∧ 8 * (7 - nI k) = nI (56 - 8 * k) := by decide +kernel
theorem ush64 : ∀ c, c < 64 → ((((nI c).toInt64.toUInt64 &&& Int64.toUInt64 63)).mod 64).toBitVec.toNat = c := by decide +kernel
theorem m255 : ∀ i, i < 64 → hl 255 i = decide (i < 8) := by decide +kernel
theorem byt_eq (x : Int64) {k : Nat} (hk : k < 8) : x >>> ((nI (56 - 8 * k)).toInt64 &&& 63) &&& 255 = btX x k := hl_ext fun i hi => by
  unfold btX
  rw [(shI_n k hk).1, hl_and, hl_and, hl_shr _ (by omega) i hi, m255 i hi]
  by_cases h : i < 8
  · have e : hl (x.toUInt64 >>> ((nI (56 - 8 * k)).toInt64.toUInt64 &&& Int64.toUInt64 63)).toInt64 i = hl x (56 - 8 * k + i) := by
      unfold hl
      show (x.toBitVec >>> ((((nI (56 - 8 * k)).toInt64.toUInt64 &&& Int64.toUInt64 63)).mod 64).toBitVec.toNat).getLsbD i = _
      rw [ush64 _ (by omega), BitVec.getLsbD_ushiftRight]
    rw [e, if_pos (by omega)]
  · simp [h]
theorem hl_shl (y : Int64) {c : Nat} (hc : c < 64) (i : Nat) (hi : i < 64) : hl (y <<< ((nI c).toInt64 &&& 63)) i = (decide (c ≤ i) && hl y (i - c)) := by
  unfold hl
  rw [Int64.toBitVec_shiftLeft, shc c hc]
  show (y.toBitVec <<< (BitVec.ofNat 64 c).toNat).getLsbD i = _
  rw [BitVec.toNat_ofNat, Nat.mod_eq_of_lt (by omega), BitVec.getLsbD_shiftLeft, decide_eq_true hi]
  by_cases h : c ≤ i
  · rw [decide_eq_true h, decide_eq_false (show ¬ i < c by omega)]
    rfl
  · rw [decide_eq_false h, decide_eq_true (show i < c by omega)]
    rfl
/-- characters in a long -/
def pkL (T : Nat → Nat) : Nat → Int64
  | 0 => 0
  | m + 1 => pkL T m <<< ((nI 8).toInt64 &&& 63) ||| (nI (T m)).toInt64
theorem nI_l9 : ∀ k, k < 128 → (nI k).toInt64 = oL k := by decide +kernel
theorem tb_hi {v i : Nat} (hv : v < 128) (hi : 7 ≤ i) : v.testBit i = false := Nat.testBit_lt_two_pow (Nat.lt_of_lt_of_le hv (Nat.pow_le_pow_right (by decide) hi : 2 ^ 7 ≤ 2 ^ i))
theorem pkL_h {T : Nat → Nat} : ∀ m, m ≤ 8 → (∀ j, j < m → T j < 128) → ∀ i, i < 64 → hl (pkL T m) i = (decide (i / 8 < m) && (T (m - 1 - i / 8)).testBit (i % 8))
  | 0, _, _, i, hi => by
    rw [decide_eq_false (Nat.not_lt_zero _), Bool.false_and]
    show hl 0 i = false
    exact (by decide +kernel : ∀ i, i < 64 → hl 0 i = false) i hi
  | m + 1, hm, hT, i, hi => by
    rw [pkL, hl_or, hl_shl _ (by decide) i hi, nI_l9 _ (hT m (Nat.lt_succ_self m)), oL_b hi]
    by_cases h : 8 ≤ i
    · rw [decide_eq_true h, Bool.true_and, pkL_h m (by omega) (fun j hj => hT j (by omega)) (i - 8) (by omega), tb_hi (hT m (Nat.lt_succ_self m)) (by omega), Bool.or_false, show (i - 8) / 8 = i / 8 - 1 by omega, show (i - 8) % 8 = i % 8 by omega, show m - 1 - (i / 8 - 1) = m + 1 - 1 - i / 8 by omega]
      congr 1
      exact decide_eq_decide.mpr (by omega)
    · rw [decide_eq_false h, Bool.false_and, Bool.false_or, show i / 8 = 0 by omega, decide_eq_true (Nat.succ_pos m), show i % 8 = i by omega]
      rfl
theorem btX_pk {T : Nat → Nat} {m k : Nat} (hm : m ≤ 8) (hk : k < 8) (hT : ∀ j, j < m → T j < 128) : btX (pkL T m) k = oL (if k < 8 - m then 0 else T (k - (8 - m))) := hl_ext fun i hi => by
  rw [← byt_eq _ hk, hl_and, hl_shr _ (by omega) i hi, m255 i hi, oL_b hi]
  by_cases h : i < 8
  · rw [decide_eq_true h, Bool.and_true, if_pos (by omega), pkL_h m hm hT _ (by omega), show (56 - 8 * k + i) / 8 = 7 - k by omega, show (56 - 8 * k + i) % 8 = i by omega]
    by_cases h2 : k < 8 - m
    · rw [if_pos h2, decide_eq_false (by omega), Bool.false_and, Nat.zero_testBit]
    · rw [if_neg h2, decide_eq_true (show 7 - k < m by omega), Bool.true_and, show m - 1 - (7 - k) = k - (8 - m) by omega]
  · rw [decide_eq_false h, Bool.and_false]
    split
    · rw [Nat.zero_testBit]
    · rw [tb_hi (hT _ (by omega)) (by omega)]
theorem oL_I : ∀ k, k < 128 → (oL k).toInt32 = nI k ∧ (nI k = 0 ↔ k = 0) := by decide +kernel
theorem bI_pk {T : Nat → Nat} {m k : Nat} (hm : m ≤ 8) (hk : k < 8) (hT : ∀ j, j < m → T j < 128) : bI (pkL T m) k = nI (if k < 8 - m then 0 else T (k - (8 - m))) := by
  unfold bI
  rw [btX_pk hm hk hT]
  split
  · exact (oL_I 0 (by decide)).1
  · exact (oL_I _ (hT _ (by omega))).1
/-- what is told is put behind what is there -/
theorem apL_pk {T : Nat → Nat} {m len : Nat} {X : Nat → Int32} (hm : m ≤ 8) (hT : ∀ j, j < m → 1 ≤ T j ∧ T j < 128) (hl : len + 8 ≤ 600) : ∀ k, k ≤ 8 → apL len X (pkL T m) k = (len + (k - (8 - m)), fun j => if len ≤ j ∧ j < len + (k - (8 - m)) then nI (T (j - len)) else X j)
  | 0, _ => by
    rw [apL, Nat.zero_sub]
    exact congrArg (Prod.mk len) (funext fun j => (if_neg (by omega)).symm)
  | k + 1, hk => by
    have hb := bI_pk (k := k) hm (by omega) (fun j hj => (hT j hj).2)
    rw [apL, apL_pk hm hT hl k (by omega), hb]
    by_cases h : k < 8 - m
    · rw [if_pos h, if_pos (by decide), show k - (8 - m) = 0 by omega, show k + 1 - (8 - m) = 0 by omega]
    · have h9 := hT (k - (8 - m)) (by omega)
      rw [if_neg h, if_neg (fun z => by have := (oL_I _ h9.2).2.mp z; omega)]
      show (if len + (k - (8 - m)) < 600 then _ else _) = _
      rw [if_pos (by omega), show k + 1 - (8 - m) = k - (8 - m) + 1 by omega]
      refine congrArg (Prod.mk _) (funext fun j => ?_)
      show fun_set (fun j => if len ≤ j ∧ j < len + (k - (8 - m)) then nI (T (j - len)) else X j) (len + (k - (8 - m))) (nI (T (k - (8 - m)))) j = _
      by_cases e : j = len + (k - (8 - m))
      · rw [e, fs_self, if_pos (by omega), show len + (k - (8 - m)) - len = k - (8 - m) by omega]
      · rw [fs_ne _ _ e]
        by_cases e2 : len ≤ j ∧ j < len + (k - (8 - m))
        · rw [if_pos e2, if_pos (by omega)]
        · rw [if_neg e2, if_neg (by omega)]

