/-! longs that are rows of bits -/
def uL (x : Int32) : Int64 := x.toInt64 &&& 4294967295
theorem m32 : ∀ i, i < 64 → (4294967295 : Int64).toBitVec.getLsbD i = decide (i < 32) := by decide +kernel
theorem hl_uL (x : Int32) (i : Nat) : hl (uL x) i = (decide (i < 32) && hb x i) := by
  unfold hl uL hb
  rw [Int64.toBitVec_and, BitVec.getLsbD_and, Int32.toBitVec_toInt64, BitVec.getLsbD_signExtend]
  by_cases h : i < 32
  · rw [m32 i (by omega)]
    simp [h, show i < 64 by omega]
  · by_cases h2 : i < 64
    · rw [m32 i h2]; simp [h]
    · simp [h, h2]
theorem hl_ext {x y : Int64} (h : ∀ i, i < 64 → hl x i = hl y i) : x = y := Int64.toBitVec_inj.mp (BitVec.eq_of_getLsbD_eq h)
theorem hb_ext {x y : Int32} (h : ∀ i, i < 32 → hb x i = hb y i) : x = y := Int32.toBitVec_inj.mp (BitVec.eq_of_getLsbD_eq h)
theorem hl_and (x y : Int64) (i : Nat) : hl (x &&& y) i = (hl x i && hl y i) := by unfold hl; rw [Int64.toBitVec_and, BitVec.getLsbD_and]
theorem hl_or (x y : Int64) (i : Nat) : hl (x ||| y) i = (hl x i || hl y i) := by unfold hl; rw [Int64.toBitVec_or, BitVec.getLsbD_or]
theorem hl_xor (x y : Int64) (i : Nat) : hl (x ^^^ y) i = Bool.xor (hl x i) (hl y i) := by unfold hl; rw [Int64.toBitVec_xor, BitVec.getLsbD_xor]
theorem hb_and (x y : Int32) (i : Nat) : hb (x &&& y) i = (hb x i && hb y i) := by unfold hb; rw [Int32.toBitVec_and, BitVec.getLsbD_and]
theorem hb_or (x y : Int32) (i : Nat) : hb (x ||| y) i = (hb x i || hb y i) := by unfold hb; rw [Int32.toBitVec_or, BitVec.getLsbD_or]
theorem hb_xor (x y : Int32) (i : Nat) : hb (x ^^^ y) i = Bool.xor (hb x i) (hb y i) := by unfold hb; rw [Int32.toBitVec_xor, BitVec.getLsbD_xor]
theorem hb_ge {x : Int32} {i : Nat} (h : 32 ≤ i) : hb x i = false := BitVec.getLsbD_of_ge _ _ h
theorem hb_m1 {i : Nat} (h : i < 32) : hb (-1) i = true := (by decide +kernel : ∀ i, i < 32 → hb (-1) i = true) i h
theorem hb_0 (i : Nat) : hb 0 i = false := by unfold hb; exact BitVec.getLsbD_zero
theorem hb_not {x : Int32} {i : Nat} (h : i < 32) : hb (x ^^^ -1) i = !hb x i := by rw [hb_xor, hb_m1 h]; simp
theorem bitI_hb : ∀ c, c < 32 → ∀ i, i < 32 → hb (bitI c) i = decide (i = c) := by decide +kernel
theorem hb_bitI {c i : Nat} (hc : c < 32) : hb (bitI c) i = decide (i = c) := by
  by_cases h : i < 32
  · exact bitI_hb c hc i h
  · rw [hb_ge (by omega)]; simp; omega
theorem lowM_hb : ∀ c, c ≤ 32 → ∀ i, i < 32 → hb (lowM c) i = decide (i < c) := by decide +kernel
theorem hb_lowM {c i : Nat} (hc : c ≤ 32) : hb (lowM c) i = decide (i < c) := by
  by_cases h : i < 32
  · exact lowM_hb c hc i h
  · rw [hb_ge (by omega)]; simp; omega
theorem uL_and (x y : Int32) : uL x &&& uL y = uL (x &&& y) := hl_ext fun i _ => by simp only [hl_and, hl_uL, hb_and]; cases decide (i < 32) <;> simp
theorem uL_or (x y : Int32) : uL x ||| uL y = uL (x ||| y) := hl_ext fun i _ => by simp only [hl_or, hl_uL, hb_or]; cases decide (i < 32) <;> simp
theorem uL_xor (x y : Int32) : uL x ^^^ uL y = uL (x ^^^ y) := hl_ext fun i _ => by simp only [hl_xor, hl_uL, hb_xor]; cases decide (i < 32) <;> simp
theorem uL_low (v : Int64) (x : Int32) : v &&& uL x = uL (v.toInt32 &&& x) := hl_ext fun i _ => by
  simp only [hl_and, hl_uL, hb_and]
  by_cases h : i < 32
  · have : hb v.toInt32 i = hl v i := by
      unfold hb hl
      rw [Int64.toBitVec_toInt32, BitVec.getLsbD_signExtend]
      simp [h, show i < 64 by omega]
    simp [h, this]
  · simp [h]
theorem uL_inj {x y : Int32} : uL x = uL y ↔ x = y := ⟨fun h => hb_ext fun i hi => by
  have := congrArg (fun z => hl z i) h
  simpa [hl_uL, hi] using this, fun h => by rw [h]⟩
theorem uL_0 : uL 0 = 0 := by decide +kernel
theorem uL_eq0 {x : Int32} : uL x = 0 ↔ x = 0 := by rw [← uL_0, uL_inj]
theorem uL_32 (x : Int32) : (uL x).toInt32 = x := hb_ext fun i hi => by
  have : hb (uL x).toInt32 i = hl (uL x) i := by
    unfold hb hl
    rw [Int64.toBitVec_toInt32, BitVec.getLsbD_signExtend]
    simp [hi, show i < 64 by omega]
  rw [this, hl_uL]; simp [hi]
theorem shc : ∀ c, c < 64 → ((nI c).toInt64 &&& 63).toBitVec.smod 64 = BitVec.ofNat 64 c := by decide +kernel
theorem hl_shr (y : Int64) {c : Nat} (hc : c < 64) (i : Nat) (hi : i < 64) : hl (y >>> ((nI c).toInt64 &&& 63)) i = if c + i < 64 then hl y (c + i) else y.toBitVec.msb := by
  unfold hl
  rw [Int64.toBitVec_shiftRight, shc c hc]
  show (BitVec.sshiftRight y.toBitVec (BitVec.ofNat 64 c).toNat).getLsbD i = _
  rw [BitVec.toNat_ofNat, Nat.mod_eq_of_lt (by omega), BitVec.getLsbD_sshiftRight]
  simp [hi, Nat.not_le.mpr hi]
theorem msb_uL (x : Int32) : (uL x).toBitVec.msb = false := by
  rw [BitVec.msb_eq_getLsbD_last]
  exact hl_uL x 63
/-- a bit taken out of a row -/
theorem uL_one (x : Int32) {c : Nat} (hc : c < 32) : uL x >>> ((nI c).toInt64 &&& 63) &&& 1 = uL (b1 (hb x c)) := hl_ext fun i hi => by
  rw [hl_and, hl_shr _ (by omega) i hi, msb_uL, hl_uL, hl_uL]
  by_cases h0 : i = 0
  · subst h0
    rw [if_pos (by omega)]
    have h1 : hl 1 0 = true := by decide
    rw [h1]
    cases h : hb x c <;> simp [b1, hb, hc] <;> decide
  · have h1 : hl 1 i = false := (by decide +kernel : ∀ i, i < 64 → i ≠ 0 → hl 1 i = false) i hi h0
    rw [h1]
    have h2 : ∀ b, i < 32 → hb (b1 b) i = false := fun b h => by
      cases b
      · exact hb_0 i
      · exact (by decide +kernel : ∀ i, i < 32 → i ≠ 0 → hb (b1 true) i = false) i h h0
    by_cases h3 : i < 32
    · rw [h2 _ h3]; simp
    · simp [h3]
theorem uL_b1 (b : Bool) : (uL (b1 b)).toInt32 = b1 b := uL_32 _
theorem sh_bit : ∀ c, c < 32 → (1 : Int64) <<< ((nI c).toInt64 &&& 63) = uL (bitI c) := by decide +kernel
theorem sh_low : ∀ c, c ≤ 32 → (1 : Int64) <<< ((nI c).toInt64 &&& 63) - 1 = uL (lowM c) := by decide +kernel
theorem sh_b1 : ∀ b : Bool, ∀ c, c < 32 → (b1 b).toInt64 <<< ((nI c).toInt64 &&& 63) = uL (if b then bitI c else 0) := by decide +kernel
theorem uL_not (x y : Int32) : uL x &&& (uL y ^^^ -1) = uL (x &&& (y ^^^ -1)) := hl_ext fun i hi => by
  have h1 : hl (-1) i = true := (by decide +kernel : ∀ i, i < 64 → hl (-1) i = true) i hi
  simp only [hl_and, hl_xor, hl_uL, hb_and, h1]
  by_cases h : i < 32
  · rw [hb_not h]; simp [h]
  · simp [h]
