/-! bits of ints and longs -/
def hb (x : Int32) (c : Nat) : Bool := x.toBitVec.getLsbD c
def hl (x : Int64) (c : Nat) : Bool := x.toBitVec.getLsbD c
def b1 (b : Bool) : Int32 := match b with
  | true => 1
  | false => 0
theorem sh31 : ∀ c, c < 32 → (nI c).toUInt32 &&& Int32.toUInt32 31 = UInt32.ofNat c := by decide +kernel
theorem ush32 (x : Int32) {c : Nat} (h : c < 32) : (x.toUInt32 >>> ((nI c).toUInt32 &&& Int32.toUInt32 31)).toInt32.toBitVec = x.toBitVec >>> c := by
  rw [sh31 c h]
  show x.toBitVec >>> ((UInt32.ofNat c).mod 32).toBitVec = _
  have e : ((UInt32.ofNat c).mod 32).toBitVec.toNat = c := by
    have h1 : ∀ c, c < 32 → ((UInt32.ofNat c).mod 32).toBitVec.toNat = c := by decide +kernel
    exact h1 c h
  show x.toBitVec >>> ((UInt32.ofNat c).mod 32).toBitVec.toNat = _
  rw [e]
/-- a bit taken out -/
theorem bit32 (x : Int32) {c : Nat} (h : c < 32) : (x.toUInt32 >>> ((nI c).toUInt32 &&& Int32.toUInt32 31)).toInt32 &&& 1 = b1 (hb x c) := by
  apply Int32.toBitVec_inj.mp
  rw [Int32.toBitVec_and, ush32 x h]
  apply BitVec.eq_of_getLsbD_eq
  intro i hi
  unfold hb
  cases hx : x.toBitVec.getLsbD c
  · simp only [b1, BitVec.getLsbD_and, BitVec.getLsbD_ushiftRight]
    rcases Nat.eq_zero_or_pos i with rfl | h0
    · simp [hx]
    · have : (1 : Int32).toBitVec.getLsbD i = false := by
        show (1#32).getLsbD i = false
        simp [BitVec.getLsbD_one]; omega
      rw [this]; simp
  · simp only [b1, BitVec.getLsbD_and, BitVec.getLsbD_ushiftRight]
    rcases Nat.eq_zero_or_pos i with rfl | h0
    · simp [hx]
    · have : (1 : Int32).toBitVec.getLsbD i = false := by
        show (1#32).getLsbD i = false
        simp [BitVec.getLsbD_one]; omega
      rw [this]; simp
theorem b1_0 (b : Bool) : (b1 b = 0) = (b = false) := by cases b <;> simp [b1]
