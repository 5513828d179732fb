/-! what bcJ counts -/
/-- the ones among the lowest k bits of a number -/
def pcn : Nat → Nat → Nat
  | 0, _ => 0
  | k + 1, m => m % 2 + pcn k (m / 2)
/-- one stage of a word of k bytes -/
def mk5 (c : Nat) : Nat → Nat
  | 0 => 0
  | k + 1 => 256 * mk5 c k + c
theorem and_div256 (a b : Nat) : (a &&& b) / 256 = a / 256 &&& b / 256 := by
  have this : (a &&& b) >>> 8 = a >>> 8 &&& b >>> 8 := Nat.shiftRight_and_distrib
  simpa [Nat.shiftRight_eq_div_pow] using this
theorem and_mod256 (a b : Nat) : (a &&& b) % 256 = a % 256 &&& b % 256 := Nat.and_mod_two_pow (n := 8) ..
theorem and_split {a b c d : Nat} (hb : b < 256) (hd : d < 256) : (256 * a + b) &&& (256 * c + d) = 256 * (a &&& c) + (b &&& d) := by
  have h1 := and_div256 (256 * a + b) (256 * c + d)
  have h2 := and_mod256 (256 * a + b) (256 * c + d)
  rw [show (256 * a + b) / 256 = a by omega, show (256 * c + d) / 256 = c by omega] at h1
  rw [show (256 * a + b) % 256 = b by omega, show (256 * c + d) % 256 = d by omega] at h2
  omega
theorem shr_split (q r s : Nat) (hs : s ≤ 8) (hr : r < 256) : (256 * q + r) >>> s = 256 * (q >>> s) + ((q % 2 ^ s) * 2 ^ (8 - s) + r >>> s) := by
  simp only [Nat.shiftRight_eq_div_pow]
  have e : 256 = 2 ^ s * 2 ^ (8 - s) := by rw [← Nat.pow_add, show s + (8 - s) = 8 by omega]
  have hp : 0 < 2 ^ s := Nat.pow_pos (by decide)
  have h1 := Nat.div_add_mod q (2 ^ s)
  generalize q / 2 ^ s = u at *
  generalize q % 2 ^ s = w at *
  have h2 : 256 * q + r = 2 ^ s * (256 * u + w * 2 ^ (8 - s)) + r := by
    rw [← h1, Nat.mul_add, Nat.mul_add]
    have : 256 * w = 2 ^ s * (w * 2 ^ (8 - s)) := by rw [e, Nat.mul_comm w, Nat.mul_assoc]
    have h3 : 256 * (2 ^ s * u) = 2 ^ s * (256 * u) := Nat.mul_left_comm _ _ _
    omega
  rw [h2, Nat.mul_add_div hp, Nat.add_assoc]
/-- the three stages on one byte -/
def g1 (v : Nat) : Nat := v - (v >>> 1 &&& 0x55)
def g2 (v : Nat) : Nat := (v &&& 0x33) + (v >>> 2 &&& 0x33)
def g3 (v : Nat) : Nat := (v + v >>> 4) &&& 0x0f
theorem pst1 : ∀ w, w < 2 → ∀ r, r < 256 → ((w * 2 ^ (8 - 1) + r >>> 1) &&& 0x55 = r >>> 1 &&& 0x55) ∧ w * 2 ^ (8 - 1) + r >>> 1 < 256 ∧ r >>> 1 &&& 0x55 ≤ r := by decide +kernel
theorem pst2 : ∀ w, w < 4 → ∀ r, r < 256 → ((w * 2 ^ (8 - 2) + r >>> 2) &&& 0x33 = r >>> 2 &&& 0x33) ∧ w * 2 ^ (8 - 2) + r >>> 2 < 256 := by decide +kernel
theorem pst3 : ∀ r, r < 256 → g3 (g2 (g1 r)) = pcn 8 r ∧ g1 r < 256 ∧ g2 (g1 r) < 256 ∧ g2 (g1 r) % 16 + g2 (g1 r) / 16 < 16 ∧ g2 (g1 r) % 16 ≤ 4 ∧ g2 (g1 r) / 16 ≤ 4 := by decide +kernel
def w1 (k x : Nat) : Nat := x - (x >>> 1 &&& mk5 0x55 k)
def w2 (k x : Nat) : Nat := (x &&& mk5 0x33 k) + (x >>> 2 &&& mk5 0x33 k)
def w3 (k x : Nat) : Nat := (x + x >>> 4) &&& mk5 0x0f k
theorem w1_s (k q r : Nat) (hr : r < 256) : w1 (k + 1) (256 * q + r) = 256 * w1 k q + g1 r := by
  obtain ⟨a1, a2, a3⟩ := pst1 (q % 2 ^ 1) (Nat.mod_lt _ (by decide)) r hr
  unfold w1 g1
  rw [shr_split q r 1 (by decide) hr, mk5, and_split a2 (by decide), a1]
  have : q >>> 1 &&& mk5 85 k ≤ q := Nat.le_trans Nat.and_le_left (by rw [Nat.shiftRight_eq_div_pow]; omega)
  omega
theorem w2_s (k q r : Nat) (hr : r < 256) : w2 (k + 1) (256 * q + r) = 256 * w2 k q + g2 r := by
  obtain ⟨a1, a2⟩ := pst2 (q % 2 ^ 2) (Nat.mod_lt _ (by decide)) r hr
  unfold w2 g2
  rw [shr_split q r 2 (by decide) hr, mk5, and_split a2 (by decide), a1, and_split hr (by decide)]
  omega
theorem pst4 : ∀ w, w ≤ 4 → ∀ a, a ≤ 4 → ∀ b, b ≤ 4 → ((16 * b + a + (w * 2 ^ (8 - 4) + (16 * b + a) >>> 4)) &&& 0x0f = (16 * b + a + (16 * b + a) >>> 4) &&& 0x0f) ∧ 16 * b + a + (w * 2 ^ (8 - 4) + (16 * b + a) >>> 4) < 256 := by decide +kernel
theorem w3_s (k q r : Nat) (hr : r < 256) (h4 : r % 16 ≤ 4) (h5 : r / 16 ≤ 4) (hq : q % 16 ≤ 4) : w3 (k + 1) (256 * q + r) = 256 * w3 k q + g3 r := by
  obtain ⟨a1, a2⟩ := pst4 (q % 2 ^ 4) hq (r % 16) h4 (r / 16) h5
  rw [show 16 * (r / 16) + r % 16 = r by omega] at a1 a2
  unfold w3 g3
  rw [shr_split q r 4 (by decide) hr, mk5, show 256 * q + r + (256 * q >>> 4 + (q % 2 ^ 4 * 2 ^ (8 - 4) + r >>> 4)) = 256 * (q + q >>> 4) + (r + (q % 2 ^ 4 * 2 ^ (8 - 4) + r >>> 4)) by omega, and_split a2 (by decide), a1]
/-- the bytes' counts as one word -/
def pw : Nat → Nat → Nat
  | 0, _ => 0
  | k + 1, m => 256 * pw k (m / 256) + pcn 8 (m % 256)
theorem w12_low (k x : Nat) : k ≠ 0 ∨ x = 0 → w2 k (w1 k x) % 16 ≤ 4 := by
  intro h
  cases k with
  | zero =>
    have : x = 0 := by omega
    subst this
    decide
  | succ k =>
    have hr : x % 256 < 256 := Nat.mod_lt _ (by decide)
    obtain ⟨b1, b2, b3, b4, b5, b6⟩ := pst3 (x % 256) hr
    rw [show x = 256 * (x / 256) + x % 256 by omega, w1_s k _ _ hr, w2_s k _ _ b2]
    omega
theorem w123 : ∀ k x, x < 256 ^ k → w3 k (w2 k (w1 k x)) = pw k x
  | 0, x, h => by
    have : x = 0 := by simp at h; exact h
    subst this
    decide
  | k + 1, x, h => by
    have hr : x % 256 < 256 := Nat.mod_lt _ (by decide)
    have hq : x / 256 < 256 ^ k := by
      rw [Nat.pow_succ] at h
      exact Nat.div_lt_of_lt_mul (by rw [Nat.mul_comm]; exact h)
    obtain ⟨c1, c2, c3, c4, c5, c6⟩ := pst3 (x % 256) hr
    have ih := w123 k (x / 256) hq
    have hl9 : w2 k (w1 k (x / 256)) % 16 ≤ 4 := w12_low k _ (by
      rcases Nat.eq_zero_or_pos k with h0 | h0
      · subst h0; right; simp at hq; omega
      · left; omega)
    rw [pw, ← ih, ← c1]
    conv => lhs; rw [show x = 256 * (x / 256) + x % 256 by omega]
    rw [w1_s k _ _ hr, w2_s k _ _ c2, w3_s k _ _ c3 c5 c6 hl9]
theorem pcn_split (k : Nat) : ∀ a m, pcn (a + k) m = pcn a (m % 2 ^ a) + pcn k (m / 2 ^ a)
  | 0, m => by simp [pcn]
  | a + 1, m => by
    rw [show a + 1 + k = a + k + 1 by omega, pcn, pcn, pcn_split k a (m / 2)]
    have h1 : m % 2 ^ (a + 1) % 2 = m % 2 := Nat.mod_mod_of_dvd m (Nat.dvd_of_mod_eq_zero (by rw [Nat.pow_succ]; simp))
    have h2 : m % 2 ^ (a + 1) / 2 = m / 2 % 2 ^ a := by rw [Nat.pow_succ, Nat.mul_comm]; exact Nat.mod_mul_right_div_self ..
    have h3 : m / 2 ^ (a + 1) = m / 2 / 2 ^ a := by rw [Nat.pow_succ, Nat.mul_comm, Nat.div_div_eq_div_mul]
    rw [h1, h2, h3]; omega
theorem pcn_le : ∀ k m, pcn k m ≤ k
  | 0, m => by simp [pcn]
  | k + 1, m => by have := pcn_le k (m / 2); rw [pcn]; omega
theorem pst5 : ∀ a, a ≤ 8 → ∀ b, b ≤ 8 → ∀ c, c ≤ 8 → ∀ d, d ≤ 8 → (let z := 256 * (256 * (256 * (256 * 0 + d) + c) + b) + a; let y := z + z >>> 8; (y + y >>> 16) &&& 63 = a + b + c + d ∧ y + y >>> 16 < 4294967296) := by decide +kernel
/-- the ones of a row -/
def pcN (x : Int32) : Nat := pcn 32 x.toBitVec.toNat
theorem pcN_le (x : Int32) : pcN x ≤ 32 := pcn_le 32 _
theorem us_nat (x : Int32) {c : Nat} (h : c < 32) : (us x (nI c)).toBitVec.toNat = x.toBitVec.toNat >>> c := by
  show ((x.toUInt32 >>> ((nI c).toUInt32 &&& Int32.toUInt32 31)).toInt32).toBitVec.toNat = _
  rw [ush32 x h, BitVec.toNat_ushiftRight]
theorem and_nat (x y : Int32) : (x &&& y).toBitVec.toNat = x.toBitVec.toNat &&& y.toBitVec.toNat := by rw [Int32.toBitVec_and, BitVec.toNat_and]
theorem add_nat {x y : Int32} (h : x.toBitVec.toNat + y.toBitVec.toNat < 4294967296) : (x + y).toBitVec.toNat = x.toBitVec.toNat + y.toBitVec.toNat := by
  rw [Int32.toBitVec_add, BitVec.toNat_add]; exact Nat.mod_eq_of_lt h
theorem sub_nat {x y : Int32} (h : y.toBitVec.toNat ≤ x.toBitVec.toNat) : (x - y).toBitVec.toNat = x.toBitVec.toNat - y.toBitVec.toNat := by
  have h1 := x.toBitVec.isLt
  have h2 := y.toBitVec.isLt
  rw [Int32.toBitVec_sub, BitVec.toNat_sub]
  omega
theorem pw4 (x : Nat) : pw 4 x = 256 * (256 * (256 * (256 * 0 + pcn 8 (x / 256 / 256 / 256 % 256)) + pcn 8 (x / 256 / 256 % 256)) + pcn 8 (x / 256 % 256)) + pcn 8 (x % 256) := rfl
theorem pcn32 (x : Nat) (h : x < 4294967296) : pcn 32 x = pcn 8 (x % 256) + pcn 8 (x / 256 % 256) + pcn 8 (x / 256 / 256 % 256) + pcn 8 (x / 256 / 256 / 256 % 256) := by
  rw [show (32 : Nat) = 8 + (8 + (8 + (8 + 0))) from rfl, pcn_split, pcn_split, pcn_split, pcn_split]
  simp only [pcn]
  omega
theorem le_and {a b : Nat} : a &&& b ≤ b := Nat.and_le_right
theorem bcJ_n (x : Int32) : bcJ x = nI (pcN x) := by
  have hx : x.toBitVec.toNat < 256 ^ 4 := x.toBitVec.isLt
  have e0 := w123 4 _ hx
  have hx' : x.toBitVec.toNat < 4294967296 := x.toBitVec.isLt
  have e1 := pcn32 _ hx'
  obtain ⟨f1, f2⟩ := pst5 _ (pcn_le 8 (x.toBitVec.toNat % 256)) _ (pcn_le 8 (x.toBitVec.toNat / 256 % 256)) _ (pcn_le 8 (x.toBitVec.toNat / 256 / 256 % 256)) _ (pcn_le 8 (x.toBitVec.toNat / 256 / 256 / 256 % 256))
  rw [← pw4] at f1 f2
  rw [← e1] at f1
  have hle : x.toBitVec.toNat >>> 1 &&& 1431655765 ≤ x.toBitVec.toNat := Nat.le_trans Nat.and_le_left (by rw [Nat.shiftRight_eq_div_pow]; omega)
  have s1 : (x - (us x 1 &&& 1431655765)).toBitVec.toNat = w1 4 x.toBitVec.toNat := by
    rw [sub_nat (by rw [and_nat, show (us x 1) = us x (nI 1) from rfl, us_nat x (by decide)]; exact hle), and_nat, show (us x 1) = us x (nI 1) from rfl, us_nat x (by decide)]
    rfl
  unfold bcJ
  simp only
  generalize x - (us x 1 &&& 1431655765) = a at *
  have q2 : a.toBitVec.toNat &&& 858993459 ≤ 858993459 := le_and
  have q3 : a.toBitVec.toNat >>> 2 &&& 858993459 ≤ 858993459 := le_and
  have s2 : ((a &&& 858993459) + (us a 2 &&& 858993459)).toBitVec.toNat = w2 4 a.toBitVec.toNat := by
    have h1 : (a &&& 858993459).toBitVec.toNat = a.toBitVec.toNat &&& 858993459 := and_nat _ _
    have h2 : (us a 2 &&& 858993459).toBitVec.toNat = a.toBitVec.toNat >>> 2 &&& 858993459 := by rw [and_nat, show (us a 2) = us a (nI 2) from rfl, us_nat a (by decide)]; rfl
    rw [add_nat (by omega), h1, h2]
    rfl
  have b2 : ((a &&& 858993459) + (us a 2 &&& 858993459)).toBitVec.toNat ≤ 1717986918 := by
    rw [s2]; show (_ &&& 858993459) + (_ &&& 858993459) ≤ _; omega
  generalize (a &&& 858993459) + (us a 2 &&& 858993459) = b at *
  have s3 : ((b + us b 4) &&& 252645135).toBitVec.toNat = w3 4 b.toBitVec.toNat := by
    have h1 : (us b 4).toBitVec.toNat = b.toBitVec.toNat >>> 4 := us_nat b (c := 4) (by decide)
    have h2 : b.toBitVec.toNat >>> 4 ≤ b.toBitVec.toNat := by rw [Nat.shiftRight_eq_div_pow]; omega
    have h3 : b.toBitVec.toNat >>> 4 ≤ 1717986918 / 16 := by rw [Nat.shiftRight_eq_div_pow]; omega
    rw [and_nat, add_nat (by omega), h1]
    rfl
  rw [s2, s1, e0] at s3
  generalize (b + us b 4) &&& 252645135 = c at *
  rw [← s3] at f1 f2
  have hc : c.toBitVec.toNat ≤ 134744072 := by
    have p1 := pcn_le 8 (x.toBitVec.toNat % 256)
    have p2 := pcn_le 8 (x.toBitVec.toNat / 256 % 256)
    have p3 := pcn_le 8 (x.toBitVec.toNat / 256 / 256 % 256)
    have p4 := pcn_le 8 (x.toBitVec.toNat / 256 / 256 / 256 % 256)
    rw [s3, pw4]; omega
  have s4 : (c + us c 8).toBitVec.toNat = c.toBitVec.toNat + c.toBitVec.toNat >>> 8 := by
    have h1 : (us c 8).toBitVec.toNat = c.toBitVec.toNat >>> 8 := us_nat c (c := 8) (by decide)
    have h2 : c.toBitVec.toNat >>> 8 ≤ c.toBitVec.toNat := by rw [Nat.shiftRight_eq_div_pow]; omega
    rw [add_nat (by omega), h1]
  rw [← s4] at f1 f2
  have hd : (c + us c 8).toBitVec.toNat ≤ 269488144 := by
    have h2 : c.toBitVec.toNat >>> 8 ≤ c.toBitVec.toNat := by rw [Nat.shiftRight_eq_div_pow]; omega
    omega
  generalize c + us c 8 = d at *
  have s5 : (d + us d 16).toBitVec.toNat = d.toBitVec.toNat + d.toBitVec.toNat >>> 16 := by
    have h1 : (us d 16).toBitVec.toNat = d.toBitVec.toNat >>> 16 := us_nat d (c := 16) (by decide)
    have h2 : d.toBitVec.toNat >>> 16 ≤ d.toBitVec.toNat := by rw [Nat.shiftRight_eq_div_pow]; omega
    rw [add_nat (by omega), h1]
  apply Int32.toBitVec_inj.mp
  apply BitVec.eq_of_toNat_eq
  rw [and_nat, s5]
  have h9 : (63 : Int32).toBitVec.toNat = 63 := rfl
  rw [h9, f1]
  have h8 := pcN_le x
  show _ = (BitVec.ofInt 32 ((pcN x : Nat) : Int)).toNat
  unfold pcN at *
  simp
  omega
/-- the ones, bit by bit -/
def pcb (f : Nat → Bool) : Nat → Nat
  | 0 => 0
  | k + 1 => pcb f k + (f k).toNat
theorem pcb_s (f : Nat → Bool) : ∀ k, pcb f (k + 1) = (f 0).toNat + pcb (fun i => f (i + 1)) k
  | 0 => by simp [pcb]
  | k + 1 => by rw [pcb, pcb_s f k, pcb]; omega
theorem pcn_b : ∀ k m, pcn k m = pcb (fun i => m.testBit i) k
  | 0, m => rfl
  | k + 1, m => by
    rw [pcb_s, pcn, pcn_b k (m / 2)]
    congr 1
    · rw [Nat.testBit_zero]; rcases Nat.mod_two_eq_zero_or_one m with h | h <;> simp [h]
    · congr 1; funext i; rw [Nat.testBit_succ]
theorem pcN_b (x : Int32) : pcN x = pcb (hb x) 32 := pcn_b 32 _
theorem pcb_congr {f g : Nat → Bool} : ∀ k, (∀ i, i < k → f i = g i) → pcb f k = pcb g k
  | 0, _ => rfl
  | k + 1, h => by rw [pcb, pcb, pcb_congr k (fun i hi => h i (by omega)), h k (by omega)]
theorem pcb_clear (f : Nat → Bool) (t : Nat) (ht : f t = true) : ∀ k, pcb (fun i => f i && !decide (i = t)) k + (if t < k then 1 else 0) = pcb f k
  | 0 => by simp [pcb]
  | k + 1 => by
    have ih := pcb_clear f t ht k
    simp only [pcb]
    by_cases h : k = t
    · subst h
      rw [if_neg (by omega)] at ih
      rw [if_pos (by omega)]
      simp [ht]
      omega
    · by_cases h2 : t < k
      · rw [if_pos h2] at ih
        rw [if_pos (by omega)]
        simp [h]; omega
      · rw [if_neg h2] at ih
        rw [if_neg (by omega)]
        simp [h]; omega
theorem pcb_0 {f : Nat → Bool} : ∀ k, pcb f k = 0 → ∀ i, i < k → f i = false
  | 0, _, i, hi => by omega
  | k + 1, h, i, hi => by
    rw [pcb] at h
    by_cases e : i = k
    · subst e; cases hf : f i
      · rfl
      · rw [hf] at h; simp at h
    · exact pcb_0 k (by omega) i (by omega)
