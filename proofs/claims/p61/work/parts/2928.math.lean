/-! mathematics of both sides: products by blocks, powers, closures, elimination -/
theorem nI_o1 (o : Nat) : nI o + 1 = nI (o + 1) := (Int32.ofNat_add o 1).symm
def uR (f : Nat → Int32) : Nat → Int64 := fun i => uL (f i)
theorem bcJ_low : ∀ t, t ≤ 32 → bcJ (lowM t) = nI t := by decide +kernel
theorem bitI_m1 : ∀ t, t < 32 → bitI t - 1 = lowM t := by decide +kernel
theorem lowN_at {x : Int32} {t : Nat} (ht : t < 32) (h : hb x t = true) (h2 : ∀ i, i < t → hb x i = false) : lowN x = t := by
  have e : x &&& -x = bitI t := hb_ext fun i hi => by
    rw [hb_and, hb_bitI ht]
    have h3 : hb (-x) i = Bool.xor (hb x i) (decide (∃ j, j < i ∧ hb x j = true)) := by
      unfold hb
      rw [Int32.toBitVec_neg, BitVec.getLsbD_neg]
      simp [hi]
    rw [h3]
    by_cases h4 : i = t
    · subst h4
      have h5 : ¬ ∃ j, j < i ∧ hb x j = true := fun ⟨j, a, b⟩ => by rw [h2 j a] at b; cases b
      rw [h]; simp [h5]
    · by_cases h5 : i < t
      · rw [h2 i h5]; simp; omega
      · have h6 : ∃ j, j < i ∧ hb x j = true := ⟨t, by omega, h⟩
        simp [h6, h4]
  unfold lowN lowI
  rw [e, bitI_m1 t ht, bcJ_low t (by omega)]
  have : ∀ t, t < 32 → (nI t &&& 31).toNatClampNeg = t := by decide +kernel
  exact this t ht
theorem low_ex {x : Int32} (h : x ≠ 0) : hb x (lowN x) = true ∧ ∀ i, i < lowN x → hb x i = false := by
  have h1 : ∃ t, t < 32 ∧ hb x t = true := by
    apply Classical.byContradiction
    intro h2
    refine h (hb_ext fun i hi => ?_)
    rw [hb_0]
    cases h3 : hb x i with
    | false => rfl
    | true => exact absurd ⟨i, hi, h3⟩ h2
  have key : ∀ d t, t ≤ d → t < 32 → hb x t = true → ∃ t', t' < 32 ∧ hb x t' = true ∧ ∀ i, i < t' → hb x i = false := by
    intro d
    induction d with
    | zero => intro t h2 h3 h4; exact ⟨t, h3, h4, fun i hi => by omega⟩
    | succ d ih =>
      intro t h2 h3 h4
      by_cases h5 : ∃ j, j < t ∧ hb x j = true
      · obtain ⟨j, a, b⟩ := h5
        exact ih j (by omega) (by omega) b
      · refine ⟨t, h3, h4, fun i hi => ?_⟩
        cases h6 : hb x i with
        | false => rfl
        | true => exact absurd ⟨i, hi, h6⟩ h5
  obtain ⟨t, a, b⟩ := h1
  obtain ⟨t', a1, a2, a3⟩ := key t t (Nat.le_refl _) a b
  rw [lowN_at a1 a2 a3]
  exact ⟨a2, a3⟩
theorem hb_shl1 : ∀ b : Bool, ∀ c, c < 32 → ∀ i, i < 32 → hb (b1 b <<< (nI c &&& 31)) i = (b && decide (i = c)) := by decide +kernel
theorem hb_colOf {f : Nat → Int32} {c : Nat} : ∀ k, k ≤ 32 → ∀ i, hb (colOf f c k) i = (decide (i < k) && hb (f i) c)
  | 0, _, i => by rw [colOf, hb_0]; simp
  | k + 1, hk, i => by
    rw [colOf, hb_or, hb_colOf k (by omega)]
    by_cases h : i < 32
    · rw [hb_shl1 _ k (by omega) i h]
      by_cases h2 : i = k
      · subst h2; simp
      · by_cases h3 : i < k
        · simp [h3, h2, show i < k + 1 by omega]
        · simp [h3, h2, show ¬ i < k + 1 by omega]
    · rw [hb_ge (x := b1 _ <<< _) (by omega)]
      simp [show ¬ i < k by omega, show ¬ i < k + 1 by omega]
theorem hb_ne0 {x : Int32} {t : Nat} (h : hb x t = true) : x ≠ 0 := fun e => by rw [e, hb_0] at h; cases h
section
variable {l : Launch} {M : Mem} {n : Nat} {A : Nat → Nat → Int32}
/-- rows with a bit turned -/
def tnF (f : Nat → Int32) (a b : Nat) : Nat → Int32 := fun_set f a (f a ^^^ bitI b)
end
theorem pcb_trunc {P : Nat → Bool} {n : Nat} : ∀ k, n ≤ k → (∀ i, n ≤ i → P i = false) → pcb P k = pcb P n
  | 0, h, _ => by rw [show n = 0 by omega]
  | k + 1, h, h2 => by
    by_cases e : n = k + 1
    · rw [e]
    · rw [pcb, pcb_trunc k (by omega) h2, h2 k (by omega)]; simp
section
variable {l : Launch} {M : Mem} {n c : Nat} {A : Nat → Nat → Int32}
/-- how many rows are looked at -/
def prR (f : Nat → Int32) (a : Nat) : Nat → Int32
  | 0 => 0
  | k + 1 => if k = a ∨ hb (f k) a = true then prR f a k + 1 else prR f a k
def dfF (f g : Nat → Int32) : Nat → Int32
  | 0 => 0
  | k + 1 => dfF f g k + bcJ (f k ^^^ g k)
end
def tkI (f : Nat → Int32) (st c : Nat) (t : Nat) : Nat → Nat
  | 0 => t
  | i + 1 => if setI (f i) st c = 0 then tkI f st c t i else tkI f st c t i + 1
def tkN (f : Nat → Int32) (n bl : Nat) : Nat → Nat
  | 0 => 0
  | k + 1 => tkI f (k * bl) (min bl (n - k * bl)) (tkN f n bl k) n
section
variable {l : Launch} {M : Mem} {n bl : Nat} {A : Nat → Nat → Int32}
/-- a row of a product, by one column after the other -/
def mlI (fl : Bool) (g : Nat → Int32) (x : Int32) : Nat → Int32
  | 0 => 0
  | c + 1 => jn (b1 fl) (mlI fl g x c) (if hb x c = true then g c else 0)
def mlF (fl : Bool) (f g : Nat → Int32) (n : Nat) : Nat → Int32 := fun r => mlI fl g (f r) n
end
section
variable {l : Launch} {M : Mem} {n bl c : Nat} {A : Nat → Nat → Int32}
/-- a power in the making: the power so far, what the latest product made and took, the third array -/
abbrev PW : Type := (Nat → Int32) × Int64 × Int64 × (Nat → Int64)
def pwX (f g : Nat → Int32) (fl : Bool) (n bl : Nat) (T : Nat → Int64) : PW := (mlF fl f g n, lN (mdN n bl (blocks n bl)), lN (tkN f n bl (blocks n bl)), wr T (uR (mlF fl f g n)) n)
def pwB (f0 : Nat → Int32) (fl : Bool) (n bl : Nat) (x : Int32) (b : Nat) (s : PW) : PW := if hb x b = true then pwX (pwX s.1 s.1 fl n bl s.2.2.2).1 f0 fl n bl (pwX s.1 s.1 fl n bl s.2.2.2).2.2.2 else pwX s.1 s.1 fl n bl s.2.2.2
/-- the bits below k, from the highest on -/
def pwL (f0 : Nat → Int32) (fl : Bool) (n bl : Nat) (x : Int32) : Nat → PW → PW
  | 0, s => s
  | k + 1, s => pwL f0 fl n bl x k (pwB f0 fl n bl x k s)
/-- one more than the highest bit, of those below k -/
def hiB (x : Int32) : Nat → Nat
  | 0 => 0
  | k + 1 => if hb x k = true then k + 1 else hiB x k
end
section
variable {l : Launch} {M : Mem} {n c : Nat} {A : Nat → Nat → Int32}
def eqB (f g : Nat → Int32) : Nat → Bool
  | 0 => true
  | k + 1 => eqB f g k && decide (f k = g k)
/-- is an edge there that is not needed -/
def rcB (f : Nat → Int32) (n a b : Nat) (g : Nat → Int32) : Bool := hb (g a) b && eqB (wOut (tnF g a b) n n) (wOut f n n) n
/-- what is left of the edges behind k places -/
def rcF (f : Nat → Int32) (n : Nat) : Nat → Nat → Int32
  | 0 => f
  | k + 1 => if rcB f n (k / n) (k % n) (rcF f n k) = true then tnF (rcF f n k) (k / n) (k % n) else rcF f n k
end
theorem jn_z (f x : Int32) : jn f x 0 = x := by
  unfold jn
  split
  · exact Int32.or_zero
  · exact Int32.xor_zero
theorem jn_as (f x y z : Int32) : jn f (jn f x y) z = jn f x (jn f y z) := by
  unfold jn
  split
  · exact Int32.or_assoc _ _ _
  · exact Int32.xor_assoc _ _ _
/-- what the table holds for a set -/
def tJ (f : Int32) (g : Nat → Int32) (x : Nat) : Nat → Int32
  | 0 => 0
  | c + 1 => jn f (tJ f g x c) (if x.testBit c = true then g c else 0)
theorem tJ_cg {f : Int32} {g : Nat → Int32} {x y : Nat} : ∀ {c : Nat}, (∀ j, j < c → x.testBit j = y.testBit j) → tJ f g x c = tJ f g y c
  | 0, _ => rfl
  | c + 1, h => by
    unfold tJ
    rw [tJ_cg (fun j hj => h j (by omega)), h c (by omega)]
theorem tJ_0 {f : Int32} {g : Nat → Int32} : ∀ c, tJ f g 0 c = 0
  | 0 => rfl
  | c + 1 => by
    unfold tJ
    rw [tJ_0 c, Nat.zero_testBit, if_neg (by decide), jn_z]
theorem ftIn_lo {f : Int32} {tb : Nat → Int32} {v : Int32} {half j : Nat} (hj : j < half) : ∀ s, ftIn f tb v half s j = tb j
  | 0 => rfl
  | s + 1 => by
    unfold ftIn fun_set
    rw [if_neg (by omega), ftIn_lo hj s]
theorem ftIn_hi {f : Int32} {tb : Nat → Int32} {v : Int32} {half j : Nat} : ∀ s, s ≤ half → j < s → ftIn f tb v half s (half + j) = jn f (tb j) v
  | 0, _, h => absurd h (Nat.not_lt_zero _)
  | s + 1, hs, h => by
    unfold ftIn fun_set
    by_cases e : j = s
    · subst e
      rw [if_pos rfl, ftIn_lo (by omega)]
    · rw [if_neg (by omega), ftIn_hi s (by omega) (by omega)]
theorem ft_ok {f : Int32} {tb b : Nat → Int32} {st : Nat} (h0 : tb 0 = 0) : ∀ c x, x < 2 ^ c → ftOut f tb b st c x = tJ f (fun j => b (st + j)) x c
  | 0, x, h => by
    have e : x = 0 := by
      rw [Nat.pow_zero] at h
      omega
    subst e
    exact h0
  | c + 1, x, h => by
    unfold ftOut tJ
    by_cases hx : x < 2 ^ c
    · rw [ftIn_lo hx, ft_ok h0 c x hx, Nat.testBit_lt_two_pow hx, if_neg (by decide), jn_z]
    · obtain ⟨j, rfl⟩ : ∃ j, x = 2 ^ c + j := ⟨x - 2 ^ c, by omega⟩
      have hj : j < 2 ^ c := by
        rw [Nat.pow_succ] at h
        omega
      rw [ftIn_hi _ (Nat.le_refl _) hj, ft_ok h0 c j hj, tJ_cg (x := 2 ^ c + j) (y := j) (fun i hi => Nat.testBit_two_pow_add_gt hi j), Nat.testBit_two_pow_add_eq, Nat.testBit_lt_two_pow hj]
      rfl
theorem ft_0 {f : Int32} {tb b : Nat → Int32} {st : Nat} (h0 : tb 0 = 0) (c : Nat) : ftOut f tb b st c 0 = 0 := by
  rw [ft_ok h0 c 0 (Nat.two_pow_pos c), tJ_0]
theorem hb_nI {m i : Nat} (hi : i < 32) : hb (nI m) i = m.testBit i := by
  show (BitVec.ofNat 32 m).getLsbD i = _
  rw [BitVec.getLsbD_ofNat]
  simp [hi]
theorem hb_us {x : Int32} {c : Nat} (hc : c < 32) (i : Nat) : hb (us x (nI c)) i = hb x (c + i) := by
  unfold hb us
  rw [ush32 x hc, BitVec.getLsbD_ushiftRight]
theorem hb_setI {x : Int32} {st c : Nat} (hst : st < 32) (hc : c ≤ 32) (i : Nat) : hb (setI x st c) i = (hb x (st + i) && decide (i < c)) := by
  unfold setI
  rw [hb_and, hb_us hst, hb_lowM hc]
theorem setN_b {x : Int32} {st c : Nat} (hst : st < 32) (hc : c ≤ 8) {i : Nat} (hi : i < c) : (setN x st c).testBit i = hb x (st + i) := by
  rw [← hb_nI (show i < 32 by omega), ← (setI_n x st hc).1, hb_setI hst (by omega)]
  simp [hi]
theorem setN_lt {x : Int32} {st c : Nat} (hst : st < 32) (hc : c ≤ 8) : setN x st c < 2 ^ c := by
  refine Nat.lt_pow_two_of_testBit _ (fun i hi => ?_)
  by_cases h : i < 32
  · rw [← hb_nI h, ← (setI_n x st hc).1, hb_setI hst (by omega)]
    simp
    omega
  · refine Nat.testBit_lt_two_pow ?_
    have h1 := (setI_n x st hc).2
    have h2 : 2 ^ 8 ≤ 2 ^ i := Nat.pow_le_pow_right (by decide) (by omega)
    omega
theorem setN_0 {x : Int32} {st c : Nat} (hc : c ≤ 8) (h : setI x st c = 0) : setN x st c = 0 := by
  unfold setN
  rw [h]
  rfl
theorem mlI_add {fl : Bool} {g : Nat → Int32} {x : Int32} {st y : Nat} : ∀ c, (∀ j, j < c → y.testBit j = hb x (st + j)) → mlI fl g x (st + c) = jn (b1 fl) (mlI fl g x st) (tJ (b1 fl) (fun j => g (st + j)) y c)
  | 0, _ => by
    rw [Nat.add_zero]
    exact (jn_z _ _).symm
  | c + 1, h => by
    show jn (b1 fl) (mlI fl g x (st + c)) (if hb x (st + c) = true then g (st + c) else 0) = jn (b1 fl) (mlI fl g x st) (jn (b1 fl) (tJ (b1 fl) (fun j => g (st + j)) y c) (if y.testBit c = true then g (st + c) else 0))
    rw [mlI_add c (fun j hj => h j (by omega)), jn_as, h c (by omega)]
theorem te_ok {f : Int32} {tb a g : Nat → Int32} {st c : Nat} : ∀ i r, teG f tb a st c g i r = if r < i then (if setI (a r) st c = 0 then g r else jn f (g r) (tb (setN (a r) st c))) else g r
  | 0, r => by rw [if_neg (Nat.not_lt_zero _)]; rfl
  | i + 1, r => by
    unfold teG
    by_cases e : r = i
    · subst e
      have hlt : r < r + 1 := Nat.lt_succ_self r
      by_cases z : setI (a r) st c = 0
      · rw [if_pos z, if_pos hlt, if_pos z, te_ok r r, if_neg (Nat.lt_irrefl r)]
      · rw [if_neg z, if_pos hlt, if_neg z]
        unfold fun_set
        rw [if_pos rfl, te_ok r r, if_neg (Nat.lt_irrefl r)]
    · have h1 : (if setI (a i) st c = 0 then teG f tb a st c g i else fun_set (teG f tb a st c g i) i (jn f (teG f tb a st c g i i) (tb (setN (a i) st c)))) r = teG f tb a st c g i r := by
        split
        · rfl
        · unfold fun_set
          rw [if_neg e]
      rw [h1, te_ok i r]
      by_cases h2 : r < i
      · rw [if_pos h2, if_pos (show r < i + 1 by omega)]
      · rw [if_neg h2, if_neg (show ¬ r < i + 1 by omega)]
theorem tc_ok {a : Nat → Int32} {st c t : Nat} : ∀ i, teC a st c (nI t) i = nI (tkI a st c t i)
  | 0 => rfl
  | i + 1 => by
    unfold teC tkI
    rw [tc_ok i]
    split
    · rfl
    · exact nI_o1 _
theorem mul_ok {fl : Bool} {n bl : Nat} {a b tb g : Nat → Int32} (h0 : tb 0 = 0) (hb1 : 1 ≤ bl) (hb8 : bl ≤ 8) (hn : n ≤ 32) : ∀ k, k ≤ blocks n bl →
    (mulIt (b1 fl) n bl a b tb g k).1 0 = 0 ∧ (∀ r, r < n → (mulIt (b1 fl) n bl a b tb g k).2.1 r = mlI fl b (a r) (min n (k * bl))) ∧ (mulIt (b1 fl) n bl a b tb g k).2.2.1 = nI (mdN n bl k) ∧ (mulIt (b1 fl) n bl a b tb g k).2.2.2 = nI (tkN a n bl k)
  | 0, _ => by
    refine ⟨h0, fun r hr => ?_, rfl, rfl⟩
    show wr g (fun _ => 0) n r = _
    rw [wr_lt hr, Nat.zero_mul, Nat.min_zero]
    rfl
  | k + 1, hk => by
    obtain ⟨i1, i2, i3, i4⟩ := mul_ok (a := a) (b := b) (g := g) (fl := fl) h0 hb1 hb8 hn k (by omega)
    have hlt : k * bl < n := blocks_lt (by omega) (by omega)
    have hc8 : min bl (n - k * bl) ≤ 8 := by omega
    have hst : k * bl < 32 := by omega
    have e1 : min n ((k + 1) * bl) = k * bl + min bl (n - k * bl) := by
      rw [Nat.succ_mul]
      omega
    have e2 : min n (k * bl) = k * bl := by omega
    unfold mulIt mulStep
    refine ⟨ft_0 i1 _, fun r hr => ?_, ?_, ?_⟩
    · show teG _ _ a _ _ _ n r = _
      rw [te_ok, if_pos hr, i2 r hr, e1, e2, mlI_add (y := setN (a r) (k * bl) (min bl (n - k * bl))) _ (fun j hj => setN_b hst hc8 hj)]
      rw [ft_ok i1 _ _ (setN_lt hst hc8)]
      split
      · rename_i hz
        rw [setN_0 hc8 hz, tJ_0, jn_z]
      · rfl
    · show (mulIt (b1 fl) n bl a b tb g k).2.2.1 + (nI (2 ^ min bl (n - k * bl)) - 1) = _
      rw [i3, nI_m1 (Nat.one_le_two_pow), mdN]
      exact (Int32.ofNat_add _ _).symm
    · show teC a _ _ (mulIt (b1 fl) n bl a b tb g k).2.2.2 n = _
      rw [i4, tc_ok, tkN]
theorem mul_all {fl : Bool} {n bl : Nat} {a b tb g : Nat → Int32} (h0 : tb 0 = 0) (hb1 : 1 ≤ bl) (hb8 : bl ≤ 8) (hn : n ≤ 32) :
    (mulIt (b1 fl) n bl a b tb g (blocks n bl)).1 0 = 0 ∧ (∀ r, r < n → (mulIt (b1 fl) n bl a b tb g (blocks n bl)).2.1 r = mlF fl a b n r) ∧ (mulIt (b1 fl) n bl a b tb g (blocks n bl)).2.2.1 = nI (mdN n bl (blocks n bl)) ∧ (mulIt (b1 fl) n bl a b tb g (blocks n bl)).2.2.2 = nI (tkN a n bl (blocks n bl)) := by
  obtain ⟨i1, i2, i3, i4⟩ := mul_ok (a := a) (b := b) (g := g) (fl := fl) h0 hb1 hb8 hn _ (Nat.le_refl _)
  refine ⟨i1, fun r hr => ?_, i3, i4⟩
  rw [i2 r hr, show min n (blocks n bl * bl) = n by have := (blocks_ge (n := n) (bl := bl) (by omega)).1; omega]
  rfl
theorem mlI_cg {fl : Bool} {g g' : Nat → Int32} {x : Int32} : ∀ n, (∀ c, c < n → g c = g' c) → mlI fl g x n = mlI fl g' x n
  | 0, _ => rfl
  | n + 1, h => by
    unfold mlI
    rw [mlI_cg n (fun c hc => h c (by omega)), h n (by omega)]
theorem mlF_cg {fl : Bool} {f f' g g' : Nat → Int32} {n r : Nat} (hf : f r = f' r) (hg : ∀ c, c < n → g c = g' c) : mlF fl f g n r = mlF fl f' g' n r := by
  unfold mlF
  rw [hf]
  exact mlI_cg n hg
theorem tkI_cg {f f' : Nat → Int32} {st c t : Nat} : ∀ i, (∀ r, r < i → f r = f' r) → tkI f st c t i = tkI f' st c t i
  | 0, _ => rfl
  | i + 1, h => by
    unfold tkI
    rw [tkI_cg i (fun r hr => h r (by omega)), h i (by omega)]
theorem tkN_cg {f f' : Nat → Int32} {n bl : Nat} (h : ∀ r, r < n → f r = f' r) : ∀ k, tkN f n bl k = tkN f' n bl k
  | 0 => rfl
  | k + 1 => by
    unfold tkN
    rw [tkN_cg h k, tkI_cg n h]
def rsC (s : RS) : Nat → Int32 := match s.1 with
  | true => s.2.2.2.1
  | false => s.2.2.1
/-- both powers so far; whether a product was made -/
def pwR (n : Nat) (s : RS) (q : PW) (made : Prop) : Prop := s.2.1 0 = 0 ∧ (∀ r, r < n → rsC s r = q.1 r) ∧ (made → ∃ a b : Nat, s.2.2.2.2.1 = nI a ∧ s.2.2.2.2.2 = nI b ∧ q.2.1 = lN a ∧ q.2.2.1 = lN b)
theorem pwR_mul {fl : Bool} {n bl : Nat} {s : RS} {q : PW} {made : Prop} {base : Option (Nat → Int32)} {g : Nat → Int32} (h : pwR n s q made) (hb1 : 1 ≤ bl) (hb8 : bl ≤ 8) (hn : n ≤ 32) (hg : ∀ r, r < n → (base.getD (rsC s)) r = g r) : pwR n (rsMul (b1 fl) n bl base s) (pwX q.1 g fl n bl q.2.2.2) True := by
  obtain ⟨h0, h1, -⟩ := h
  obtain ⟨F, tb, p, o, m1, m2⟩ := s
  cases F
  · obtain ⟨a1, a2, a3, a4⟩ := mul_all (fl := fl) (a := p) (b := base.getD p) (g := o) h0 hb1 hb8 hn
    refine ⟨a1, fun r hr => (a2 r hr).trans (mlF_cg (h1 r hr) hg), fun _ => ⟨_, _, a3, a4.trans (congrArg nI (tkN_cg h1 _)), rfl, rfl⟩⟩
  · obtain ⟨a1, a2, a3, a4⟩ := mul_all (fl := fl) (a := o) (b := base.getD o) (g := p) h0 hb1 hb8 hn
    refine ⟨a1, fun r hr => (a2 r hr).trans (mlF_cg (h1 r hr) hg), fun _ => ⟨_, _, a3, a4.trans (congrArg nI (tkN_cg h1 _)), rfl, rfl⟩⟩
theorem hb_shr {x : Int32} {b i : Nat} (hb9 : b < 32) (hi : i < 32) : hb (x >>> (nI b &&& 31)) i = if b + i < 32 then hb x (b + i) else x.toBitVec.msb := by
  have e : ((nI b &&& 31).toBitVec.smod 32).toNat = b := (by decide +kernel : ∀ b, b < 32 → ((nI b &&& 31).toBitVec.smod 32).toNat = b) b hb9
  show (x >>> (nI b &&& 31)).toBitVec.getLsbD i = _
  rw [Int32.toBitVec_shiftRight]
  show (BitVec.sshiftRight x.toBitVec ((nI b &&& 31).toBitVec.smod 32).toNat).getLsbD i = _
  rw [e, BitVec.getLsbD_sshiftRight]
  have h9 : ¬ 32 ≤ i := by omega
  simp [h9, hb]
theorem hiB_top {x : Int32} : ∀ k, 1 ≤ hiB x k → hb x (hiB x k - 1) = true
  | 0, h => by
    unfold hiB at h
    omega
  | k + 1, h => by
    unfold hiB at h ⊢
    by_cases q : hb x k = true
    · rw [if_pos q]
      exact q
    · rw [if_neg q] at h ⊢
      exact hiB_top k h
theorem hiB_abv {x : Int32} : ∀ k i, hiB x k ≤ i → i < k → hb x i = false
  | 0, i, _, h => absurd h (Nat.not_lt_zero _)
  | k + 1, i, h1, h2 => by
    unfold hiB at h1
    by_cases q : hb x k = true
    · rw [if_pos q] at h1
      omega
    · rw [if_neg q] at h1
      by_cases e : i = k
      · rw [e]
        exact Bool.eq_false_iff.mpr q
      · exact hiB_abv k i h1 (by omega)
theorem hb_big {m i : Nat} (hm : m ≤ 1000000) (hi : 20 ≤ i) : hb (nI m) i = false := by
  by_cases h : i < 32
  · rw [hb_nI h]
    refine Nat.testBit_lt_two_pow ?_
    have h2 : 2 ^ 20 ≤ 2 ^ i := Nat.pow_le_pow_right (by decide) hi
    omega
  · exact hb_ge (by omega)
theorem shr_0 {m b : Nat} (hm : m ≤ 1000000) (hb9 : b < 32) : nI m >>> (nI b &&& 31) = 0 ↔ ∀ i, b ≤ i → hb (nI m) i = false := by
  have hmsb : (nI m).toBitVec.msb = false := by
    rw [BitVec.msb_eq_getLsbD_last]
    exact hb_big hm (by decide)
  constructor
  · intro h i hi
    by_cases h2 : i < 32
    · have h3 := hb_shr (x := nI m) (i := i - b) hb9 (by omega)
      rw [h, hb_0, if_pos (by omega), show b + (i - b) = i by omega] at h3
      exact h3.symm
    · exact hb_ge (by omega)
  · intro h
    refine hb_ext (fun i hi => ?_)
    rw [hb_shr hb9 hi, hb_0, hmsb]
    split
    · exact h _ (by omega)
    · rfl
theorem pwR_all {fl : Bool} {n bl m : Nat} {base g : Nat → Int32} {s0 : RS} {q0 : PW} (hm : m ≤ 1000000) (h : pwR n s0 q0 False) (hb1 : 1 ≤ bl) (hb8 : bl ≤ 8) (hn : n ≤ 32) (hg : ∀ r, r < n → base r = g r) :
    pwR n (rsIt (b1 fl) n bl base (nI m) s0 20) (pwL g fl n bl (nI m) (hiB (nI m) 21) q0) (0 < m) := by
  have hK : hiB (nI m) 21 ≤ 20 := by
    rcases Nat.lt_or_ge 20 (hiB (nI m) 21) with h1 | h1
    · have h2 := hiB_top (x := nI m) 21 (by omega)
      rw [hb_big hm (by omega)] at h2
      cases h2
    · exact h1
  have habv : ∀ i, hiB (nI m) 21 ≤ i → hb (nI m) i = false := fun i hi => by
    by_cases h2 : i < 21
    · exact hiB_abv 21 i hi h2
    · exact hb_big hm (by omega)
  have st1 : ∀ i, i ≤ 20 - hiB (nI m) 21 → rsIt (b1 fl) n bl base (nI m) s0 i = s0 := by
    intro i
    induction i with
    | zero => intro _; rfl
    | succ i ih =>
      intro hi
      unfold rsIt rsB rsA
      rw [ih (by omega), habv (19 - i) (by omega), if_pos ((shr_0 hm (by omega)).mpr (fun j hj => habv j (by omega))), if_neg (by decide)]
  have st2 : ∀ k, k ≤ hiB (nI m) 21 → ∀ i, i + k = 20 → ∀ (q : PW) (md : Prop), pwR n (rsIt (b1 fl) n bl base (nI m) s0 i) q md → pwR n (rsIt (b1 fl) n bl base (nI m) s0 20) (pwL g fl n bl (nI m) k q) (md ∨ 0 < k) := by
    intro k
    induction k with
    | zero =>
      intro _ i hi q md hq
      have e : i = 20 := by omega
      subst e
      refine ⟨hq.1, hq.2.1, fun h9 => hq.2.2 ?_⟩
      rcases h9 with h9 | h9
      · exact h9
      · exact absurd h9 (Nat.lt_irrefl 0)
    | succ k ih =>
      intro hk i hi q md hq
      have e : 19 - i = k := by omega
      have hne : ¬ nI m >>> (nI k &&& 31) = 0 := fun h9 => by
        have h2 := hiB_top (x := nI m) 21 (by omega)
        rw [(shr_0 hm (by omega)).mp h9 _ (by omega)] at h2
        cases h2
      have h1 : pwR n (rsIt (b1 fl) n bl base (nI m) s0 (i + 1)) (pwB g fl n bl (nI m) k q) True := by
        unfold rsIt rsB rsA pwB
        rw [e, if_neg hne]
        have a1 := pwR_mul (fl := fl) (bl := bl) (base := none) (g := q.1) hq hb1 hb8 hn hq.2.1
        split
        · exact pwR_mul (base := some base) a1 hb1 hb8 hn hg
        · exact a1
      have h2 := ih (by omega) (i + 1) (by omega) _ _ h1
      exact ⟨h2.1, h2.2.1, fun _ => h2.2.2 (Or.inl trivial)⟩
  have h3 := st2 _ (Nat.le_refl _) (20 - hiB (nI m) 21) (by omega) q0 False (by rw [st1 _ (Nat.le_refl _)]; exact h)
  refine ⟨h3.1, h3.2.1, fun h0 => h3.2.2 (Or.inr ?_)⟩
  rcases Nat.eq_zero_or_pos (hiB (nI m) 21) with h4 | h4
  · exfalso
    have h5 : nI m = 0 := hb_ext (fun i hi => by rw [habv i (by omega), hb_0])
    have h7 := congrArg Int32.toNatClampNeg h5
    have h8 : (nI m).toNatClampNeg = m := nI_clamp (by omega)
    rw [h8] at h7
    have h9 : (0 : Int32).toNatClampNeg = 0 := by decide
    omega
  · exact h4
/-- the least relation that holds the edges and goes on -/
def TC (f : Nat → Int32) (n a b : Nat) : Prop := ∀ T : Nat → Nat → Prop, (∀ x y, x < n → y < n → hb (f x) y = true → T x y) → (∀ x y z, T x y → T y z → T x z) → T a b
theorem wfr_lt {n r c : Nat} {f : Nat → Int32} (h : wfr n f) (hr : r < n) (hc : hb (f r) c = true) : c < n := by
  rcases Nat.lt_or_ge c n with h1 | h1
  · exact h1
  · rw [h r hr c h1] at hc
    cases hc
theorem tc_e {f : Nat → Int32} {n a b : Nat} (ha : a < n) (hb9 : b < n) (h : hb (f a) b = true) : TC f n a b := fun T h1 _ => h1 a b ha hb9 h
theorem tc_t {f : Nat → Int32} {n a b c : Nat} (h : TC f n a b) (g : TC f n b c) : TC f n a c := fun T h1 h2 => h2 _ _ _ (h T h1 h2) (g T h1 h2)
theorem tc_lt {f : Nat → Int32} {n a b : Nat} (h : TC f n a b) : a < n ∧ b < n := h (fun x y => x < n ∧ y < n) (fun _ _ hx hy _ => ⟨hx, hy⟩) (fun _ _ _ h1 h2 => ⟨h1.1, h2.2⟩)
theorem tc_m {f g : Nat → Int32} {n a b : Nat} (h : ∀ x y, x < n → y < n → hb (f x) y = true → TC g n x y) (q : TC f n a b) : TC g n a b := q (fun x y => TC g n x y) h (fun _ _ _ h1 h2 => tc_t h1 h2)
theorem wIn_ok {g : Nat → Int32} {m : Nat} : ∀ i r, wIn g m i r = if r < i ∧ hb (g r) m = true then g r ||| g m else g r
  | 0, r => by rw [if_neg (fun h => Nat.not_lt_zero _ h.1)]; rfl
  | i + 1, r => by
    have hm : ∀ x, x = m → wIn g m i x = g x := by
      intro x hx
      rw [wIn_ok i x]
      split
      · rw [hx]
        exact Int32.or_self
      · rfl
    show (if hb (wIn g m i i) m = true then fun_set (wIn g m i) i (wIn g m i i ||| wIn g m i m) else wIn g m i) r = _
    have hi : wIn g m i i = g i := by
      rw [wIn_ok i i, if_neg (fun h => Nat.lt_irrefl _ h.1)]
    rw [hi, hm m rfl]
    by_cases e : r = i
    · subst e
      by_cases h : hb (g r) m = true
      · rw [if_pos h, if_pos ⟨Nat.lt_succ_self r, h⟩]
        unfold fun_set
        rw [if_pos rfl]
      · rw [if_neg h, if_neg (fun q => h q.2), hi]
    · have h1 : (if hb (g i) m = true then fun_set (wIn g m i) i (g i ||| g m) else wIn g m i) r = wIn g m i r := by
        split
        · unfold fun_set
          rw [if_neg e]
        · rfl
      rw [h1, wIn_ok i r]
      by_cases h2 : r < i ∧ hb (g r) m = true
      · rw [if_pos h2, if_pos ⟨Nat.lt_succ_of_lt h2.1, h2.2⟩]
      · rw [if_neg h2, if_neg (fun q => h2 ⟨by omega, q.2⟩)]
/-- a step, by bits -/
theorem wO_b {f : Nat → Int32} {n k a b : Nat} (ha : a < n) : hb (wOut f n (k + 1) a) b = (hb (wOut f n k a) b || (hb (wOut f n k a) k && hb (wOut f n k k) b)) := by
  show hb (wIn (wOut f n k) k n a) b = _
  rw [wIn_ok]
  by_cases h : hb (wOut f n k a) k = true
  · rw [if_pos ⟨ha, h⟩, hb_or, h, Bool.true_and]
  · rw [if_neg (fun q => h q.2), Bool.eq_false_iff.mpr h, Bool.false_and, Bool.or_false]
theorem wO_up {f : Nat → Int32} {n a b : Nat} (ha : a < n) : ∀ k, hb (f a) b = true → hb (wOut f n k a) b = true
  | 0, h => h
  | k + 1, h => by rw [wO_b ha, wO_up ha k h, Bool.true_or]
theorem wO_wf {f : Nat → Int32} {n : Nat} (h : wfr n f) : ∀ k, k ≤ n → wfr n (wOut f n k)
  | 0, _ => h
  | k + 1, hk => fun r hr c hc => by
    rw [wO_b hr, wO_wf h k (by omega) r hr c hc, wO_wf h k (by omega) k (by omega) c hc, Bool.and_false, Bool.or_false]
theorem wO_tc {f : Nat → Int32} {n : Nat} (h : wfr n f) : ∀ k, k ≤ n → ∀ a b, a < n → hb (wOut f n k a) b = true → TC f n a b
  | 0, _, a, b, ha, q => tc_e ha (wfr_lt h ha q) q
  | k + 1, hk, a, b, ha, q => by
    rw [wO_b ha] at q
    cases h1 : hb (wOut f n k a) b
    · rw [h1, Bool.false_or, Bool.and_eq_true] at q
      exact tc_t (wO_tc h k (by omega) a k ha q.1) (wO_tc h k (by omega) k b (by omega) q.2)
    · exact wO_tc h k (by omega) a b ha h1
theorem wO_cl {f : Nat → Int32} {n : Nat} : ∀ k, k ≤ n → ∀ m, m < k → ∀ a b, a < n → hb (wOut f n k a) m = true → hb (wOut f n k m) b = true → hb (wOut f n k a) b = true
  | 0, _, m, hm, _, _, _, _, _ => absurd hm (Nat.not_lt_zero _)
  | k + 1, hk, m, hm, a, b, ha, h1, h2 => by
    have ih := wO_cl (f := f) (n := n) k (by omega)
    rw [wO_b ha] at h1 ⊢
    rw [wO_b (show m < n by omega)] at h2
    by_cases e : m = k
    · subst e
      have h3 : hb (wOut f n m a) m = true := by
        cases h4 : hb (wOut f n m a) m
        · rw [h4] at h1
          cases h1
        · rfl
      have h5 : hb (wOut f n m m) b = true := by
        cases h6 : hb (wOut f n m m) b
        · rw [h6, Bool.and_false] at h2
          cases h2
        · rfl
      rw [h3, h5]
      exact Bool.or_true _
    · have hmk : m < k := by omega
      have hm2 : m < n := by omega
      rw [Bool.or_eq_true, Bool.and_eq_true] at h1 h2 ⊢
      rcases h1 with h1 | ⟨h1, h1'⟩
      · rcases h2 with h2 | ⟨h2, h2'⟩
        · exact Or.inl (ih m hmk a b ha h1 h2)
        · exact Or.inr ⟨ih m hmk a k ha h1 h2, h2'⟩
      · rcases h2 with h2 | ⟨h2, h2'⟩
        · exact Or.inr ⟨h1, ih m hmk k b (by omega) h1' h2⟩
        · exact Or.inr ⟨h1, h2'⟩
/-- Warshall's rows are the closure -/
theorem wO_ok {f : Nat → Int32} {n a b : Nat} (h : wfr n f) (ha : a < n) : hb (wOut f n n a) b = true ↔ TC f n a b := by
  constructor
  · exact wO_tc h n (Nat.le_refl n) a b ha
  · intro q
    have h2 := q (fun x y => x < n ∧ y < n ∧ hb (wOut f n n x) y = true) (fun x y hx hy e => ⟨hx, hy, wO_up hx n e⟩) (fun x y z h1 h2 => ⟨h1.1, h2.2.1, wO_cl n (Nat.le_refl n) y h1.2.1 x z h1.1 h1.2.2 h2.2.2⟩)
    exact h2.2.2
theorem wO_cg {f g : Nat → Int32} {n : Nat} (h : ∀ r, r < n → f r = g r) : ∀ k, k ≤ n → ∀ r, r < n → wOut f n k r = wOut g n k r
  | 0, _, r, hr => h r hr
  | k + 1, hk, r, hr => by
    unfold wOut
    rw [wIn_ok, wIn_ok, wO_cg h k (by omega) r hr, wO_cg h k (by omega) k (by omega)]
/-- two rows of bits below n that hold the same -/
theorem row_eq {f g : Nat → Int32} {n r : Nat} (hf : wfr n f) (hg : wfr n g) (hr : r < n) (h : ∀ b, b < n → (hb (f r) b = true ↔ hb (g r) b = true)) : f r = g r := by
  refine hb_ext (fun i _ => ?_)
  by_cases hi : i < n
  · have := h i hi
    cases h1 : hb (f r) i <;> cases h2 : hb (g r) i
    · rfl
    · exact absurd (this.mpr h2) (by rw [h1]; decide)
    · exact absurd (this.mp h1) (by rw [h2]; decide)
    · rfl
  · rw [hf r hr i (by omega), hg r hr i (by omega)]
theorem hb_tn {f : Nat → Int32} {r q x y : Nat} (hq : q < 32) : hb (tnF f r q x) y = if x = r then Bool.xor (hb (f r) y) (decide (y = q)) else hb (f x) y := by
  unfold tnF fun_set
  by_cases e : x = r
  · rw [if_pos e, if_pos e, hb_xor, hb_bitI hq]
  · rw [if_neg e, if_neg e]
theorem tn_wf {f : Nat → Int32} {n r q : Nat} (h : wfr n f) (hr : r < n) (hq : q < n) (hn : n ≤ 32) : wfr n (tnF f r q) := fun x hx c hc => by
  rw [hb_tn (by omega)]
  split
  · rw [h r hr c hc, decide_eq_false (by omega)]
    rfl
  · exact h x hx c hc
theorem tc_add {f : Nat → Int32} {n r q a b : Nat} (hr : r < n) (hq : q < n) (hn : n ≤ 32) (h0 : hb (f r) q = false) (ha : a < n) (hb9 : b < n) :
    TC (tnF f r q) n a b ↔ TC f n a b ∨ ((a = r ∨ TC f n a r) ∧ (q = b ∨ TC f n q b)) := by
  have e1 : ∀ x y, hb (f x) y = true → hb (tnF f r q x) y = true := fun x y h => by
    rw [hb_tn (by omega)]
    by_cases e : x = r
    · rw [if_pos e]
      rw [e] at h
      rw [h]
      by_cases e2 : y = q
      · rw [e2, h0] at h
        cases h
      · rw [decide_eq_false e2]
        rfl
    · rw [if_neg e]
      exact h
  have e2 : TC (tnF f r q) n r q := tc_e hr hq (by
    rw [hb_tn (by omega), if_pos rfl, h0, decide_eq_true rfl]
    rfl)
  have e3 : ∀ x y, TC f n x y → TC (tnF f r q) n x y := fun x y h => tc_m (fun u v hu hv q9 => tc_e hu hv (e1 u v q9)) h
  constructor
  · intro h
    refine h (fun x y => TC f n x y ∨ ((x = r ∨ TC f n x r) ∧ (q = y ∨ TC f n q y))) (fun x y hx hy e => ?_) (fun x y z h1 h2 => ?_)
    · rw [hb_tn (by omega)] at e
      by_cases e9 : x = r
      · rw [if_pos e9] at e
        by_cases e8 : y = q
        · exact Or.inr ⟨Or.inl e9, Or.inl e8.symm⟩
        · rw [decide_eq_false e8, Bool.xor_false] at e
          exact Or.inl (tc_e hx hy (by rw [e9]; exact e))
      · rw [if_neg e9] at e
        exact Or.inl (tc_e hx hy e)
    · rcases h1 with h1 | ⟨h1, h1'⟩
      · rcases h2 with h2 | ⟨h2, h2'⟩
        · exact Or.inl (tc_t h1 h2)
        · refine Or.inr ⟨Or.inr ?_, h2'⟩
          rcases h2 with h2 | h2
          · rw [← h2]
            exact h1
          · exact tc_t h1 h2
      · rcases h2 with h2 | ⟨h2, h2'⟩
        · refine Or.inr ⟨h1, Or.inr ?_⟩
          rcases h1' with h1' | h1'
          · rw [h1']
            exact h2
          · exact tc_t h1' h2
        · exact Or.inr ⟨h1, h2'⟩
  · rintro (h | ⟨h1, h2⟩)
    · exact e3 _ _ h
    · have h3 : TC (tnF f r q) n r b := by
        rcases h2 with h2 | h2
        · rw [← h2]
          exact e2
        · exact tc_t e2 (e3 _ _ h2)
      rcases h1 with h1 | h1
      · rw [h1]
        exact h3
      · exact tc_t (e3 _ _ h1) h3
theorem ext_ok {g : Nat → Int32} {nodes tg : Int32} : ∀ k r, extF g nodes tg k r = if r < k ∧ hb nodes r = true then g r ||| tg else g r
  | 0, r => by rw [if_neg (fun h => Nat.not_lt_zero _ h.1)]; rfl
  | k + 1, r => by
    show (if hb nodes k = true then fun_set (extF g nodes tg k) k (extF g nodes tg k k ||| tg) else extF g nodes tg k) r = _
    have hkk : extF g nodes tg k k = g k := by rw [ext_ok k k, if_neg (fun h : k < k ∧ hb nodes k = true => Nat.lt_irrefl _ h.1)]
    rw [hkk]
    by_cases e : r = k
    · subst e
      by_cases h : hb nodes r = true
      · rw [if_pos h, if_pos ⟨Nat.lt_succ_self r, h⟩]
        unfold fun_set
        rw [if_pos rfl]
      · rw [if_neg h, if_neg (fun q => h q.2), hkk]
    · have h1 : (if hb nodes k = true then fun_set (extF g nodes tg k) k (g k ||| tg) else extF g nodes tg k) r = extF g nodes tg k r := by
        split
        · unfold fun_set
          rw [if_neg e]
        · rfl
      rw [h1, ext_ok k r]
      by_cases h2 : r < k ∧ hb nodes r = true
      · rw [if_pos h2, if_pos ⟨Nat.lt_succ_of_lt h2.1, h2.2⟩]
      · rw [if_neg h2, if_neg (fun q => h2 ⟨by omega, q.2⟩)]
theorem nd_b {g : Nat → Int32} {r n i : Nat} (hr : r < n) (hn : n ≤ 32) (hi : i < n) : hb (nodesTo g r n) i = true ↔ i = r ∨ hb (g i) r = true := by
  unfold nodesTo
  rw [hb_or, hb_colOf n hn, hb_bitI (by omega), decide_eq_true hi, Bool.true_and, Bool.or_eq_true, decide_eq_true_eq]
  exact Or.comm
theorem put_1 {f g : Nat → Int32} {n r q : Nat} (hw : wfr n f) (hg : ∀ i, i < n → g i = wOut f n n i) (hr : r < n) (hq : q < n) (hn : n ≤ 32) (h0 : hb (f r) q = false) {i : Nat} (hi : i < n) :
    extF g (nodesTo g r n) (g q ||| bitI q) n i = wOut (tnF f r q) n n i := by
  have hgw : wfr n g := fun x hx c hc => by
    rw [hg x hx]
    exact wO_wf hw n (Nat.le_refl n) x hx c hc
  have hgb : ∀ x y, x < n → (hb (g x) y = true ↔ TC f n x y) := fun x y hx => by
    rw [hg x hx]
    exact wO_ok hw hx
  refine row_eq (n := n) ?_ (wO_wf (tn_wf hw hr hq hn) n (Nat.le_refl n)) hi (fun b hb9 => ?_)
  · intro x hx c hc
    rw [ext_ok]
    split
    · rw [hb_or, hb_or, hgw x hx c hc, hgw q hq c hc, hb_bitI (by omega), decide_eq_false (by omega)]
      rfl
    · exact hgw x hx c hc
  · rw [wO_ok (tn_wf hw hr hq hn) hi, tc_add hr hq hn h0 hi hb9, ext_ok]
    by_cases h1 : hb (nodesTo g r n) i = true
    · rw [if_pos ⟨hi, h1⟩, hb_or, hb_or, hb_bitI (by omega), Bool.or_eq_true, Bool.or_eq_true, decide_eq_true_eq, hgb i b hi, hgb q b hq]
      have h2 : i = r ∨ TC f n i r := by
        rcases (nd_b hr hn hi).mp h1 with h3 | h3
        · exact Or.inl h3
        · exact Or.inr ((hgb i r hi).mp h3)
      constructor
      · rintro (h | h | h)
        · exact Or.inl h
        · exact Or.inr ⟨h2, Or.inr h⟩
        · exact Or.inr ⟨h2, Or.inl h.symm⟩
      · rintro (h | ⟨-, h | h⟩)
        · exact Or.inl h
        · exact Or.inr (Or.inr h.symm)
        · exact Or.inr (Or.inl h)
    · rw [if_neg (fun q9 => h1 q9.2), hgb i b hi]
      constructor
      · exact Or.inl
      · rintro (h | ⟨h, -⟩)
        · exact h
        · exfalso
          refine h1 ((nd_b hr hn hi).mpr ?_)
          rcases h with h | h
          · exact Or.inl h
          · exact Or.inr ((hgb i r hi).mpr h)
theorem bc_0 : bcJ 0 = 0 := by decide +kernel
theorem gain_1 {g : Nat → Int32} {nodes tg : Int32} : ∀ k, gainF g nodes tg k = dfF (extF g nodes tg k) g k
  | 0 => rfl
  | k + 1 => by
    show (if hb nodes k = true then gainF g nodes tg k + bcJ (tg &&& (g k ^^^ -1)) else gainF g nodes tg k) = dfF (extF g nodes tg (k + 1)) g k + bcJ (extF g nodes tg (k + 1) k ^^^ g k)
    have e1 : dfF (extF g nodes tg (k + 1)) g k = dfF (extF g nodes tg k) g k := by
      have : ∀ j, j ≤ k → dfF (extF g nodes tg (k + 1)) g j = dfF (extF g nodes tg k) g j := by
        intro j
        induction j with
        | zero => intro _; rfl
        | succ j ih =>
          intro hj
          unfold dfF
          rw [ih (by omega), ext_ok, ext_ok]
          by_cases h : hb nodes j = true
          · rw [if_pos ⟨by omega, h⟩, if_pos ⟨by omega, h⟩]
          · rw [if_neg (fun q => h q.2), if_neg (fun q => h q.2)]
      exact this k (Nat.le_refl k)
    rw [e1, ← gain_1 k, ext_ok]
    by_cases h : hb nodes k = true
    · rw [if_pos h, if_pos ⟨Nat.lt_succ_self k, h⟩]
      congr 1
      congr 1
      refine hb_ext (fun i hi => ?_)
      rw [hb_and, hb_xor, hb_xor, hb_or, hb_m1 hi]
      cases hb tg i <;> cases hb (g k) i <;> rfl
    · rw [if_neg h, if_neg (fun q => h q.2), Int32.xor_self, bc_0, Int32.add_zero]
theorem df_cg {f f' g g' : Nat → Int32} : ∀ n, (∀ r, r < n → f r = f' r) → (∀ r, r < n → g r = g' r) → dfF f g n = dfF f' g' n
  | 0, _, _ => rfl
  | n + 1, h, h' => by
    unfold dfF
    rw [df_cg n (fun r hr => h r (by omega)) (fun r hr => h' r (by omega)), h n (by omega), h' n (by omega)]
/-- what comes with an edge -/
theorem gain_ok {f g : Nat → Int32} {n r q : Nat} (hw : wfr n f) (hg : ∀ i, i < n → g i = wOut f n n i) (hr : r < n) (hq : q < n) (hn : n ≤ 32) (h0 : hb (f r) q = false) :
    gainW g (nodesTo g r n) q n = dfF (wOut (tnF f r q) n n) (wOut f n n) n := by
  unfold gainW
  rw [gain_1]
  exact df_cg n (fun i hi => put_1 hw hg hr hq hn h0 hi) hg
theorem hb_neq {x y : Int32} (h : x ≠ y) (hs : ∀ c, hb y c = true → hb x c = true) : ∃ c, c < 32 ∧ hb x c = true ∧ hb y c = false := by
  refine Classical.byContradiction fun q => h (hb_ext fun i hi => ?_)
  cases h1 : hb x i
  · cases h2 : hb y i
    · rfl
    · rw [hs i h2] at h1
      cases h1
  · cases h2 : hb y i
    · exact absurd ⟨i, hi, h1, h2⟩ q
    · rfl
theorem pcb_add {K : Nat → Bool} {t n : Nat} (ht : K t = false) (hn : t < n) : pcb (fun i => K i || decide (i = t)) n = pcb K n + 1 := by
  have h1 := pcb_clear (fun i => K i || decide (i = t)) t (by rw [decide_eq_true rfl, Bool.or_true]) n
  rw [if_pos hn] at h1
  rw [← h1]
  congr 1
  refine pcb_congr n (fun i _ => ?_)
  by_cases e : i = t
  · rw [e, decide_eq_true rfl, ht]
    rfl
  · rw [decide_eq_false e, Bool.or_false]
    exact (Bool.and_true _)
theorem pcb_le {K : Nat → Bool} : ∀ n, pcb K n ≤ n
  | 0 => Nat.le_refl 0
  | n + 1 => by
    have := pcb_le (K := K) n
    unfold pcb
    cases K n
    · show pcb K n + 0 ≤ n + 1
      omega
    · show pcb K n + 1 ≤ n + 1
      omega
theorem pcb_all {K : Nat → Bool} : ∀ n, pcb K n = n → ∀ i, i < n → K i = true
  | 0, _, i, hi => absurd hi (Nat.not_lt_zero _)
  | n + 1, h, i, hi => by
    have h1 := pcb_le (K := K) n
    have h2 : pcb K n + (K n).toNat = n + 1 := h
    cases h3 : K n
    · rw [h3] at h2
      have h4 : (false : Bool).toNat = 0 := rfl
      omega
    · rw [h3] at h2
      have h4 : (true : Bool).toNat = 1 := rfl
      by_cases e : i = n
      · rw [e]
        exact h3
      · exact pcb_all n (by omega) i (by omega)
theorem rl_ok {f : Nat → Int32} {n a : Nat} (hw : wfr n f) (hn : n ≤ 32) : ∀ (d : Nat) (fd dn : Int32), (∀ c, n ≤ c → hb fd c = false) → (∀ c, hb dn c = true → hb fd c = true) → (∀ x, x < n → hb dn x = true → ∀ y, hb (f x) y = true → hb fd y = true) → (∀ y, hb fd y = true → TC f n a y) → pcb (hb dn) n + d = n →
    (∀ y, hb (reachL f d fd dn) y = true → TC f n a y) ∧ (∀ y, hb fd y = true → hb (reachL f d fd dn) y = true) ∧ (∀ x, x < n → hb (reachL f d fd dn) x = true → ∀ y, hb (f x) y = true → hb (reachL f d fd dn) y = true)
  | 0, fd, dn, h1, h2, h3, h4, h5 => by
    refine ⟨h4, fun _ h => h, fun x hx hxb y hy => h3 x hx (pcb_all n (by omega) x hx) y hy⟩
  | d + 1, fd, dn, h1, h2, h3, h4, h5 => by
    unfold reachL
    by_cases e : fd = dn
    · rw [if_pos e]
      exact ⟨h4, fun _ h => h, fun x hx hxb y hy => h3 x hx (by rw [← e]; exact hxb) y hy⟩
    · rw [if_neg e]
      obtain ⟨c, hc32, hc1, hc2⟩ := hb_neq e h2
      have hz : fd &&& (dn ^^^ -1) ≠ 0 := hb_ne0 (t := c) (by rw [hb_and, hb_not hc32, hc1, hc2]; rfl)
      obtain ⟨k1, -⟩ := low_ex hz
      generalize lowN (fd &&& (dn ^^^ -1)) = v at *
      have hv32 : v < 32 := by
        rcases Nat.lt_or_ge v 32 with q | q
        · exact q
        · rw [hb_ge q] at k1
          cases k1
      rw [hb_and, hb_not hv32, Bool.and_eq_true] at k1
      have hv1 := k1.1
      have hv2 : hb dn v = false := by
        cases q : hb dn v
        · rfl
        · have := k1.2
          rw [q] at this
          cases this
      have hvn : v < n := by
        rcases Nat.lt_or_ge v n with q | q
        · exact q
        · rw [h1 v q] at hv1
          cases hv1
      obtain ⟨r1, r2, r3⟩ := rl_ok (a := a) hw hn d (fd ||| f v) (dn ||| bitI v) (fun c hc => by rw [hb_or, h1 c hc, hw v hvn c hc]; rfl) (fun c hc => by
          rw [hb_or, Bool.or_eq_true, hb_bitI hv32, decide_eq_true_eq] at hc
          rw [hb_or, Bool.or_eq_true]
          rcases hc with hc | hc
          · exact Or.inl (h2 c hc)
          · rw [hc]
            exact Or.inl hv1) (fun x hx hc y hy => by
          rw [hb_or, Bool.or_eq_true, hb_bitI hv32, decide_eq_true_eq] at hc
          rw [hb_or, Bool.or_eq_true]
          rcases hc with hc | hc
          · exact Or.inl (h3 x hx hc y hy)
          · rw [hc] at hy
            exact Or.inr hy) (fun y hy => by
          rw [hb_or, Bool.or_eq_true] at hy
          rcases hy with hy | hy
          · exact h4 y hy
          · exact tc_t (h4 v hv1) (tc_e hvn (wfr_lt hw hvn hy) hy)) (by
          have q : pcb (hb (dn ||| bitI v)) n = pcb (fun i => hb dn i || decide (i = v)) n := pcb_congr n (fun i _ => by rw [hb_or, hb_bitI hv32])
          rw [q, pcb_add hv2 hvn]
          omega)
      exact ⟨r1, fun y hy => r2 y (by rw [hb_or, hy]; rfl), r3⟩
theorem rc_ok {f : Nat → Int32} {n a : Nat} (hw : wfr n f) (ha : a < n) (hn : n ≤ 32) {b : Nat} : hb (reachL f n (f a) 0) b = true ↔ TC f n a b := by
  have h0 : pcb (hb 0) n = 0 := by
    have : ∀ k, pcb (hb 0) k = 0 := by
      intro k
      induction k with
      | zero => rfl
      | succ k ih =>
        unfold pcb
        rw [ih, hb_0]
        rfl
    exact this n
  obtain ⟨r1, r2, r3⟩ := rl_ok (a := a) hw hn n (f a) 0 (fun c hc => hw a ha c hc) (fun c hc => by rw [hb_0] at hc; cases hc) (fun x _ hc => by rw [hb_0] at hc; cases hc) (fun y hy => tc_e ha (wfr_lt hw ha hy) hy) (by rw [h0]; omega)
  refine ⟨r1 b, fun q => ?_⟩
  exact q (fun x y => (x = a ∨ hb (reachL f n (f a) 0) x = true) → hb (reachL f n (f a) 0) y = true) (fun x y hx _ e h => by
    rcases h with h | h
    · rw [h] at e
      exact r2 y e
    · exact r3 x hx h y e) (fun x y z g1 g2 h => g2 (Or.inr (g1 h))) (Or.inl rfl)
/-- a row that a search makes is Warshall's -/
theorem rc_wO {f : Nat → Int32} {n a : Nat} (hw : wfr n f) (ha : a < n) (hn : n ≤ 32) : reachL f n (f a) 0 = wOut f n n a := hb_ext (fun i _ => by
  have h1 := rc_ok hw ha hn (b := i)
  have h2 := wO_ok hw ha (b := i)
  cases q1 : hb (reachL f n (f a) 0) i <;> cases q2 : hb (wOut f n n a) i
  · rfl
  · exact absurd (h1.mpr (h2.mp q2)) (by rw [q1]; decide)
  · exact absurd (h2.mpr (h1.mp q1)) (by rw [q2]; decide)
  · rfl)
/-- nodes that do not come to r go on without its edge -/
theorem tc_off {f : Nat → Int32} {n r q a b : Nat} (hr : r < n) (hq : q < n) (hn : n ≤ 32) (h1 : hb (f r) q = true) (hna : ¬ (a = r ∨ TC f n a r)) : TC f n a b ↔ TC (tnF f r q) n a b := by
  have e1 : ∀ x y, hb (tnF f r q x) y = true → hb (f x) y = true := fun x y h => by
    rw [hb_tn (by omega)] at h
    by_cases e : x = r
    · rw [if_pos e] at h
      rw [e]
      by_cases e2 : y = q
      · rw [e2]
        exact h1
      · rw [decide_eq_false e2, Bool.xor_false] at h
        exact h
    · rw [if_neg e] at h
      exact h
  have e3 : ∀ x y, TC (tnF f r q) n x y → TC f n x y := fun x y h => tc_m (fun u v hu hv q9 => tc_e hu hv (e1 u v q9)) h
  constructor
  · intro h
    have h2 := h (fun x y => (x = r ∨ TC f n x r) ∨ TC (tnF f r q) n x y) (fun x y hx hy e => by
      by_cases e9 : x = r
      · exact Or.inl (Or.inl e9)
      · refine Or.inr (tc_e hx hy ?_)
        rw [hb_tn (by omega), if_neg e9]
        exact e) (fun x y z g1 g2 => by
      rcases g1 with g1 | g1
      · exact Or.inl g1
      · rcases g2 with (g2 | g2) | g2
        · rw [← g2]
          exact Or.inl (Or.inr (e3 _ _ g1))
        · exact Or.inl (Or.inr (tc_t (e3 _ _ g1) g2))
        · exact Or.inr (tc_t g1 g2))
    rcases h2 with h2 | h2
    · exact absurd h2 hna
    · exact h2
  · exact e3 a b
theorem mend_ok {g f : Nat → Int32} {nodes : Int32} {n : Nat} : ∀ k r, mendG g f nodes n k r = if r < k ∧ hb nodes r = true then reachL f n (f r) 0 else g r
  | 0, r => by rw [if_neg (fun h => Nat.not_lt_zero _ h.1)]; rfl
  | k + 1, r => by
    show (if hb nodes k = true then fun_set (mendG g f nodes n k) k (reachL f n (f k) 0) else mendG g f nodes n k) r = _
    by_cases e : r = k
    · subst e
      by_cases h : hb nodes r = true
      · rw [if_pos h, if_pos ⟨Nat.lt_succ_self r, h⟩]
        unfold fun_set
        rw [if_pos rfl]
      · rw [if_neg h, if_neg (fun q => h q.2), mend_ok r r, if_neg (fun h : r < r ∧ hb nodes r = true => Nat.lt_irrefl _ h.1)]
    · have h1 : (if hb nodes k = true then fun_set (mendG g f nodes n k) k (reachL f n (f k) 0) else mendG g f nodes n k) r = mendG g f nodes n k r := by
        split
        · unfold fun_set
          rw [if_neg e]
        · rfl
      rw [h1, mend_ok k r]
      by_cases h2 : r < k ∧ hb nodes r = true
      · rw [if_pos h2, if_pos ⟨Nat.lt_succ_of_lt h2.1, h2.2⟩]
      · rw [if_neg h2, if_neg (fun q => h2 ⟨by omega, q.2⟩)]
theorem put_0 {f g : Nat → Int32} {n r q : Nat} (hw : wfr n f) (hg : ∀ i, i < n → g i = wOut f n n i) (hr : r < n) (hq : q < n) (hn : n ≤ 32) (h1 : hb (f r) q = true) {i : Nat} (hi : i < n) :
    mendG g (tnF f r q) (nodesTo g r n) n n i = wOut (tnF f r q) n n i := by
  have hgb : ∀ x y, x < n → (hb (g x) y = true ↔ TC f n x y) := fun x y hx => by
    rw [hg x hx]
    exact wO_ok hw hx
  rw [mend_ok]
  by_cases h : hb (nodesTo g r n) i = true
  · rw [if_pos ⟨hi, h⟩]
    exact rc_wO (tn_wf hw hr hq hn) hi hn
  · rw [if_neg (fun q9 => h q9.2), hg i hi]
    refine row_eq (n := n) (wO_wf hw n (Nat.le_refl n)) (wO_wf (tn_wf hw hr hq hn) n (Nat.le_refl n)) hi (fun b _ => ?_)
    rw [wO_ok hw hi, wO_ok (tn_wf hw hr hq hn) hi]
    refine tc_off hr hq hn h1 (fun q9 => h ((nd_b hr hn hi).mpr ?_))
    rcases q9 with q9 | q9
    · exact Or.inl q9
    · exact Or.inr ((hgb i r hi).mpr q9)
/-- less edges, less closure -/
theorem wO_sub {f : Nat → Int32} {n r q : Nat} (hw : wfr n f) (hr : r < n) (hq : q < n) (hn : n ≤ 32) (h1 : hb (f r) q = true) {i b : Nat} (hi : i < n) (h : hb (wOut (tnF f r q) n n i) b = true) : hb (wOut f n n i) b = true := by
  rw [wO_ok (tn_wf hw hr hq hn) hi] at h
  rw [wO_ok hw hi]
  refine tc_m (fun x y hx hy e => tc_e hx hy ?_) h
  rw [hb_tn (by omega)] at e
  by_cases e9 : x = r
  · rw [if_pos e9] at e
    rw [e9]
    by_cases e2 : y = q
    · rw [e2]
      exact h1
    · rw [decide_eq_false e2, Bool.xor_false] at e
      exact e
  · rw [if_neg e9] at e
    exact e
/-- what goes with an edge -/
theorem loss_F {g f : Nat → Int32} {nodes : Int32} {n : Nat} : ∀ k, mendS g f nodes n k = lossF g f nodes n k
  | 0 => rfl
  | k + 1 => by
    unfold mendS lossF
    rw [loss_F k, mend_ok, if_neg (fun h : k < k ∧ hb nodes k = true => Nat.lt_irrefl _ h.1)]
theorem loss_ok {f g : Nat → Int32} {n r q : Nat} (hw : wfr n f) (hg : ∀ i, i < n → g i = wOut f n n i) (hr : r < n) (hq : q < n) (hn : n ≤ 32) (h1 : hb (f r) q = true) : ∀ k, k ≤ n →
    lossF g (tnF f r q) (nodesTo g r n) n k = dfF (wOut (tnF f r q) n n) (wOut f n n) k
  | 0, _ => rfl
  | k + 1, hk => by
    unfold lossF dfF
    rw [loss_ok hw hg hr hq hn h1 k (by omega)]
    have hk2 : k < n := by omega
    have e0 := put_0 hw hg hr hq hn h1 hk2
    rw [mend_ok] at e0
    by_cases h : hb (nodesTo g r n) k = true
    · rw [if_pos h]
      rw [if_pos ⟨hk2, h⟩] at e0
      rw [e0, hg k hk2]
      congr 1
      congr 1
      refine hb_ext (fun i hi => ?_)
      rw [hb_and, hb_xor, hb_xor, hb_m1 hi]
      have := wO_sub hw hr hq hn h1 hk2 (b := i)
      cases q1 : hb (wOut (tnF f r q) n n k) i <;> cases q2 : hb (wOut f n n k) i <;> first | rfl | exact absurd (this q1) (by rw [q2]; decide)
    · rw [if_neg h]
      rw [if_neg (fun q9 => h q9.2), hg k hk2] at e0
      rw [e0, Int32.xor_self, bc_0, Int32.add_zero]
theorem prR_n {g : Nat → Int32} {r : Nat} : ∀ k, prR g r k = nI (pcb (fun i => decide (i = r) || hb (g i) r) k)
  | 0 => rfl
  | k + 1 => by
    unfold prR pcb
    rw [prR_n k]
    by_cases h : k = r ∨ hb (g k) r = true
    · rw [if_pos h]
      have h2 : (decide (k = r) || hb (g k) r) = true := by
        rw [Bool.or_eq_true, decide_eq_true_eq]
        exact h
      rw [h2]
      exact nI_o1 _
    · rw [if_neg h]
      have h2 : (decide (k = r) || hb (g k) r) = false := by
        rw [Bool.eq_false_iff]
        intro q
        rw [Bool.or_eq_true, decide_eq_true_eq] at q
        exact h q
      rw [h2]
      rfl
theorem nd_n {g : Nat → Int32} {r n : Nat} (hr : r < n) (hn : n ≤ 32) : bcJ (nodesTo g r n) = prR g r n := by
  rw [bcJ_n, prR_n, pcN_b]
  congr 1
  have hz : ∀ i, n ≤ i → hb (nodesTo g r n) i = false := fun i hi => by
    unfold nodesTo
    rw [hb_or, hb_colOf n hn, hb_bitI (by omega), decide_eq_false (by omega), decide_eq_false (by omega)]
    rfl
  rw [pcb_trunc 32 hn hz]
  refine pcb_congr n (fun i hi => ?_)
  have h1 := nd_b (g := g) hr hn hi
  cases q1 : hb (nodesTo g r n) i
  · rw [q1] at h1
    cases q2 : (decide (i = r) || hb (g i) r)
    · rfl
    · rw [Bool.or_eq_true, decide_eq_true_eq] at q2
      exact absurd (h1.mpr q2) (by decide)
  · rw [q1] at h1
    have := h1.mp rfl
    symm
    rw [Bool.or_eq_true, decide_eq_true_eq]
    exact this
theorem prR_cg {g g' : Nat → Int32} {r : Nat} : ∀ n, (∀ i, i < n → g i = g' i) → prR g r n = prR g' r n
  | 0, _ => rfl
  | n + 1, h => by
    unfold prR
    rw [prR_cg n (fun i hi => h i (by omega)), h n (by omega)]
theorem tc_cg {f g : Nat → Int32} {n a b : Nat} (h : ∀ i, i < n → f i = g i) : TC f n a b ↔ TC g n a b :=
  ⟨tc_m (fun x _ hx hy e => tc_e hx hy (by rw [← h x hx]; exact e)), tc_m (fun x _ hx hy e => tc_e hx hy (by rw [h x hx]; exact e))⟩
theorem eqB_ok {f g : Nat → Int32} : ∀ n, eqB f g n = true ↔ ∀ k, k < n → f k = g k
  | 0 => ⟨fun _ k hk => absurd hk (Nat.not_lt_zero _), fun _ => rfl⟩
  | n + 1 => by
    unfold eqB
    rw [Bool.and_eq_true, eqB_ok n, decide_eq_true_eq]
    constructor
    · rintro ⟨h1, h2⟩ k hk
      by_cases e : k = n
      · rw [e]
        exact h2
      · exact h1 k (by omega)
    · intro h
      exact ⟨fun k hk => h k (by omega), h n (by omega)⟩
theorem clr_x {x : Int32} {k : Nat} (hk : k < 32) (h : hb x k = true) : x &&& (bitI k ^^^ -1) = x ^^^ bitI k := hb_ext (fun i hi => by
  rw [hb_and, hb_xor, hb_xor, hb_m1 hi, hb_bitI hk]
  by_cases e : i = k
  · rw [e, h, decide_eq_true rfl]
    rfl
  · rw [decide_eq_false e]
    cases hb x i <;> rfl)
/-- an edge is not needed exactly if its end is reached without it -/
theorem need_ok {f g : Nat → Int32} {n a b : Nat} (hf : wfr n f) (hg : wfr n g) (hT : ∀ x y, TC g n x y ↔ TC f n x y) (ha : a < n) (hb9 : b < n) (hn : n ≤ 32) (h : hb (g a) b = true) :
    eqB (wOut (tnF g a b) n n) (wOut f n n) n = true ↔ TC (tnF g a b) n a b := by
  have e1 : ∀ x y, hb (tnF g a b x) y = true → hb (g x) y = true := fun x y q => by
    rw [hb_tn (by omega)] at q
    by_cases e : x = a
    · rw [if_pos e] at q
      rw [e]
      by_cases e2 : y = b
      · rw [e2]
        exact h
      · rw [decide_eq_false e2, Bool.xor_false] at q
        exact q
    · rw [if_neg e] at q
      exact q
  have hw := tn_wf hg ha hb9 hn
  rw [eqB_ok]
  constructor
  · intro q
    have h1 : TC f n a b := (hT a b).mp (tc_e ha hb9 h)
    rw [← wO_ok hf ha, ← q a ha, wO_ok hw ha] at h1
    exact h1
  · intro q i hi
    refine row_eq (n := n) (wO_wf hw n (Nat.le_refl n)) (wO_wf hf n (Nat.le_refl n)) hi (fun y _ => ?_)
    rw [wO_ok hw hi, wO_ok hf hi, ← hT]
    constructor
    · exact tc_m (fun u v hu hv q9 => tc_e hu hv (e1 u v q9))
    · refine tc_m (fun u v hu hv q9 => ?_)
      by_cases e : u = a ∧ v = b
      · rw [e.1, e.2]
        exact q
      · refine tc_e hu hv ?_
        rw [hb_tn (by omega)]
        by_cases e2 : u = a
        · rw [if_pos e2, ← e2, q9, decide_eq_false (fun e3 => e ⟨e2, e3⟩)]
          rfl
        · rw [if_neg e2]
          exact q9
/-- one edge of both sides' going through -/
theorem dn_1 {f g g' : Nat → Int32} {n a k : Nat} (hf : wfr n f) (hE : ∀ i, i < n → g i = g' i) (hg : wfr n g') (hT : ∀ x y, TC g' n x y ↔ TC f n x y) (ha : a < n) (hk : k < n) (hn : n ≤ 32) :
    (∀ i, i < n → (if hb (g a) k = true then (if hb (reachL (fun_set g a (g a &&& (bitI k ^^^ -1))) n (g a &&& (bitI k ^^^ -1)) 0) k = true then fun_set g a (g a &&& (bitI k ^^^ -1)) else g) else g) i = (if rcB f n a k g' = true then tnF g' a k else g') i) ∧
    wfr n (if rcB f n a k g' = true then tnF g' a k else g') ∧ (∀ x y, TC (if rcB f n a k g' = true then tnF g' a k else g') n x y ↔ TC f n x y) := by
  by_cases h : hb (g' a) k = true
  · have e2 : fun_set g a (g a &&& (bitI k ^^^ -1)) = tnF g a k := by
      unfold tnF
      rw [clr_x (by omega) (by rw [hE a ha]; exact h)]
    have e3 : g a &&& (bitI k ^^^ -1) = tnF g a k a := by
      rw [← e2]
      unfold fun_set
      rw [if_pos rfl]
    have hE2 : ∀ i, i < n → tnF g a k i = tnF g' a k i := fun i hi => by
      unfold tnF fun_set
      rw [hE a ha, hE i hi]
    have hgw : wfr n g := fun x hx c hc => by
      rw [hE x hx]
      exact hg x hx c hc
    have e4 : hb (reachL (tnF g a k) n (tnF g a k a) 0) k = true ↔ eqB (wOut (tnF g' a k) n n) (wOut f n n) n = true := by
      rw [rc_ok (tn_wf hgw ha hk hn) ha hn, need_ok hf hg hT ha hk hn h, tc_cg hE2]
    rw [if_pos (by rw [hE a ha]; exact h), e3, show fun_set g a (tnF g a k a) = tnF g a k by rw [← e3]; exact e2]
    by_cases q : eqB (wOut (tnF g' a k) n n) (wOut f n n) n = true
    · have hr : rcB f n a k g' = true := by
        unfold rcB
        rw [h, q]
        rfl
      rw [if_pos (e4.mpr q), if_pos hr]
      refine ⟨hE2, tn_wf hg ha hk hn, fun x y => ?_⟩
      have h5 := (eqB_ok n).mp q
      have h6 : ∀ x y, x < n → (TC (tnF g' a k) n x y ↔ TC f n x y) := fun x y hx => by
        rw [← wO_ok (tn_wf hg ha hk hn) hx, h5 x hx, wO_ok hf hx]
      constructor
      · intro h7
        exact (h6 x y (tc_lt h7).1).mp h7
      · intro h7
        exact (h6 x y (tc_lt h7).1).mpr h7
    · have hr : ¬ rcB f n a k g' = true := by
        unfold rcB
        rw [h, Bool.true_and]
        exact q
      rw [if_neg (fun q2 => q (e4.mp q2)), if_neg hr]
      exact ⟨hE, hg, hT⟩
  · have hr : ¬ rcB f n a k g' = true := by
      unfold rcB
      rw [Bool.eq_false_iff.mpr h, Bool.false_and]
      exact Bool.false_ne_true
    rw [if_neg (by rw [hE a ha]; exact h), if_neg hr]
    exact ⟨hE, hg, hT⟩
def rcI (f : Nat → Int32) (n : Nat) (g : Nat → Int32) (j : Nat) : Prop := (∀ i, i < n → g i = rcF f n j i) ∧ wfr n (rcF f n j) ∧ ∀ x y, TC (rcF f n j) n x y ↔ TC f n x y
theorem dn_row {f g : Nat → Int32} {n a : Nat} (hf : wfr n f) (ha : a < n) (hn : n ≤ 32) (h : rcI f n g (a * n)) : ∀ k, k ≤ n → rcI f n (dnF g a n k) (a * n + k)
  | 0, _ => h
  | k + 1, hk => by
    obtain ⟨h1, h2, h3⟩ := dn_row hf ha hn h k (by omega)
    have hk2 : k < n := by omega
    have d1 : (a * n + k) / n = a := by
      rw [Nat.mul_comm, Nat.mul_add_div (by omega), Nat.div_eq_of_lt hk2, Nat.add_zero]
    have d2 : (a * n + k) % n = k := by
      rw [Nat.mul_comm, Nat.mul_add_mod, Nat.mod_eq_of_lt hk2]
    have h4 := dn_1 hf h1 h2 h3 ha hk2 hn
    have e : rcF f n (a * n + (k + 1)) = if rcB f n a k (rcF f n (a * n + k)) = true then tnF (rcF f n (a * n + k)) a k else rcF f n (a * n + k) := by
      show rcF f n ((a * n + k) + 1) = _
      rw [rcF, d1, d2]
    unfold rcI
    rw [e]
    exact h4
theorem rd_ok {f g : Nat → Int32} {n : Nat} (hf : wfr n f) (hE : ∀ i, i < n → g i = f i) (hn : n ≤ 32) : ∀ k, k ≤ n → rcI f n (rdG g n k) (k * n)
  | 0, _ => by
    rw [Nat.zero_mul]
    exact ⟨hE, hf, fun _ _ => Iff.rfl⟩
  | k + 1, hk => by
    rw [Nat.succ_mul]
    exact dn_row hf (by omega) hn (rd_ok hf hE hn k (by omega)) n (Nat.le_refl n)
def esR (P : Prop) (n : Nat) (s t : ES) : Prop := (∀ i, i < n → s.1 i = t.1 i) ∧ (P → ∀ i, i < n → s.2.1 i = t.2.1 i) ∧ (∀ j, j < s.2.2.2 → s.2.2.1 j = t.2.2.1 j) ∧ s.2.2.2 = t.2.2.2 ∧ s.2.2.2 ≤ n
theorem rnt_cg {f g : Nat → Int32} {c : Nat} : ∀ d r, (∀ i, r ≤ i → i < r + d → f i = g i) → rnt f c d r = rnt g c d r
  | 0, _, _ => rfl
  | d + 1, r, h => by
    unfold rnt
    rw [h r (Nat.le_refl r) (by omega), rnt_cg d (r + 1) (fun i h1 h2 => h i (by omega) (by omega))]
theorem rntR_lt {f : Nat → Int32} {c : Nat} : ∀ d r v, rnt f c d r = some v → r ≤ v ∧ v < r + d
  | 0, _, _, h => by cases h
  | d + 1, r, v, h => by
    unfold rnt at h
    split at h
    · cases h
      omega
    · have := rntR_lt d (r + 1) v h
      omega
theorem swp_at {f : Nat → Int32} {a b i : Nat} : swp f a b i = if i = b then f a else if i = a then f b else f i := by
  unfold swp fun_set
  by_cases e : i = b
  · rw [if_pos e]
  · rw [if_neg e]
theorem swp_cg {f g : Nat → Int32} {n a b : Nat} (ha : a < n) (hb9 : b < n) (h : ∀ i, i < n → f i = g i) {i : Nat} (hi : i < n) : swp f a b i = swp g a b i := by
  rw [swp_at, swp_at, h a ha, h b hb9, h i hi]
theorem clGR_ok {t c : Nat} {lf rt : Nat → Int32} : ∀ k i, (clG t c lf rt k).1 i = (if i < k ∧ i ≠ t ∧ hb (lf i) c = true then lf i ^^^ lf t else lf i) ∧ (clG t c lf rt k).2 i = (if i < k ∧ i ≠ t ∧ hb (lf i) c = true then rt i ^^^ rt t else rt i)
  | 0, i => by
    rw [if_neg (fun h => Nat.not_lt_zero _ h.1), if_neg (fun h => Nat.not_lt_zero _ h.1)]
    exact ⟨rfl, rfl⟩
  | k + 1, i => by
    have hk := clGR_ok (t := t) (c := c) (lf := lf) (rt := rt) k k
    rw [if_neg (fun h => Nat.lt_irrefl _ h.1), if_neg (fun h => Nat.lt_irrefl _ h.1)] at hk
    have ht := clGR_ok (t := t) (c := c) (lf := lf) (rt := rt) k t
    rw [if_neg (fun h => h.2.1 rfl), if_neg (fun h => h.2.1 rfl)] at ht
    have hi := clGR_ok (t := t) (c := c) (lf := lf) (rt := rt) k i
    unfold clG
    rw [hk.1, ht.1, hk.2, ht.2]
    by_cases e : i = k
    · subst e
      by_cases q : i ≠ t ∧ hb (lf i) c = true
      · rw [if_pos q, if_pos ⟨Nat.lt_succ_self i, q⟩, if_pos ⟨Nat.lt_succ_self i, q⟩]
        unfold fun_set
        exact ⟨if_pos rfl, if_pos rfl⟩
      · rw [if_neg q, if_neg (fun h => q h.2), if_neg (fun h => q h.2)]
        exact hk
    · have h1 : ∀ x y : Nat → Int32, ∀ v w : Int32, (if k ≠ t ∧ hb (lf k) c = true then (fun_set x k v, fun_set y k w) else (x, y)).1 i = x i ∧ (if k ≠ t ∧ hb (lf k) c = true then (fun_set x k v, fun_set y k w) else (x, y)).2 i = y i := by
        intro x y v w
        split
        · unfold fun_set
          exact ⟨if_neg e, if_neg e⟩
        · exact ⟨rfl, rfl⟩
      have h2 := h1 (clG t c lf rt k).1 (clG t c lf rt k).2 (lf k ^^^ lf t) (rt k ^^^ rt t)
      have e9 : ((clG t c lf rt k).1, (clG t c lf rt k).2) = clG t c lf rt k := rfl
      rw [e9] at h2
      rw [h2.1, h2.2, hi.1, hi.2]
      have h3 : (i < k ∧ i ≠ t ∧ hb (lf i) c = true) ↔ (i < k + 1 ∧ i ≠ t ∧ hb (lf i) c = true) := ⟨fun h => ⟨by omega, h.2⟩, fun h => ⟨by omega, h.2⟩⟩
      constructor
      · by_cases q : i < k ∧ i ≠ t ∧ hb (lf i) c = true
        · rw [if_pos q, if_pos (h3.mp q)]
        · rw [if_neg q, if_neg (fun h => q (h3.mpr h))]
      · by_cases q : i < k ∧ i ≠ t ∧ hb (lf i) c = true
        · rw [if_pos q, if_pos (h3.mp q)]
        · rw [if_neg q, if_neg (fun h => q (h3.mpr h))]
theorem el_step {P : Prop} {n c : Nat} {s t : ES} (h : esR P n s t) : esR P n (elStep n c s) (elStep n c t) := by
  obtain ⟨h1, h2, h3, h4, h5⟩ := h
  have e : rnt s.1 c (n - s.2.2.2) s.2.2.2 = rnt t.1 c (n - t.2.2.2) t.2.2.2 := by
    rw [← h4]
    exact rnt_cg _ _ (fun i _ hi => h1 i (by omega))
  unfold elStep
  rw [← e]
  cases q : rnt s.1 c (n - s.2.2.2) s.2.2.2 with
  | none => exact ⟨h1, h2, h3, h4, h5⟩
  | some r =>
    obtain ⟨r1, r2⟩ := rntR_lt _ _ _ q
    have hr : r < n := by omega
    have hc : s.2.2.2 < n := by omega
    have a1 : ∀ i, i < n → swp s.1 r s.2.2.2 i = swp t.1 r s.2.2.2 i := fun i hi => swp_cg hr hc h1 hi
    have a2 : P → ∀ i, i < n → swp s.2.1 r s.2.2.2 i = swp t.2.1 r s.2.2.2 i := fun q9 i hi => swp_cg hr hc (h2 q9) hi
    dsimp only
    rw [← h4]
    refine ⟨fun i hi => ?_, fun q9 i hi => ?_, fun j hj => ?_, rfl, (show s.2.2.2 + 1 ≤ n from hc)⟩
    · show (clG s.2.2.2 c (swp s.1 r s.2.2.2) (swp s.2.1 r s.2.2.2) n).1 i = (clG s.2.2.2 c (swp t.1 r s.2.2.2) (swp t.2.1 r s.2.2.2) n).1 i
      rw [(clGR_ok n i).1, (clGR_ok n i).1, a1 i hi, a1 _ hc]
    · show (clG s.2.2.2 c (swp s.1 r s.2.2.2) (swp s.2.1 r s.2.2.2) n).2 i = (clG s.2.2.2 c (swp t.1 r s.2.2.2) (swp t.2.1 r s.2.2.2) n).2 i
      rw [(clGR_ok n i).2, (clGR_ok n i).2, a1 i hi, a2 q9 i hi, a2 q9 _ hc]
    · show fun_set s.2.2.1 s.2.2.2 (nI c) j = fun_set t.2.2.1 s.2.2.2 (nI c) j
      unfold fun_set
      have hj2 : j < s.2.2.2 + 1 := hj
      by_cases e9 : j = s.2.2.2
      · rw [if_pos e9, if_pos e9]
      · rw [if_neg e9, if_neg e9]
        exact h3 j (by omega)
theorem el_all {P : Prop} {n : Nat} {s t : ES} (h : esR P n s t) : ∀ k, esR P n (elIt n s k) (elIt n t k)
  | 0 => h
  | k + 1 => el_step (el_all h k)
theorem so_cg {s t : ES} : ∀ k, (∀ j, j < k → s.2.1 j = t.2.1 j ∧ s.2.2.1 j = t.2.2.1 j) → solF s k = solF t k
  | 0, _ => rfl
  | k + 1, h => by
    unfold solF
    rw [so_cg k (fun j hj => h j (by omega)), (h k (by omega)).1, (h k (by omega)).2]
/-- rows of bits below n stay such -/
theorem el_wf {n : Nat} : ∀ (k : Nat) (s : ES), s.2.2.2 ≤ n → wfr n s.2.1 → wfr n (elIt n s k).2.1
  | 0, s, _, h => h
  | k + 1, s, h0, h => by
    have ih := el_wf k s h0 h
    have hc := (el_all (P := True) (n := n) (s := s) (t := s) ⟨fun _ _ => rfl, fun _ _ _ => rfl, fun _ _ => rfl, rfl, h0⟩ k).2.2.2.2
    unfold elIt
    generalize elIt n s k = u at *
    unfold elStep
    cases q : rnt u.1 k (n - u.2.2.2) u.2.2.2 with
    | none => exact ih
    | some r =>
      obtain ⟨r1, r2⟩ := rntR_lt _ _ _ q
      have hr : r < n := by omega
      have hc2 : u.2.2.2 < n := by omega
      have hw : wfr n (swp u.2.1 r u.2.2.2) := fun x hx c hcx => by
        rw [swp_at]
        split
        · exact ih r hr c hcx
        · split
          · exact ih _ hc2 c hcx
          · exact ih x hx c hcx
      intro x hx c hcx
      show hb ((clG u.2.2.2 k (swp u.1 r u.2.2.2) (swp u.2.1 r u.2.2.2) n).2 x) c = false
      rw [(clGR_ok n x).2]
      split
      · rw [hb_xor, hw x hx c hcx, hw _ hc2 c hcx]
        rfl
      · exact hw x hx c hcx
section
variable {E : Prop} {l : Launch} {M M0 M' M1 M2 K N X : Mem} {n p c : Nat} {J J7 : Jm} {F L mc ms F7 : Nat} {As As7 : List Value}
/-- rows of bits below n -/
theorem wf_col {f : Nat → Int32} (hn : n ≤ 32) : wfr n (fun k => colOf f k n) := fun r _ c hc => by
  show hb (colOf f r n) c = false
  rw [hb_colOf n hn, decide_eq_false (by omega)]
  rfl
theorem wf_comb {f g : Nat → Int32} {how : Nat} (hf : wfr n f) (hg : wfr n g) : wfr n (fun k => comb (f k) (g k) how) := fun r hr c hc => by
  have a := hf r hr c hc
  have b := hg r hr c hc
  show hb (comb (f r) (g r) how) c = false
  unfold comb
  split
  · rw [hb_and, a]
    rfl
  · rw [hb_or, a, b]
    rfl
  · rw [hb_xor, a, b]
    rfl
  · rw [hb_and, a]
    rfl
theorem hb_exch {x : Int32} {a b i : Nat} (ha : a < n) (hb9 : b < n) (hn : n ≤ 32) (hi : n ≤ i) : hb (exch x a b) i = hb x i := by
  unfold exch
  split
  · rfl
  · rw [hb_xor, hb_xor, hb_bitI (by omega), hb_bitI (by omega), decide_eq_false (by omega), decide_eq_false (by omega), Bool.xor_false, Bool.xor_false]
theorem wf_ex {f : Nat → Int32} {a b : Nat} (hf : wfr n f) (ha : a < n) (hb9 : b < n) (hn : n ≤ 32) : wfr n (exF f a b) := fun r hr c hc => by
  unfold exF
  rw [hb_exch ha hb9 hn hc]
  refine hf _ ?_ c hc
  unfold srcN
  split
  · exact hb9
  · split
    · exact ha
    · exact hr
theorem wO_n {f : Nat → Int32} (hf : wfr n f) : wfr n (wOut f n n) := wO_wf hf n (Nat.le_refl n)
end
section
variable {l : Launch} {M : Mem} {n p c : Nat}
theorem ml_z {fl : Bool} {g : Nat → Int32} {x : Int32} (hg : wfr n g) {i : Nat} (hi : n ≤ i) : ∀ k, k ≤ n → hb (mlI fl g x k) i = false
  | 0, _ => hb_0 i
  | k + 1, hk => by
    have h1 := ml_z (fl := fl) (x := x) hg hi k (by omega)
    have h2 : hb (if hb x k = true then g k else 0) i = false := by
      split
      · exact hg k (by omega) i hi
      · exact hb_0 i
    unfold mlI jn
    split
    · rw [hb_or, h1, h2]
      rfl
    · rw [hb_xor, h1, h2]
      rfl
theorem wf_ml {fl : Bool} {f g : Nat → Int32} (hg : wfr n g) : wfr n (mlF fl f g n) := fun r _ c hc => ml_z hg hc n (Nat.le_refl n)
theorem wf_pwL {fl : Bool} {g : Nat → Int32} {bl : Nat} {x : Int32} (hg : wfr n g) : ∀ k (s : PW), wfr n s.1 → wfr n (pwL g fl n bl x k s).1
  | 0, _, h => h
  | k + 1, s, h => wf_pwL hg k _ (by
    unfold pwB
    split
    · exact wf_ml hg
    · exact wf_ml h)
end
