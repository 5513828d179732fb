/-! products by blocks with tables are products -/
theorem jn_z (f x : Int32) : jn f x 0 = x := by
  unfold jn
  split
  · exact Int32.or_zero
  · exact Int32.xor_zero
theorem jn_as (f x y z : Int32) : jn f (jn f x y) z = jn f x (jn f y z) := by
  unfold jn
  split
  · exact Int32.or_assoc _ _ _
  · exact Int32.xor_assoc _ _ _
/-- what the table holds for a set -/
def tJ (f : Int32) (g : Nat → Int32) (x : Nat) : Nat → Int32
  | 0 => 0
  | c + 1 => jn f (tJ f g x c) (if x.testBit c = true then g c else 0)
theorem tJ_cg {f : Int32} {g : Nat → Int32} {x y : Nat} : ∀ {c : Nat}, (∀ j, j < c → x.testBit j = y.testBit j) → tJ f g x c = tJ f g y c
  | 0, _ => rfl
  | c + 1, h => by
    unfold tJ
    rw [tJ_cg (fun j hj => h j (by omega)), h c (by omega)]
theorem tJ_0 {f : Int32} {g : Nat → Int32} : ∀ c, tJ f g 0 c = 0
  | 0 => rfl
  | c + 1 => by
    unfold tJ
    rw [tJ_0 c, Nat.zero_testBit, if_neg (by decide), jn_z]
theorem ftIn_lo {f : Int32} {tb : Nat → Int32} {v : Int32} {half j : Nat} (hj : j < half) : ∀ s, ftIn f tb v half s j = tb j
  | 0 => rfl
  | s + 1 => by
    unfold ftIn fun_set
    rw [if_neg (by omega), ftIn_lo hj s]
theorem ftIn_hi {f : Int32} {tb : Nat → Int32} {v : Int32} {half j : Nat} : ∀ s, s ≤ half → j < s → ftIn f tb v half s (half + j) = jn f (tb j) v
  | 0, _, h => absurd h (Nat.not_lt_zero _)
  | s + 1, hs, h => by
    unfold ftIn fun_set
    by_cases e : j = s
    · subst e
      rw [if_pos rfl, ftIn_lo (by omega)]
    · rw [if_neg (by omega), ftIn_hi s (by omega) (by omega)]
theorem ft_ok {f : Int32} {tb b : Nat → Int32} {st : Nat} (h0 : tb 0 = 0) : ∀ c x, x < 2 ^ c → ftOut f tb b st c x = tJ f (fun j => b (st + j)) x c
  | 0, x, h => by
    have e : x = 0 := by
      rw [Nat.pow_zero] at h
      omega
    subst e
    exact h0
  | c + 1, x, h => by
    unfold ftOut tJ
    by_cases hx : x < 2 ^ c
    · rw [ftIn_lo hx, ft_ok h0 c x hx, Nat.testBit_lt_two_pow hx, if_neg (by decide), jn_z]
    · obtain ⟨j, rfl⟩ : ∃ j, x = 2 ^ c + j := ⟨x - 2 ^ c, by omega⟩
      have hj : j < 2 ^ c := by
        rw [Nat.pow_succ] at h
        omega
      rw [ftIn_hi _ (Nat.le_refl _) hj, ft_ok h0 c j hj, tJ_cg (x := 2 ^ c + j) (y := j) (fun i hi => Nat.testBit_two_pow_add_gt hi j), Nat.testBit_two_pow_add_eq, Nat.testBit_lt_two_pow hj]
      rfl
theorem ft_0 {f : Int32} {tb b : Nat → Int32} {st : Nat} (h0 : tb 0 = 0) (c : Nat) : ftOut f tb b st c 0 = 0 := by
  rw [ft_ok h0 c 0 (Nat.two_pow_pos c), tJ_0]
theorem hb_nI {m i : Nat} (hi : i < 32) : hb (nI m) i = m.testBit i := by
  show (BitVec.ofNat 32 m).getLsbD i = _
  rw [BitVec.getLsbD_ofNat]
  simp [hi]
theorem hb_us {x : Int32} {c : Nat} (hc : c < 32) (i : Nat) : hb (us x (nI c)) i = hb x (c + i) := by
  unfold hb us
  rw [ush32 x hc, BitVec.getLsbD_ushiftRight]
theorem hb_setI {x : Int32} {st c : Nat} (hst : st < 32) (hc : c ≤ 32) (i : Nat) : hb (setI x st c) i = (hb x (st + i) && decide (i < c)) := by
  unfold setI
  rw [hb_and, hb_us hst, hb_lowM hc]
theorem setN_b {x : Int32} {st c : Nat} (hst : st < 32) (hc : c ≤ 8) {i : Nat} (hi : i < c) : (setN x st c).testBit i = hb x (st + i) := by
  rw [← hb_nI (show i < 32 by omega), ← (setI_n x st hc).1, hb_setI hst (by omega)]
  simp [hi]
theorem setN_lt {x : Int32} {st c : Nat} (hst : st < 32) (hc : c ≤ 8) : setN x st c < 2 ^ c := by
  refine Nat.lt_pow_two_of_testBit _ (fun i hi => ?_)
  by_cases h : i < 32
  · rw [← hb_nI h, ← (setI_n x st hc).1, hb_setI hst (by omega)]
    simp
    omega
  · refine Nat.testBit_lt_two_pow ?_
    have h1 := (setI_n x st hc).2
    have h2 : 2 ^ 8 ≤ 2 ^ i := Nat.pow_le_pow_right (by decide) (by omega)
    omega
theorem setN_0 {x : Int32} {st c : Nat} (hc : c ≤ 8) (h : setI x st c = 0) : setN x st c = 0 := by
  unfold setN
  rw [h]
  rfl
theorem mlI_add {fl : Bool} {g : Nat → Int32} {x : Int32} {st y : Nat} : ∀ c, (∀ j, j < c → y.testBit j = hb x (st + j)) → mlI fl g x (st + c) = jn (b1 fl) (mlI fl g x st) (tJ (b1 fl) (fun j => g (st + j)) y c)
  | 0, _ => by
    rw [Nat.add_zero]
    exact (jn_z _ _).symm
  | c + 1, h => by
    show jn (b1 fl) (mlI fl g x (st + c)) (if hb x (st + c) = true then g (st + c) else 0) = jn (b1 fl) (mlI fl g x st) (jn (b1 fl) (tJ (b1 fl) (fun j => g (st + j)) y c) (if y.testBit c = true then g (st + c) else 0))
    rw [mlI_add c (fun j hj => h j (by omega)), jn_as, h c (by omega)]
theorem te_ok {f : Int32} {tb a g : Nat → Int32} {st c : Nat} : ∀ i r, teG f tb a st c g i r = if r < i then (if setI (a r) st c = 0 then g r else jn f (g r) (tb (setN (a r) st c))) else g r
  | 0, r => by rw [if_neg (Nat.not_lt_zero _)]; rfl
  | i + 1, r => by
    unfold teG
    by_cases e : r = i
    · subst e
      have hlt : r < r + 1 := Nat.lt_succ_self r
      by_cases z : setI (a r) st c = 0
      · rw [if_pos z, if_pos hlt, if_pos z, te_ok r r, if_neg (Nat.lt_irrefl r)]
      · rw [if_neg z, if_pos hlt, if_neg z]
        unfold fun_set
        rw [if_pos rfl, te_ok r r, if_neg (Nat.lt_irrefl r)]
    · have h1 : (if setI (a i) st c = 0 then teG f tb a st c g i else fun_set (teG f tb a st c g i) i (jn f (teG f tb a st c g i i) (tb (setN (a i) st c)))) r = teG f tb a st c g i r := by
        split
        · rfl
        · unfold fun_set
          rw [if_neg e]
      rw [h1, te_ok i r]
      by_cases h2 : r < i
      · rw [if_pos h2, if_pos (show r < i + 1 by omega)]
      · rw [if_neg h2, if_neg (show ¬ r < i + 1 by omega)]
theorem tc_ok {a : Nat → Int32} {st c t : Nat} : ∀ i, teC a st c (nI t) i = nI (tkI a st c t i)
  | 0 => rfl
  | i + 1 => by
    unfold teC tkI
    rw [tc_ok i]
    split
    · rfl
    · exact nI_o1 _
theorem mul_ok {fl : Bool} {n bl : Nat} {a b tb g : Nat → Int32} (h0 : tb 0 = 0) (hb1 : 1 ≤ bl) (hb8 : bl ≤ 8) (hn : n ≤ 32) : ∀ k, k ≤ blocks n bl →
    (mulIt (b1 fl) n bl a b tb g k).1 0 = 0 ∧ (∀ r, r < n → (mulIt (b1 fl) n bl a b tb g k).2.1 r = mlI fl b (a r) (min n (k * bl))) ∧ (mulIt (b1 fl) n bl a b tb g k).2.2.1 = nI (mdN n bl k) ∧ (mulIt (b1 fl) n bl a b tb g k).2.2.2 = nI (tkN a n bl k)
  | 0, _ => by
    refine ⟨h0, fun r hr => ?_, rfl, rfl⟩
    show wr g (fun _ => 0) n r = _
    rw [wr_lt hr, Nat.zero_mul, Nat.min_zero]
    rfl
  | k + 1, hk => by
    obtain ⟨i1, i2, i3, i4⟩ := mul_ok (a := a) (b := b) (g := g) (fl := fl) h0 hb1 hb8 hn k (by omega)
    have hlt : k * bl < n := blocks_lt (by omega) (by omega)
    have hc8 : min bl (n - k * bl) ≤ 8 := by omega
    have hst : k * bl < 32 := by omega
    have e1 : min n ((k + 1) * bl) = k * bl + min bl (n - k * bl) := by
      rw [Nat.succ_mul]
      omega
    have e2 : min n (k * bl) = k * bl := by omega
    unfold mulIt mulStep
    refine ⟨ft_0 i1 _, fun r hr => ?_, ?_, ?_⟩
    · show teG _ _ a _ _ _ n r = _
      rw [te_ok, if_pos hr, i2 r hr, e1, e2, mlI_add (y := setN (a r) (k * bl) (min bl (n - k * bl))) _ (fun j hj => setN_b hst hc8 hj)]
      rw [ft_ok i1 _ _ (setN_lt hst hc8)]
      split
      · rename_i hz
        rw [setN_0 hc8 hz, tJ_0, jn_z]
      · rfl
    · show (mulIt (b1 fl) n bl a b tb g k).2.2.1 + (nI (2 ^ min bl (n - k * bl)) - 1) = _
      rw [i3, nI_m1 (Nat.one_le_two_pow), mdN]
      exact (Int32.ofNat_add _ _).symm
    · show teC a _ _ (mulIt (b1 fl) n bl a b tb g k).2.2.2 n = _
      rw [i4, tc_ok, tkN]
theorem mul_all {fl : Bool} {n bl : Nat} {a b tb g : Nat → Int32} (h0 : tb 0 = 0) (hb1 : 1 ≤ bl) (hb8 : bl ≤ 8) (hn : n ≤ 32) :
    (mulIt (b1 fl) n bl a b tb g (blocks n bl)).1 0 = 0 ∧ (∀ r, r < n → (mulIt (b1 fl) n bl a b tb g (blocks n bl)).2.1 r = mlF fl a b n r) ∧ (mulIt (b1 fl) n bl a b tb g (blocks n bl)).2.2.1 = nI (mdN n bl (blocks n bl)) ∧ (mulIt (b1 fl) n bl a b tb g (blocks n bl)).2.2.2 = nI (tkN a n bl (blocks n bl)) := by
  obtain ⟨i1, i2, i3, i4⟩ := mul_ok (a := a) (b := b) (g := g) (fl := fl) h0 hb1 hb8 hn _ (Nat.le_refl _)
  refine ⟨i1, fun r hr => ?_, i3, i4⟩
  rw [i2 r hr, show min n (blocks n bl * bl) = n by have := (blocks_ge (n := n) (bl := bl) (by omega)).1; omega]
  rfl
