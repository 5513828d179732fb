/-! closures: what Warshall's rows hold -/
/-- the least relation that holds the edges and goes on -/
def TC (f : Nat → Int32) (n a b : Nat) : Prop := ∀ T : Nat → Nat → Prop, (∀ x y, x < n → y < n → hb (f x) y = true → T x y) → (∀ x y z, T x y → T y z → T x z) → T a b
def wfr (n : Nat) (f : Nat → Int32) : Prop := ∀ r, r < n → ∀ c, n ≤ c → hb (f r) c = false
theorem wfr_lt {n r c : Nat} {f : Nat → Int32} (h : wfr n f) (hr : r < n) (hc : hb (f r) c = true) : c < n := by
  rcases Nat.lt_or_ge c n with h1 | h1
  · exact h1
  · rw [h r hr c h1] at hc
    cases hc
theorem tc_e {f : Nat → Int32} {n a b : Nat} (ha : a < n) (hb9 : b < n) (h : hb (f a) b = true) : TC f n a b := fun T h1 _ => h1 a b ha hb9 h
theorem tc_t {f : Nat → Int32} {n a b c : Nat} (h : TC f n a b) (g : TC f n b c) : TC f n a c := fun T h1 h2 => h2 _ _ _ (h T h1 h2) (g T h1 h2)
theorem tc_lt {f : Nat → Int32} {n a b : Nat} (h : TC f n a b) : a < n ∧ b < n := h (fun x y => x < n ∧ y < n) (fun _ _ hx hy _ => ⟨hx, hy⟩) (fun _ _ _ h1 h2 => ⟨h1.1, h2.2⟩)
theorem tc_m {f g : Nat → Int32} {n a b : Nat} (h : ∀ x y, x < n → y < n → hb (f x) y = true → TC g n x y) (q : TC f n a b) : TC g n a b := q (fun x y => TC g n x y) h (fun _ _ _ h1 h2 => tc_t h1 h2)
theorem wIn_ok {g : Nat → Int32} {m : Nat} : ∀ i r, wIn g m i r = if r < i ∧ hb (g r) m = true then g r ||| g m else g r
  | 0, r => by rw [if_neg (fun h => Nat.not_lt_zero _ h.1)]; rfl
  | i + 1, r => by
    have hm : ∀ x, x = m → wIn g m i x = g x := by
      intro x hx
      rw [wIn_ok i x]
      split
      · rw [hx]
        exact Int32.or_self
      · rfl
    show (if hb (wIn g m i i) m = true then fun_set (wIn g m i) i (wIn g m i i ||| wIn g m i m) else wIn g m i) r = _
    have hi : wIn g m i i = g i := by
      rw [wIn_ok i i, if_neg (fun h => Nat.lt_irrefl _ h.1)]
    rw [hi, hm m rfl]
    by_cases e : r = i
    · subst e
      by_cases h : hb (g r) m = true
      · rw [if_pos h, if_pos ⟨Nat.lt_succ_self r, h⟩]
        unfold fun_set
        rw [if_pos rfl]
      · rw [if_neg h, if_neg (fun q => h q.2), hi]
    · have h1 : (if hb (g i) m = true then fun_set (wIn g m i) i (g i ||| g m) else wIn g m i) r = wIn g m i r := by
        split
        · unfold fun_set
          rw [if_neg e]
        · rfl
      rw [h1, wIn_ok i r]
      by_cases h2 : r < i ∧ hb (g r) m = true
      · rw [if_pos h2, if_pos ⟨Nat.lt_succ_of_lt h2.1, h2.2⟩]
      · rw [if_neg h2, if_neg (fun q => h2 ⟨by omega, q.2⟩)]
/-- a step, by bits -/
theorem wO_b {f : Nat → Int32} {n k a b : Nat} (ha : a < n) : hb (wOut f n (k + 1) a) b = (hb (wOut f n k a) b || (hb (wOut f n k a) k && hb (wOut f n k k) b)) := by
  show hb (wIn (wOut f n k) k n a) b = _
  rw [wIn_ok]
  by_cases h : hb (wOut f n k a) k = true
  · rw [if_pos ⟨ha, h⟩, hb_or, h, Bool.true_and]
  · rw [if_neg (fun q => h q.2), Bool.eq_false_iff.mpr h, Bool.false_and, Bool.or_false]
theorem wO_up {f : Nat → Int32} {n a b : Nat} (ha : a < n) : ∀ k, hb (f a) b = true → hb (wOut f n k a) b = true
  | 0, h => h
  | k + 1, h => by rw [wO_b ha, wO_up ha k h, Bool.true_or]
theorem wO_wf {f : Nat → Int32} {n : Nat} (h : wfr n f) : ∀ k, k ≤ n → wfr n (wOut f n k)
  | 0, _ => h
  | k + 1, hk => fun r hr c hc => by
    rw [wO_b hr, wO_wf h k (by omega) r hr c hc, wO_wf h k (by omega) k (by omega) c hc, Bool.and_false, Bool.or_false]
theorem wO_tc {f : Nat → Int32} {n : Nat} (h : wfr n f) : ∀ k, k ≤ n → ∀ a b, a < n → hb (wOut f n k a) b = true → TC f n a b
  | 0, _, a, b, ha, q => tc_e ha (wfr_lt h ha q) q
  | k + 1, hk, a, b, ha, q => by
    rw [wO_b ha] at q
    cases h1 : hb (wOut f n k a) b
    · rw [h1, Bool.false_or, Bool.and_eq_true] at q
      exact tc_t (wO_tc h k (by omega) a k ha q.1) (wO_tc h k (by omega) k b (by omega) q.2)
    · exact wO_tc h k (by omega) a b ha h1
theorem wO_cl {f : Nat → Int32} {n : Nat} : ∀ k, k ≤ n → ∀ m, m < k → ∀ a b, a < n → hb (wOut f n k a) m = true → hb (wOut f n k m) b = true → hb (wOut f n k a) b = true
  | 0, _, m, hm, _, _, _, _, _ => absurd hm (Nat.not_lt_zero _)
  | k + 1, hk, m, hm, a, b, ha, h1, h2 => by
    have ih := wO_cl (f := f) (n := n) k (by omega)
    rw [wO_b ha] at h1 ⊢
    rw [wO_b (show m < n by omega)] at h2
    by_cases e : m = k
    · subst e
      have h3 : hb (wOut f n m a) m = true := by
        cases h4 : hb (wOut f n m a) m
        · rw [h4] at h1
          cases h1
        · rfl
      have h5 : hb (wOut f n m m) b = true := by
        cases h6 : hb (wOut f n m m) b
        · rw [h6, Bool.and_false] at h2
          cases h2
        · rfl
      rw [h3, h5]
      exact Bool.or_true _
    · have hmk : m < k := by omega
      have hm2 : m < n := by omega
      rw [Bool.or_eq_true, Bool.and_eq_true] at h1 h2 ⊢
      rcases h1 with h1 | ⟨h1, h1'⟩
      · rcases h2 with h2 | ⟨h2, h2'⟩
        · exact Or.inl (ih m hmk a b ha h1 h2)
        · exact Or.inr ⟨ih m hmk a k ha h1 h2, h2'⟩
      · rcases h2 with h2 | ⟨h2, h2'⟩
        · exact Or.inr ⟨h1, ih m hmk k b (by omega) h1' h2⟩
        · exact Or.inr ⟨h1, h2'⟩
/-- Warshall's rows are the closure -/
theorem wO_ok {f : Nat → Int32} {n a b : Nat} (h : wfr n f) (ha : a < n) : hb (wOut f n n a) b = true ↔ TC f n a b := by
  constructor
  · exact wO_tc h n (Nat.le_refl n) a b ha
  · intro q
    have h2 := q (fun x y => x < n ∧ y < n ∧ hb (wOut f n n x) y = true) (fun x y hx hy e => ⟨hx, hy, wO_up hx n e⟩) (fun x y z h1 h2 => ⟨h1.1, h2.2.1, wO_cl n (Nat.le_refl n) y h1.2.1 x z h1.1 h1.2.2 h2.2.2⟩)
    exact h2.2.2
theorem wO_cg {f g : Nat → Int32} {n : Nat} (h : ∀ r, r < n → f r = g r) : ∀ k, k ≤ n → ∀ r, r < n → wOut f n k r = wOut g n k r
  | 0, _, r, hr => h r hr
  | k + 1, hk, r, hr => by
    unfold wOut
    rw [wIn_ok, wIn_ok, wO_cg h k (by omega) r hr, wO_cg h k (by omega) k (by omega)]
/-- two rows of bits below n that hold the same -/
theorem row_eq {f g : Nat → Int32} {n r : Nat} (hf : wfr n f) (hg : wfr n g) (hr : r < n) (h : ∀ b, b < n → (hb (f r) b = true ↔ hb (g r) b = true)) : f r = g r := by
  refine hb_ext (fun i _ => ?_)
  by_cases hi : i < n
  · have := h i hi
    cases h1 : hb (f r) i <;> cases h2 : hb (g r) i
    · rfl
    · exact absurd (this.mpr h2) (by rw [h1]; decide)
    · exact absurd (this.mp h1) (by rw [h2]; decide)
    · rfl
  · rw [hf r hr i (by omega), hg r hr i (by omega)]
