/-! the law's way to solve: sums of columns that were independent so far -/
section
variable {f : Nat → Int32} {n : Nat}
/-- what a choice y of columns makes -/
def mb (f : Nat → Int32) (n y i : Nat) : Bool := xs (fun k => y.testBit k && hb (f i) k) n
theorem mb_x {i : Nat} (y z : Nat) : mb f n (y ^^^ z) i = Bool.xor (mb f n y i) (mb f n z i) := by
  unfold mb
  rw [← xs_x]
  refine xs_cg (fun k _ => ?_)
  rw [Nat.testBit_xor]
  cases y.testBit k <;> cases z.testBit k <;> cases hb (f i) k <;> rfl
theorem mb_0 {i : Nat} : mb f n 0 i = false := (xs_cg (g := fun _ => false) (fun k _ => by rw [Nat.zero_testBit]; rfl)).trans (xs_f n)
theorem mb_2 {c i : Nat} (hc : c < n) : mb f n (2 ^ c) i = hb (f i) c := by
  unfold mb
  refine (xs_cg (g := fun k => decide (k = c) && hb (f i) k) (fun k _ => ?_)).trans ?_
  · rw [Nat.testBit_two_pow]
    congr 1
    exact decide_eq_decide.mpr eq_comm
  · rw [xs_1, decide_eq_true hc]
    rfl
def LI (f : Nat → Int32) (n : Nat) (s : LSt) (c : Nat) : Prop := (∀ r, r < n → s.1 r ≠ 0 → (s.1 r).testBit r = true ∧ ∀ i, i < r → (s.1 r).testBit i = false) ∧ (∀ r, r < n → s.1 r < 2 ^ n ∧ s.2 r < 2 ^ c) ∧ (∀ r i, r < n → i < n → (s.1 r).testBit i = mb f n (s.2 r) i) ∧ (∀ y, y < 2 ^ c → (∀ r, r < n → s.1 r ≠ 0 → mb f n y r = false) → ∀ i, i < n → mb f n y i = false)
theorem li_0 : LI f n (fun _ => 0, fun _ => 0) 0 := by
  refine ⟨fun r _ h => absurd rfl h, fun r _ => ⟨Nat.two_pow_pos n, (by decide : 0 < 1)⟩, fun r i _ _ => ?_, fun y hy _ i _ => ?_⟩
  · show (0 : Nat).testBit i = mb f n 0 i
    rw [mb_0, Nat.zero_testBit]
  · have : y = 0 := by
      rw [Nat.pow_zero] at hy
      omega
    rw [this]
    exact mb_0
section
variable {s : LSt} {c : Nat} {p : Nat × Nat}
theorem zr_1 (h : LI f n s c) : ∀ k, k ≤ n → ∀ i, i < n → Bool.xor ((zrd s p k).1.testBit i) (mb f n (zrd s p k).2 i) = Bool.xor (p.1.testBit i) (mb f n p.2 i)
  | 0, _, i, _ => rfl
  | k + 1, hk, i, hi => by
    rw [← zr_1 h k (by omega) i hi]
    rw [zrd]
    split
    · rw [Nat.testBit_xor, mb_x, h.2.2.1 k i (by omega) hi]
      cases (zrd s p k).1.testBit i <;> cases mb f n (zrd s p k).2 i <;> cases mb f n (s.2 k) i <;> rfl
    · rfl
theorem zr_2 (h : LI f n s c) : ∀ k, k ≤ n → ∀ r, r < k → s.1 r ≠ 0 → (zrd s p k).1.testBit r = false
  | 0, _, r, hr, _ => absurd hr (Nat.not_lt_zero r)
  | k + 1, hk, r, hr, h0 => by
    rw [zrd]
    by_cases e : r = k
    · subst e
      by_cases q : (zrd s p r).1.testBit r = true
      · rw [if_pos ⟨q, h0⟩, Nat.testBit_xor, q, (h.1 r (by omega) h0).1]
        rfl
      · rw [if_neg (fun q9 => q q9.1)]
        exact Bool.eq_false_iff.mpr q
    · have ih := zr_2 h k (by omega) r (by omega) h0
      split
      · rename_i q
        rw [Nat.testBit_xor, ih, (h.1 k (by omega) q.2).2 r (by omega)]
        rfl
      · exact ih
theorem zr_3 {b : Nat} (h : LI f n s c) (h1 : p.1 < 2 ^ n) (h2 : p.2 < 2 ^ b) (hb9 : c ≤ b) : ∀ k, k ≤ n → (zrd s p k).1 < 2 ^ n ∧ (zrd s p k).2 < 2 ^ b
  | 0, _ => ⟨h1, h2⟩
  | k + 1, hk => by
    obtain ⟨g1, g2⟩ := zr_3 h h1 h2 hb9 k (by omega)
    obtain ⟨k1, k2⟩ := h.2.1 k (by omega)
    rw [zrd]
    split
    · exact ⟨Nat.xor_lt_two_pow g1 k1, Nat.xor_lt_two_pow g2 (Nat.lt_of_lt_of_le k2 (Nat.pow_le_pow_right (by decide) hb9))⟩
    · exact ⟨g1, g2⟩
theorem zr_4 (h : LI f n s c) : ∀ k, k ≤ n → (zrd s p k).2.testBit c = p.2.testBit c
  | 0, _ => rfl
  | k + 1, hk => by
    rw [← zr_4 h k (by omega)]
    rw [zrd]
    split
    · show ((zrd s p k).2 ^^^ s.2 k).testBit c = _
      rw [Nat.testBit_xor, Nat.testBit_lt_two_pow (h.2.1 k (by omega)).2, Bool.xor_false]
    · rfl
/-- one column more -/
theorem lt_bit {x c : Nat} (h : x < 2 ^ (c + 1)) (h0 : x.testBit c = false) : x < 2 ^ c := Nat.lt_pow_two_of_testBit _ (fun i hi => by
  by_cases e : i = c
  · rw [e]
    exact h0
  · exact Nat.testBit_lt_two_pow (Nat.lt_of_lt_of_le h (Nat.pow_le_pow_right (by decide) (by omega))))
theorem li_step (h : LI f n s c) (hc : c < n) : LI f n (zsv f n s c) (c + 1) := by
  have hp : (2 : Nat) ^ c < 2 ^ (c + 1) := Nat.pow_lt_pow_right (by decide) (Nat.lt_succ_self c)
  have m1 : ∀ i, i < n → (zrd s (nbN (fun r => hb (f r) c) n, 2 ^ c) n).1.testBit i = mb f n (zrd s (nbN (fun r => hb (f r) c) n, 2 ^ c) n).2 i := fun i hi => by
    have e := zr_1 (p := (nbN (fun r => hb (f r) c) n, 2 ^ c)) h n (Nat.le_refl n) i hi
    rw [mb_2 hc, nb_b, decide_eq_true hi] at e
    revert e
    cases (zrd s (nbN (fun r => hb (f r) c) n, 2 ^ c) n).1.testBit i <;> cases mb f n (zrd s (nbN (fun r => hb (f r) c) n, 2 ^ c) n).2 i <;> cases hb (f i) c <;> decide
  have m2 : ∀ r, r < n → s.1 r ≠ 0 → (zrd s (nbN (fun r => hb (f r) c) n, 2 ^ c) n).1.testBit r = false := fun r hr => zr_2 h n (Nat.le_refl n) r hr
  have m3 := zr_3 (p := (nbN (fun r => hb (f r) c) n, 2 ^ c)) (b := c + 1) h (nb_lt n) hp (Nat.le_succ c) n (Nat.le_refl n)
  have m4 : (zrd s (nbN (fun r => hb (f r) c) n, 2 ^ c) n).2.testBit c = true := by
    rw [zr_4 h n (Nat.le_refl n), Nat.testBit_two_pow, decide_eq_true rfl]
  unfold zsv
  generalize zrd s (nbN (fun r => hb (f r) c) n, 2 ^ c) n = q at *
  obtain ⟨m5, m6⟩ := m3
  obtain ⟨h1, h2, h3, h4⟩ := h
  have ylt : ∀ y, y < 2 ^ (c + 1) → (y.testBit c = false → y < 2 ^ c) ∧ (y.testBit c = true → y ^^^ q.2 < 2 ^ c) := fun y hy => ⟨fun e => lt_bit hy e, fun e => lt_bit (Nat.xor_lt_two_pow hy m6) (by rw [Nat.testBit_xor, e, m4]; rfl)⟩
  by_cases e0 : q.1 = 0
  · rw [if_pos e0]
    have z : ∀ i, i < n → mb f n q.2 i = false := fun i hi => by rw [← m1 i hi, e0, Nat.zero_testBit]
    refine ⟨h1, fun r hr => ⟨(h2 r hr).1, Nat.lt_trans (h2 r hr).2 hp⟩, h3, fun y hy hz i hi => ?_⟩
    cases e : y.testBit c
    · exact h4 y ((ylt y hy).1 e) hz i hi
    · have e9 : ∀ j, j < n → mb f n (y ^^^ q.2) j = mb f n y j := fun j hj => by rw [mb_x, z j hj, Bool.xor_false]
      have g := h4 _ ((ylt y hy).2 e) (fun r hr h0 => by rw [e9 r hr]; exact hz r hr h0) i hi
      rw [e9 i hi] at g
      exact g
  · rw [if_neg e0]
    obtain ⟨t1, t2, t3⟩ := low_ok m5 e0
    generalize lowB q.1 n 0 = t at *
    have f1 : ∀ (g : Nat → Nat) (v r : Nat), fun_set g t v r = if r = t then v else g r := fun _ _ _ => rfl
    have st : s.1 t = 0 := Classical.byContradiction fun q9 => by
      rw [m2 t t1 q9] at t2
      cases t2
    refine ⟨fun r hr h0 => ?_, fun r hr => ?_, fun r i hr hi => ?_, fun y hy hz i hi => ?_⟩
    · simp only [f1] at h0 ⊢
      by_cases e : r = t
      · rw [if_pos e, e]
        exact ⟨t2, t3⟩
      · rw [if_neg e] at h0 ⊢
        exact h1 r hr h0
    · simp only [f1]
      by_cases e : r = t
      · rw [if_pos e, if_pos e]
        exact ⟨m5, m6⟩
      · rw [if_neg e, if_neg e]
        exact ⟨(h2 r hr).1, Nat.lt_trans (h2 r hr).2 hp⟩
    · simp only [f1]
      by_cases e : r = t
      · rw [if_pos e, if_pos e]
        exact m1 i hi
      · rw [if_neg e, if_neg e]
        exact h3 r i hr hi
    · simp only [f1] at hz
      have z1 : ∀ r, r < n → s.1 r ≠ 0 → mb f n y r = false := fun r hr h0 => hz r hr (by
        rw [if_neg (fun e => h0 (by rw [e]; exact st))]
        exact h0)
      have z2 : mb f n y t = false := hz t t1 (by rw [if_pos rfl]; exact e0)
      cases e : y.testBit c
      · exact h4 y ((ylt y hy).1 e) z1 i hi
      · have g := h4 _ ((ylt y hy).2 e) (fun r hr h0 => by rw [mb_x, z1 r hr h0, ← m1 r hr, m2 r hr h0]; rfl) t t1
        rw [mb_x, z2, ← m1 t t1, t2] at g
        cases g
end
theorem li_all : ∀ c, c ≤ n → LI f n (zli f n c) c
  | 0, _ => li_0
  | c + 1, hc => li_step (li_all c (by omega)) (by omega)
theorem so_1 {x : Nat} (hx : x < 2 ^ n) (h : (zso f n x).1 = 0) : (zso f n x).2 < 2 ^ n ∧ ∀ i, i < n → mb f n (zso f n x).2 i = x.testBit i := by
  have hL := li_all (f := f) (n := n) n (Nat.le_refl n)
  refine ⟨(zr_3 (b := n) hL hx (Nat.two_pow_pos n) (Nat.le_refl n) n (Nat.le_refl n)).2, fun i hi => ?_⟩
  have e := zr_1 (p := (x, 0)) hL n (Nat.le_refl n) i hi
  rw [h, Nat.zero_testBit, mb_0, Bool.xor_false, Bool.false_xor] at e
  exact e
theorem so_2 {x y : Nat} (hx : x < 2 ^ n) (hy : y < 2 ^ n) (h : ∀ i, i < n → mb f n y i = x.testBit i) : (zso f n x).1 = 0 := by
  have hL := li_all (f := f) (n := n) n (Nat.le_refl n)
  obtain ⟨g1, g2⟩ := zr_3 (p := (x, 0)) (b := n) hL hx (Nat.two_pow_pos n) (Nat.le_refl n) n (Nat.le_refl n)
  have e : ∀ i, i < n → (zso f n x).1.testBit i = mb f n (y ^^^ (zso f n x).2) i := fun i hi => by
    have e1 := zr_1 (p := (x, 0)) hL n (Nat.le_refl n) i hi
    rw [mb_x, h i hi]
    rw [mb_0] at e1
    revert e1
    show Bool.xor ((zso f n x).1.testBit i) (mb f n (zso f n x).2 i) = Bool.xor (x.testBit i) false → _
    cases (zso f n x).1.testBit i <;> cases mb f n (zso f n x).2 i <;> cases x.testBit i <;> decide
  refine nat_0 g1 (fun i hi => ?_)
  rw [e i hi]
  refine hL.2.2.2 _ (Nat.xor_lt_two_pow hy g2) (fun r hr h0 => ?_) i hi
  rw [← e r hr]
  exact zr_2 hL n (Nat.le_refl n) r hr h0
theorem two_lt {c : Nat} (hc : c < n) : 2 ^ c < 2 ^ n := Nat.pow_lt_pow_right (by decide) hc
/-- all units are made: the columns that make them stand behind f as an inverse -/
theorem zin_1 (h : ∀ c, c < n → (zso f n (2 ^ c)).1 = 0) : isI n (mp n (Bm f) (fun k c => (zso f n (2 ^ c)).2.testBit k)) := fun i c hi hc => by
  have e := (so_1 (two_lt hc) (h c hc)).2 i hi
  rw [Nat.testBit_two_pow] at e
  rw [show decide (i = c) = decide (c = i) from decide_eq_decide.mpr eq_comm, ← e]
  exact xs_cg (fun k _ => Bool.and_comm _ _)
/-- where f has an inverse all units are made -/
theorem zin_2 {X : BM} (hX : isI n (mp n (Bm f) X)) {c : Nat} (hc : c < n) : (zso f n (2 ^ c)).1 = 0 := by
  refine so_2 (y := nbN (fun k => X k c) n) (two_lt hc) (nb_lt n) (fun i hi => ?_)
  rw [Nat.testBit_two_pow, show decide (c = i) = decide (i = c) from decide_eq_decide.mpr eq_comm, ← hX i c hi hc]
  refine xs_cg (fun k hk => ?_)
  rw [nb_b, decide_eq_true hk, Bool.and_comm]
  rfl
end
