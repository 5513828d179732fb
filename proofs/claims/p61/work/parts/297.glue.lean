/-! powers, inverses, exchanges, rows: the law's tables beside the class's rows -/
section
variable {n : Nat} {f g : Nat → Int32} {x y : Int32}
theorem pwG_t {is : Bool} {p : Nat → Nat → Bool} : ∀ (t t' e : Nat), e < 2 ^ t → e < 2 ^ t' → pwG is p n t e = pwG is p n t' e
  | 0, t', e, h, _ => by
    have e0 : e = 0 := by
      rw [Nat.pow_zero] at h
      omega
    subst e0
    cases t' with
    | zero => rfl
    | succ t' => exact (if_pos rfl).symm
  | t + 1, 0, e, _, h => by
    have e0 : e = 0 := by
      rw [Nat.pow_zero] at h
      omega
    subst e0
    exact if_pos rfl
  | t + 1, t' + 1, e, h, h' => by
    have e1 : e / 2 < 2 ^ t := by
      rw [Nat.pow_succ] at h
      omega
    have e2 : e / 2 < 2 ^ t' := by
      rw [Nat.pow_succ] at h'
      omega
    rw [pwG, pwG, pwG_t t t' (e / 2) e1 e2]
/-- a power, by halves -/
def pwE6 (is : Bool) (p : Nat → Nat → Bool) (n e : Nat) : Nat → Nat → Bool := pwG is p n 6 e
theorem pw6_0 {is : Bool} {p : Nat → Nat → Bool} : pwE6 is p n 0 = fun r c => decide (r = c) := by
  unfold pwE6
  exact (pwG_t 6 0 0 (by decide) (by decide))
theorem pw6_s {is : Bool} {p : Nat → Nat → Bool} {e : Nat} (h : e < 64) (h0 : e ≠ 0) : pwE6 is p n e = if e % 2 = 1 then mlB is (mlB is (pwE6 is p n (e / 2)) (pwE6 is p n (e / 2)) n) p n else mlB is (pwE6 is p n (e / 2)) (pwE6 is p n (e / 2)) n := by
  have e2 : pwE6 is p n (e / 2) = pwG is p n 5 (e / 2) := pwG_t 6 5 (e / 2) (Nat.lt_of_le_of_lt (Nat.div_le_self e 2) h) (by show e / 2 < 32; omega)
  rw [e2]
  unfold pwE6
  rw [pwG, if_neg h0]
def PI9 (is : Bool) (f : Nat → Int32) (n e : Nat) (A : Nat → Int32) : Prop := ∀ r c, r < n → c < n → hb (A r) c = pwE6 is (fB f) n e r c
theorem pi_s {is : Bool} {e bl b : Nat} {s : PW} (h : PI9 is f n (e / 2) s.1) (he : e < 64) (h0 : e ≠ 0) (hx : hb x b = decide (e % 2 = 1)) : PI9 is f n e (pwB f is n bl x b s).1 ∧ (pwB f is n bl x b s).2.1 = lN (mdN n bl (blocks n bl)) ∧ ∃ A, (pwB f is n bl x b s).2.2.1 = lN (tkN A n bl (blocks n bl)) ∧ ∀ r c, r < n → c < n → hb (A r) c = pwH is (fB f) n 6 e r c := by
  have sq : ∀ r c, r < n → c < n → hb (mlF is s.1 s.1 n r) c = mlB is (pwE6 is (fB f) n (e / 2)) (pwE6 is (fB f) n (e / 2)) n r c := fun r c hr hc => by
    rw [← mlB_w]
    exact mlB_cg h h hr hc
  unfold pwB
  by_cases q : e % 2 = 1
  · rw [if_pos (by rw [hx, decide_eq_true q])]
    refine ⟨fun r c hr hc => ?_, rfl, mlF is s.1 s.1 n, rfl, fun r c hr hc => ?_⟩
    · rw [pw6_s he h0, if_pos q]
      show hb (mlF is (mlF is s.1 s.1 n) f n r) c = _
      rw [← mlB_w]
      exact mlB_cg sq (fun _ _ _ _ => rfl) hr hc
    · unfold pwH
      rw [if_pos q]
      exact sq r c hr hc
  · rw [if_neg (by rw [hx, decide_eq_false q]; decide)]
    refine ⟨fun r c hr hc => ?_, rfl, s.1, rfl, fun r c hr hc => ?_⟩
    · rw [pw6_s he h0, if_neg q]
      exact sq r c hr hc
    · unfold pwH
      rw [if_neg q]
      exact h r c hr hc
theorem pi_l {is : Bool} {bl m : Nat} (hm : m < 64) : ∀ (k : Nat) (s : PW), k ≤ 20 → (k ≠ 0 → 2 ^ (k - 1) ≤ m) → PI9 is f n (m / 2 ^ k) s.1 → PI9 is f n m (pwL f is n bl (nI m) k s).1 ∧ (k ≠ 0 → (pwL f is n bl (nI m) k s).2.1 = lN (mdN n bl (blocks n bl)) ∧ ∃ A, (pwL f is n bl (nI m) k s).2.2.1 = lN (tkN A n bl (blocks n bl)) ∧ ∀ r c, r < n → c < n → hb (A r) c = pwH is (fB f) n 6 m r c)
  | 0, s, _, _, h => by
    rw [Nat.pow_zero, Nat.div_one] at h
    exact ⟨h, fun z => absurd rfl z⟩
  | k + 1, s, hk, h2, h => by
    have hp : 2 ^ k ≤ m := h2 (Nat.succ_ne_zero k)
    have h0 : m / 2 ^ k ≠ 0 := fun z => by
      have := (Nat.div_eq_zero_iff).mp z
      have h3 := Nat.two_pow_pos k
      omega
    have hlt : m / 2 ^ k < 64 := Nat.lt_of_le_of_lt (Nat.div_le_self _ _) hm
    have hd : m / 2 ^ k / 2 = m / 2 ^ (k + 1) := by rw [Nat.div_div_eq_div_mul, Nat.pow_succ]
    have hx : hb (nI m) k = decide (m / 2 ^ k % 2 = 1) := by rw [hb_nI (by omega), Nat.testBit_eq_decide_div_mod_eq]
    have st := pi_s (is := is) (f := f) (bl := bl) (s := s) (by rw [hd]; exact h) hlt h0 hx
    have ih := pi_l (is := is) (bl := bl) hm k (pwB f is n bl (nI m) k s) (by omega) (fun hz => Nat.le_trans (Nat.pow_le_pow_right (by decide) (by omega)) hp) st.1
    refine ⟨ih.1, fun _ => ?_⟩
    by_cases z : k = 0
    · subst z
      have e1 : m / 2 ^ 0 = m := by rw [Nat.pow_zero, Nat.div_one]
      rw [e1] at st
      exact st.2
    · exact ih.2 z
theorem hiB_le {x : Int32} : ∀ k, hiB x k ≤ k
  | 0 => Nat.le_refl 0
  | k + 1 => by
    unfold hiB
    split
    · exact Nat.le_refl _
    · exact Nat.le_succ_of_le (hiB_le k)
/-- the class's power beside the law's -/
theorem pw_w {u : Nat → Int64} {is : Bool} {bl m : Nat} (hn : n ≤ 32) (hm : m < 64) : PI9 is f n m (pwZ u f is n bl m).1 ∧ (m ≠ 0 → (pwZ u f is n bl m).2.1 = lN (mdN n bl (blocks n bl)) ∧ ∃ A, (pwZ u f is n bl m).2.2.1 = lN (tkN A n bl (blocks n bl)) ∧ ∀ r c, r < n → c < n → hb (A r) c = pwH is (fB f) n 6 m r c) ∧ (m = 0 → (pwZ u f is n bl m).2.1 = u 2 ∧ (pwZ u f is n bl m).2.2.1 = u 3) := by
  have htop := hiB_top (x := nI m) 21
  have habv := hiB_abv (x := nI m) 21
  have hle := hiB_le (x := nI m) 21
  unfold pwZ
  have hh : hiB (nI m) 21 ≤ 6 := Nat.le_of_not_lt (fun z => by
    have h1 := htop (by omega)
    rw [hb_nI (by omega), Nat.testBit_lt_two_pow (Nat.lt_of_lt_of_le hm (Nat.pow_le_pow_right (by decide) (by omega) : 2 ^ 6 ≤ 2 ^ (hiB (nI m) 21 - 1)))] at h1
    cases h1)
  have h3 : hiB (nI m) 21 ≠ 0 → 2 ^ (hiB (nI m) 21 - 1) ≤ m := fun z => by
    have h1 := htop (by omega)
    rw [hb_nI (by omega)] at h1
    exact Nat.le_of_not_lt (fun y => by rw [Nat.testBit_lt_two_pow y] at h1; cases h1)
  have h4 : m < 2 ^ hiB (nI m) 21 := Nat.lt_pow_two_of_testBit _ (fun i hi => by
    by_cases e : i < 21
    · rw [← hb_nI (by omega)]
      exact habv i hi e
    · exact Nat.testBit_lt_two_pow (Nat.lt_of_lt_of_le hm (Nat.pow_le_pow_right (by decide) (by omega) : 2 ^ 6 ≤ 2 ^ i)))
  have h6 : hiB (nI m) 21 = 0 → m = 0 := fun z => by
    rw [z, Nat.pow_zero] at h4
    omega
  have h7 : m = 0 → hiB (nI m) 21 = 0 := fun z => by
    subst z
    exact Classical.byContradiction fun y => by
      have := h3 y
      have h9 := Nat.two_pow_pos (hiB (nI 0) 21 - 1)
      omega
  have h5 : PI9 is f n (m / 2 ^ hiB (nI m) 21) bitI := fun r c hr hc => by
    rw [Nat.div_eq_of_lt h4, pw6_0]
    rw [hb_bitI (by omega)]
    exact decide_eq_decide.mpr eq_comm
  obtain ⟨a1, a2⟩ := pi_l (is := is) (f := f) (bl := bl) hm (hiB (nI m) 21) (bitI, u 2, u 3, fun _ => 0) (by omega) h3 h5
  refine ⟨a1, fun z => a2 (fun y => z (h6 y)), fun z => ?_⟩
  rw [h7 z]
  exact ⟨rfl, rfl⟩
/-! inverses -/
theorem iv_1 {M : Mem} {s : Nat} (hn : n ≤ 32) : EI n (Am M s) (ivE M s n) n := by
  unfold ivE elAll
  exact ei_all (ei_0 hn (fun r hr => wr_lt hr) (fun r hr => wr_lt hr)) n (Nat.le_refl n)
theorem iv_no {M : Mem} {s c : Nat} (hn : n ≤ 32) (hc : c < n) (h : (zso (Am M s) n (2 ^ c)).1 ≠ 0) : (ivE M s n).2.2.2 < n := by
  have hE := iv_1 (M := M) (s := s) hn
  refine Nat.lt_of_le_of_ne hE.1 (fun e => ?_)
  obtain ⟨h1, h2⟩ := ei_inv hE e
  exact h (zin_2 h2 hc)
theorem iv_yes {M : Mem} {s : Nat} (hn : n ≤ 32) (h : ∀ c, c < n → (zso (Am M s) n (2 ^ c)).1 = 0) : ¬ (ivE M s n).2.2.2 < n ∧ ∀ r c, r < n → c < n → (zso (Am M s) n (2 ^ c)).2.testBit r = hb ((ivE M s n).2.1 r) c := by
  have hE := iv_1 (M := M) (s := s) hn
  have hZ := zin_1 h
  have hk : ¬ (ivE M s n).2.2.2 < n := fun q => ei_no hE q _ hZ
  refine ⟨hk, fun r c hr hc => ?_⟩
  obtain ⟨h1, h2⟩ := ei_inv hE (Nat.le_antisymm hE.1 (Nat.le_of_not_lt hk))
  have e1 : mp n (mp n (Bm (ivE M s n).2.1) (Bm (Am M s))) (fun k c => (zso (Am M s) n (2 ^ c)).2.testBit k) r c = (zso (Am M s) n (2 ^ c)).2.testBit r := mp_1 h1 c hr
  rw [← e1, mp_as]
  exact mp_2 hZ r hc
/-! exchanges, rows, bits -/
theorem hb_ex {a b i : Nat} (ha : a < 32) (hb9 : b < 32) : hb (exch x a b) i = hb x (srcN a b i) := by
  unfold exch srcN
  by_cases q : hb x a = hb x b
  · rw [if_pos q]
    by_cases e : i = a
    · rw [if_pos e, e, q]
    · rw [if_neg e]
      by_cases e2 : i = b
      · rw [if_pos e2, e2, q]
      · rw [if_neg e2]
  · rw [if_neg q, hb_xor, hb_xor, hb_bitI ha, hb_bitI hb9]
    have hab : a ≠ b := fun z => q (by rw [z])
    by_cases e : i = a
    · rw [if_pos e, e, decide_eq_true rfl, decide_eq_false hab]
      revert q
      cases hb x a <;> cases hb x b <;> decide
    · rw [if_neg e, decide_eq_false e]
      by_cases e2 : i = b
      · rw [if_pos e2, e2, decide_eq_true rfl]
        revert q
        cases hb x a <;> cases hb x b <;> decide
      · rw [if_neg e2, decide_eq_false e2, Bool.xor_false, Bool.xor_false]
theorem src_lt {a b i : Nat} (ha : a < n) (hb9 : b < n) (hi : i < n) : srcN a b i < n := by
  unfold srcN
  split
  · exact hb9
  · split
    · exact ha
    · exact hi
theorem src_src {a b i : Nat} : srcN a b (srcN a b i) = i := by
  unfold srcN
  by_cases e : i = a
  · rw [if_pos e]
    by_cases e2 : b = a
    · rw [if_pos e2, e2, e]
    · rw [if_neg e2, if_pos rfl, e]
  · rw [if_neg e]
    by_cases e2 : i = b
    · rw [if_pos e2, if_pos rfl, e2]
    · rw [if_neg e2, if_neg e, if_neg e2]
theorem ex_w {a b r c : Nat} (hn : n ≤ 32) (ha : a < n) (hb9 : b < n) : hb (exF f a b r) c = hb (f (srcN a b r)) (srcN a b c) := by
  unfold exF
  exact hb_ex (by omega) (by omega)
theorem exC_d {a b : Nat} : ∀ k, exC f a b k = dfF (exF f a b) f k
  | 0 => rfl
  | k + 1 => by rw [exC, dfF, exC_d k]
theorem dM_sw {p q : Nat → Nat → Bool} (k : Nat) : dM p q n k = dM q p n k := cM_cg k (fun r c _ _ => Bool.xor_comm _ _)
theorem ex_c {a b : Nat} (hn : n ≤ 32) (hf : wfr n f) (ha : a < n) (hb9 : b < n) : exC f a b n = nI (dM (fB f) (fB (exF f a b)) n n) := by
  rw [exC_d, df_c hn (wf_ex hf ha hb9 hn) hf n (Nat.le_refl n), dM_sw]
theorem col_w {r c : Nat} (hn : n ≤ 32) (hc : c < n) : hb (colOf f r n) c = hb (f c) r := by
  rw [hb_colOf n hn, decide_eq_true hc, Bool.true_and]
theorem cb_w {w i : Nat} (hi : i < 32) : hb (comb x y w) i = (if w = 0 then hb x i && hb y i else if w = 1 then hb x i || hb y i else if w = 2 then Bool.xor (hb x i) (hb y i) else hb x i && !(hb y i)) := by
  unfold comb
  split
  · rw [if_pos rfl, hb_and]
  · rw [if_neg (by decide), if_pos rfl, hb_or]
  · rw [if_neg (by decide), if_neg (by decide), if_pos rfl, hb_xor]
  · rename_i h0 h1 h2
    rw [if_neg (fun z => h0 z), if_neg (fun z => h1 z), if_neg (fun z => h2 z), hb_and, hb_not hi]
theorem hb_low (v : Int64) {c : Nat} (hn : n ≤ 32) (hc : c < n) : hb (v.toInt32 &&& lowM n) c = hl v c := by
  rw [hb_and, hb_lowM hn, decide_eq_true hc, Bool.and_true]
  unfold hb hl
  show (v.toBitVec.signExtend 32).getLsbD c = _
  rw [BitVec.signExtend_eq_setWidth_of_le _ (by decide), BitVec.getLsbD_setWidth, decide_eq_true (show c < 32 by omega), Bool.true_and]
end
