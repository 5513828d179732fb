/-! closures when an edge goes -/
theorem hb_neq {x y : Int32} (h : x ≠ y) (hs : ∀ c, hb y c = true → hb x c = true) : ∃ c, c < 32 ∧ hb x c = true ∧ hb y c = false := by
  refine Classical.byContradiction fun q => h (hb_ext fun i hi => ?_)
  cases h1 : hb x i
  · cases h2 : hb y i
    · rfl
    · rw [hs i h2] at h1
      cases h1
  · cases h2 : hb y i
    · exact absurd ⟨i, hi, h1, h2⟩ q
    · rfl
theorem pcb_add {K : Nat → Bool} {t n : Nat} (ht : K t = false) (hn : t < n) : pcb (fun i => K i || decide (i = t)) n = pcb K n + 1 := by
  have h1 := pcb_clear (fun i => K i || decide (i = t)) t (by rw [decide_eq_true rfl, Bool.or_true]) n
  rw [if_pos hn] at h1
  rw [← h1]
  congr 1
  refine pcb_congr n (fun i _ => ?_)
  by_cases e : i = t
  · rw [e, decide_eq_true rfl, ht]
    rfl
  · rw [decide_eq_false e, Bool.or_false]
    exact (Bool.and_true _)
theorem pcb_le {K : Nat → Bool} : ∀ n, pcb K n ≤ n
  | 0 => Nat.le_refl 0
  | n + 1 => by
    have := pcb_le (K := K) n
    unfold pcb
    cases K n
    · show pcb K n + 0 ≤ n + 1
      omega
    · show pcb K n + 1 ≤ n + 1
      omega
theorem pcb_all {K : Nat → Bool} : ∀ n, pcb K n = n → ∀ i, i < n → K i = true
  | 0, _, i, hi => absurd hi (Nat.not_lt_zero _)
  | n + 1, h, i, hi => by
    have h1 := pcb_le (K := K) n
    have h2 : pcb K n + (K n).toNat = n + 1 := h
    cases h3 : K n
    · rw [h3] at h2
      have h4 : (false : Bool).toNat = 0 := rfl
      omega
    · rw [h3] at h2
      have h4 : (true : Bool).toNat = 1 := rfl
      by_cases e : i = n
      · rw [e]
        exact h3
      · exact pcb_all n (by omega) i (by omega)
theorem rl_ok {f : Nat → Int32} {n a : Nat} (hw : wfr n f) (hn : n ≤ 32) : ∀ (d : Nat) (fd dn : Int32), (∀ c, n ≤ c → hb fd c = false) → (∀ c, hb dn c = true → hb fd c = true) → (∀ x, x < n → hb dn x = true → ∀ y, hb (f x) y = true → hb fd y = true) → (∀ y, hb fd y = true → TC f n a y) → pcb (hb dn) n + d = n →
    (∀ y, hb (reachL f d fd dn) y = true → TC f n a y) ∧ (∀ y, hb fd y = true → hb (reachL f d fd dn) y = true) ∧ (∀ x, x < n → hb (reachL f d fd dn) x = true → ∀ y, hb (f x) y = true → hb (reachL f d fd dn) y = true)
  | 0, fd, dn, h1, h2, h3, h4, h5 => by
    refine ⟨h4, fun _ h => h, fun x hx hxb y hy => h3 x hx (pcb_all n (by omega) x hx) y hy⟩
  | d + 1, fd, dn, h1, h2, h3, h4, h5 => by
    unfold reachL
    by_cases e : fd = dn
    · rw [if_pos e]
      exact ⟨h4, fun _ h => h, fun x hx hxb y hy => h3 x hx (by rw [← e]; exact hxb) y hy⟩
    · rw [if_neg e]
      obtain ⟨c, hc32, hc1, hc2⟩ := hb_neq e h2
      have hz : fd &&& (dn ^^^ -1) ≠ 0 := hb_ne0 (t := c) (by rw [hb_and, hb_not hc32, hc1, hc2]; rfl)
      obtain ⟨k1, -⟩ := low_ex hz
      generalize lowN (fd &&& (dn ^^^ -1)) = v at *
      have hv32 : v < 32 := by
        rcases Nat.lt_or_ge v 32 with q | q
        · exact q
        · rw [hb_ge q] at k1
          cases k1
      rw [hb_and, hb_not hv32, Bool.and_eq_true] at k1
      have hv1 := k1.1
      have hv2 : hb dn v = false := by
        cases q : hb dn v
        · rfl
        · have := k1.2
          rw [q] at this
          cases this
      have hvn : v < n := by
        rcases Nat.lt_or_ge v n with q | q
        · exact q
        · rw [h1 v q] at hv1
          cases hv1
      obtain ⟨r1, r2, r3⟩ := rl_ok (a := a) hw hn d (fd ||| f v) (dn ||| bitI v) (fun c hc => by rw [hb_or, h1 c hc, hw v hvn c hc]; rfl) (fun c hc => by
          rw [hb_or, Bool.or_eq_true, hb_bitI hv32, decide_eq_true_eq] at hc
          rw [hb_or, Bool.or_eq_true]
          rcases hc with hc | hc
          · exact Or.inl (h2 c hc)
          · rw [hc]
            exact Or.inl hv1) (fun x hx hc y hy => by
          rw [hb_or, Bool.or_eq_true, hb_bitI hv32, decide_eq_true_eq] at hc
          rw [hb_or, Bool.or_eq_true]
          rcases hc with hc | hc
          · exact Or.inl (h3 x hx hc y hy)
          · rw [hc] at hy
            exact Or.inr hy) (fun y hy => by
          rw [hb_or, Bool.or_eq_true] at hy
          rcases hy with hy | hy
          · exact h4 y hy
          · exact tc_t (h4 v hv1) (tc_e hvn (wfr_lt hw hvn hy) hy)) (by
          have q : pcb (hb (dn ||| bitI v)) n = pcb (fun i => hb dn i || decide (i = v)) n := pcb_congr n (fun i _ => by rw [hb_or, hb_bitI hv32])
          rw [q, pcb_add hv2 hvn]
          omega)
      exact ⟨r1, fun y hy => r2 y (by rw [hb_or, hy]; rfl), r3⟩
theorem rc_ok {f : Nat → Int32} {n a : Nat} (hw : wfr n f) (ha : a < n) (hn : n ≤ 32) {b : Nat} : hb (reachL f n (f a) 0) b = true ↔ TC f n a b := by
  have h0 : pcb (hb 0) n = 0 := by
    have : ∀ k, pcb (hb 0) k = 0 := by
      intro k
      induction k with
      | zero => rfl
      | succ k ih =>
        unfold pcb
        rw [ih, hb_0]
        rfl
    exact this n
  obtain ⟨r1, r2, r3⟩ := rl_ok (a := a) hw hn n (f a) 0 (fun c hc => hw a ha c hc) (fun c hc => by rw [hb_0] at hc; cases hc) (fun x _ hc => by rw [hb_0] at hc; cases hc) (fun y hy => tc_e ha (wfr_lt hw ha hy) hy) (by rw [h0]; omega)
  refine ⟨r1 b, fun q => ?_⟩
  exact q (fun x y => (x = a ∨ hb (reachL f n (f a) 0) x = true) → hb (reachL f n (f a) 0) y = true) (fun x y hx _ e h => by
    rcases h with h | h
    · rw [h] at e
      exact r2 y e
    · exact r3 x hx h y e) (fun x y z g1 g2 h => g2 (Or.inr (g1 h))) (Or.inl rfl)
theorem rc_wf {f : Nat → Int32} {n a c : Nat} (hw : wfr n f) (ha : a < n) (hn : n ≤ 32) (hc : n ≤ c) : hb (reachL f n (f a) 0) c = false := by
  cases h : hb (reachL f n (f a) 0) c
  · rfl
  · have := tc_lt ((rc_ok hw ha hn).mp h)
    omega
/-- a row that a search makes is Warshall's -/
theorem rc_wO {f : Nat → Int32} {n a : Nat} (hw : wfr n f) (ha : a < n) (hn : n ≤ 32) : reachL f n (f a) 0 = wOut f n n a := hb_ext (fun i _ => by
  have h1 := rc_ok hw ha hn (b := i)
  have h2 := wO_ok hw ha (b := i)
  cases q1 : hb (reachL f n (f a) 0) i <;> cases q2 : hb (wOut f n n a) i
  · rfl
  · exact absurd (h1.mpr (h2.mp q2)) (by rw [q1]; decide)
  · exact absurd (h2.mpr (h1.mp q1)) (by rw [q2]; decide)
  · rfl)
/-- nodes that do not come to r go on without its edge -/
theorem tc_off {f : Nat → Int32} {n r q a b : Nat} (hr : r < n) (hq : q < n) (hn : n ≤ 32) (h1 : hb (f r) q = true) (hna : ¬ (a = r ∨ TC f n a r)) : TC f n a b ↔ TC (tnF f r q) n a b := by
  have e1 : ∀ x y, hb (tnF f r q x) y = true → hb (f x) y = true := fun x y h => by
    rw [hb_tn (by omega)] at h
    by_cases e : x = r
    · rw [if_pos e] at h
      rw [e]
      by_cases e2 : y = q
      · rw [e2]
        exact h1
      · rw [decide_eq_false e2, Bool.xor_false] at h
        exact h
    · rw [if_neg e] at h
      exact h
  have e3 : ∀ x y, TC (tnF f r q) n x y → TC f n x y := fun x y h => tc_m (fun u v hu hv q9 => tc_e hu hv (e1 u v q9)) h
  constructor
  · intro h
    have h2 := h (fun x y => (x = r ∨ TC f n x r) ∨ TC (tnF f r q) n x y) (fun x y hx hy e => by
      by_cases e9 : x = r
      · exact Or.inl (Or.inl e9)
      · refine Or.inr (tc_e hx hy ?_)
        rw [hb_tn (by omega), if_neg e9]
        exact e) (fun x y z g1 g2 => by
      rcases g1 with g1 | g1
      · exact Or.inl g1
      · rcases g2 with (g2 | g2) | g2
        · rw [← g2]
          exact Or.inl (Or.inr (e3 _ _ g1))
        · exact Or.inl (Or.inr (tc_t (e3 _ _ g1) g2))
        · exact Or.inr (tc_t g1 g2))
    rcases h2 with h2 | h2
    · exact absurd h2 hna
    · exact h2
  · exact e3 a b
theorem mend_ok {g f : Nat → Int32} {nodes : Int32} {n : Nat} : ∀ k r, mendG g f nodes n k r = if r < k ∧ hb nodes r = true then reachL f n (f r) 0 else g r
  | 0, r => by rw [if_neg (fun h => Nat.not_lt_zero _ h.1)]; rfl
  | k + 1, r => by
    show (if hb nodes k = true then fun_set (mendG g f nodes n k) k (reachL f n (f k) 0) else mendG g f nodes n k) r = _
    by_cases e : r = k
    · subst e
      by_cases h : hb nodes r = true
      · rw [if_pos h, if_pos ⟨Nat.lt_succ_self r, h⟩]
        unfold fun_set
        rw [if_pos rfl]
      · rw [if_neg h, if_neg (fun q => h q.2), mend_ok r r, if_neg (fun h : r < r ∧ hb nodes r = true => Nat.lt_irrefl _ h.1)]
    · have h1 : (if hb nodes k = true then fun_set (mendG g f nodes n k) k (reachL f n (f k) 0) else mendG g f nodes n k) r = mendG g f nodes n k r := by
        split
        · unfold fun_set
          rw [if_neg e]
        · rfl
      rw [h1, mend_ok k r]
      by_cases h2 : r < k ∧ hb nodes r = true
      · rw [if_pos h2, if_pos ⟨Nat.lt_succ_of_lt h2.1, h2.2⟩]
      · rw [if_neg h2, if_neg (fun q => h2 ⟨by omega, q.2⟩)]
theorem put_0 {f g : Nat → Int32} {n r q : Nat} (hw : wfr n f) (hg : ∀ i, i < n → g i = wOut f n n i) (hr : r < n) (hq : q < n) (hn : n ≤ 32) (h1 : hb (f r) q = true) {i : Nat} (hi : i < n) :
    mendG g (tnF f r q) (nodesTo g r n) n n i = wOut (tnF f r q) n n i := by
  have hgb : ∀ x y, x < n → (hb (g x) y = true ↔ TC f n x y) := fun x y hx => by
    rw [hg x hx]
    exact wO_ok hw hx
  rw [mend_ok]
  by_cases h : hb (nodesTo g r n) i = true
  · rw [if_pos ⟨hi, h⟩]
    exact rc_wO (tn_wf hw hr hq hn) hi hn
  · rw [if_neg (fun q9 => h q9.2), hg i hi]
    refine row_eq (n := n) (wO_wf hw n (Nat.le_refl n)) (wO_wf (tn_wf hw hr hq hn) n (Nat.le_refl n)) hi (fun b _ => ?_)
    rw [wO_ok hw hi, wO_ok (tn_wf hw hr hq hn) hi]
    refine tc_off hr hq hn h1 (fun q9 => h ((nd_b hr hn hi).mpr ?_))
    rcases q9 with q9 | q9
    · exact Or.inl q9
    · exact Or.inr ((hgb i r hi).mpr q9)
/-- less edges, less closure -/
theorem wO_sub {f : Nat → Int32} {n r q : Nat} (hw : wfr n f) (hr : r < n) (hq : q < n) (hn : n ≤ 32) (h1 : hb (f r) q = true) {i b : Nat} (hi : i < n) (h : hb (wOut (tnF f r q) n n i) b = true) : hb (wOut f n n i) b = true := by
  rw [wO_ok (tn_wf hw hr hq hn) hi] at h
  rw [wO_ok hw hi]
  refine tc_m (fun x y hx hy e => tc_e hx hy ?_) h
  rw [hb_tn (by omega)] at e
  by_cases e9 : x = r
  · rw [if_pos e9] at e
    rw [e9]
    by_cases e2 : y = q
    · rw [e2]
      exact h1
    · rw [decide_eq_false e2, Bool.xor_false] at e
      exact e
  · rw [if_neg e9] at e
    exact e
/-- what goes with an edge -/
theorem loss_F {g f : Nat → Int32} {nodes : Int32} {n : Nat} : ∀ k, mendS g f nodes n k = lossF g f nodes n k
  | 0 => rfl
  | k + 1 => by
    unfold mendS lossF
    rw [loss_F k, mend_ok, if_neg (fun h : k < k ∧ hb nodes k = true => Nat.lt_irrefl _ h.1)]
theorem loss_ok {f g : Nat → Int32} {n r q : Nat} (hw : wfr n f) (hg : ∀ i, i < n → g i = wOut f n n i) (hr : r < n) (hq : q < n) (hn : n ≤ 32) (h1 : hb (f r) q = true) : ∀ k, k ≤ n →
    lossF g (tnF f r q) (nodesTo g r n) n k = dfF (wOut (tnF f r q) n n) (wOut f n n) k
  | 0, _ => rfl
  | k + 1, hk => by
    unfold lossF dfF
    rw [loss_ok hw hg hr hq hn h1 k (by omega)]
    have hk2 : k < n := by omega
    have e0 := put_0 hw hg hr hq hn h1 hk2
    rw [mend_ok] at e0
    by_cases h : hb (nodesTo g r n) k = true
    · rw [if_pos h]
      rw [if_pos ⟨hk2, h⟩] at e0
      rw [e0, hg k hk2]
      congr 1
      congr 1
      refine hb_ext (fun i hi => ?_)
      rw [hb_and, hb_xor, hb_xor, hb_m1 hi]
      have := wO_sub hw hr hq hn h1 hk2 (b := i)
      cases q1 : hb (wOut (tnF f r q) n n k) i <;> cases q2 : hb (wOut f n n k) i <;> first | rfl | exact absurd (this q1) (by rw [q2]; decide)
    · rw [if_neg h]
      rw [if_neg (fun q9 => h q9.2), hg k hk2] at e0
      rw [e0, Int32.xor_self, bc_0, Int32.add_zero]
