/-! closures when an edge comes -/
theorem hb_tn {f : Nat → Int32} {r q x y : Nat} (hq : q < 32) : hb (tnF f r q x) y = if x = r then Bool.xor (hb (f r) y) (decide (y = q)) else hb (f x) y := by
  unfold tnF fun_set
  by_cases e : x = r
  · rw [if_pos e, if_pos e, hb_xor, hb_bitI hq]
  · rw [if_neg e, if_neg e]
theorem tn_wf {f : Nat → Int32} {n r q : Nat} (h : wfr n f) (hr : r < n) (hq : q < n) (hn : n ≤ 32) : wfr n (tnF f r q) := fun x hx c hc => by
  rw [hb_tn (by omega)]
  split
  · rw [h r hr c hc, decide_eq_false (by omega)]
    rfl
  · exact h x hx c hc
theorem tc_add {f : Nat → Int32} {n r q a b : Nat} (hr : r < n) (hq : q < n) (hn : n ≤ 32) (h0 : hb (f r) q = false) (ha : a < n) (hb9 : b < n) :
    TC (tnF f r q) n a b ↔ TC f n a b ∨ ((a = r ∨ TC f n a r) ∧ (q = b ∨ TC f n q b)) := by
  have e1 : ∀ x y, hb (f x) y = true → hb (tnF f r q x) y = true := fun x y h => by
    rw [hb_tn (by omega)]
    by_cases e : x = r
    · rw [if_pos e]
      rw [e] at h
      rw [h]
      by_cases e2 : y = q
      · rw [e2, h0] at h
        cases h
      · rw [decide_eq_false e2]
        rfl
    · rw [if_neg e]
      exact h
  have e2 : TC (tnF f r q) n r q := tc_e hr hq (by
    rw [hb_tn (by omega), if_pos rfl, h0, decide_eq_true rfl]
    rfl)
  have e3 : ∀ x y, TC f n x y → TC (tnF f r q) n x y := fun x y h => tc_m (fun u v hu hv q9 => tc_e hu hv (e1 u v q9)) h
  constructor
  · intro h
    refine h (fun x y => TC f n x y ∨ ((x = r ∨ TC f n x r) ∧ (q = y ∨ TC f n q y))) (fun x y hx hy e => ?_) (fun x y z h1 h2 => ?_)
    · rw [hb_tn (by omega)] at e
      by_cases e9 : x = r
      · rw [if_pos e9] at e
        by_cases e8 : y = q
        · exact Or.inr ⟨Or.inl e9, Or.inl e8.symm⟩
        · rw [decide_eq_false e8, Bool.xor_false] at e
          exact Or.inl (tc_e hx hy (by rw [e9]; exact e))
      · rw [if_neg e9] at e
        exact Or.inl (tc_e hx hy e)
    · rcases h1 with h1 | ⟨h1, h1'⟩
      · rcases h2 with h2 | ⟨h2, h2'⟩
        · exact Or.inl (tc_t h1 h2)
        · refine Or.inr ⟨Or.inr ?_, h2'⟩
          rcases h2 with h2 | h2
          · rw [← h2]
            exact h1
          · exact tc_t h1 h2
      · rcases h2 with h2 | ⟨h2, h2'⟩
        · refine Or.inr ⟨h1, Or.inr ?_⟩
          rcases h1' with h1' | h1'
          · rw [h1']
            exact h2
          · exact tc_t h1' h2
        · exact Or.inr ⟨h1, h2'⟩
  · rintro (h | ⟨h1, h2⟩)
    · exact e3 _ _ h
    · have h3 : TC (tnF f r q) n r b := by
        rcases h2 with h2 | h2
        · rw [← h2]
          exact e2
        · exact tc_t e2 (e3 _ _ h2)
      rcases h1 with h1 | h1
      · rw [h1]
        exact h3
      · exact tc_t (e3 _ _ h1) h3
theorem ext_ok {g : Nat → Int32} {nodes tg : Int32} : ∀ k r, extF g nodes tg k r = if r < k ∧ hb nodes r = true then g r ||| tg else g r
  | 0, r => by rw [if_neg (fun h => Nat.not_lt_zero _ h.1)]; rfl
  | k + 1, r => by
    show (if hb nodes k = true then fun_set (extF g nodes tg k) k (extF g nodes tg k k ||| tg) else extF g nodes tg k) r = _
    have hkk : extF g nodes tg k k = g k := by rw [ext_ok k k, if_neg (fun h : k < k ∧ hb nodes k = true => Nat.lt_irrefl _ h.1)]
    rw [hkk]
    by_cases e : r = k
    · subst e
      by_cases h : hb nodes r = true
      · rw [if_pos h, if_pos ⟨Nat.lt_succ_self r, h⟩]
        unfold fun_set
        rw [if_pos rfl]
      · rw [if_neg h, if_neg (fun q => h q.2), hkk]
    · have h1 : (if hb nodes k = true then fun_set (extF g nodes tg k) k (g k ||| tg) else extF g nodes tg k) r = extF g nodes tg k r := by
        split
        · unfold fun_set
          rw [if_neg e]
        · rfl
      rw [h1, ext_ok k r]
      by_cases h2 : r < k ∧ hb nodes r = true
      · rw [if_pos h2, if_pos ⟨Nat.lt_succ_of_lt h2.1, h2.2⟩]
      · rw [if_neg h2, if_neg (fun q => h2 ⟨by omega, q.2⟩)]
theorem nd_b {g : Nat → Int32} {r n i : Nat} (hr : r < n) (hn : n ≤ 32) (hi : i < n) : hb (nodesTo g r n) i = true ↔ i = r ∨ hb (g i) r = true := by
  unfold nodesTo
  rw [hb_or, hb_colOf n hn, hb_bitI (by omega), decide_eq_true hi, Bool.true_and, Bool.or_eq_true, decide_eq_true_eq]
  exact Or.comm
theorem put_1 {f g : Nat → Int32} {n r q : Nat} (hw : wfr n f) (hg : ∀ i, i < n → g i = wOut f n n i) (hr : r < n) (hq : q < n) (hn : n ≤ 32) (h0 : hb (f r) q = false) {i : Nat} (hi : i < n) :
    extF g (nodesTo g r n) (g q ||| bitI q) n i = wOut (tnF f r q) n n i := by
  have hgw : wfr n g := fun x hx c hc => by
    rw [hg x hx]
    exact wO_wf hw n (Nat.le_refl n) x hx c hc
  have hgb : ∀ x y, x < n → (hb (g x) y = true ↔ TC f n x y) := fun x y hx => by
    rw [hg x hx]
    exact wO_ok hw hx
  refine row_eq (n := n) ?_ (wO_wf (tn_wf hw hr hq hn) n (Nat.le_refl n)) hi (fun b hb9 => ?_)
  · intro x hx c hc
    rw [ext_ok]
    split
    · rw [hb_or, hb_or, hgw x hx c hc, hgw q hq c hc, hb_bitI (by omega), decide_eq_false (by omega)]
      rfl
    · exact hgw x hx c hc
  · rw [wO_ok (tn_wf hw hr hq hn) hi, tc_add hr hq hn h0 hi hb9, ext_ok]
    by_cases h1 : hb (nodesTo g r n) i = true
    · rw [if_pos ⟨hi, h1⟩, hb_or, hb_or, hb_bitI (by omega), Bool.or_eq_true, Bool.or_eq_true, decide_eq_true_eq, hgb i b hi, hgb q b hq]
      have h2 : i = r ∨ TC f n i r := by
        rcases (nd_b hr hn hi).mp h1 with h3 | h3
        · exact Or.inl h3
        · exact Or.inr ((hgb i r hi).mp h3)
      constructor
      · rintro (h | h | h)
        · exact Or.inl h
        · exact Or.inr ⟨h2, Or.inr h⟩
        · exact Or.inr ⟨h2, Or.inl h.symm⟩
      · rintro (h | ⟨-, h | h⟩)
        · exact Or.inl h
        · exact Or.inr (Or.inr h.symm)
        · exact Or.inr (Or.inl h)
    · rw [if_neg (fun q9 => h1 q9.2), hgb i b hi]
      constructor
      · exact Or.inl
      · rintro (h | ⟨h, -⟩)
        · exact h
        · exfalso
          refine h1 ((nd_b hr hn hi).mpr ?_)
          rcases h with h | h
          · exact Or.inl h
          · exact Or.inr ((hgb i r hi).mpr h)
theorem bc_0 : bcJ 0 = 0 := by decide +kernel
theorem gain_1 {g : Nat → Int32} {nodes tg : Int32} : ∀ k, gainF g nodes tg k = dfF (extF g nodes tg k) g k
  | 0 => rfl
  | k + 1 => by
    show (if hb nodes k = true then gainF g nodes tg k + bcJ (tg &&& (g k ^^^ -1)) else gainF g nodes tg k) = dfF (extF g nodes tg (k + 1)) g k + bcJ (extF g nodes tg (k + 1) k ^^^ g k)
    have e1 : dfF (extF g nodes tg (k + 1)) g k = dfF (extF g nodes tg k) g k := by
      have : ∀ j, j ≤ k → dfF (extF g nodes tg (k + 1)) g j = dfF (extF g nodes tg k) g j := by
        intro j
        induction j with
        | zero => intro _; rfl
        | succ j ih =>
          intro hj
          unfold dfF
          rw [ih (by omega), ext_ok, ext_ok]
          by_cases h : hb nodes j = true
          · rw [if_pos ⟨by omega, h⟩, if_pos ⟨by omega, h⟩]
          · rw [if_neg (fun q => h q.2), if_neg (fun q => h q.2)]
      exact this k (Nat.le_refl k)
    rw [e1, ← gain_1 k, ext_ok]
    by_cases h : hb nodes k = true
    · rw [if_pos h, if_pos ⟨Nat.lt_succ_self k, h⟩]
      congr 1
      congr 1
      refine hb_ext (fun i hi => ?_)
      rw [hb_and, hb_xor, hb_xor, hb_or, hb_m1 hi]
      cases hb tg i <;> cases hb (g k) i <;> rfl
    · rw [if_neg h, if_neg (fun q => h q.2), Int32.xor_self, bc_0, Int32.add_zero]
theorem df_cg {f f' g g' : Nat → Int32} : ∀ n, (∀ r, r < n → f r = f' r) → (∀ r, r < n → g r = g' r) → dfF f g n = dfF f' g' n
  | 0, _, _ => rfl
  | n + 1, h, h' => by
    unfold dfF
    rw [df_cg n (fun r hr => h r (by omega)) (fun r hr => h' r (by omega)), h n (by omega), h' n (by omega)]
/-- what comes with an edge -/
theorem gain_ok {f g : Nat → Int32} {n r q : Nat} (hw : wfr n f) (hg : ∀ i, i < n → g i = wOut f n n i) (hr : r < n) (hq : q < n) (hn : n ≤ 32) (h0 : hb (f r) q = false) :
    gainW g (nodesTo g r n) q n = dfF (wOut (tnF f r q) n n) (wOut f n n) n := by
  unfold gainW
  rw [gain_1]
  exact df_cg n (fun i hi => put_1 hw hg hr hq hn h0 hi) hg
