/-! numbers of nodes; edges that are not needed -/
theorem prR_n {g : Nat → Int32} {r : Nat} : ∀ k, prR g r k = nI (pcb (fun i => decide (i = r) || hb (g i) r) k)
  | 0 => rfl
  | k + 1 => by
    unfold prR pcb
    rw [prR_n k]
    by_cases h : k = r ∨ hb (g k) r = true
    · rw [if_pos h]
      have h2 : (decide (k = r) || hb (g k) r) = true := by
        rw [Bool.or_eq_true, decide_eq_true_eq]
        exact h
      rw [h2]
      exact nI_o1 _
    · rw [if_neg h]
      have h2 : (decide (k = r) || hb (g k) r) = false := by
        rw [Bool.eq_false_iff]
        intro q
        rw [Bool.or_eq_true, decide_eq_true_eq] at q
        exact h q
      rw [h2]
      rfl
theorem nd_n {g : Nat → Int32} {r n : Nat} (hr : r < n) (hn : n ≤ 32) : bcJ (nodesTo g r n) = prR g r n := by
  rw [bcJ_n, prR_n, pcN_b]
  congr 1
  have hz : ∀ i, n ≤ i → hb (nodesTo g r n) i = false := fun i hi => by
    unfold nodesTo
    rw [hb_or, hb_colOf n hn, hb_bitI (by omega), decide_eq_false (by omega), decide_eq_false (by omega)]
    rfl
  rw [pcb_trunc 32 hn hz]
  refine pcb_congr n (fun i hi => ?_)
  have h1 := nd_b (g := g) hr hn hi
  cases q1 : hb (nodesTo g r n) i
  · rw [q1] at h1
    cases q2 : (decide (i = r) || hb (g i) r)
    · rfl
    · rw [Bool.or_eq_true, decide_eq_true_eq] at q2
      exact absurd (h1.mpr q2) (by decide)
  · rw [q1] at h1
    have := h1.mp rfl
    symm
    rw [Bool.or_eq_true, decide_eq_true_eq]
    exact this
theorem prR_cg {g g' : Nat → Int32} {r : Nat} : ∀ n, (∀ i, i < n → g i = g' i) → prR g r n = prR g' r n
  | 0, _ => rfl
  | n + 1, h => by
    unfold prR
    rw [prR_cg n (fun i hi => h i (by omega)), h n (by omega)]
theorem tc_cg {f g : Nat → Int32} {n a b : Nat} (h : ∀ i, i < n → f i = g i) : TC f n a b ↔ TC g n a b :=
  ⟨tc_m (fun x _ hx hy e => tc_e hx hy (by rw [← h x hx]; exact e)), tc_m (fun x _ hx hy e => tc_e hx hy (by rw [h x hx]; exact e))⟩
theorem eqB_ok {f g : Nat → Int32} : ∀ n, eqB f g n = true ↔ ∀ k, k < n → f k = g k
  | 0 => ⟨fun _ k hk => absurd hk (Nat.not_lt_zero _), fun _ => rfl⟩
  | n + 1 => by
    unfold eqB
    rw [Bool.and_eq_true, eqB_ok n, decide_eq_true_eq]
    constructor
    · rintro ⟨h1, h2⟩ k hk
      by_cases e : k = n
      · rw [e]
        exact h2
      · exact h1 k (by omega)
    · intro h
      exact ⟨fun k hk => h k (by omega), h n (by omega)⟩
theorem clr_x {x : Int32} {k : Nat} (hk : k < 32) (h : hb x k = true) : x &&& (bitI k ^^^ -1) = x ^^^ bitI k := hb_ext (fun i hi => by
  rw [hb_and, hb_xor, hb_xor, hb_m1 hi, hb_bitI hk]
  by_cases e : i = k
  · rw [e, h, decide_eq_true rfl]
    rfl
  · rw [decide_eq_false e]
    cases hb x i <;> rfl)
/-- an edge is not needed exactly if its end is reached without it -/
theorem need_ok {f g : Nat → Int32} {n a b : Nat} (hf : wfr n f) (hg : wfr n g) (hT : ∀ x y, TC g n x y ↔ TC f n x y) (ha : a < n) (hb9 : b < n) (hn : n ≤ 32) (h : hb (g a) b = true) :
    eqB (wOut (tnF g a b) n n) (wOut f n n) n = true ↔ TC (tnF g a b) n a b := by
  have e1 : ∀ x y, hb (tnF g a b x) y = true → hb (g x) y = true := fun x y q => by
    rw [hb_tn (by omega)] at q
    by_cases e : x = a
    · rw [if_pos e] at q
      rw [e]
      by_cases e2 : y = b
      · rw [e2]
        exact h
      · rw [decide_eq_false e2, Bool.xor_false] at q
        exact q
    · rw [if_neg e] at q
      exact q
  have hw := tn_wf hg ha hb9 hn
  rw [eqB_ok]
  constructor
  · intro q
    have h1 : TC f n a b := (hT a b).mp (tc_e ha hb9 h)
    rw [← wO_ok hf ha, ← q a ha, wO_ok hw ha] at h1
    exact h1
  · intro q i hi
    refine row_eq (n := n) (wO_wf hw n (Nat.le_refl n)) (wO_wf hf n (Nat.le_refl n)) hi (fun y _ => ?_)
    rw [wO_ok hw hi, wO_ok hf hi, ← hT]
    constructor
    · exact tc_m (fun u v hu hv q9 => tc_e hu hv (e1 u v q9))
    · refine tc_m (fun u v hu hv q9 => ?_)
      by_cases e : u = a ∧ v = b
      · rw [e.1, e.2]
        exact q
      · refine tc_e hu hv ?_
        rw [hb_tn (by omega)]
        by_cases e2 : u = a
        · rw [if_pos e2, ← e2, q9, decide_eq_false (fun e3 => e ⟨e2, e3⟩)]
          rfl
        · rw [if_neg e2]
          exact q9
/-- one edge of both sides' going through -/
theorem dn_1 {f g g' : Nat → Int32} {n a k : Nat} (hf : wfr n f) (hE : ∀ i, i < n → g i = g' i) (hg : wfr n g') (hT : ∀ x y, TC g' n x y ↔ TC f n x y) (ha : a < n) (hk : k < n) (hn : n ≤ 32) :
    (∀ i, i < n → (if hb (g a) k = true then (if hb (reachL (fun_set g a (g a &&& (bitI k ^^^ -1))) n (g a &&& (bitI k ^^^ -1)) 0) k = true then fun_set g a (g a &&& (bitI k ^^^ -1)) else g) else g) i = (if rcB f n a k g' = true then tnF g' a k else g') i) ∧
    wfr n (if rcB f n a k g' = true then tnF g' a k else g') ∧ (∀ x y, TC (if rcB f n a k g' = true then tnF g' a k else g') n x y ↔ TC f n x y) := by
  by_cases h : hb (g' a) k = true
  · have e2 : fun_set g a (g a &&& (bitI k ^^^ -1)) = tnF g a k := by
      unfold tnF
      rw [clr_x (by omega) (by rw [hE a ha]; exact h)]
    have e3 : g a &&& (bitI k ^^^ -1) = tnF g a k a := by
      rw [← e2]
      unfold fun_set
      rw [if_pos rfl]
    have hE2 : ∀ i, i < n → tnF g a k i = tnF g' a k i := fun i hi => by
      unfold tnF fun_set
      rw [hE a ha, hE i hi]
    have hgw : wfr n g := fun x hx c hc => by
      rw [hE x hx]
      exact hg x hx c hc
    have e4 : hb (reachL (tnF g a k) n (tnF g a k a) 0) k = true ↔ eqB (wOut (tnF g' a k) n n) (wOut f n n) n = true := by
      rw [rc_ok (tn_wf hgw ha hk hn) ha hn, need_ok hf hg hT ha hk hn h, tc_cg hE2]
    rw [if_pos (by rw [hE a ha]; exact h), e3, show fun_set g a (tnF g a k a) = tnF g a k by rw [← e3]; exact e2]
    by_cases q : eqB (wOut (tnF g' a k) n n) (wOut f n n) n = true
    · have hr : rcB f n a k g' = true := by
        unfold rcB
        rw [h, q]
        rfl
      rw [if_pos (e4.mpr q), if_pos hr]
      refine ⟨hE2, tn_wf hg ha hk hn, fun x y => ?_⟩
      have h5 := (eqB_ok n).mp q
      have h6 : ∀ x y, x < n → (TC (tnF g' a k) n x y ↔ TC f n x y) := fun x y hx => by
        rw [← wO_ok (tn_wf hg ha hk hn) hx, h5 x hx, wO_ok hf hx]
      constructor
      · intro h7
        exact (h6 x y (tc_lt h7).1).mp h7
      · intro h7
        exact (h6 x y (tc_lt h7).1).mpr h7
    · have hr : ¬ rcB f n a k g' = true := by
        unfold rcB
        rw [h, Bool.true_and]
        exact q
      rw [if_neg (fun q2 => q (e4.mp q2)), if_neg hr]
      exact ⟨hE, hg, hT⟩
  · have hr : ¬ rcB f n a k g' = true := by
      unfold rcB
      rw [Bool.eq_false_iff.mpr h, Bool.false_and]
      exact Bool.false_ne_true
    rw [if_neg (by rw [hE a ha]; exact h), if_neg hr]
    exact ⟨hE, hg, hT⟩
def rcI (f : Nat → Int32) (n : Nat) (g : Nat → Int32) (j : Nat) : Prop := (∀ i, i < n → g i = rcF f n j i) ∧ wfr n (rcF f n j) ∧ ∀ x y, TC (rcF f n j) n x y ↔ TC f n x y
theorem dn_row {f g : Nat → Int32} {n a : Nat} (hf : wfr n f) (ha : a < n) (hn : n ≤ 32) (h : rcI f n g (a * n)) : ∀ k, k ≤ n → rcI f n (dnF g a n k) (a * n + k)
  | 0, _ => h
  | k + 1, hk => by
    obtain ⟨h1, h2, h3⟩ := dn_row hf ha hn h k (by omega)
    have hk2 : k < n := by omega
    have d1 : (a * n + k) / n = a := by
      rw [Nat.mul_comm, Nat.mul_add_div (by omega), Nat.div_eq_of_lt hk2, Nat.add_zero]
    have d2 : (a * n + k) % n = k := by
      rw [Nat.mul_comm, Nat.mul_add_mod, Nat.mod_eq_of_lt hk2]
    have h4 := dn_1 hf h1 h2 h3 ha hk2 hn
    have e : rcF f n (a * n + (k + 1)) = if rcB f n a k (rcF f n (a * n + k)) = true then tnF (rcF f n (a * n + k)) a k else rcF f n (a * n + k) := by
      show rcF f n ((a * n + k) + 1) = _
      rw [rcF, d1, d2]
    unfold rcI
    rw [e]
    exact h4
theorem rd_ok {f g : Nat → Int32} {n : Nat} (hf : wfr n f) (hE : ∀ i, i < n → g i = f i) (hn : n ≤ 32) : ∀ k, k ≤ n → rcI f n (rdG g n k) (k * n)
  | 0, _ => by
    rw [Nat.zero_mul]
    exact ⟨hE, hf, fun _ _ => Iff.rfl⟩
  | k + 1, hk => by
    rw [Nat.succ_mul]
    exact dn_row hf (by omega) hn (rd_ok hf hE hn k (by omega)) n (Nat.le_refl n)
