/-! ways: the class's search from the start beside the reference's measures to the end -/
theorem wy_jr {f : Nat → Int32} {x : Int32} {y : Nat} : ∀ m, hb (jrF f x m) y = true ↔ ∃ i, i < m ∧ hb x i = true ∧ hb (f i) y = true
  | 0 => ⟨fun h => absurd (show hb 0 y = true from h) (by rw [hb_0]; decide), fun ⟨i, h, _⟩ => absurd h (Nat.not_lt_zero _)⟩
  | m + 1 => by
    have ih := wy_jr (f := f) (x := x) (y := y) m
    unfold jrF
    by_cases h : hb x m = true
    · rw [if_pos h, hb_or, Bool.or_eq_true, ih]
      constructor
      · rintro (⟨i, h1, h2, h3⟩ | h1)
        · exact ⟨i, by omega, h2, h3⟩
        · exact ⟨m, Nat.lt_succ_self m, h, h1⟩
      · rintro ⟨i, h1, h2, h3⟩
        by_cases e : i = m
        · rw [e] at h3
          exact Or.inr h3
        · exact Or.inl ⟨i, by omega, h2, h3⟩
    · rw [if_neg h, ih]
      constructor
      · rintro ⟨i, h1, h2, h3⟩
        exact ⟨i, by omega, h2, h3⟩
      · rintro ⟨i, h1, h2, h3⟩
        by_cases e : i = m
        · rw [e] at h2
          exact absurd h2 h
        · exact ⟨i, by omega, h2, h3⟩
theorem wy_0 {f : Nat → Int32} {n y a : Nat} : wkB f n y 0 a = true ↔ a = y := ⟨fun h => of_decide_eq_true (p := a = y) h, fun h => decide_eq_true (p := a = y) h⟩
theorem wy_1 {f : Nat → Int32} {n y a : Nat} (hy : y < n) : hb (f a) y = true ↔ wkB f n y 1 a = true := by
  rw [wkB_s]
  constructor
  · intro h
    exact ⟨y, hy, h, wy_0.mpr rfl⟩
  · rintro ⟨i, i1, i2, i3⟩
    rw [← wy_0.mp i3]
    exact i2
/-- a way, lengthened at its end -/
theorem wy_e {f : Nat → Int32} {n y : Nat} (hy : y < n) : ∀ e a, a < n → (wkB f n y (e + 1) a = true ↔ ∃ j, j < n ∧ wkB f n j e a = true ∧ hb (f j) y = true)
  | 0, a, ha => by
    rw [← wy_1 hy]
    constructor
    · intro h
      exact ⟨a, ha, wy_0.mpr rfl, h⟩
    · rintro ⟨j, h1, h2, h3⟩
      rw [wy_0.mp h2]
      exact h3
  | e + 1, a, ha => by
    rw [wkB_s]
    constructor
    · rintro ⟨i, h1, h2, h3⟩
      obtain ⟨j, j1, j2, j3⟩ := (wy_e hy e i h1).mp h3
      exact ⟨j, j1, wkB_s.mpr ⟨i, h1, h2, j2⟩, j3⟩
    · rintro ⟨j, j1, j2, j3⟩
      obtain ⟨i, h1, h2, h3⟩ := wkB_s.mp j2
      exact ⟨i, h1, h2, (wy_e hy e i h1).mpr ⟨j, j1, h3, j3⟩⟩
/-- what the search finds -/
theorem wy_fe {f : Nat → Int32} {n a b : Nat} (ha : a < n) (hb9 : b < n) : ∀ (d e : Nat) (x : Int32), (∀ y, y < n → (hb x y = true ↔ wkB f n y e a = true)) →
    (feF f b n d e x = -1 ∧ ∀ k, e ≤ k → k < e + d → wkB f n b k a = false) ∨ (∃ k, e ≤ k ∧ k < e + d ∧ feF f b n d e x = nI k ∧ wkB f n b k a = true ∧ ∀ j, e ≤ j → j < k → wkB f n b j a = false)
  | 0, e, x, h2 => Or.inl ⟨rfl, fun k k1 k2 => absurd k2 (by omega)⟩
  | d + 1, e, x, h2 => by
    unfold feF
    by_cases h : hb x b = true
    · rw [if_pos h]
      exact Or.inr ⟨e, Nat.le_refl e, by omega, rfl, (h2 b hb9).mp h, fun j j1 j2 => absurd j2 (by omega)⟩
    · rw [if_neg h]
      have h0 : wkB f n b e a = false := by
        cases q : wkB f n b e a
        · rfl
        · exact absurd ((h2 b hb9).mpr q) h
      have h3 := wy_fe ha hb9 d (e + 1) (jrF f x n) (fun y hy => by
          rw [wy_jr, wy_e hy e a ha]
          constructor
          · rintro ⟨i, i1, i2, i3⟩
            exact ⟨i, i1, (h2 i i1).mp i2, i3⟩
          · rintro ⟨i, i1, i2, i3⟩
            exact ⟨i, i1, (h2 i i1).mpr i2, i3⟩)
      rcases h3 with ⟨r1, r2⟩ | ⟨k, k1, k2, k3, k4, k5⟩
      · refine Or.inl ⟨r1, fun k k1 k2 => ?_⟩
        by_cases e9 : k = e
        · rw [e9]
          exact h0
        · exact r2 k (by omega) (by omega)
      · refine Or.inr ⟨k, by omega, by omega, k3, k4, fun j j1 j2 => ?_⟩
        by_cases e9 : j = e
        · rw [e9]
          exact h0
        · exact k5 j (by omega) j2
/-- places and pigeons -/
theorem wy_ph : ∀ (n m : Nat) (g : Nat → Nat), (∀ i, i < m → g i < n) → (∀ i j, i < m → j < m → g i = g j → i = j) → m ≤ n
  | 0, m, g, h1, _ => by
    rcases Nat.eq_zero_or_pos m with h | h
    · omega
    · have := h1 0 h
      omega
  | n + 1, 0, _, _, _ => Nat.zero_le _
  | n + 1, m + 1, g, h1, h2 => by
    have h3 := wy_ph n m (fun i => if g i = n then g m else g i) (fun i hi => by
      have a1 := h1 i (by omega)
      have a2 := h1 m (Nat.lt_succ_self m)
      show (if g i = n then g m else g i) < n
      by_cases e : g i = n
      · rw [if_pos e]
        have a3 : g m ≠ n := fun q => by
          have := h2 i m (by omega) (by omega) (by rw [e, q])
          omega
        omega
      · rw [if_neg e]
        omega) (fun i j hi hj e => by
      have e : (if g i = n then g m else g i) = (if g j = n then g m else g j) := e
      by_cases e1 : g i = n
      · rw [if_pos e1] at e
        by_cases e2 : g j = n
        · exact h2 i j (by omega) (by omega) (by rw [e1, e2])
        · rw [if_neg e2] at e
          have := h2 m j (by omega) (by omega) e
          omega
      · rw [if_neg e1] at e
        by_cases e2 : g j = n
        · rw [if_pos e2] at e
          have := h2 i m (by omega) (by omega) e
          omega
        · rw [if_neg e2] at e
          exact h2 i j (by omega) (by omega) e)
    omega
/-- at k edges from t, and at no fewer -/
abbrev wyL (f : Nat → Int32) (n t k a : Nat) : Prop := wkB f n t k a = true ∧ ∀ j, j < k → wkB f n t j a = false
theorem wy_t {f : Nat → Int32} {n t k a i : Nat} (h : wyL f n t (k + 1) a) (i1 : i < n) (i2 : hb (f a) i = true) (i3 : wkB f n t k i = true) : wyL f n t k i := ⟨i3, fun j hj => by
  cases q : wkB f n t j i
  · rfl
  · have h3 := h.2 (j + 1) (by omega)
    rw [wkB_s.mpr ⟨i, i1, i2, q⟩] at h3
    cases h3⟩
theorem wy_s {f : Nat → Int32} {n t k a : Nat} (h : wyL f n t (k + 1) a) : ∃ i, i < n ∧ hb (f a) i = true ∧ wyL f n t k i := by
  obtain ⟨i, i1, i2, i3⟩ := wkB_s.mp h.1
  exact ⟨i, i1, i2, wy_t h i1 i2 i3⟩
theorem wy_d {f : Nat → Int32} {n t k : Nat} : ∀ d a, a < n → wyL f n t (k + d) a → ∃ i, i < n ∧ wyL f n t k i
  | 0, a, ha, h => ⟨a, ha, h⟩
  | d + 1, a, ha, h => by
    obtain ⟨i, i1, _, i3⟩ := wy_s (k := k + d) h
    exact wy_d d i i1 i3
theorem wy_u {f : Nat → Int32} {n t j k a : Nat} (h : wyL f n t j a) (g : wyL f n t k a) : j = k := by
  rcases Nat.lt_trichotomy j k with q | q | q
  · have h3 := g.2 j q
    rw [h.1] at h3
    cases h3
  · exact q
  · have h3 := h.2 k q
    rw [g.1] at h3
    cases h3
theorem wy_lt {f : Nat → Int32} {n t k a : Nat} (ha : a < n) (h : wyL f n t k a) : k < n := by
  have h1 : ∀ j, ∃ i, i < n ∧ (j ≤ k → wyL f n t j i) := fun j => by
    by_cases q : j ≤ k
    · obtain ⟨i, i1, i2⟩ := wy_d (k := j) (k - j) a ha (by rw [show j + (k - j) = k by omega]; exact h)
      exact ⟨i, i1, fun _ => i2⟩
    · exact ⟨a, ha, fun q2 => absurd q2 q⟩
  have h2 := wy_ph n (k + 1) (fun j => Classical.choose (h1 j)) (fun j _ => (Classical.choose_spec (h1 j)).1) (fun i j hi hj e => by
    have a1 := (Classical.choose_spec (h1 i)).2 (by omega)
    have a2 := (Classical.choose_spec (h1 j)).2 (by omega)
    have e : Classical.choose (h1 i) = Classical.choose (h1 j) := e
    rw [e] at a1
    exact wy_u a1 a2)
  omega
theorem wy_far {f : Nat → Int32} {n t a e : Nat} (hn : n ≤ 32) (he : e < 2147483648) : farF f n t n a = nI e ↔ e < n ∧ wyL f n t e a := fstI_at (P := fun m => wkB f n t m a) n (by omega) he
theorem wy_no {f : Nat → Int32} {n t a : Nat} (hn : n ≤ 32) : farF f n t n a = -1 ↔ ∀ m, m < n → wkB f n t m a = false := fstI_none (P := fun m => wkB f n t m a) n (by omega)
/-- distance -/
theorem wy_ds {f : Nat → Int32} {n a b : Nat} (ha : a < n) (hb9 : b < n) (hn : n ≤ 32) : dsV f a b n = farF f n b n a := by
  unfold dsV
  by_cases e : a = b
  · rw [if_pos e]
    have h1 : farF f n b n a = nI 0 := (wy_far hn (by omega)).mpr ⟨by omega, wy_0.mpr e, fun j hj => absurd hj (Nat.not_lt_zero _)⟩
    exact h1.symm
  · rw [if_neg e]
    have h0 : wkB f n b 0 a = false := decide_eq_false e
    rcases wy_fe (f := f) ha hb9 n 1 (f a) (fun y hy => wy_1 hy) with ⟨r1, r2⟩ | ⟨k, k1, k2, k3, k4, k5⟩
    · rw [r1]
      refine ((wy_no hn).mpr fun m hm => ?_).symm
      by_cases q : m = 0
      · rw [q]
        exact h0
      · exact r2 m (by omega) (by omega)
    · have hL : wyL f n b k a := ⟨k4, fun j hj => by
        by_cases q : j = 0
        · rw [q]
          exact h0
        · exact k5 j (by omega) hj⟩
      rw [k3]
      exact ((wy_far hn (by omega)).mpr ⟨wy_lt ha hL, hL⟩).symm
/-- around -/
theorem wy_ar {f : Nat → Int32} {n a : Nat} (hn : n ≤ 32) : ∀ m, (arF f n a m = -1 ∧ ∀ k, k < m → hb (f a) k = true → farF f n a n k = -1) ∨ (∃ e, e < n ∧ arF f n a m = nI (e + 1) ∧ (∃ k, k < m ∧ hb (f a) k = true ∧ farF f n a n k = nI e) ∧ ∀ k e', k < m → hb (f a) k = true → e' < n → farF f n a n k = nI e' → e ≤ e')
  | 0 => Or.inl ⟨rfl, fun k hk => absurd hk (Nat.not_lt_zero _)⟩
  | m + 1 => by
    have ih := wy_ar (f := f) (a := a) hn m
    unfold arF
    by_cases h1 : hb (f a) m = true
    · rcases fstI_cases (fun j => wkB f n a j m) n (by omega) with q | ⟨x, x1, q⟩
      · have q : farF f n a n m = -1 := q
        rw [if_neg (fun h => h.2.1 q)]
        rcases ih with ⟨i1, i2⟩ | ⟨e, i1, i2, ⟨k, i3, i5⟩, i4⟩
        · refine Or.inl ⟨i1, fun k hk h => ?_⟩
          by_cases e : k = m
          · rw [e]
            exact q
          · exact i2 k (by omega) h
        · refine Or.inr ⟨e, i1, i2, ⟨k, by omega, i5⟩, fun k e' hk h he' h' => ?_⟩
          by_cases e9 : k = m
          · rw [e9, q] at h'
            exact absurd h'.symm (nI_m1' (by omega))
          · exact i4 k e' (by omega) h he' h'
      · have q : farF f n a n m = nI x := q
        have q1 : farF f n a n m ≠ -1 := fun z => nI_m1' (k := x) (by omega) (q.symm.trans z)
        rcases ih with ⟨i1, i2⟩ | ⟨e, i1, i2, ⟨k, i3, i5⟩, i4⟩
        · rw [if_pos ⟨h1, q1, Or.inl i1⟩]
          refine Or.inr ⟨x, x1, by rw [q]; exact nI_1 x, ⟨m, Nat.lt_succ_self m, h1, q⟩, fun k e' hk h he' h' => ?_⟩
          by_cases e9 : k = m
          · rw [e9, q] at h'
            have := (nI_eq (by omega) (by omega)).mp h'
            omega
          · rw [i2 k (by omega) h] at h'
            exact absurd h'.symm (nI_m1' (by omega))
        · by_cases h2 : x < e
          · rw [if_pos ⟨h1, q1, Or.inr (by rw [q, i2, nI_1]; exact (nI_ltI (by omega) (by omega)).mpr (by omega))⟩]
            refine Or.inr ⟨x, x1, by rw [q]; exact nI_1 x, ⟨m, Nat.lt_succ_self m, h1, q⟩, fun k e' hk h he' h' => ?_⟩
            by_cases e9 : k = m
            · rw [e9, q] at h'
              have := (nI_eq (by omega) (by omega)).mp h'
              omega
            · have := i4 k e' (by omega) h he' h'
              omega
          · rw [if_neg (fun h => by
              rcases h.2.2 with z | z
              · rw [i2] at z
                exact nI_m1' (by omega) z
              · rw [q, i2, nI_1] at z
                have := (nI_ltI (by omega) (by omega)).mp z
                omega)]
            refine Or.inr ⟨e, i1, i2, ⟨k, by omega, i5⟩, fun k e' hk h he' h' => ?_⟩
            by_cases e9 : k = m
            · rw [e9, q] at h'
              have := (nI_eq (by omega) (by omega)).mp h'
              omega
            · exact i4 k e' (by omega) h he' h'
    · rw [if_neg (fun h => h1 h.1)]
      rcases ih with ⟨i1, i2⟩ | ⟨e, i1, i2, ⟨k, i3, i5⟩, i4⟩
      · refine Or.inl ⟨i1, fun k hk h => ?_⟩
        by_cases e : k = m
        · rw [e] at h
          exact absurd h h1
        · exact i2 k (by omega) h
      · refine Or.inr ⟨e, i1, i2, ⟨k, by omega, i5⟩, fun k e' hk h he' h' => ?_⟩
        by_cases e9 : k = m
        · rw [e9] at h
          exact absurd h h1
        · exact i4 k e' (by omega) h he' h'
theorem wy_af {f : Nat → Int32} {n a : Nat} (ha : a < n) (hn : n ≤ 32) : feF f a n n 1 (f a) = arF f n a n := by
  rcases wy_fe (f := f) ha ha n 1 (f a) (fun y hy => wy_1 hy) with ⟨r1, r2⟩ | ⟨k, k1, k2, k3, k4, k5⟩
  · rw [r1]
    rcases wy_ar (f := f) (a := a) hn n with ⟨i1, i2⟩ | ⟨e, i1, i2, ⟨k, i3, i5, i6⟩, i4⟩
    · exact i1.symm
    · have h1 := ((wy_far hn (by omega)).mp i6).2.1
      have h2 := r2 (e + 1) (by omega) (by omega)
      rw [wkB_s.mpr ⟨k, i3, i5, h1⟩] at h2
      cases h2
  · rw [k3]
    obtain ⟨d, rfl⟩ : ∃ d, k = d + 1 := ⟨k - 1, by omega⟩
    obtain ⟨i, j1, j2, j3⟩ := wkB_s.mp k4
    have h0 : ∃ x, x < n ∧ x ≤ d ∧ farF f n a n i = nI x := by
      rcases fstI_cases (fun j => wkB f n a j i) n (by omega) with q | ⟨x, x1, q⟩
      · have h2 := (wy_no (f := f) (t := a) (a := i) hn).mp q d (by omega)
        rw [j3] at h2
        cases h2
      · refine ⟨x, x1, ?_, q⟩
        have h2 := ((wy_far (f := f) (t := a) (a := i) (e := x) hn (by omega)).mp q).2
        rcases Nat.lt_or_ge d x with z | z
        · have h3 := h2.2 d z
          rw [j3] at h3
          cases h3
        · exact z
    obtain ⟨x, x1, x2, x3⟩ := h0
    rcases wy_ar (f := f) (a := a) hn n with ⟨i1, i2⟩ | ⟨e, i1, i2, ⟨k, i3, i5, i6⟩, i4⟩
    · have h2 := i2 i j1 j2
      rw [x3] at h2
      exact absurd h2 (nI_m1' (by omega))
    · rw [i2]
      have h1 := ((wy_far hn (by omega)).mp i6).2.1
      have h2 := i4 i x j1 j2 x1 x3
      have h3 : e = d := by
        rcases Nat.lt_or_ge e d with z | z
        · have h4 := k5 (e + 1) (by omega) (by omega)
          rw [wkB_s.mpr ⟨k, i3, i5, h1⟩] at h4
          cases h4
        · omega
      rw [h3]
/-- girth -/
theorem wy_gi {f : Nat → Int32} {n : Nat} (hn : n ≤ 32) : ∀ k, k ≤ n → giV f n k = grF f n k
  | 0, _ => rfl
  | k + 1, hk => by
    unfold giV grF
    rw [wy_gi hn k (by omega), wy_af (by omega) hn]
/-- levels -/
theorem wy_ri {f : Nat → Int32} {x : Int32} {y : Nat} : ∀ m, m ≤ 32 → (hb (rwlI f x m) y = true ↔ y < m ∧ f y &&& x ≠ 0)
  | 0, _ => ⟨fun h => absurd (show hb 0 y = true from h) (by rw [hb_0]; decide), fun h => absurd h.1 (Nat.not_lt_zero _)⟩
  | m + 1, hm => by
    have ih := wy_ri (f := f) (x := x) (y := y) m (by omega)
    unfold rwlI
    by_cases h : f m &&& x = 0
    · rw [if_pos h, ih]
      constructor
      · rintro ⟨h1, h2⟩
        exact ⟨by omega, h2⟩
      · rintro ⟨h1, h2⟩
        by_cases e : y = m
        · rw [e] at h2
          exact absurd h h2
        · exact ⟨by omega, h2⟩
    · rw [if_neg h, hb_or, Bool.or_eq_true, hb_bitI (by omega), decide_eq_true_eq, ih]
      constructor
      · rintro (⟨h1, h2⟩ | h1)
        · exact ⟨by omega, h2⟩
        · rw [h1]
          exact ⟨Nat.lt_succ_self m, h⟩
      · rintro ⟨h1, h2⟩
        by_cases e : y = m
        · exact Or.inr e
        · exact Or.inl ⟨by omega, h2⟩
theorem wy_rf {f : Nat → Int32} {n b : Nat} (hb9 : b < n) (hn : n ≤ 32) : ∀ k y, hb (rwlF f b n k) y = true ↔ y < n ∧ wkB f n b k y = true
  | 0, y => by
    show hb (bitI b) y = true ↔ _
    rw [hb_bitI (by omega), decide_eq_true_eq, wy_0]
    constructor
    · intro h
      exact ⟨by omega, h⟩
    · exact fun h => h.2
  | k + 1, y => by
    show hb (rwlI f (rwlF f b n k) n) y = true ↔ _
    rw [wy_ri n hn, wkB_s]
    constructor
    · rintro ⟨h1, h2⟩
      have h3 := (low_ex h2).1
      generalize lowN (f y &&& rwlF f b n k) = c at h3
      rw [hb_and, Bool.and_eq_true, wy_rf hb9 hn k c] at h3
      exact ⟨h1, c, h3.2.1, h3.1, h3.2.2⟩
    · rintro ⟨h1, c, h2, h3, h4⟩
      exact ⟨h1, hb_ne0 (t := c) (by rw [hb_and, h3, (wy_rf hb9 hn k c).mpr ⟨h2, h4⟩]; rfl)⟩
/-- the nodes of the first shortest way -/
theorem wy_nd {f : Nat → Int32} {n a b k : Nat} (ha : a < n) (hb9 : b < n) (hn : n ≤ 32) (hL : wyL f n b k a) : ∀ m, m ≤ k → ndF f (rwlF f b n) k a m = spF f n b a m ∧ ndF f (rwlF f b n) k a m < n ∧ wyL f n b (k - m) (ndF f (rwlF f b n) k a m)
  | 0, _ => ⟨rfl, ha, hL⟩
  | m + 1, hm => by
    obtain ⟨h1, h2, h3⟩ := wy_nd ha hb9 hn hL m (by omega)
    have hk : k < n := wy_lt ha hL
    obtain ⟨d, hd⟩ : ∃ d, k - m = d + 1 := ⟨k - m - 1, by omega⟩
    have hd2 : k - (m + 1) = d := by omega
    rw [hd] at h3
    show lowN (f (ndF f (rwlF f b n) k a m) &&& rwlF f b n (k - m - 1)) = nxF f n b (spF f n b a m) ∧ lowN (f (ndF f (rwlF f b n) k a m) &&& rwlF f b n (k - m - 1)) < n ∧ wyL f n b (k - (m + 1)) (lowN (f (ndF f (rwlF f b n) k a m) &&& rwlF f b n (k - m - 1)))
    rw [hd2, show k - m - 1 = d by omega, ← h1]
    generalize ndF f (rwlF f b n) k a m = h at *
    obtain ⟨q1, q2, q3, q4⟩ := nxF_ok (f := f) (t := b) (h := h) (e := d) hn ((wy_far hn (by omega)).mpr ⟨by omega, h3⟩) (by omega)
    have q5 := ((wy_far (f := f) (t := b) (a := nxF f n b h) (e := d) hn (by omega)).mp q3).2
    have h5 : lowN (f h &&& rwlF f b n d) = nxF f n b h := lowN_at (by omega) (by rw [hb_and, q2, (wy_rf hb9 hn d _).mpr ⟨q1, q5.1⟩]; rfl) (fun i hi => by
      cases z : hb (f h &&& rwlF f b n d) i
      · rfl
      · rw [hb_and, Bool.and_eq_true, wy_rf hb9 hn d i] at z
        exact absurd ⟨z.1, (wy_far hn (by omega)).mpr ⟨by omega, wy_t h3 z.2.1 z.1 z.2.2⟩⟩ (q4 i hi))
    rw [h5]
    exact ⟨rfl, q1, q5⟩
