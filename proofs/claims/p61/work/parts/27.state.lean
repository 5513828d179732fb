/-! the states of both sides, tied -/
theorem k01_b (b : Bool) : k01 (b1 b) := by
  cases b
  · exact Or.inl rfl
  · exact Or.inr rfl
theorem pI_at9 (M : Mem) (i k : Nat) (x : Int32) : mI (pI M i k x) i k = x := by
  show fun_set (mI M) i (fun_set (mI M i) k x) i k = x
  unfold fun_set
  rw [if_pos rfl, if_pos rfl]
def wfr (n : Nat) (f : Nat → Int32) : Prop := ∀ r, r < n → ∀ c, n ≤ c → hb (f r) c = false
theorem pI_at (M : Mem) (i k : Nat) (x : Int32) (a j : Nat) : mI (pI M i k x) a j = if a = i ∧ j = k then x else mI M a j := by
  show fun_set (mI M) i (fun_set (mI M i) k x) a j = _
  unfold fun_set
  by_cases e : a = i
  · rw [if_pos e]
    by_cases e2 : j = k
    · rw [if_pos e2, if_pos ⟨e, e2⟩]
    · rw [if_neg e2, if_neg (fun h => e2 h.2), e]
  · rw [if_neg e, if_neg (fun h => e h.1)]
/-- a slot of a state -/
def SS (M : Mem) (b : Nat) (u : Nat → Int64) (n s : Nat) : Prop := (∃ k : Bool, mI M (b + 2 + 2 * s) 1 = b1 k ∧ u (4 + s) = b1L k) ∧ mI M (b + 2 + 2 * s) 2 = (u (10 + s)).toInt32 ∧ mI M (b + 2 + 2 * s) 3 = (u (16 + s)).toInt32 ∧ mI M (b + 2 + 2 * s) 4 = (u (22 + s)).toInt32 ∧ (∀ r, r < n → u (28 + 32 * s + r) = uL (mI M (b + 3 + 2 * s) r)) ∧ wfr n (mI M (b + 3 + 2 * s))
def SR (M : Mem) (b : Nat) (u : Nat → Int64) (n : Nat) : Prop := (1 ≤ n ∧ n ≤ 32 ∧ mI M b 1 = nI n ∧ u 0 = lN n) ∧ (∃ bl, 1 ≤ bl ∧ bl ≤ 8 ∧ mI M b 2 = nI bl ∧ u 1 = lN bl) ∧ (∃ a, mI M b 3 = nI a ∧ u 2 = lN a) ∧ (∃ a, mI M b 4 = nI a ∧ u 3 = lN a) ∧ ∀ s, s < 6 → SS M b u n s
theorem SS_cg {M M' : Mem} {b n s : Nat} {u u' : Nat → Int64} (h : SS M b u n s) (h1 : ∀ j, 1 ≤ j → j ≤ 4 → mI M' (b + 2 + 2 * s) j = mI M (b + 2 + 2 * s) j) (h2 : ∀ r, r < n → mI M' (b + 3 + 2 * s) r = mI M (b + 3 + 2 * s) r) (h3 : u' (4 + s) = u (4 + s) ∧ u' (10 + s) = u (10 + s) ∧ u' (16 + s) = u (16 + s) ∧ u' (22 + s) = u (22 + s)) (h4 : ∀ r, r < n → u' (28 + 32 * s + r) = u (28 + 32 * s + r)) : SS M' b u' n s := by
  obtain ⟨⟨k, a1, a2⟩, a3, a4, a5, a6, a7⟩ := h
  obtain ⟨g1, g2, g3, g4⟩ := h3
  refine ⟨⟨k, by rw [h1 1 (by decide) (by decide)]; exact a1, by rw [g1]; exact a2⟩, by rw [h1 2 (by decide) (by decide), g2]; exact a3, by rw [h1 3 (by decide) (by decide), g3]; exact a4, by rw [h1 4 (by decide) (by decide), g4]; exact a5, fun r hr => by rw [h4 r hr, h2 r hr]; exact a6 r hr, fun r hr c hc => by rw [h2 r hr]; exact a7 r hr c hc⟩
theorem SR_cg {M M' : Mem} {b n : Nat} {u u' : Nat → Int64} (h : SR M b u n) (h1 : ∀ i, b ≤ i → i < b + 14 → mI M' i = mI M i) (h2 : ∀ i, i < 220 → u' i = u i) : SR M' b u' n := by
  obtain ⟨⟨a1, a2, a3, a4⟩, ⟨bl, b1', b2, b3, b4⟩, ⟨x, x1, x2⟩, ⟨y, y1, y2⟩, hs⟩ := h
  have e := h1 b (Nat.le_refl b) (by omega)
  refine ⟨⟨a1, a2, by rw [e]; exact a3, by rw [h2 0 (by decide)]; exact a4⟩, ⟨bl, b1', b2, by rw [e]; exact b3, by rw [h2 1 (by decide)]; exact b4⟩, ⟨x, by rw [e]; exact x1, by rw [h2 2 (by decide)]; exact x2⟩, ⟨y, by rw [e]; exact y1, by rw [h2 3 (by decide)]; exact y2⟩, fun s hs6 => ?_⟩
  refine SS_cg (hs s hs6) (fun j _ _ => by rw [h1 _ (by omega) (by omega)]) (fun r _ => by rw [h1 _ (by omega) (by omega)]) ⟨h2 _ (by omega), h2 _ (by omega), h2 _ (by omega), h2 _ (by omega)⟩ (fun r _ => h2 _ (by omega))
theorem SR_keep {M : Mem} {b n : Nat} {u : Nat → Int64} (h : SR M b u n) : keptOk M b := fun s hs => by
  obtain ⟨⟨k, a1, -⟩, -⟩ := h.2.2.2.2 s hs
  rw [a1]
  exact k01_b k
/-- a state copied -/
theorem mxTake_at {M : Mem} {m o i j : Nat} : mI (mxTake M m o) i j = if i = m ∧ 1 ≤ j ∧ j ≤ 4 then mI M o j else if i = m + 1 ∧ j < 32 then mI M (o + 1) j else mI M i j := by
  unfold mxTake
  rw [pI_at, pI_at, pI_at, pI_at]
  by_cases e : i = m
  · subst e
    by_cases q : 1 ≤ j ∧ j ≤ 4
    · rw [if_pos (show i = i ∧ 1 ≤ j ∧ j ≤ 4 from ⟨rfl, q⟩)]
      have : j = 1 ∨ j = 2 ∨ j = 3 ∨ j = 4 := by omega
      rcases this with rfl | rfl | rfl | rfl
      · rw [if_neg (fun h => by omega), if_neg (fun h => by omega), if_neg (fun h => by omega), if_pos ⟨rfl, rfl⟩]
      · rw [if_neg (fun h => by omega), if_neg (fun h => by omega), if_pos ⟨rfl, rfl⟩]
      · rw [if_neg (fun h => by omega), if_pos ⟨rfl, rfl⟩]
      · rw [if_pos ⟨rfl, rfl⟩]
    · rw [if_neg (fun h => by omega), if_neg (fun h => by omega), if_neg (fun h => by omega), if_neg (fun h => by omega), if_neg (fun h => q h.2), if_neg (fun h => by omega)]
      exact congrFun (sI_ne (by omega)) j
  · rw [if_neg (fun h => e h.1), if_neg (fun h => e h.1), if_neg (fun h => e h.1), if_neg (fun h => e h.1), if_neg (fun h => e h.1)]
    by_cases e2 : i = m + 1
    · subst e2
      rw [sI_self]
      unfold wr
      by_cases q : j < 32
      · rw [if_pos q, if_pos ⟨rfl, q⟩]
      · rw [if_neg q, if_neg (fun h => q h.2)]
    · rw [if_neg (fun h => e2 h.1)]
      exact congrFun (sI_ne (by omega)) j
theorem stTakeL_at {M : Mem} {b o : Nat} (hd : b + 14 ≤ o ∨ o + 14 ≤ b) : ∀ k, k ≤ 6 → ∀ s, s < k → (∀ j, 1 ≤ j → j ≤ 4 → mI (stTakeL M b o k) (b + 2 + 2 * s) j = mI M (o + 2 + 2 * s) j) ∧ (∀ r, r < 32 → mI (stTakeL M b o k) (b + 3 + 2 * s) r = mI M (o + 3 + 2 * s) r)
  | 0, _, s, hs => absurd hs (Nat.not_lt_zero _)
  | k + 1, hk, s, hs => by
    rw [stTakeL.eq_2]
    by_cases e : s = k
    · subst e
      have f1 : mI (stTakeL M b o s) (o + 2 + 2 * s) = mI M (o + 2 + 2 * s) := stTakeL_ne s (by omega) (by omega)
      have f2 : mI (stTakeL M b o s) (o + 2 + 2 * s + 1) = mI M (o + 2 + 2 * s + 1) := stTakeL_ne s (by omega) (by omega)
      constructor
      · intro j h1 h2
        rw [mxTake_at, if_pos ⟨rfl, h1, h2⟩, f1]
      · intro r hr
        rw [mxTake_at, if_neg (fun h => by omega), if_pos ⟨by omega, hr⟩, f2]
        congr 1
        omega
    · obtain ⟨g1, g2⟩ := stTakeL_at hd k (by omega) s (by omega)
      constructor
      · intro j h1 h2
        rw [mxTake_at, if_neg (fun h => by omega), if_neg (fun h => by omega)]
        exact g1 j h1 h2
      · intro r hr
        rw [mxTake_at, if_neg (fun h => by omega), if_neg (fun h => by omega)]
        exact g2 r hr
theorem stTake_at {M : Mem} {b o : Nat} (hd : b + 14 ≤ o ∨ o + 14 ≤ b) : (∀ j, 1 ≤ j → j ≤ 4 → mI (stTake M b o) b j = mI M o j) ∧ ∀ s, s < 6 → (∀ j, 1 ≤ j → j ≤ 4 → mI (stTake M b o) (b + 2 + 2 * s) j = mI M (o + 2 + 2 * s) j) ∧ (∀ r, r < 32 → mI (stTake M b o) (b + 3 + 2 * s) r = mI M (o + 3 + 2 * s) r) := by
  have h := stTakeL_at (M := M) hd 6 (Nat.le_refl 6)
  unfold stTake
  generalize stTakeL M b o 6 = M6 at h ⊢
  constructor
  · intro j h1 h2
    rw [pI_at, pI_at, pI_at, pI_at]
    have : j = 1 ∨ j = 2 ∨ j = 3 ∨ j = 4 := by omega
    rcases this with rfl | rfl | rfl | rfl
    · rw [if_neg (fun h => by omega), if_neg (fun h => by omega), if_neg (fun h => by omega), if_pos ⟨rfl, rfl⟩]
    · rw [if_neg (fun h => by omega), if_neg (fun h => by omega), if_pos ⟨rfl, rfl⟩]
    · rw [if_neg (fun h => by omega), if_pos ⟨rfl, rfl⟩]
    · rw [if_pos ⟨rfl, rfl⟩]
  · intro s hs
    obtain ⟨g1, g2⟩ := h s hs
    constructor
    · intro j h1 h2
      rw [pI_at, pI_at, pI_at, pI_at, if_neg (fun h => by omega), if_neg (fun h => by omega), if_neg (fun h => by omega), if_neg (fun h => by omega)]
      exact g1 j h1 h2
    · intro r hr
      rw [pI_at, pI_at, pI_at, pI_at, if_neg (fun h => by omega), if_neg (fun h => by omega), if_neg (fun h => by omega), if_neg (fun h => by omega)]
      exact g2 r hr
theorem SR_take {M : Mem} {b o n : Nat} {u : Nat → Int64} (hd : b + 14 ≤ o ∨ o + 14 ≤ b) (h : SR M o u n) : SR (stTake M b o) b u n := by
  obtain ⟨g1, g2⟩ := stTake_at (M := M) hd
  obtain ⟨⟨a1, a2, a3, a4⟩, ⟨bl, b1', b2, b3, b4⟩, ⟨x, x1, x2⟩, ⟨y, y1, y2⟩, hs⟩ := h
  refine ⟨⟨a1, a2, by rw [g1 1 (by decide) (by decide)]; exact a3, a4⟩, ⟨bl, b1', b2, by rw [g1 2 (by decide) (by decide)]; exact b3, b4⟩, ⟨x, by rw [g1 3 (by decide) (by decide)]; exact x1, x2⟩, ⟨y, by rw [g1 4 (by decide) (by decide)]; exact y1, y2⟩, fun s hs6 => ?_⟩
  obtain ⟨⟨k, c1, c2⟩, c3, c4, c5, c6, c7⟩ := hs s hs6
  obtain ⟨k1, k2⟩ := g2 s hs6
  refine ⟨⟨k, by rw [k1 1 (by decide) (by decide)]; exact c1, c2⟩, by rw [k1 2 (by decide) (by decide)]; exact c3, by rw [k1 3 (by decide) (by decide)]; exact c4, by rw [k1 4 (by decide) (by decide)]; exact c5, fun r hr => by rw [k2 r (by omega)]; exact c6 r hr, fun r hr c hc => by rw [k2 r (by omega)]; exact c7 r hr c hc⟩
