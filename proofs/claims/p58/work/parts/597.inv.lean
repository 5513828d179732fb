/-! the present state changed on both sides -/
def lkU (u : Nat → Int64) (s : Nat) (x : Int32) : Nat → Int64 := if u (4 + s) = 1 then fun_set (fun_set u (10 + s) x.toInt64) (16 + s) (u (16 + s) + x.toInt64) else u
def anU (u : Nat → Int64) (s : Nat) (x : Int32) : Nat → Int64 := fun_set (lkU u s x) (22 + s) (lkU u s x (22 + s) + u (4 + s))
theorem fsu_at {u : Nat → Int64} {i j : Nat} {x : Int64} : fun_set u i x j = if j = i then x else u j := rfl
section
variable {M R : Mem} {n : Nat} {u : Nat → Int64}
theorem lkM_U {s : Nat} {x : Int32} : mL (lkM M s x) 199 = lkU (mL M 199) s x := by
  unfold lkM lkU
  split
  · show fun_set (mL (pL M 199 (10 + s) x.toInt64)) 199 (fun_set (mL (pL M 199 (10 + s) x.toInt64) 199) (16 + s) (mL M 199 (16 + s) + x.toInt64)) 199 = _
    have e : mL (pL M 199 (10 + s) x.toInt64) 199 = fun_set (mL M 199) (10 + s) x.toInt64 := pL_0 _ _ _ _
    rw [e]
    exact if_pos rfl
  · rfl
theorem anM_U {s : Nat} {x : Int32} : mL (anM M s x) 199 = anU (mL M 199) s x := by
  unfold anM anU
  show fun_set (mL (lkM M s x)) 199 (fun_set (mL (lkM M s x) 199) (22 + s) (mL (lkM M s x) 199 (22 + s) + mL M 199 (4 + s))) 199 = _
  rw [lkM_U]
  exact if_pos rfl
theorem lkU_ne {s j : Nat} {x : Int32} (h1 : j ≠ 10 + s) (h2 : j ≠ 16 + s) : lkU u s x j = u j := by
  unfold lkU
  split
  · rw [fsu_at, if_neg h2, fsu_at, if_neg h1]
  · rfl
theorem anU_ne {s j : Nat} {x : Int32} (h1 : j ≠ 10 + s) (h2 : j ≠ 16 + s) (h3 : j ≠ 22 + s) : anU u s x j = u j := by
  unfold anU
  rw [fsu_at, if_neg h3, lkU_ne h1 h2]
theorem b1L_1 (k : Bool) : b1L k = 1 ↔ k = true := by
  cases k
  · exact ⟨fun h => absurd h (by decide), fun h => by cases h⟩
  · exact ⟨fun _ => rfl, fun _ => rfl⟩
theorem b1_0k (k : Bool) : b1 k = 0 ↔ k = false := by
  cases k
  · exact ⟨fun _ => rfl, fun _ => rfl⟩
  · exact ⟨fun h => absurd h (by decide), fun h => by cases h⟩
theorem i64_32 (x : Int32) : x.toInt64.toInt32 = x := Int32.toInt32_toInt64 x
theorem SS_lk {s : Nat} {x : Int32} (h : SS M 3 u n s) : SS (mxLook M (5 + 2 * s) x) 3 (lkU u s x) n s := by
  obtain ⟨⟨k, a1, a2⟩, a3, a4, a5, a6, a7⟩ := h
  rw [show 3 + 2 + 2 * s = 5 + 2 * s by omega] at a1 a3 a4 a5
  unfold SS mxLook lkU
  rw [show 3 + 2 + 2 * s = 5 + 2 * s by omega, a1, a2]
  cases k
  · rw [if_pos ((b1_0k false).mpr rfl), if_neg (fun h => by cases (b1L_1 false).mp h)]
    exact ⟨⟨false, a1, a2⟩, a3, a4, a5, a6, a7⟩
  · rw [if_neg (fun h => by cases (b1_0k true).mp h), if_pos ((b1L_1 true).mpr rfl)]
    have e3 : 3 + 3 + 2 * s ≠ 5 + 2 * s := by omega
    refine ⟨⟨true, ?_, ?_⟩, ?_, ?_, ?_, fun r hr => ?_, fun r hr c hc => ?_⟩
    · rw [pI_at, if_neg (fun h => absurd h.2 (by decide)), pI_at, if_neg (fun h => absurd h.2 (by decide))]
      exact a1
    · rw [fsu_at, if_neg (by omega), fsu_at, if_neg (by omega)]
      exact a2
    · rw [pI_at, if_neg (fun h => absurd h.2 (by decide)), pI_at, if_pos ⟨rfl, rfl⟩, fsu_at, if_neg (by omega), fsu_at, if_pos rfl, i64_32]
    · rw [pI_at, if_pos ⟨rfl, rfl⟩, pI_at, if_neg (fun h => absurd h.2 (by decide)), fsu_at, if_pos rfl, a4, Int64.toInt32_add, i64_32]
    · rw [pI_at, if_neg (fun h => absurd h.2 (by decide)), pI_at, if_neg (fun h => absurd h.2 (by decide)), fsu_at, if_neg (by omega), fsu_at, if_neg (by omega)]
      exact a5
    · rw [pI_at, if_neg (fun h => e3 h.1), pI_at, if_neg (fun h => e3 h.1), fsu_at, if_neg (by omega), fsu_at, if_neg (by omega)]
      exact a6 r hr
    · rw [pI_at, if_neg (fun h => e3 h.1), pI_at, if_neg (fun h => e3 h.1)]
      exact a7 r hr c hc
theorem SR_lk {s : Nat} {x : Int32} (hs : s < 6) (h : SR M 3 u n) : SR (mxLook M (5 + 2 * s) x) 3 (lkU u s x) n := by
  obtain ⟨⟨a1, a2, a3, a4⟩, ⟨bl, b1', b2, b3, b4⟩, ⟨y, y1, y2⟩, ⟨z, z1, z2⟩, hS⟩ := h
  have e : mI (mxLook M (5 + 2 * s) x) 3 = mI M 3 := mxLook_ne (by omega)
  have g : ∀ j, j < 4 → lkU u s x j = u j := fun j hj => lkU_ne (by omega) (by omega)
  refine ⟨⟨a1, a2, by rw [e]; exact a3, by rw [g 0 (by decide)]; exact a4⟩, ⟨bl, b1', b2, by rw [e]; exact b3, by rw [g 1 (by decide)]; exact b4⟩, ⟨y, by rw [e]; exact y1, by rw [g 2 (by decide)]; exact y2⟩, ⟨z, by rw [e]; exact z1, by rw [g 3 (by decide)]; exact z2⟩, fun t ht => ?_⟩
  by_cases q : t = s
  · subst q
    exact SS_lk (hS t ht)
  · exact SS_cg (hS t ht) (fun j _ _ => by rw [mxLook_ne (by omega)]) (fun r _ => by rw [mxLook_ne (by omega)]) ⟨lkU_ne (by omega) (by omega), lkU_ne (by omega) (by omega), lkU_ne (by omega) (by omega), lkU_ne (by omega) (by omega)⟩ (fun r _ => lkU_ne (by omega) (by omega))
theorem SR_an {s : Nat} {x : Int32} (hs : s < 6) (h : SR M 3 u n) : SR (mxAnew M (5 + 2 * s) x) 3 (anU u s x) n := by
  have h1 := SR_lk (x := x) hs h
  obtain ⟨⟨k, k1, k2⟩, c3, c4, c5, c6, c7⟩ := h.2.2.2.2 s hs
  rw [show 3 + 2 + 2 * s = 5 + 2 * s by omega] at k1
  have hm : ∀ i j, mI (mxAnew M (5 + 2 * s) x) i j = if i = 5 + 2 * s ∧ j = 4 ∧ k = true then mI (mxLook M (5 + 2 * s) x) (5 + 2 * s) 4 + 1 else mI (mxLook M (5 + 2 * s) x) i j := fun i j => by
    unfold mxAnew
    rw [k1]
    cases k
    · rw [if_pos ((b1_0k false).mpr rfl), if_neg (fun h => by cases h.2.2)]
      unfold mxLook
      rw [k1, if_pos ((b1_0k false).mpr rfl)]
    · rw [if_neg (fun h => by cases (b1_0k true).mp h), pI_at]
      by_cases q : i = 5 + 2 * s ∧ j = 4
      · rw [if_pos q, if_pos ⟨q.1, q.2, rfl⟩]
      · rw [if_neg q, if_neg (fun h => q ⟨h.1, h.2.1⟩)]
  have hu : ∀ j, anU u s x j = if j = 22 + s then lkU u s x (22 + s) + b1L k else lkU u s x j := fun j => by
    unfold anU
    rw [fsu_at, k2]
  obtain ⟨⟨a1, a2, a3, a4⟩, ⟨bl, b1', b2, b3, b4⟩, ⟨y, y1, y2⟩, ⟨z, z1, z2⟩, hS⟩ := h1
  have e : ∀ j, mI (mxAnew M (5 + 2 * s) x) 3 j = mI (mxLook M (5 + 2 * s) x) 3 j := fun j => by rw [hm, if_neg (fun h => by omega)]
  have g : ∀ j, j ≠ 22 + s → anU u s x j = lkU u s x j := fun j hj => by rw [hu, if_neg hj]
  refine ⟨⟨a1, a2, by rw [e]; exact a3, by rw [g 0 (by omega)]; exact a4⟩, ⟨bl, b1', b2, by rw [e]; exact b3, by rw [g 1 (by omega)]; exact b4⟩, ⟨y, by rw [e]; exact y1, by rw [g 2 (by omega)]; exact y2⟩, ⟨z, by rw [e]; exact z1, by rw [g 3 (by omega)]; exact z2⟩, fun t ht => ?_⟩
  by_cases q : t = s
  · subst q
    obtain ⟨⟨k', f1, f2⟩, f3, f4, f5, f6, f7⟩ := hS t ht
    rw [show 3 + 2 + 2 * t = 5 + 2 * t by omega] at f1 f3 f4 f5
    unfold SS
    rw [show 3 + 2 + 2 * t = 5 + 2 * t by omega]
    refine ⟨⟨k', by rw [hm, if_neg (fun h => by omega)]; exact f1, by rw [g _ (by omega)]; exact f2⟩, by rw [hm, if_neg (fun h => by omega), g _ (by omega)]; exact f3, by rw [hm, if_neg (fun h => by omega), g _ (by omega)]; exact f4, ?_, fun r hr => by rw [g _ (by omega), hm, if_neg (fun h => by omega)]; exact f6 r hr, fun r hr c hc => by rw [hm, if_neg (fun h => by omega)]; exact f7 r hr c hc⟩
    rw [hm, hu, if_pos rfl, f5]
    cases k
    · rw [if_neg (fun h => by cases h.2.2)]
      show (lkU u t x (22 + t)).toInt32 = (lkU u t x (22 + t) + 0).toInt32
      rw [Int64.add_zero]
    · rw [if_pos ⟨rfl, rfl, rfl⟩]
      show (lkU u t x (22 + t)).toInt32 + 1 = (lkU u t x (22 + t) + 1).toInt32
      rw [Int64.toInt32_add]
      rfl
  · exact SS_cg (hS t ht) (fun j _ _ => by rw [hm, if_neg (fun h => by omega)]) (fun r _ => by rw [hm, if_neg (fun h => by omega)]) ⟨g _ (by omega), g _ (by omega), g _ (by omega), g _ (by omega)⟩ (fun r _ => g _ (by omega))
theorem ly_at {t k i : Nat} {f : Nat → Int32} : lyF u t f k i = if 28 + 32 * t ≤ i ∧ i < 28 + 32 * t + k then uL (f (i - (28 + 32 * t))) else u i := rfl
theorem SR_row {t : Nat} {f g : Nat → Int32} (ht : t < 6) (h : SR M 3 u n) (hg : ∀ r, r < n → g r = f r) (hf : wfr n f) : SR (sI M (6 + 2 * t) g) 3 (lyF u t f n) n := by
  obtain ⟨⟨a1, a2, a3, a4⟩, ⟨bl, b1', b2, b3, b4⟩, ⟨y, y1, y2⟩, ⟨z, z1, z2⟩, hS⟩ := h
  have e : ∀ i, i ≠ 6 + 2 * t → mI (sI M (6 + 2 * t) g) i = mI M i := fun i hi => sI_ne hi
  have gu : ∀ j, j < 28 → lyF u t f n j = u j := fun j hj => by rw [ly_at, if_neg (fun h => by omega)]
  refine ⟨⟨a1, a2, by rw [e 3 (by omega)]; exact a3, by rw [gu 0 (by decide)]; exact a4⟩, ⟨bl, b1', b2, by rw [e 3 (by omega)]; exact b3, by rw [gu 1 (by decide)]; exact b4⟩, ⟨y, by rw [e 3 (by omega)]; exact y1, by rw [gu 2 (by decide)]; exact y2⟩, ⟨z, by rw [e 3 (by omega)]; exact z1, by rw [gu 3 (by decide)]; exact z2⟩, fun s hs => ?_⟩
  by_cases q : s = t
  · subst q
    obtain ⟨⟨k', f1, f2⟩, f3, f4, f5, f6, f7⟩ := hS s ht
    have e2 := e (3 + 2 + 2 * s) (by omega)
    have e3 : mI (sI M (6 + 2 * s) g) (3 + 3 + 2 * s) = g := by rw [show 3 + 3 + 2 * s = 6 + 2 * s by omega, sI_self]
    refine ⟨⟨k', by rw [e2]; exact f1, by rw [gu _ (by omega)]; exact f2⟩, by rw [e2, gu _ (by omega)]; exact f3, by rw [e2, gu _ (by omega)]; exact f4, by rw [e2, gu _ (by omega)]; exact f5, fun r hr => ?_, fun r hr c hc => ?_⟩
    · rw [e3, ly_at, if_pos ⟨by omega, by omega⟩, hg r hr, show 28 + 32 * s + r - (28 + 32 * s) = r by omega]
    · rw [e3, hg r hr]
      exact hf r hr c hc
  · exact SS_cg (hS s hs) (fun j _ _ => by rw [e _ (by omega)]) (fun r _ => by rw [e _ (by omega)]) ⟨gu _ (by omega), gu _ (by omega), gu _ (by omega), gu _ (by omega)⟩ (fun r hr => by rw [ly_at, if_neg (fun h => by omega)])
theorem SR_175 {i j : Nat} {x : Int32} (hi : 17 ≤ i) (h : SR M 3 u n) : SR (pI M i j x) 3 u n := SR_cg h (fun k _ hk => sI_ne (by omega)) (fun _ _ => rfl)
theorem SR_store {r t : Nat} {f : Nat → Int32} (ht : t < 6) (h : SR R 3 u n) (hg : ∀ i, i < n → mI R r i = f i) (hf : wfr n f) : SR (storeM R r t n) 3 (anU (lyF u t f n) t (nI n)) n := by
  unfold storeM noteM
  exact SR_an ht (SR_175 (by omega) (SR_row ht h (fun i hi => by rw [wr_lt hi]; exact hg i hi) hf))
end
