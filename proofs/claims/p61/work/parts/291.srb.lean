/-! the state, changed: beside its numbers -/
theorem fsu_at {u : Nat → Int64} {i j : Nat} {x : Int64} : fun_set u i x j = if j = i then x else u j := rfl
def lyF (u : Nat → Int64) (t : Nat) (f : Nat → Int32) (k : Nat) : Nat → Int64 := fun i => if 28 + 32 * t ≤ i ∧ i < 28 + 32 * t + k then uL (f (i - (28 + 32 * t))) else u i
def clF (u : Nat → Int64) (k : Nat) : Nat → Int64 := fun i => if i < k then 0 else u i
def bgF (u : Nat → Int64) (n : Nat) : Nat → Int64 := fun_set (fun_set (clF u 220) 0 (lN n)) 1 4
section
variable {M R : Mem} {n : Nat} {u : Nat → Int64}
theorem b1L_1 (k : Bool) : b1L k = 1 ↔ k = true := by
  cases k
  · exact ⟨fun h => absurd h (by decide), fun h => by cases h⟩
  · exact ⟨fun _ => rfl, fun _ => rfl⟩
theorem b1_0k (k : Bool) : b1 k = 0 ↔ k = false := by
  cases k
  · exact ⟨fun _ => rfl, fun _ => rfl⟩
  · exact ⟨fun h => absurd h (by decide), fun h => by cases h⟩
theorem i64_32 (x : Int32) : x.toInt64.toInt32 = x := Int32.toInt32_toInt64 x
theorem SS_lk {s : Nat} {x : Int32} (h : SS M 3 u n s) : SS (mxLook M (5 + 2 * s) x) 3 (lkU u s x) n s := by
  obtain ⟨⟨k, a1, a2⟩, a3, a4, a5, a6, a7⟩ := h
  rw [show 3 + 2 + 2 * s = 5 + 2 * s by omega] at a1 a3 a4 a5
  unfold SS mxLook lkU
  rw [show 3 + 2 + 2 * s = 5 + 2 * s by omega, a1, a2]
  cases k
  · rw [if_pos ((b1_0k false).mpr rfl), if_neg (fun h => by cases (b1L_1 false).mp h)]
    exact ⟨⟨false, a1, a2⟩, a3, a4, a5, a6, a7⟩
  · rw [if_neg (fun h => by cases (b1_0k true).mp h), if_pos ((b1L_1 true).mpr rfl)]
    have e3 : 3 + 3 + 2 * s ≠ 5 + 2 * s := by omega
    refine ⟨⟨true, ?_, ?_⟩, ?_, ?_, ?_, fun r hr => ?_, fun r hr c hc => ?_⟩
    · rw [pI_at, if_neg (fun h => absurd h.2 (by decide)), pI_at, if_neg (fun h => absurd h.2 (by decide))]
      exact a1
    · rw [fsu_at, if_neg (by omega), fsu_at, if_neg (by omega)]
      exact a2
    · rw [pI_at, if_neg (fun h => absurd h.2 (by decide)), pI_at, if_pos ⟨rfl, rfl⟩, fsu_at, if_neg (by omega), fsu_at, if_pos rfl, i64_32]
    · rw [pI_at, if_pos ⟨rfl, rfl⟩, pI_at, if_neg (fun h => absurd h.2 (by decide)), fsu_at, if_pos rfl, a4, Int64.toInt32_add, i64_32]
    · rw [pI_at, if_neg (fun h => absurd h.2 (by decide)), pI_at, if_neg (fun h => absurd h.2 (by decide)), fsu_at, if_neg (by omega), fsu_at, if_neg (by omega)]
      exact a5
    · rw [pI_at, if_neg (fun h => e3 h.1), pI_at, if_neg (fun h => e3 h.1), fsu_at, if_neg (by omega), fsu_at, if_neg (by omega)]
      exact a6 r hr
    · rw [pI_at, if_neg (fun h => e3 h.1), pI_at, if_neg (fun h => e3 h.1)]
      exact a7 r hr c hc
theorem SR_lk {s : Nat} {x : Int32} (hs : s < 6) (h : SR M 3 u n) : SR (mxLook M (5 + 2 * s) x) 3 (lkU u s x) n := by
  obtain ⟨⟨a1, a2, a3, a4⟩, ⟨bl, b1', b2, b3, b4⟩, ⟨y, y1, y2⟩, ⟨z, z1, z2⟩, hS⟩ := h
  have e : mI (mxLook M (5 + 2 * s) x) 3 = mI M 3 := mxLook_ne (by omega)
  have g : ∀ j, j < 4 → lkU u s x j = u j := fun j hj => lkU_ne (by omega) (by omega)
  refine ⟨⟨a1, a2, by rw [e]; exact a3, by rw [g 0 (by decide)]; exact a4⟩, ⟨bl, b1', b2, by rw [e]; exact b3, by rw [g 1 (by decide)]; exact b4⟩, ⟨y, by rw [e]; exact y1, by rw [g 2 (by decide)]; exact y2⟩, ⟨z, by rw [e]; exact z1, by rw [g 3 (by decide)]; exact z2⟩, fun t ht => ?_⟩
  by_cases q : t = s
  · subst q
    exact SS_lk (hS t ht)
  · exact SS_cg (hS t ht) (fun j _ _ => by rw [mxLook_ne (by omega)]) (fun r _ => by rw [mxLook_ne (by omega)]) ⟨lkU_ne (by omega) (by omega), lkU_ne (by omega) (by omega), lkU_ne (by omega) (by omega), lkU_ne (by omega) (by omega)⟩ (fun r _ => lkU_ne (by omega) (by omega))
theorem SR_an {s : Nat} {x : Int32} (hs : s < 6) (h : SR M 3 u n) : SR (mxAnew M (5 + 2 * s) x) 3 (anU u s x) n := by
  have h1 := SR_lk (x := x) hs h
  obtain ⟨⟨k, k1, k2⟩, c3, c4, c5, c6, c7⟩ := h.2.2.2.2 s hs
  rw [show 3 + 2 + 2 * s = 5 + 2 * s by omega] at k1
  have hm : ∀ i j, mI (mxAnew M (5 + 2 * s) x) i j = if i = 5 + 2 * s ∧ j = 4 ∧ k = true then mI (mxLook M (5 + 2 * s) x) (5 + 2 * s) 4 + 1 else mI (mxLook M (5 + 2 * s) x) i j := fun i j => by
    unfold mxAnew
    rw [k1]
    cases k
    · rw [if_pos ((b1_0k false).mpr rfl), if_neg (fun h => by cases h.2.2)]
      unfold mxLook
      rw [k1, if_pos ((b1_0k false).mpr rfl)]
    · rw [if_neg (fun h => by cases (b1_0k true).mp h), pI_at]
      by_cases q : i = 5 + 2 * s ∧ j = 4
      · rw [if_pos q, if_pos ⟨q.1, q.2, rfl⟩]
      · rw [if_neg q, if_neg (fun h => q ⟨h.1, h.2.1⟩)]
  have hu : ∀ j, anU u s x j = if j = 22 + s then lkU u s x (22 + s) + b1L k else lkU u s x j := fun j => by
    unfold anU
    rw [fsu_at, k2]
  obtain ⟨⟨a1, a2, a3, a4⟩, ⟨bl, b1', b2, b3, b4⟩, ⟨y, y1, y2⟩, ⟨z, z1, z2⟩, hS⟩ := h1
  have e : ∀ j, mI (mxAnew M (5 + 2 * s) x) 3 j = mI (mxLook M (5 + 2 * s) x) 3 j := fun j => by rw [hm, if_neg (fun h => by omega)]
  have g : ∀ j, j ≠ 22 + s → anU u s x j = lkU u s x j := fun j hj => by rw [hu, if_neg hj]
  refine ⟨⟨a1, a2, by rw [e]; exact a3, by rw [g 0 (by omega)]; exact a4⟩, ⟨bl, b1', b2, by rw [e]; exact b3, by rw [g 1 (by omega)]; exact b4⟩, ⟨y, by rw [e]; exact y1, by rw [g 2 (by omega)]; exact y2⟩, ⟨z, by rw [e]; exact z1, by rw [g 3 (by omega)]; exact z2⟩, fun t ht => ?_⟩
  by_cases q : t = s
  · subst q
    obtain ⟨⟨k', f1, f2⟩, f3, f4, f5, f6, f7⟩ := hS t ht
    rw [show 3 + 2 + 2 * t = 5 + 2 * t by omega] at f1 f3 f4 f5
    unfold SS
    rw [show 3 + 2 + 2 * t = 5 + 2 * t by omega]
    refine ⟨⟨k', by rw [hm, if_neg (fun h => by omega)]; exact f1, by rw [g _ (by omega)]; exact f2⟩, by rw [hm, if_neg (fun h => by omega), g _ (by omega)]; exact f3, by rw [hm, if_neg (fun h => by omega), g _ (by omega)]; exact f4, ?_, fun r hr => by rw [g _ (by omega), hm, if_neg (fun h => by omega)]; exact f6 r hr, fun r hr c hc => by rw [hm, if_neg (fun h => by omega)]; exact f7 r hr c hc⟩
    rw [hm, hu, if_pos rfl, f5]
    cases k
    · rw [if_neg (fun h => by cases h.2.2)]
      show (lkU u t x (22 + t)).toInt32 = (lkU u t x (22 + t) + 0).toInt32
      rw [Int64.add_zero]
    · rw [if_pos ⟨rfl, rfl, rfl⟩]
      show (lkU u t x (22 + t)).toInt32 + 1 = (lkU u t x (22 + t) + 1).toInt32
      rw [Int64.toInt32_add]
      rfl
  · exact SS_cg (hS t ht) (fun j _ _ => by rw [hm, if_neg (fun h => by omega)]) (fun r _ => by rw [hm, if_neg (fun h => by omega)]) ⟨g _ (by omega), g _ (by omega), g _ (by omega), g _ (by omega)⟩ (fun r _ => g _ (by omega))
theorem ly_at {t k i : Nat} {f : Nat → Int32} : lyF u t f k i = if 28 + 32 * t ≤ i ∧ i < 28 + 32 * t + k then uL (f (i - (28 + 32 * t))) else u i := rfl
theorem SR_row {t : Nat} {f g : Nat → Int32} (ht : t < 6) (h : SR M 3 u n) (hg : ∀ r, r < n → g r = f r) (hf : wfr n f) : SR (sI M (6 + 2 * t) g) 3 (lyF u t f n) n := by
  obtain ⟨⟨a1, a2, a3, a4⟩, ⟨bl, b1', b2, b3, b4⟩, ⟨y, y1, y2⟩, ⟨z, z1, z2⟩, hS⟩ := h
  have e : ∀ i, i ≠ 6 + 2 * t → mI (sI M (6 + 2 * t) g) i = mI M i := fun i hi => sI_ne hi
  have gu : ∀ j, j < 28 → lyF u t f n j = u j := fun j hj => by rw [ly_at, if_neg (fun h => by omega)]
  refine ⟨⟨a1, a2, by rw [e 3 (by omega)]; exact a3, by rw [gu 0 (by decide)]; exact a4⟩, ⟨bl, b1', b2, by rw [e 3 (by omega)]; exact b3, by rw [gu 1 (by decide)]; exact b4⟩, ⟨y, by rw [e 3 (by omega)]; exact y1, by rw [gu 2 (by decide)]; exact y2⟩, ⟨z, by rw [e 3 (by omega)]; exact z1, by rw [gu 3 (by decide)]; exact z2⟩, fun s hs => ?_⟩
  by_cases q : s = t
  · subst q
    obtain ⟨⟨k', f1, f2⟩, f3, f4, f5, f6, f7⟩ := hS s ht
    have e2 := e (3 + 2 + 2 * s) (by omega)
    have e3 : mI (sI M (6 + 2 * s) g) (3 + 3 + 2 * s) = g := by rw [show 3 + 3 + 2 * s = 6 + 2 * s by omega, sI_self]
    refine ⟨⟨k', by rw [e2]; exact f1, by rw [gu _ (by omega)]; exact f2⟩, by rw [e2, gu _ (by omega)]; exact f3, by rw [e2, gu _ (by omega)]; exact f4, by rw [e2, gu _ (by omega)]; exact f5, fun r hr => ?_, fun r hr c hc => ?_⟩
    · rw [e3, ly_at, if_pos ⟨by omega, by omega⟩, hg r hr, show 28 + 32 * s + r - (28 + 32 * s) = r by omega]
    · rw [e3, hg r hr]
      exact hf r hr c hc
  · exact SS_cg (hS s hs) (fun j _ _ => by rw [e _ (by omega)]) (fun r _ => by rw [e _ (by omega)]) ⟨gu _ (by omega), gu _ (by omega), gu _ (by omega), gu _ (by omega)⟩ (fun r hr => by rw [ly_at, if_neg (fun h => by omega)])
theorem SR_175 {i j : Nat} {x : Int32} (hi : 17 ≤ i) (h : SR M 3 u n) : SR (pI M i j x) 3 u n := SR_cg h (fun k _ hk => sI_ne (by omega)) (fun _ _ => rfl)
theorem SR_store {r t : Nat} {f : Nat → Int32} (ht : t < 6) (h : SR R 3 u n) (hg : ∀ i, i < n → mI R r i = f i) (hf : wfr n f) : SR (storeM R r t n) 3 (anU (lyF u t f n) t (nI n)) n := by
  unfold storeM noteM
  exact SR_an ht (SR_175 (by omega) (SR_row ht h (fun i hi => by rw [wr_lt hi]; exact hg i hi) hf))
end

/-! what is described, on both sides -/
section
variable {M X : Mem} {b n : Nat} {u : Nat → Int64}
theorem SR_rowb {t : Nat} {f g : Nat → Int32} (ht : t < 6) (h : SR M b u n) (hg : ∀ r, r < n → g r = f r) (hf : wfr n f) : SR (sI M (b + 3 + 2 * t) g) b (lyF u t f n) n := by
  obtain ⟨⟨a1, a2, a3, a4⟩, ⟨bl, b1', b2, b3, b4⟩, ⟨y, y1, y2⟩, ⟨z, z1, z2⟩, hS⟩ := h
  have e : ∀ i, i ≠ b + 3 + 2 * t → mI (sI M (b + 3 + 2 * t) g) i = mI M i := fun i hi => sI_ne hi
  have gu : ∀ j, j < 28 → lyF u t f n j = u j := fun j hj => by rw [ly_at, if_neg (fun h => by omega)]
  refine ⟨⟨a1, a2, by rw [e b (by omega)]; exact a3, by rw [gu 0 (by decide)]; exact a4⟩, ⟨bl, b1', b2, by rw [e b (by omega)]; exact b3, by rw [gu 1 (by decide)]; exact b4⟩, ⟨y, by rw [e b (by omega)]; exact y1, by rw [gu 2 (by decide)]; exact y2⟩, ⟨z, by rw [e b (by omega)]; exact z1, by rw [gu 3 (by decide)]; exact z2⟩, fun s hs => ?_⟩
  by_cases q : s = t
  · subst q
    obtain ⟨⟨k', f1, f2⟩, f3, f4, f5, f6, f7⟩ := hS s ht
    have e2 := e (b + 2 + 2 * s) (by omega)
    have e3 : mI (sI M (b + 3 + 2 * s) g) (b + 3 + 2 * s) = g := by rw [sI_self]
    refine ⟨⟨k', by rw [e2]; exact f1, by rw [gu _ (by omega)]; exact f2⟩, by rw [e2, gu _ (by omega)]; exact f3, by rw [e2, gu _ (by omega)]; exact f4, by rw [e2, gu _ (by omega)]; exact f5, fun r hr => ?_, fun r hr c hc => ?_⟩
    · rw [e3, ly_at, if_pos ⟨by omega, by omega⟩, hg r hr, show 28 + 32 * s + r - (28 + 32 * s) = r by omega]
    · rw [e3, hg r hr]
      exact hf r hr c hc
  · exact SS_cg (hS s hs) (fun j _ _ => by rw [e _ (by omega)]) (fun r _ => by rw [e _ (by omega)]) ⟨gu _ (by omega), gu _ (by omega), gu _ (by omega), gu _ (by omega)⟩ (fun r hr => by rw [ly_at, if_neg (fun h => by omega)])
theorem SR_setb {s r : Nat} {y : Int32} (hs : s < 6) (hr : r < n) (hn : n ≤ 32) (h : SR X b u n) (hy : ∀ c, n ≤ c → hb y c = false) : SR (sI X (b + 3 + 2 * s) (fun_set (mI X (b + 3 + 2 * s)) r y)) b (fun_set u (28 + 32 * s + r) (uL y)) n := by
  obtain ⟨-, -, -, -, c6, c7⟩ := h.2.2.2.2 s hs
  have hw : wfr n (fun_set (mI X (b + 3 + 2 * s)) r y) := fun x hx c hc => by
    unfold fun_set
    split
    · exact hy c hc
    · exact c7 x hx c hc
  refine SR_cg (SR_rowb hs h (fun _ _ => rfl) hw) (fun _ _ _ => rfl) (fun i hi => ?_)
  rw [fsu_at, ly_at]
  by_cases e : 28 + 32 * s ≤ i ∧ i < 28 + 32 * s + n
  · rw [if_pos e]
    by_cases e2 : i = 28 + 32 * s + r
    · rw [if_pos e2, e2, show 28 + 32 * s + r - (28 + 32 * s) = r by omega, fs_self]
    · rw [if_neg e2, fs_ne _ _ (by omega)]
      have := c6 (i - (28 + 32 * s)) (by omega)
      rw [show 28 + 32 * s + (i - (28 + 32 * s)) = i by omega] at this
      exact this
  · rw [if_neg e, if_neg (by omega)]
theorem SR_kpb {s : Nat} {k : Bool} (hs : s < 6) (h : SR X b u n) : SR (pI X (b + 2 + 2 * s) 1 (b1 k)) b (fun_set u (4 + s) (b1L k)) n := by
  obtain ⟨⟨a1, a2, a3, a4⟩, ⟨bl, b1', b2, b3, b4⟩, ⟨y, y1, y2⟩, ⟨z, z1, z2⟩, hS⟩ := h
  have e : ∀ i, i ≠ b + 2 + 2 * s → mI (pI X (b + 2 + 2 * s) 1 (b1 k)) i = mI X i := fun i hi => sI_ne hi
  have g : ∀ j, j ≠ 4 + s → fun_set u (4 + s) (b1L k) j = u j := fun j hj => fs_ne _ _ hj
  refine ⟨⟨a1, a2, by rw [e b (by omega)]; exact a3, by rw [g 0 (by omega)]; exact a4⟩, ⟨bl, b1', b2, by rw [e b (by omega)]; exact b3, by rw [g 1 (by omega)]; exact b4⟩, ⟨y, by rw [e b (by omega)]; exact y1, by rw [g 2 (by omega)]; exact y2⟩, ⟨z, by rw [e b (by omega)]; exact z1, by rw [g 3 (by omega)]; exact z2⟩, fun t ht => ?_⟩
  by_cases q : t = s
  · subst q
    obtain ⟨-, c3, c4, c5, c6, c7⟩ := hS t ht
    refine ⟨⟨k, by rw [pI_at, if_pos ⟨rfl, rfl⟩], by rw [fs_self]⟩, ?_, ?_, ?_, fun r hr => ?_, fun r hr c hc => ?_⟩
    · rw [pI_at, if_neg (by omega), g _ (by omega)]
      exact c3
    · rw [pI_at, if_neg (by omega), g _ (by omega)]
      exact c4
    · rw [pI_at, if_neg (by omega), g _ (by omega)]
      exact c5
    · rw [g _ (by omega), e _ (by omega)]
      exact c6 r hr
    · rw [e _ (by omega)]
      exact c7 r hr c hc
  · exact SS_cg (hS t ht) (fun j _ _ => by rw [e _ (by omega)]) (fun r _ => by rw [e _ (by omega)]) ⟨g _ (by omega), g _ (by omega), g _ (by omega), g _ (by omega)⟩ (fun r _ => g _ (by omega))
theorem SR_blb {m : Nat} (h1 : 1 ≤ m) (h8 : m ≤ 8) (h : SR X b u n) : SR (pI X b 2 (nI m)) b (fun_set u 1 (lN m)) n := by
  obtain ⟨⟨a1, a2, a3, a4⟩, -, ⟨y, y1, y2⟩, ⟨z, z1, z2⟩, hSS⟩ := h
  have g : ∀ j, j ≠ 1 → fun_set u 1 (lN m) j = u j := fun j hj => fs_ne _ _ hj
  have e : ∀ i, i ≠ b → mI (pI X b 2 (nI m)) i = mI X i := fun i hi => sI_ne hi
  have e3 : ∀ j, j ≠ 2 → mI (pI X b 2 (nI m)) b j = mI X b j := fun j hj => pI_k hj
  refine ⟨⟨a1, a2, by rw [e3 1 (by decide)]; exact a3, by rw [g 0 (by decide)]; exact a4⟩, ⟨m, h1, h8, by rw [pI_at9], by rw [fs_self]⟩, ⟨y, by rw [e3 3 (by decide)]; exact y1, by rw [g 2 (by decide)]; exact y2⟩, ⟨z, by rw [e3 4 (by decide)]; exact z1, by rw [g 3 (by decide)]; exact z2⟩, fun t ht => ?_⟩
  exact SS_cg (hSS t ht) (fun j _ _ => by rw [e _ (by omega)]) (fun r _ => by rw [e _ (by omega)]) ⟨g _ (by omega), g _ (by omega), g _ (by omega), g _ (by omega)⟩ (fun r _ => g _ (by omega))
end
/-! statements of both readers -/
section
variable {M : Mem} {s t : RP} {T : Nat → Int32} {len n : Nat} {u : Nat → Int64}
theorem ed_D {a r c : Nat} (ha : a < 6) (hr : r < n) (hc : c < n) (hn : n ≤ 32) (hs0 : SR M 17 u n) : SR (sI M (20 + 2 * a) (fun_set (mI M (20 + 2 * a)) r (mI M (20 + 2 * a) r ||| bitI c))) 17 (fun_set u (28 + 32 * a + r) (u (28 + 32 * a + r) ||| uL (bitI c))) n := by
  obtain ⟨-, -, -, -, c6, c7⟩ := hs0.2.2.2.2 a ha
  rw [c6 r hr, uL_or]
  rw [show 17 + 3 + 2 * a = 20 + 2 * a by omega] at c7 ⊢
  have h9 := SR_setb (r := r) (y := mI M (20 + 2 * a) r ||| bitI c) ha hr hn hs0 (fun i hi => by
    rw [hb_or, c7 r hr i hi, hb_bitI (by omega), decide_eq_false (by omega)]
    rfl)
  rw [show 17 + 3 + 2 * a = 20 + 2 * a by omega] at h9
  exact h9
end

/-! a text read on both sides -/
section
variable {M N X R : Mem} {b n p c len : Nat} {u : Nat → Int64} {T : Nat → Int32} {s t : RP}
theorem SS_lkb {s : Nat} {x : Int32} (h : SS M b u n s) : SS (mxLook M (b + 2 + 2 * s) x) b (lkU u s x) n s := by
  obtain ⟨⟨k, a1, a2⟩, a3, a4, a5, a6, a7⟩ := h
  unfold SS mxLook lkU
  rw [a1, a2]
  cases k
  · rw [if_pos ((b1_0k false).mpr rfl), if_neg (fun h => by cases (b1L_1 false).mp h)]
    exact ⟨⟨false, a1, a2⟩, a3, a4, a5, a6, a7⟩
  · rw [if_neg (fun h => by cases (b1_0k true).mp h), if_pos ((b1L_1 true).mpr rfl)]
    have e3 : b + 3 + 2 * s ≠ b + 2 + 2 * s := by omega
    refine ⟨⟨true, ?_, ?_⟩, ?_, ?_, ?_, fun r hr => ?_, fun r hr c hc => ?_⟩
    · rw [pI_at, if_neg (fun h => absurd h.2 (by decide)), pI_at, if_neg (fun h => absurd h.2 (by decide))]
      exact a1
    · rw [fsu_at, if_neg (by omega), fsu_at, if_neg (by omega)]
      exact a2
    · rw [pI_at, if_neg (fun h => absurd h.2 (by decide)), pI_at, if_pos ⟨rfl, rfl⟩, fsu_at, if_neg (by omega), fsu_at, if_pos rfl, i64_32]
    · rw [pI_at, if_pos ⟨rfl, rfl⟩, pI_at, if_neg (fun h => absurd h.2 (by decide)), fsu_at, if_pos rfl, a4, Int64.toInt32_add, i64_32]
    · rw [pI_at, if_neg (fun h => absurd h.2 (by decide)), pI_at, if_neg (fun h => absurd h.2 (by decide)), fsu_at, if_neg (by omega), fsu_at, if_neg (by omega)]
      exact a5
    · rw [pI_at, if_neg (fun h => e3 h.1), pI_at, if_neg (fun h => e3 h.1), fsu_at, if_neg (by omega), fsu_at, if_neg (by omega)]
      exact a6 r hr
    · rw [pI_at, if_neg (fun h => e3 h.1), pI_at, if_neg (fun h => e3 h.1)]
      exact a7 r hr c hc
theorem SR_lkb {s : Nat} {x : Int32} (hs : s < 6) (h : SR M b u n) : SR (mxLook M (b + 2 + 2 * s) x) b (lkU u s x) n := by
  obtain ⟨⟨a1, a2, a3, a4⟩, ⟨bl, b1', b2, b3, b4⟩, ⟨y, y1, y2⟩, ⟨z, z1, z2⟩, hS⟩ := h
  have e : mI (mxLook M (b + 2 + 2 * s) x) b = mI M b := mxLook_ne (by omega)
  have g : ∀ j, j < 4 → lkU u s x j = u j := fun j hj => lkU_ne (by omega) (by omega)
  refine ⟨⟨a1, a2, by rw [e]; exact a3, by rw [g 0 (by decide)]; exact a4⟩, ⟨bl, b1', b2, by rw [e]; exact b3, by rw [g 1 (by decide)]; exact b4⟩, ⟨y, by rw [e]; exact y1, by rw [g 2 (by decide)]; exact y2⟩, ⟨z, by rw [e]; exact z1, by rw [g 3 (by decide)]; exact z2⟩, fun t ht => ?_⟩
  by_cases q : t = s
  · subst q
    exact SS_lkb (hS t ht)
  · exact SS_cg (hS t ht) (fun j _ _ => by rw [mxLook_ne (by omega)]) (fun r _ => by rw [mxLook_ne (by omega)]) ⟨lkU_ne (by omega) (by omega), lkU_ne (by omega) (by omega), lkU_ne (by omega) (by omega), lkU_ne (by omega) (by omega)⟩ (fun r _ => lkU_ne (by omega) (by omega))
theorem SR_anb {s : Nat} {x : Int32} (hs : s < 6) (h : SR M b u n) : SR (mxAnew M (b + 2 + 2 * s) x) b (anU u s x) n := by
  have h1 := SR_lkb (x := x) hs h
  obtain ⟨⟨k, k1, k2⟩, c3, c4, c5, c6, c7⟩ := h.2.2.2.2 s hs
  have hm : ∀ i j, mI (mxAnew M (b + 2 + 2 * s) x) i j = if i = b + 2 + 2 * s ∧ j = 4 ∧ k = true then mI (mxLook M (b + 2 + 2 * s) x) (b + 2 + 2 * s) 4 + 1 else mI (mxLook M (b + 2 + 2 * s) x) i j := fun i j => by
    unfold mxAnew
    rw [k1]
    cases k
    · rw [if_pos ((b1_0k false).mpr rfl), if_neg (fun h => by cases h.2.2)]
      unfold mxLook
      rw [k1, if_pos ((b1_0k false).mpr rfl)]
    · rw [if_neg (fun h => by cases (b1_0k true).mp h), pI_at]
      by_cases q : i = b + 2 + 2 * s ∧ j = 4
      · rw [if_pos q, if_pos ⟨q.1, q.2, rfl⟩]
      · rw [if_neg q, if_neg (fun h => q ⟨h.1, h.2.1⟩)]
  have hu : ∀ j, anU u s x j = if j = 22 + s then lkU u s x (22 + s) + b1L k else lkU u s x j := fun j => by
    unfold anU
    rw [fsu_at, k2]
  obtain ⟨⟨a1, a2, a3, a4⟩, ⟨bl, b1', b2, b3, b4⟩, ⟨y, y1, y2⟩, ⟨z, z1, z2⟩, hS⟩ := h1
  have e : ∀ j, mI (mxAnew M (b + 2 + 2 * s) x) b j = mI (mxLook M (b + 2 + 2 * s) x) b j := fun j => by rw [hm, if_neg (fun h => by omega)]
  have g : ∀ j, j ≠ 22 + s → anU u s x j = lkU u s x j := fun j hj => by rw [hu, if_neg hj]
  refine ⟨⟨a1, a2, by rw [e]; exact a3, by rw [g 0 (by omega)]; exact a4⟩, ⟨bl, b1', b2, by rw [e]; exact b3, by rw [g 1 (by omega)]; exact b4⟩, ⟨y, by rw [e]; exact y1, by rw [g 2 (by omega)]; exact y2⟩, ⟨z, by rw [e]; exact z1, by rw [g 3 (by omega)]; exact z2⟩, fun t ht => ?_⟩
  by_cases q : t = s
  · subst q
    obtain ⟨⟨k', f1, f2⟩, f3, f4, f5, f6, f7⟩ := hS t ht
    refine ⟨⟨k', by rw [hm, if_neg (fun h => by omega)]; exact f1, by rw [g _ (by omega)]; exact f2⟩, by rw [hm, if_neg (fun h => by omega), g _ (by omega)]; exact f3, by rw [hm, if_neg (fun h => by omega), g _ (by omega)]; exact f4, ?_, fun r hr => by rw [g _ (by omega), hm, if_neg (fun h => by omega)]; exact f6 r hr, fun r hr c hc => by rw [hm, if_neg (fun h => by omega)]; exact f7 r hr c hc⟩
    rw [hm, hu, if_pos rfl, f5]
    cases k
    · rw [if_neg (fun h => by cases h.2.2)]
      show (lkU u t x (22 + t)).toInt32 = (lkU u t x (22 + t) + 0).toInt32
      rw [Int64.add_zero]
    · rw [if_pos ⟨rfl, rfl, rfl⟩]
      show (lkU u t x (22 + t)).toInt32 + 1 = (lkU u t x (22 + t) + 1).toInt32
      rw [Int64.toInt32_add]
      rfl
  · exact SS_cg (hS t ht) (fun j _ _ => by rw [hm, if_neg (fun h => by omega)]) (fun r _ => by rw [hm, if_neg (fun h => by omega)]) ⟨g _ (by omega), g _ (by omega), g _ (by omega), g _ (by omega)⟩ (fun r _ => g _ (by omega))
/-- an empty description -/
theorem mxE_at {m i j : Nat} : mI (mxEmpty M m) i j = if i = m ∧ 1 ≤ j ∧ j ≤ 4 then 0 else if i = m + 1 ∧ j < 32 then 0 else mI M i j := by
  unfold mxEmpty
  rw [pI_at, pI_at, pI_at, pI_at]
  by_cases e : i = m
  · subst e
    by_cases q : 1 ≤ j ∧ j ≤ 4
    · rw [if_pos (show i = i ∧ 1 ≤ j ∧ j ≤ 4 from ⟨rfl, q⟩)]
      have : j = 1 ∨ j = 2 ∨ j = 3 ∨ j = 4 := by omega
      rcases this with rfl | rfl | rfl | rfl
      · rw [if_neg (fun h => by omega), if_neg (fun h => by omega), if_neg (fun h => by omega), if_pos ⟨rfl, rfl⟩]
      · rw [if_neg (fun h => by omega), if_neg (fun h => by omega), if_pos ⟨rfl, rfl⟩]
      · rw [if_neg (fun h => by omega), if_pos ⟨rfl, rfl⟩]
      · rw [if_pos ⟨rfl, rfl⟩]
    · rw [if_neg (fun h => by omega), if_neg (fun h => by omega), if_neg (fun h => by omega), if_neg (fun h => by omega), if_neg (fun h => q h.2), if_neg (fun h => by omega)]
      exact congrFun (sI_ne (by omega)) j
  · rw [if_neg (fun h => e h.1), if_neg (fun h => e h.1), if_neg (fun h => e h.1), if_neg (fun h => e h.1), if_neg (fun h => e h.1)]
    by_cases e2 : i = m + 1
    · subst e2
      rw [sI_self]
      unfold wr
      by_cases q : j < 32
      · rw [if_pos q, if_pos ⟨rfl, q⟩]
      · rw [if_neg q, if_neg (fun h => q h.2)]
    · rw [if_neg (fun h => e2 h.1)]
      exact congrFun (sI_ne (by omega)) j
theorem stE_at : ∀ k, k ≤ 6 → ∀ s, s < k → (∀ j, 1 ≤ j → j ≤ 4 → mI (stEmptyL M b k) (b + 2 + 2 * s) j = 0) ∧ (∀ r, r < 32 → mI (stEmptyL M b k) (b + 3 + 2 * s) r = 0)
  | 0, _, s, hs => absurd hs (Nat.not_lt_zero _)
  | k + 1, hk, s, hs => by
    rw [stEmptyL.eq_2]
    by_cases e : s = k
    · subst e
      constructor
      · intro j h1 h2
        rw [mxE_at, if_pos ⟨rfl, h1, h2⟩]
      · intro r hr
        rw [mxE_at, if_neg (fun h => by omega), if_pos ⟨by omega, hr⟩]
    · obtain ⟨g1, g2⟩ := stE_at k (by omega) s (by omega)
      constructor
      · intro j h1 h2
        rw [mxE_at, if_neg (fun h => by omega), if_neg (fun h => by omega)]
        exact g1 j h1 h2
      · intro r hr
        rw [mxE_at, if_neg (fun h => by omega), if_neg (fun h => by omega)]
        exact g2 r hr
theorem bg_at {i : Nat} (hi : i < 220) : bgF u n i = if i = 1 then 4 else if i = 0 then lN n else 0 := by
  unfold bgF
  rw [fsu_at, fsu_at]
  unfold clF
  rw [if_pos hi]
theorem SR_emp (hn1 : 1 ≤ n) (hn : n ≤ 32) : SR (stEmpty M b (nI n)) b (bgF u n) n := by
  have h := stE_at (M := M) (b := b) 6 (Nat.le_refl 6)
  unfold stEmpty
  generalize stEmptyL M b 6 = M6 at h ⊢
  refine ⟨⟨hn1, hn, ?_, by rw [bg_at (by decide), if_neg (by decide), if_pos rfl]⟩, ⟨4, by decide, by decide, ?_, by rw [bg_at (by decide), if_pos rfl]; rfl⟩, ⟨0, ?_, by rw [bg_at (by decide), if_neg (by decide), if_neg (by decide)]; rfl⟩, ⟨0, ?_, by rw [bg_at (by decide), if_neg (by decide), if_neg (by decide)]; rfl⟩, fun s hs => ?_⟩
  · rw [pI_k (by decide), pI_k (by decide), pI_k (by decide), pI_at9]
  · rw [pI_k (by decide), pI_k (by decide), pI_at9]
    rfl
  · rw [pI_k (by decide), pI_at9]
    rfl
  · rw [pI_at9]
    rfl
  · obtain ⟨g1, g2⟩ := h s hs
    have e : ∀ i, i ≠ b → mI (pI (pI (pI (pI M6 b 1 (nI n)) b 2 4) b 3 0) b 4 0) i = mI M6 i := fun i hi => by rw [sI_ne hi, sI_ne hi, sI_ne hi, sI_ne hi]
    have z : ∀ i, 2 ≤ i → i < 220 → bgF u n i = 0 := fun i h1 h2 => by rw [bg_at h2, if_neg (by omega), if_neg (by omega)]
    refine ⟨⟨false, by rw [e _ (by omega), g1 1 (by decide) (by decide)]; rfl, by rw [z _ (by omega) (by omega)]; rfl⟩, by rw [e _ (by omega), g1 2 (by decide) (by decide), z _ (by omega) (by omega)]; rfl, by rw [e _ (by omega), g1 3 (by decide) (by decide), z _ (by omega) (by omega)]; rfl, by rw [e _ (by omega), g1 4 (by decide) (by decide), z _ (by omega) (by omega)]; rfl, fun r hr => by rw [e _ (by omega), g2 r (by omega), z _ (by omega) (by omega), uL_0], fun r hr c hc => by rw [e _ (by omega), g2 r (by omega), hb_0]⟩
end
