/-! a text read on both sides -/
section
variable {M N X R : Mem} {b n p c len : Nat} {u : Nat → Int64} {T : Nat → Int32} {s t : RP}
theorem SS_lkb {s : Nat} {x : Int32} (h : SS M b u n s) : SS (mxLook M (b + 2 + 2 * s) x) b (lkU u s x) n s := by
  obtain ⟨⟨k, a1, a2⟩, a3, a4, a5, a6, a7⟩ := h
  unfold SS mxLook lkU
  rw [a1, a2]
  cases k
  · rw [if_pos ((b1_0k false).mpr rfl), if_neg (fun h => by cases (b1L_1 false).mp h)]
    exact ⟨⟨false, a1, a2⟩, a3, a4, a5, a6, a7⟩
  · rw [if_neg (fun h => by cases (b1_0k true).mp h), if_pos ((b1L_1 true).mpr rfl)]
    have e3 : b + 3 + 2 * s ≠ b + 2 + 2 * s := by omega
    refine ⟨⟨true, ?_, ?_⟩, ?_, ?_, ?_, fun r hr => ?_, fun r hr c hc => ?_⟩
    · rw [pI_at, if_neg (fun h => absurd h.2 (by decide)), pI_at, if_neg (fun h => absurd h.2 (by decide))]
      exact a1
    · rw [fsu_at, if_neg (by omega), fsu_at, if_neg (by omega)]
      exact a2
    · rw [pI_at, if_neg (fun h => absurd h.2 (by decide)), pI_at, if_pos ⟨rfl, rfl⟩, fsu_at, if_neg (by omega), fsu_at, if_pos rfl, i64_32]
    · rw [pI_at, if_pos ⟨rfl, rfl⟩, pI_at, if_neg (fun h => absurd h.2 (by decide)), fsu_at, if_pos rfl, a4, Int64.toInt32_add, i64_32]
    · rw [pI_at, if_neg (fun h => absurd h.2 (by decide)), pI_at, if_neg (fun h => absurd h.2 (by decide)), fsu_at, if_neg (by omega), fsu_at, if_neg (by omega)]
      exact a5
    · rw [pI_at, if_neg (fun h => e3 h.1), pI_at, if_neg (fun h => e3 h.1), fsu_at, if_neg (by omega), fsu_at, if_neg (by omega)]
      exact a6 r hr
    · rw [pI_at, if_neg (fun h => e3 h.1), pI_at, if_neg (fun h => e3 h.1)]
      exact a7 r hr c hc
theorem SR_lkb {s : Nat} {x : Int32} (hs : s < 6) (h : SR M b u n) : SR (mxLook M (b + 2 + 2 * s) x) b (lkU u s x) n := by
  obtain ⟨⟨a1, a2, a3, a4⟩, ⟨bl, b1', b2, b3, b4⟩, ⟨y, y1, y2⟩, ⟨z, z1, z2⟩, hS⟩ := h
  have e : mI (mxLook M (b + 2 + 2 * s) x) b = mI M b := mxLook_ne (by omega)
  have g : ∀ j, j < 4 → lkU u s x j = u j := fun j hj => lkU_ne (by omega) (by omega)
  refine ⟨⟨a1, a2, by rw [e]; exact a3, by rw [g 0 (by decide)]; exact a4⟩, ⟨bl, b1', b2, by rw [e]; exact b3, by rw [g 1 (by decide)]; exact b4⟩, ⟨y, by rw [e]; exact y1, by rw [g 2 (by decide)]; exact y2⟩, ⟨z, by rw [e]; exact z1, by rw [g 3 (by decide)]; exact z2⟩, fun t ht => ?_⟩
  by_cases q : t = s
  · subst q
    exact SS_lkb (hS t ht)
  · exact SS_cg (hS t ht) (fun j _ _ => by rw [mxLook_ne (by omega)]) (fun r _ => by rw [mxLook_ne (by omega)]) ⟨lkU_ne (by omega) (by omega), lkU_ne (by omega) (by omega), lkU_ne (by omega) (by omega), lkU_ne (by omega) (by omega)⟩ (fun r _ => lkU_ne (by omega) (by omega))
theorem SR_anb {s : Nat} {x : Int32} (hs : s < 6) (h : SR M b u n) : SR (mxAnew M (b + 2 + 2 * s) x) b (anU u s x) n := by
  have h1 := SR_lkb (x := x) hs h
  obtain ⟨⟨k, k1, k2⟩, c3, c4, c5, c6, c7⟩ := h.2.2.2.2 s hs
  have hm : ∀ i j, mI (mxAnew M (b + 2 + 2 * s) x) i j = if i = b + 2 + 2 * s ∧ j = 4 ∧ k = true then mI (mxLook M (b + 2 + 2 * s) x) (b + 2 + 2 * s) 4 + 1 else mI (mxLook M (b + 2 + 2 * s) x) i j := fun i j => by
    unfold mxAnew
    rw [k1]
    cases k
    · rw [if_pos ((b1_0k false).mpr rfl), if_neg (fun h => by cases h.2.2)]
      unfold mxLook
      rw [k1, if_pos ((b1_0k false).mpr rfl)]
    · rw [if_neg (fun h => by cases (b1_0k true).mp h), pI_at]
      by_cases q : i = b + 2 + 2 * s ∧ j = 4
      · rw [if_pos q, if_pos ⟨q.1, q.2, rfl⟩]
      · rw [if_neg q, if_neg (fun h => q ⟨h.1, h.2.1⟩)]
  have hu : ∀ j, anU u s x j = if j = 22 + s then lkU u s x (22 + s) + b1L k else lkU u s x j := fun j => by
    unfold anU
    rw [fsu_at, k2]
  obtain ⟨⟨a1, a2, a3, a4⟩, ⟨bl, b1', b2, b3, b4⟩, ⟨y, y1, y2⟩, ⟨z, z1, z2⟩, hS⟩ := h1
  have e : ∀ j, mI (mxAnew M (b + 2 + 2 * s) x) b j = mI (mxLook M (b + 2 + 2 * s) x) b j := fun j => by rw [hm, if_neg (fun h => by omega)]
  have g : ∀ j, j ≠ 22 + s → anU u s x j = lkU u s x j := fun j hj => by rw [hu, if_neg hj]
  refine ⟨⟨a1, a2, by rw [e]; exact a3, by rw [g 0 (by omega)]; exact a4⟩, ⟨bl, b1', b2, by rw [e]; exact b3, by rw [g 1 (by omega)]; exact b4⟩, ⟨y, by rw [e]; exact y1, by rw [g 2 (by omega)]; exact y2⟩, ⟨z, by rw [e]; exact z1, by rw [g 3 (by omega)]; exact z2⟩, fun t ht => ?_⟩
  by_cases q : t = s
  · subst q
    obtain ⟨⟨k', f1, f2⟩, f3, f4, f5, f6, f7⟩ := hS t ht
    refine ⟨⟨k', by rw [hm, if_neg (fun h => by omega)]; exact f1, by rw [g _ (by omega)]; exact f2⟩, by rw [hm, if_neg (fun h => by omega), g _ (by omega)]; exact f3, by rw [hm, if_neg (fun h => by omega), g _ (by omega)]; exact f4, ?_, fun r hr => by rw [g _ (by omega), hm, if_neg (fun h => by omega)]; exact f6 r hr, fun r hr c hc => by rw [hm, if_neg (fun h => by omega)]; exact f7 r hr c hc⟩
    rw [hm, hu, if_pos rfl, f5]
    cases k
    · rw [if_neg (fun h => by cases h.2.2)]
      show (lkU u t x (22 + t)).toInt32 = (lkU u t x (22 + t) + 0).toInt32
      rw [Int64.add_zero]
    · rw [if_pos ⟨rfl, rfl, rfl⟩]
      show (lkU u t x (22 + t)).toInt32 + 1 = (lkU u t x (22 + t) + 1).toInt32
      rw [Int64.toInt32_add]
      rfl
  · exact SS_cg (hS t ht) (fun j _ _ => by rw [hm, if_neg (fun h => by omega)]) (fun r _ => by rw [hm, if_neg (fun h => by omega)]) ⟨g _ (by omega), g _ (by omega), g _ (by omega), g _ (by omega)⟩ (fun r _ => g _ (by omega))
theorem SR_anL {x : Int32} (h : SR X 17 (mL R 199) n) : ∀ k, k ≤ 6 → SR (anL X x k) 17 (mL (anK R x k) 199) n
  | 0, _ => by
    rw [anL.eq_1, anK.eq_1]
    exact h
  | k + 1, hk => by
    rw [anL.eq_2, anK.eq_2, anM_U, show 19 + 2 * k = 17 + 2 + 2 * k by omega]
    exact SR_anb (by omega) (SR_anL h k (by omega))
/-- an empty description -/
theorem mxE_at {m i j : Nat} : mI (mxEmpty M m) i j = if i = m ∧ 1 ≤ j ∧ j ≤ 4 then 0 else if i = m + 1 ∧ j < 32 then 0 else mI M i j := by
  unfold mxEmpty
  rw [pI_at, pI_at, pI_at, pI_at]
  by_cases e : i = m
  · subst e
    by_cases q : 1 ≤ j ∧ j ≤ 4
    · rw [if_pos (show i = i ∧ 1 ≤ j ∧ j ≤ 4 from ⟨rfl, q⟩)]
      have : j = 1 ∨ j = 2 ∨ j = 3 ∨ j = 4 := by omega
      rcases this with rfl | rfl | rfl | rfl
      · rw [if_neg (fun h => by omega), if_neg (fun h => by omega), if_neg (fun h => by omega), if_pos ⟨rfl, rfl⟩]
      · rw [if_neg (fun h => by omega), if_neg (fun h => by omega), if_pos ⟨rfl, rfl⟩]
      · rw [if_neg (fun h => by omega), if_pos ⟨rfl, rfl⟩]
      · rw [if_pos ⟨rfl, rfl⟩]
    · rw [if_neg (fun h => by omega), if_neg (fun h => by omega), if_neg (fun h => by omega), if_neg (fun h => by omega), if_neg (fun h => q h.2), if_neg (fun h => by omega)]
      exact congrFun (sI_ne (by omega)) j
  · rw [if_neg (fun h => e h.1), if_neg (fun h => e h.1), if_neg (fun h => e h.1), if_neg (fun h => e h.1), if_neg (fun h => e h.1)]
    by_cases e2 : i = m + 1
    · subst e2
      rw [sI_self]
      unfold wr
      by_cases q : j < 32
      · rw [if_pos q, if_pos ⟨rfl, q⟩]
      · rw [if_neg q, if_neg (fun h => q h.2)]
    · rw [if_neg (fun h => e2 h.1)]
      exact congrFun (sI_ne (by omega)) j
theorem stE_at : ∀ k, k ≤ 6 → ∀ s, s < k → (∀ j, 1 ≤ j → j ≤ 4 → mI (stEmptyL M b k) (b + 2 + 2 * s) j = 0) ∧ (∀ r, r < 32 → mI (stEmptyL M b k) (b + 3 + 2 * s) r = 0)
  | 0, _, s, hs => absurd hs (Nat.not_lt_zero _)
  | k + 1, hk, s, hs => by
    rw [stEmptyL.eq_2]
    by_cases e : s = k
    · subst e
      constructor
      · intro j h1 h2
        rw [mxE_at, if_pos ⟨rfl, h1, h2⟩]
      · intro r hr
        rw [mxE_at, if_neg (fun h => by omega), if_pos ⟨by omega, hr⟩]
    · obtain ⟨g1, g2⟩ := stE_at k (by omega) s (by omega)
      constructor
      · intro j h1 h2
        rw [mxE_at, if_neg (fun h => by omega), if_neg (fun h => by omega)]
        exact g1 j h1 h2
      · intro r hr
        rw [mxE_at, if_neg (fun h => by omega), if_neg (fun h => by omega)]
        exact g2 r hr
theorem bg_at {i : Nat} (hi : i < 220) : bgF u n i = if i = 1 then 4 else if i = 0 then lN n else 0 := by
  unfold bgF
  rw [fsu_at, fsu_at]
  unfold clF
  rw [if_pos hi]
theorem SR_emp (hn1 : 1 ≤ n) (hn : n ≤ 32) : SR (stEmpty M b (nI n)) b (bgF u n) n := by
  have h := stE_at (M := M) (b := b) 6 (Nat.le_refl 6)
  unfold stEmpty
  generalize stEmptyL M b 6 = M6 at h ⊢
  refine ⟨⟨hn1, hn, ?_, by rw [bg_at (by decide), if_neg (by decide), if_pos rfl]⟩, ⟨4, by decide, by decide, ?_, by rw [bg_at (by decide), if_pos rfl]; rfl⟩, ⟨0, ?_, by rw [bg_at (by decide), if_neg (by decide), if_neg (by decide)]; rfl⟩, ⟨0, ?_, by rw [bg_at (by decide), if_neg (by decide), if_neg (by decide)]; rfl⟩, fun s hs => ?_⟩
  · rw [pI_k (by decide), pI_k (by decide), pI_k (by decide), pI_at9]
  · rw [pI_k (by decide), pI_k (by decide), pI_at9]
    rfl
  · rw [pI_k (by decide), pI_at9]
    rfl
  · rw [pI_at9]
    rfl
  · obtain ⟨g1, g2⟩ := h s hs
    have e : ∀ i, i ≠ b → mI (pI (pI (pI (pI M6 b 1 (nI n)) b 2 4) b 3 0) b 4 0) i = mI M6 i := fun i hi => by rw [sI_ne hi, sI_ne hi, sI_ne hi, sI_ne hi]
    have z : ∀ i, 2 ≤ i → i < 220 → bgF u n i = 0 := fun i h1 h2 => by rw [bg_at h2, if_neg (by omega), if_neg (by omega)]
    refine ⟨⟨false, by rw [e _ (by omega), g1 1 (by decide) (by decide)]; rfl, by rw [z _ (by omega) (by omega)]; rfl⟩, by rw [e _ (by omega), g1 2 (by decide) (by decide), z _ (by omega) (by omega)]; rfl, by rw [e _ (by omega), g1 3 (by decide) (by decide), z _ (by omega) (by omega)]; rfl, by rw [e _ (by omega), g1 4 (by decide) (by decide), z _ (by omega) (by omega)]; rfl, fun r hr => by rw [e _ (by omega), g2 r (by omega), z _ (by omega) (by omega), uL_0], fun r hr c hc => by rw [e _ (by omega), g2 r (by omega), hb_0]⟩
theorem eq_sz {b0 b9 e9 : Int32} : EqS (rzS0 T len (0, b0, 0, 0, 0)) (szS0 T len (0, b9, 0, 0, e9)) := by
  have h := eq_twd' (T := T) (len := len) (s := (0, b0, 0, 0, 0)) (t := (0, b9, 0, 0, e9)) ⟨rfl, rfl, fun q => absurd rfl q, fun _ => rfl⟩
  have hw : (twd T len (0, b0, 0, 0, 0)).1 = (twd T len (0, b9, 0, 0, e9)).1 := rfl
  unfold rzS0 szS0
  rw [kd_w2.2.2.2.2.2, hw]
  by_cases q : wdQ T (skipP T len 0) (twd T len (0, b9, 0, 0, e9)).1 (strW 0) = true
  · rw [if_pos q, if_pos q]
    exact h
  · rw [if_neg q, if_neg q]
    exact eq_fail h
theorem sz_N {b0 b9 e9 : Int32} : rzN T len (0, b0, 0, 0, 0) = szN T len (0, b9, 0, 0, e9) := by
  unfold rzN szN rzV
  rw [eq_tnv eq_sz]
theorem ri_lr {b9 e9 : Int32} (hS : Shp M) : riN M len = lrN (mI M 2) len b9 e9 ∧ EqE (riR M len).2 (lrR (mI M 2) len b9 e9 u).2 ∧ ((riR M len).2.2.2.2.1 = 0 → SR (riR M len).1 17 (lrR (mI M 2) len b9 e9 u).1 (lrN (mI M 2) len b9 e9)) := by
  have e1 : riN M len = lrN (mI M 2) len b9 e9 := sz_N
  obtain ⟨-, n1, n2⟩ := szN_ok (mI M 2) len (0, b9, 0, 0, e9)
  refine ⟨e1, ?_⟩
  have hz : EqS (rzS (mI M 2) len (0, mI M 1 3, 0, 0, 0)) (szS (mI M 2) len (0, b9, 0, 0, e9)) := eq_tnm eq_sz
  have hle : (szS (mI M 2) len (0, b9, 0, 0, e9)).1 ≤ len := nmS_le (szS0_le (Nat.zero_le len))
  have h := rs_loop (M := stEmpty M 17 (nI (lrN (mI M 2) len b9 e9))) (T := mI M 2) (len := len) (n := lrN (mI M 2) len b9 e9) n1 n2 (by
    unfold stEmpty
    rw [sI_ne (by decide), sI_ne (by decide), sI_ne (by decide), sI_ne (by decide), stEmptyL_ne 6 (Nat.le_refl 6) (by decide)]) len (stEmpty M 17 (nI (lrN (mI M 2) len b9 e9))) (bgF u (lrN (mI M 2) len b9 e9)) _ _ (stEmpty_S hS 17 _) (by
    unfold stEmpty
    rw [sI_ne (by decide), sI_ne (by decide), sI_ne (by decide), sI_ne (by decide), stEmptyL_ne 6 (Nat.le_refl 6) (by decide)]) hz.w hle (fun _ => Nat.le_add_left _ _) (fun _ => SR_emp n1 n2)
  unfold riR lrR
  rw [e1]
  exact h
end
