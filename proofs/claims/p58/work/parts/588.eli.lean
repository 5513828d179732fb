/-! elimination looks at the rows below n alone -/
def esR (P : Prop) (n : Nat) (s t : ES) : Prop := (∀ i, i < n → s.1 i = t.1 i) ∧ (P → ∀ i, i < n → s.2.1 i = t.2.1 i) ∧ (∀ j, j < s.2.2.2 → s.2.2.1 j = t.2.2.1 j) ∧ s.2.2.2 = t.2.2.2 ∧ s.2.2.2 ≤ n
theorem rnt_cg {f g : Nat → Int32} {c : Nat} : ∀ d r, (∀ i, r ≤ i → i < r + d → f i = g i) → rnt f c d r = rnt g c d r
  | 0, _, _ => rfl
  | d + 1, r, h => by
    unfold rnt
    rw [h r (Nat.le_refl r) (by omega), rnt_cg d (r + 1) (fun i h1 h2 => h i (by omega) (by omega))]
theorem rntR_lt {f : Nat → Int32} {c : Nat} : ∀ d r v, rnt f c d r = some v → r ≤ v ∧ v < r + d
  | 0, _, _, h => by cases h
  | d + 1, r, v, h => by
    unfold rnt at h
    split at h
    · cases h
      omega
    · have := rntR_lt d (r + 1) v h
      omega
theorem swp_at {f : Nat → Int32} {a b i : Nat} : swp f a b i = if i = b then f a else if i = a then f b else f i := by
  unfold swp fun_set
  by_cases e : i = b
  · rw [if_pos e]
  · rw [if_neg e]
theorem swp_cg {f g : Nat → Int32} {n a b : Nat} (ha : a < n) (hb9 : b < n) (h : ∀ i, i < n → f i = g i) {i : Nat} (hi : i < n) : swp f a b i = swp g a b i := by
  rw [swp_at, swp_at, h a ha, h b hb9, h i hi]
theorem clGR_ok {t c : Nat} {lf rt : Nat → Int32} : ∀ k i, (clG t c lf rt k).1 i = (if i < k ∧ i ≠ t ∧ hb (lf i) c = true then lf i ^^^ lf t else lf i) ∧ (clG t c lf rt k).2 i = (if i < k ∧ i ≠ t ∧ hb (lf i) c = true then rt i ^^^ rt t else rt i)
  | 0, i => by
    rw [if_neg (fun h => Nat.not_lt_zero _ h.1), if_neg (fun h => Nat.not_lt_zero _ h.1)]
    exact ⟨rfl, rfl⟩
  | k + 1, i => by
    have hk := clGR_ok (t := t) (c := c) (lf := lf) (rt := rt) k k
    rw [if_neg (fun h => Nat.lt_irrefl _ h.1), if_neg (fun h => Nat.lt_irrefl _ h.1)] at hk
    have ht := clGR_ok (t := t) (c := c) (lf := lf) (rt := rt) k t
    rw [if_neg (fun h => h.2.1 rfl), if_neg (fun h => h.2.1 rfl)] at ht
    have hi := clGR_ok (t := t) (c := c) (lf := lf) (rt := rt) k i
    unfold clG
    rw [hk.1, ht.1, hk.2, ht.2]
    by_cases e : i = k
    · subst e
      by_cases q : i ≠ t ∧ hb (lf i) c = true
      · rw [if_pos q, if_pos ⟨Nat.lt_succ_self i, q⟩, if_pos ⟨Nat.lt_succ_self i, q⟩]
        unfold fun_set
        exact ⟨if_pos rfl, if_pos rfl⟩
      · rw [if_neg q, if_neg (fun h => q h.2), if_neg (fun h => q h.2)]
        exact hk
    · have h1 : ∀ x y : Nat → Int32, ∀ v w : Int32, (if k ≠ t ∧ hb (lf k) c = true then (fun_set x k v, fun_set y k w) else (x, y)).1 i = x i ∧ (if k ≠ t ∧ hb (lf k) c = true then (fun_set x k v, fun_set y k w) else (x, y)).2 i = y i := by
        intro x y v w
        split
        · unfold fun_set
          exact ⟨if_neg e, if_neg e⟩
        · exact ⟨rfl, rfl⟩
      have h2 := h1 (clG t c lf rt k).1 (clG t c lf rt k).2 (lf k ^^^ lf t) (rt k ^^^ rt t)
      have e9 : ((clG t c lf rt k).1, (clG t c lf rt k).2) = clG t c lf rt k := rfl
      rw [e9] at h2
      rw [h2.1, h2.2, hi.1, hi.2]
      have h3 : (i < k ∧ i ≠ t ∧ hb (lf i) c = true) ↔ (i < k + 1 ∧ i ≠ t ∧ hb (lf i) c = true) := ⟨fun h => ⟨by omega, h.2⟩, fun h => ⟨by omega, h.2⟩⟩
      constructor
      · by_cases q : i < k ∧ i ≠ t ∧ hb (lf i) c = true
        · rw [if_pos q, if_pos (h3.mp q)]
        · rw [if_neg q, if_neg (fun h => q (h3.mpr h))]
      · by_cases q : i < k ∧ i ≠ t ∧ hb (lf i) c = true
        · rw [if_pos q, if_pos (h3.mp q)]
        · rw [if_neg q, if_neg (fun h => q (h3.mpr h))]
theorem el_step {P : Prop} {n c : Nat} {s t : ES} (h : esR P n s t) : esR P n (elStep n c s) (elStep n c t) := by
  obtain ⟨h1, h2, h3, h4, h5⟩ := h
  have e : rnt s.1 c (n - s.2.2.2) s.2.2.2 = rnt t.1 c (n - t.2.2.2) t.2.2.2 := by
    rw [← h4]
    exact rnt_cg _ _ (fun i _ hi => h1 i (by omega))
  unfold elStep
  rw [← e]
  cases q : rnt s.1 c (n - s.2.2.2) s.2.2.2 with
  | none => exact ⟨h1, h2, h3, h4, h5⟩
  | some r =>
    obtain ⟨r1, r2⟩ := rntR_lt _ _ _ q
    have hr : r < n := by omega
    have hc : s.2.2.2 < n := by omega
    have a1 : ∀ i, i < n → swp s.1 r s.2.2.2 i = swp t.1 r s.2.2.2 i := fun i hi => swp_cg hr hc h1 hi
    have a2 : P → ∀ i, i < n → swp s.2.1 r s.2.2.2 i = swp t.2.1 r s.2.2.2 i := fun q9 i hi => swp_cg hr hc (h2 q9) hi
    dsimp only
    rw [← h4]
    refine ⟨fun i hi => ?_, fun q9 i hi => ?_, fun j hj => ?_, rfl, (show s.2.2.2 + 1 ≤ n from hc)⟩
    · show (clG s.2.2.2 c (swp s.1 r s.2.2.2) (swp s.2.1 r s.2.2.2) n).1 i = (clG s.2.2.2 c (swp t.1 r s.2.2.2) (swp t.2.1 r s.2.2.2) n).1 i
      rw [(clGR_ok n i).1, (clGR_ok n i).1, a1 i hi, a1 _ hc]
    · show (clG s.2.2.2 c (swp s.1 r s.2.2.2) (swp s.2.1 r s.2.2.2) n).2 i = (clG s.2.2.2 c (swp t.1 r s.2.2.2) (swp t.2.1 r s.2.2.2) n).2 i
      rw [(clGR_ok n i).2, (clGR_ok n i).2, a1 i hi, a2 q9 i hi, a2 q9 _ hc]
    · show fun_set s.2.2.1 s.2.2.2 (nI c) j = fun_set t.2.2.1 s.2.2.2 (nI c) j
      unfold fun_set
      have hj2 : j < s.2.2.2 + 1 := hj
      by_cases e9 : j = s.2.2.2
      · rw [if_pos e9, if_pos e9]
      · rw [if_neg e9, if_neg e9]
        exact h3 j (by omega)
theorem el_all {P : Prop} {n : Nat} {s t : ES} (h : esR P n s t) : ∀ k, esR P n (elIt n s k) (elIt n t k)
  | 0 => h
  | k + 1 => el_step (el_all h k)
theorem so_cg {s t : ES} : ∀ k, (∀ j, j < k → s.2.1 j = t.2.1 j ∧ s.2.2.1 j = t.2.2.1 j) → solF s k = solF t k
  | 0, _ => rfl
  | k + 1, h => by
    unfold solF
    rw [so_cg k (fun j hj => h j (by omega)), (h k (by omega)).1, (h k (by omega)).2]
/-- rows of bits below n stay such -/
theorem el_wf {n : Nat} : ∀ (k : Nat) (s : ES), s.2.2.2 ≤ n → wfr n s.2.1 → wfr n (elIt n s k).2.1
  | 0, s, _, h => h
  | k + 1, s, h0, h => by
    have ih := el_wf k s h0 h
    have hc := (el_all (P := True) (n := n) (s := s) (t := s) ⟨fun _ _ => rfl, fun _ _ _ => rfl, fun _ _ => rfl, rfl, h0⟩ k).2.2.2.2
    unfold elIt
    generalize elIt n s k = u at *
    unfold elStep
    cases q : rnt u.1 k (n - u.2.2.2) u.2.2.2 with
    | none => exact ih
    | some r =>
      obtain ⟨r1, r2⟩ := rntR_lt _ _ _ q
      have hr : r < n := by omega
      have hc2 : u.2.2.2 < n := by omega
      have hw : wfr n (swp u.2.1 r u.2.2.2) := fun x hx c hcx => by
        rw [swp_at]
        split
        · exact ih r hr c hcx
        · split
          · exact ih _ hc2 c hcx
          · exact ih x hx c hcx
      intro x hx c hcx
      show hb ((clG u.2.2.2 k (swp u.1 r u.2.2.2) (swp u.2.1 r u.2.2.2) n).2 x) c = false
      rw [(clGR_ok n x).2]
      split
      · rw [hb_xor, hw x hx c hcx, hw _ hc2 c hcx]
        rfl
      · exact hw x hx c hcx
