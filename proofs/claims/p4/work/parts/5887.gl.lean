/-! what comes and goes with an edge: the class's sums beside the reference's differences -/
theorem gl_pc {K L : Nat → Bool} : ∀ n, (∀ i, i < n → K i = true → L i = true) → pcb K n + pcb (fun i => Bool.xor (L i) (K i)) n = pcb L n
  | 0, _ => rfl
  | n + 1, h => by
    have ih := gl_pc n (fun i hi => h i (by omega))
    have e : (K n).toNat + (Bool.xor (L n) (K n)).toNat = (L n).toNat := by
      have h1 := h n (Nat.lt_succ_self n)
      cases q1 : K n <;> cases q2 : L n
      · rfl
      · rfl
      · exact absurd ((h1 q1).symm.trans q2) (by decide)
      · rfl
    show pcb K n + (K n).toNat + (pcb (fun i => Bool.xor (L i) (K i)) n + (Bool.xor (L n) (K n)).toNat) = pcb L n + (L n).toNat
    omega
theorem gl_bc {x y : Int32} (h : ∀ i, hb y i = true → hb x i = true) : pcN y + pcN (x ^^^ y) = pcN x := by
  have h1 := gl_pc (K := hb y) (L := hb x) 32 (fun i _ => h i)
  have h2 : pcb (hb (x ^^^ y)) 32 = pcb (fun i => Bool.xor (hb x i) (hb y i)) 32 := pcb_congr 32 (fun i _ => hb_xor x y i)
  rw [pcN_b, pcN_b, pcN_b, h2]
  exact h1
/-- rows within others: what they differ by -/
theorem gl_df {f g : Nat → Int32} : ∀ n, (∀ r, r < n → ∀ i, hb (g r) i = true → hb (f r) i = true) → ∃ k, onesN g n + k = onesN f n ∧ dfF f g n = nI k ∧ dfF g f n = nI k
  | 0, _ => ⟨0, rfl, rfl, rfl⟩
  | n + 1, h => by
    obtain ⟨k, h1, h2, h3⟩ := gl_df n (fun r hr => h r (by omega))
    have h4 := gl_bc (h n (Nat.lt_succ_self n))
    refine ⟨k + pcN (f n ^^^ g n), ?_, ?_, ?_⟩
    · show onesN g n + pcN (g n) + (k + pcN (f n ^^^ g n)) = onesN f n + pcN (f n)
      omega
    · show dfF f g n + bcJ (f n ^^^ g n) = _
      rw [h2, bcJ_n, nI_add]
    · show dfF g f n + bcJ (g n ^^^ f n) = _
      rw [h3, Int32.xor_comm, bcJ_n, nI_add]
theorem gl_on {f g : Nat → Int32} {n k : Nat} (h : onesN g n + k = onesN f n) : onesF f n - onesF g n = nI k := by
  rw [onesF_n, onesF_n, nI_sub' (by omega)]
  congr 1
  omega
theorem gl_up {f : Nat → Int32} {n r q i c : Nat} (hw : wfr n f) (hr : r < n) (hq : q < n) (hn : n ≤ 32) (h0 : hb (f r) q = false) (hi : i < n) (h : hb (wOut f n n i) c = true) : hb (wOut (tnF f r q) n n i) c = true := by
  rw [wO_ok hw hi] at h
  rw [wO_ok (tn_wf hw hr hq hn) hi, tc_add hr hq hn h0 hi (tc_lt h).2]
  exact Or.inl h
/-- an edge more -/
theorem gl_ga {f g : Nat → Int32} {n a b : Nat} (hw : wfr n f) (hg : ∀ i, i < n → g i = wOut f n n i) (ha : a < n) (hb9 : b < n) (hn : n ≤ 32) (h0 : hb (f a) b = false) :
    ∃ k, k ≤ 1024 ∧ gainW g (nodesTo g a n) b n = nI k ∧ pTv f n a b - pOv f n = nI k := by
  obtain ⟨k, h1, h2, -⟩ := gl_df (f := wOut (tnF f a b) n n) (g := wOut f n n) n (fun r hr i h => gl_up hw ha hb9 hn h0 hr h)
  have h3 := onesN_le (wOut (tnF f a b) n n) n
  exact ⟨k, by omega, (gain_ok hw hg ha hb9 hn h0).trans h2, gl_on h1⟩
/-- an edge that is there brings nothing -/
theorem gl_g0 {f g : Nat → Int32} {n a b : Nat} (hw : wfr n f) (hg : ∀ i, i < n → g i = wOut f n n i) (ha : a < n) (hb9 : b < n) (hn : n ≤ 32) (h0 : hb (f a) b = true) : ∀ k, k ≤ n → gainF g (nodesTo g a n) (g b ||| bitI b) k = 0
  | 0, _ => rfl
  | k + 1, hk => by
    have hk2 : k < n := by omega
    have hgb : ∀ x y, x < n → (hb (g x) y = true ↔ TC f n x y) := fun x y hx => by
      rw [hg x hx]
      exact wO_ok hw hx
    show (if hb (nodesTo g a n) k = true then gainF g (nodesTo g a n) (g b ||| bitI b) k + bcJ ((g b ||| bitI b) &&& (g k ^^^ -1)) else gainF g (nodesTo g a n) (g b ||| bitI b) k) = 0
    rw [gl_g0 hw hg ha hb9 hn h0 k (by omega)]
    by_cases h : hb (nodesTo g a n) k = true
    · rw [if_pos h]
      have h1 : TC f n k b := by
        rcases (nd_b ha hn hk2).mp h with q | q
        · rw [q]
          exact tc_e ha hb9 h0
        · exact tc_t ((hgb k a hk2).mp q) (tc_e ha hb9 h0)
      have e : (g b ||| bitI b) &&& (g k ^^^ -1) = 0 := hb_ext (fun i hi => by
        rw [hb_0, hb_and, hb_or, hb_not hi, hb_bitI (by omega)]
        cases q1 : hb (g k) i
        · cases q2 : hb (g b) i
          · by_cases q3 : i = b
            · rw [q3, (hgb k b hk2).mpr h1] at q1
              cases q1
            · rw [decide_eq_false q3]
              rfl
          · rw [(hgb k i hk2).mpr (tc_t h1 ((hgb b i hb9).mp q2))] at q1
            cases q1
        · rw [Bool.not_true, Bool.and_false])
      rw [e, bc_0]
      rfl
    · rw [if_neg h]
theorem gl_cg {g f f' : Nat → Int32} {nodes : Int32} {n : Nat} (hf : wfr n f) (hf' : wfr n f') (h : ∀ r, r < n → f r = f' r) (hn : n ≤ 32) : ∀ k, k ≤ n → lossF g f nodes n k = lossF g f' nodes n k
  | 0, _ => rfl
  | k + 1, hk => by
    have e : reachL f n (f k) 0 = reachL f' n (f' k) 0 := by
      rw [rc_wO hf (by omega) hn, rc_wO hf' (by omega) hn]
      exact wO_cg h n (Nat.le_refl n) k (by omega)
    unfold lossF
    rw [gl_cg hf hf' h hn k (by omega), e]
/-- an edge less -/
theorem gl_lB {f g f' : Nat → Int32} {n a b : Nat} (hw : wfr n f) (hg : ∀ i, i < n → g i = wOut f n n i) (ha : a < n) (hb9 : b < n) (hn : n ≤ 32) (h0 : hb (f a) b = true) (hf : ∀ r, r < n → f' r = tnF f a b r) :
    ∃ k, k ≤ 1024 ∧ lossB g f' a b n = nI k ∧ pOv f n - pTv f n a b = nI k ∧ pTv f n a b - pOv f n = -nI k := by
  have hw2 := tn_wf hw ha hb9 hn
  have hw' : wfr n f' := fun x hx c hc => by
    rw [hf x hx]
    exact hw2 x hx c hc
  obtain ⟨k, h1, -, h2⟩ := gl_df (f := wOut f n n) (g := wOut (tnF f a b) n n) n (fun r hr i h => wO_sub hw ha hb9 hn h0 hr h)
  have h3 := onesN_le (wOut f n n) n
  have h4 : pOv f n - pTv f n a b = nI k := gl_on h1
  refine ⟨k, by omega, ?_, h4, by rw [← h4, Int32.neg_sub]⟩
  unfold lossB
  have e : hb (reachL f' n (f' a) 0) b = true ↔ TC (tnF f a b) n a b := by
    rw [rc_ok hw' ha hn, tc_cg hf]
  by_cases q : hb (reachL f' n (f' a) 0) b = true
  · rw [if_pos q]
    have h5 := (eqB_ok n).mp ((need_ok hw hw (fun _ _ => Iff.rfl) ha hb9 hn h0).mpr (e.mp q))
    rw [← h4]
    unfold pOv pTv
    rw [on_cg h5, Int32.sub_self]
  · rw [if_neg q, gl_cg hw' hw2 hf hn n (Nat.le_refl n), loss_ok hw hg ha hb9 hn h0 n (Nat.le_refl n)]
    exact h2
/-- the most that a bit makes -/
theorem gl_a1 : ∀ k, k < 1025 → mtA (nI k) = nI k := by decide +kernel
theorem gl_a2 : ∀ k, k < 1025 → mtA (-nI k) = nI k := by decide +kernel
theorem gl_ge {f : Nat → Int32} {n : Nat} {bit : Bool} : ∀ k, -1 ≤ (mtS f n bit k).2
  | 0 => Int32.le_refl _
  | k + 1 => by
    have ih := gl_ge (f := f) (n := n) (bit := bit) k
    show -1 ≤ (if mtC f n bit k = true then (if (mtS f n bit k).2 < mtV f n k then nI k else (mtS f n bit k).1, if (mtS f n bit k).2 < mtV f n k then mtV f n k else (mtS f n bit k).2) else mtS f n bit k).2
    by_cases h : mtC f n bit k = true
    · rw [if_pos h]
      show -1 ≤ (if (mtS f n bit k).2 < mtV f n k then mtV f n k else (mtS f n bit k).2)
      by_cases h2 : (mtS f n bit k).2 < mtV f n k
      · rw [if_pos h2]
        exact Int32.le_of_lt (Int32.lt_of_le_of_lt ih h2)
      · rw [if_neg h2]
        exact ih
    · rw [if_neg h]
      exact ih
theorem gl_m1 {f : Nat → Int32} {n a j : Nat} {bit : Bool} (hj : j < n) (hn : n ≤ 32) : mtS f n bit (32 * a + j + 1) = if hb (f a) j = bit then (if (mtS f n bit (32 * a + j)).2 < mtA (pTv f n a j - pOv f n) then (nI (32 * a + j), mtA (pTv f n a j - pOv f n)) else mtS f n bit (32 * a + j)) else mtS f n bit (32 * a + j) := by
  have e1 : (32 * a + j) / 32 = a := by omega
  have e2 : (32 * a + j) % 32 = j := by omega
  have e3 : mtC f n bit (32 * a + j) = (hb (f a) j == bit) := by
    unfold mtC
    rw [e1, e2, decide_eq_true hj, Bool.true_and]
  have e4 : mtV f n (32 * a + j) = mtA (pTv f n a j - pOv f n) := by
    unfold mtV
    rw [e1, e2]
  show (if mtC f n bit (32 * a + j) = true then (if (mtS f n bit (32 * a + j)).2 < mtV f n (32 * a + j) then nI (32 * a + j) else (mtS f n bit (32 * a + j)).1, if (mtS f n bit (32 * a + j)).2 < mtV f n (32 * a + j) then mtV f n (32 * a + j) else (mtS f n bit (32 * a + j)).2) else mtS f n bit (32 * a + j)) = _
  rw [e3, e4]
  generalize mtS f n bit (32 * a + j) = S
  generalize mtA (pTv f n a j - pOv f n) = v
  by_cases h : hb (f a) j = bit
  · rw [if_pos h, if_pos (by rw [h]; exact beq_self_eq_true bit)]
    by_cases h2 : S.2 < v
    · rw [if_pos h2, if_pos h2, if_pos h2]
    · rw [if_neg h2, if_neg h2, if_neg h2]
  · rw [if_neg h, if_neg (fun q => h (eq_of_beq q))]
theorem gl_m2 {f : Nat → Int32} {n a : Nat} {bit : Bool} : ∀ d, n + d ≤ 32 → mtS f n bit (32 * a + n + d) = mtS f n bit (32 * a + n)
  | 0, _ => rfl
  | d + 1, hd => by
    rw [← gl_m2 (f := f) (n := n) (a := a) (bit := bit) d (by omega)]
    have e : ¬ mtC f n bit (32 * a + n + d) = true := by
      unfold mtC
      rw [decide_eq_false (by omega), Bool.false_and]
      decide
    show (if mtC f n bit (32 * a + n + d) = true then (if (mtS f n bit (32 * a + n + d)).2 < mtV f n (32 * a + n + d) then nI (32 * a + n + d) else (mtS f n bit (32 * a + n + d)).1, if (mtS f n bit (32 * a + n + d)).2 < mtV f n (32 * a + n + d) then mtV f n (32 * a + n + d) else (mtS f n bit (32 * a + n + d)).2) else mtS f n bit (32 * a + n + d)) = _
    rw [if_neg e]
theorem gl_m3 {f : Nat → Int32} {n a : Nat} {bit : Bool} (hn : n ≤ 32) : mtS f n bit (32 * (a + 1)) = mtS f n bit (32 * a + n) := by
  rw [← gl_m2 (f := f) (n := n) (a := a) (bit := bit) (32 - n) (by omega), show 32 * (a + 1) = 32 * a + n + (32 - n) by omega]
theorem gl_nu (a j : Nat) : 32 * nI a + nI j = nI (32 * a + j) := by
  show nI 32 * nI a + nI j = _
  rw [nI_mul, nI_add]
theorem gl_bi {f g : Nat → Int32} {n a : Nat} (hw : wfr n f) (hg : ∀ i, i < n → g i = wOut f n n i) (hn : n ≤ 32) (ha : a < n) : ∀ j, j ≤ n → beI f g n a (mtS f n false (32 * a)) j = mtS f n false (32 * a + j)
  | 0, _ => rfl
  | j + 1, hj => by
    have hj2 : j < n := by omega
    have hge := gl_ge (f := f) (n := n) (bit := false) (32 * a + j)
    show (if beG f g n a j ≤ (beI f g n a (mtS f n false (32 * a)) j).2 then beI f g n a (mtS f n false (32 * a)) j else (32 * nI a + nI j, beG f g n a j)) = mtS f n false (32 * a + j + 1)
    rw [gl_bi hw hg hn ha j (by omega), gl_m1 hj2 hn, gl_nu]
    generalize mtS f n false (32 * a + j) = S at *
    unfold beG
    by_cases h : hb (f a) j = true
    · rw [if_pos h, if_pos hge, if_neg (by rw [h]; decide)]
    · have h0 : hb (f a) j = false := Bool.eq_false_iff.mpr h
      obtain ⟨k, k1, k2, k3⟩ := gl_ga hw hg ha hj2 hn h0
      rw [if_neg h, if_pos h0, k2, k3, gl_a1 k (by omega)]
      by_cases h2 : S.2 < nI k
      · rw [if_pos h2, if_neg (Int32.not_le.mpr h2)]
      · rw [if_neg h2, if_pos (Int32.not_lt.mp h2)]
theorem gl_be {f g : Nat → Int32} {n : Nat} (hw : wfr n f) (hg : ∀ i, i < n → g i = wOut f n n i) (hn : n ≤ 32) : ∀ a, a ≤ n → beO f g n a = mtS f n false (32 * a)
  | 0, _ => rfl
  | a + 1, ha => by
    show beI f g n a (beO f g n a) n = _
    rw [gl_be hw hg hn a (by omega), gl_m3 hn]
    exact gl_bi hw hg hn (by omega) n (Nat.le_refl n)
theorem gl_gq {f g : Nat → Int32} {n a b : Nat} (hw : wfr n f) (hg : ∀ i, i < n → g i = wOut f n n i) (ha : a < n) (hb9 : b < n) (hn : n ≤ 32) (h0 : hb (f a) b = false) : pTv f n a b - pOv f n = gainW g (nodesTo g a n) b n := by
  obtain ⟨k, -, k2, k3⟩ := gl_ga hw hg ha hb9 hn h0
  exact k3.trans k2.symm
