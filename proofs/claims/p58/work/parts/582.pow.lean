/-! powers: both go through the same products -/
theorem mlI_cg {fl : Bool} {g g' : Nat → Int32} {x : Int32} : ∀ n, (∀ c, c < n → g c = g' c) → mlI fl g x n = mlI fl g' x n
  | 0, _ => rfl
  | n + 1, h => by
    unfold mlI
    rw [mlI_cg n (fun c hc => h c (by omega)), h n (by omega)]
theorem mlF_cg {fl : Bool} {f f' g g' : Nat → Int32} {n r : Nat} (hf : f r = f' r) (hg : ∀ c, c < n → g c = g' c) : mlF fl f g n r = mlF fl f' g' n r := by
  unfold mlF
  rw [hf]
  exact mlI_cg n hg
theorem tkI_cg {f f' : Nat → Int32} {st c t : Nat} : ∀ i, (∀ r, r < i → f r = f' r) → tkI f st c t i = tkI f' st c t i
  | 0, _ => rfl
  | i + 1, h => by
    unfold tkI
    rw [tkI_cg i (fun r hr => h r (by omega)), h i (by omega)]
theorem tkN_cg {f f' : Nat → Int32} {n bl : Nat} (h : ∀ r, r < n → f r = f' r) : ∀ k, tkN f n bl k = tkN f' n bl k
  | 0 => rfl
  | k + 1 => by
    unfold tkN
    rw [tkN_cg h k, tkI_cg n h]
def rsC (s : RS) : Nat → Int32 := match s.1 with
  | true => s.2.2.2.1
  | false => s.2.2.1
/-- both powers so far; whether a product was made -/
def pwR (n : Nat) (s : RS) (q : PW) (made : Prop) : Prop := s.2.1 0 = 0 ∧ (∀ r, r < n → rsC s r = q.1 r) ∧ (made → ∃ a b : Nat, s.2.2.2.2.1 = nI a ∧ s.2.2.2.2.2 = nI b ∧ q.2.1 = lN a ∧ q.2.2.1 = lN b)
theorem pwR_mul {fl : Bool} {n bl : Nat} {s : RS} {q : PW} {made : Prop} {base : Option (Nat → Int32)} {g : Nat → Int32} (h : pwR n s q made) (hb1 : 1 ≤ bl) (hb8 : bl ≤ 8) (hn : n ≤ 32) (hg : ∀ r, r < n → (base.getD (rsC s)) r = g r) : pwR n (rsMul (b1 fl) n bl base s) (pwX q.1 g fl n bl q.2.2.2) True := by
  obtain ⟨h0, h1, -⟩ := h
  obtain ⟨F, tb, p, o, m1, m2⟩ := s
  cases F
  · obtain ⟨a1, a2, a3, a4⟩ := mul_all (fl := fl) (a := p) (b := base.getD p) (g := o) h0 hb1 hb8 hn
    refine ⟨a1, fun r hr => (a2 r hr).trans (mlF_cg (h1 r hr) hg), fun _ => ⟨_, _, a3, a4.trans (congrArg nI (tkN_cg h1 _)), rfl, rfl⟩⟩
  · obtain ⟨a1, a2, a3, a4⟩ := mul_all (fl := fl) (a := o) (b := base.getD o) (g := p) h0 hb1 hb8 hn
    refine ⟨a1, fun r hr => (a2 r hr).trans (mlF_cg (h1 r hr) hg), fun _ => ⟨_, _, a3, a4.trans (congrArg nI (tkN_cg h1 _)), rfl, rfl⟩⟩
theorem hb_shr {x : Int32} {b i : Nat} (hb9 : b < 32) (hi : i < 32) : hb (x >>> (nI b &&& 31)) i = if b + i < 32 then hb x (b + i) else x.toBitVec.msb := by
  have e : ((nI b &&& 31).toBitVec.smod 32).toNat = b := (by decide +kernel : ∀ b, b < 32 → ((nI b &&& 31).toBitVec.smod 32).toNat = b) b hb9
  show (x >>> (nI b &&& 31)).toBitVec.getLsbD i = _
  rw [Int32.toBitVec_shiftRight]
  show (BitVec.sshiftRight x.toBitVec ((nI b &&& 31).toBitVec.smod 32).toNat).getLsbD i = _
  rw [e, BitVec.getLsbD_sshiftRight]
  have h9 : ¬ 32 ≤ i := by omega
  simp [h9, hb]
theorem hiB_top {x : Int32} : ∀ k, 1 ≤ hiB x k → hb x (hiB x k - 1) = true
  | 0, h => by
    unfold hiB at h
    omega
  | k + 1, h => by
    unfold hiB at h ⊢
    by_cases q : hb x k = true
    · rw [if_pos q]
      exact q
    · rw [if_neg q] at h ⊢
      exact hiB_top k h
theorem hiB_abv {x : Int32} : ∀ k i, hiB x k ≤ i → i < k → hb x i = false
  | 0, i, _, h => absurd h (Nat.not_lt_zero _)
  | k + 1, i, h1, h2 => by
    unfold hiB at h1
    by_cases q : hb x k = true
    · rw [if_pos q] at h1
      omega
    · rw [if_neg q] at h1
      by_cases e : i = k
      · rw [e]
        exact Bool.eq_false_iff.mpr q
      · exact hiB_abv k i h1 (by omega)
theorem hb_big {m i : Nat} (hm : m ≤ 1000000) (hi : 20 ≤ i) : hb (nI m) i = false := by
  by_cases h : i < 32
  · rw [hb_nI h]
    refine Nat.testBit_lt_two_pow ?_
    have h2 : 2 ^ 20 ≤ 2 ^ i := Nat.pow_le_pow_right (by decide) hi
    omega
  · exact hb_ge (by omega)
theorem shr_0 {m b : Nat} (hm : m ≤ 1000000) (hb9 : b < 32) : nI m >>> (nI b &&& 31) = 0 ↔ ∀ i, b ≤ i → hb (nI m) i = false := by
  have hmsb : (nI m).toBitVec.msb = false := by
    rw [BitVec.msb_eq_getLsbD_last]
    exact hb_big hm (by decide)
  constructor
  · intro h i hi
    by_cases h2 : i < 32
    · have h3 := hb_shr (x := nI m) (i := i - b) hb9 (by omega)
      rw [h, hb_0, if_pos (by omega), show b + (i - b) = i by omega] at h3
      exact h3.symm
    · exact hb_ge (by omega)
  · intro h
    refine hb_ext (fun i hi => ?_)
    rw [hb_shr hb9 hi, hb_0, hmsb]
    split
    · exact h _ (by omega)
    · rfl
theorem pwR_all {fl : Bool} {n bl m : Nat} {base g : Nat → Int32} {s0 : RS} {q0 : PW} (hm : m ≤ 1000000) (h : pwR n s0 q0 False) (hb1 : 1 ≤ bl) (hb8 : bl ≤ 8) (hn : n ≤ 32) (hg : ∀ r, r < n → base r = g r) :
    pwR n (rsIt (b1 fl) n bl base (nI m) s0 20) (pwL g fl n bl (nI m) (hiB (nI m) 21) q0) (0 < m) := by
  have hK : hiB (nI m) 21 ≤ 20 := by
    rcases Nat.lt_or_ge 20 (hiB (nI m) 21) with h1 | h1
    · have h2 := hiB_top (x := nI m) 21 (by omega)
      rw [hb_big hm (by omega)] at h2
      cases h2
    · exact h1
  have habv : ∀ i, hiB (nI m) 21 ≤ i → hb (nI m) i = false := fun i hi => by
    by_cases h2 : i < 21
    · exact hiB_abv 21 i hi h2
    · exact hb_big hm (by omega)
  have st1 : ∀ i, i ≤ 20 - hiB (nI m) 21 → rsIt (b1 fl) n bl base (nI m) s0 i = s0 := by
    intro i
    induction i with
    | zero => intro _; rfl
    | succ i ih =>
      intro hi
      unfold rsIt rsB rsA
      rw [ih (by omega), habv (19 - i) (by omega), if_pos ((shr_0 hm (by omega)).mpr (fun j hj => habv j (by omega))), if_neg (by decide)]
  have st2 : ∀ k, k ≤ hiB (nI m) 21 → ∀ i, i + k = 20 → ∀ (q : PW) (md : Prop), pwR n (rsIt (b1 fl) n bl base (nI m) s0 i) q md → pwR n (rsIt (b1 fl) n bl base (nI m) s0 20) (pwL g fl n bl (nI m) k q) (md ∨ 0 < k) := by
    intro k
    induction k with
    | zero =>
      intro _ i hi q md hq
      have e : i = 20 := by omega
      subst e
      refine ⟨hq.1, hq.2.1, fun h9 => hq.2.2 ?_⟩
      rcases h9 with h9 | h9
      · exact h9
      · exact absurd h9 (Nat.lt_irrefl 0)
    | succ k ih =>
      intro hk i hi q md hq
      have e : 19 - i = k := by omega
      have hne : ¬ nI m >>> (nI k &&& 31) = 0 := fun h9 => by
        have h2 := hiB_top (x := nI m) 21 (by omega)
        rw [(shr_0 hm (by omega)).mp h9 _ (by omega)] at h2
        cases h2
      have h1 : pwR n (rsIt (b1 fl) n bl base (nI m) s0 (i + 1)) (pwB g fl n bl (nI m) k q) True := by
        unfold rsIt rsB rsA pwB
        rw [e, if_neg hne]
        have a1 := pwR_mul (fl := fl) (bl := bl) (base := none) (g := q.1) hq hb1 hb8 hn hq.2.1
        split
        · exact pwR_mul (base := some base) a1 hb1 hb8 hn hg
        · exact a1
      have h2 := ih (by omega) (i + 1) (by omega) _ _ h1
      exact ⟨h2.1, h2.2.1, fun _ => h2.2.2 (Or.inl trivial)⟩
  have h3 := st2 _ (Nat.le_refl _) (20 - hiB (nI m) 21) (by omega) q0 False (by rw [st1 _ (Nat.le_refl _)]; exact h)
  refine ⟨h3.1, h3.2.1, fun h0 => h3.2.2 (Or.inr ?_)⟩
  rcases Nat.eq_zero_or_pos (hiB (nI m) 21) with h4 | h4
  · exfalso
    have h5 : nI m = 0 := hb_ext (fun i hi => by rw [habv i (by omega), hb_0])
    have h7 := congrArg Int32.toNatClampNeg h5
    have h8 : (nI m).toNatClampNeg = m := nI_clamp (by omega)
    rw [h8] at h7
    have h9 : (0 : Int32).toNatClampNeg = 0 := by decide
    omega
  · exact h4
