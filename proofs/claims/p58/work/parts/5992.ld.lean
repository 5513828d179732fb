/-! both readers: after an error the class reads on, the reference stops -/
def EqS (s t : RP) : Prop := s.2.2.1 = t.2.2.1 ∧ s.2.2.2.1 = t.2.2.2.1 ∧ (s.2.2.2.1 ≠ 0 → s.2.2.2.2 = t.2.2.2.2) ∧ (s.2.2.2.1 = 0 → s.1 = t.1 ∧ s.2.1 = t.2.1)
/-- an error stays -/
def KpS (s t : RP) : Prop := s.2.2.2.1 ≠ 0 → t.2.2 = s.2.2
section
variable {s t u : RP} {T : Nat → Int32} {len n : Nat}
theorem KpS.tr (h : KpS s t) (g : KpS t u) : KpS s u := fun e => by
  have h1 := h e
  have h2 := g (by rw [h1]; exact e)
  rw [h2, h1]
theorem KpS.e (h : KpS s t) (e : s.2.2.2.1 ≠ 0) : t.2.2.2.1 ≠ 0 := by
  rw [h e]
  exact e
theorem EqS.kp (h : EqS s t) (g : KpS s u) (e : s.2.2.2.1 ≠ 0) : EqS u t := by
  have h1 := g e
  obtain ⟨a, b, c, d⟩ := h
  unfold EqS
  rw [h1]
  exact ⟨a, b, c, fun q => absurd q e⟩
theorem EqS.e0 (h : EqS s t) : s.2.2.2.1 = 0 ↔ t.2.2.2.1 = 0 := by rw [h.2.1]
theorem kp_fail {k a : Int32} : KpS s (rFail k a s) := fun e => by
  unfold rFail
  rw [if_neg e]
theorem eq_fail {k a : Int32} (h : EqS s t) : EqS (rFail k a s) (rFail k a t) := by
  unfold rFail
  by_cases e : s.2.2.2.1 = 0
  · rw [if_pos e, if_pos (h.e0.mp e)]
    obtain ⟨a1, a2, a3, a4⟩ := h
    refine ⟨a1, rfl, fun _ => rfl, fun _ => a4 e⟩
  · rw [if_neg e, if_neg (fun q => e (h.e0.mpr q))]
    exact h
theorem kp_twd : KpS s (twd T len s) := fun _ => rfl
theorem eq_twd (h : EqS s t) : EqS (twd T len s) (twd T len t) := by
  obtain ⟨a1, a2, a3, a4⟩ := h
  refine ⟨a1, a2, a3, fun e => ?_⟩
  have := (a4 e).1
  unfold twd
  rw [this]
  exact ⟨rfl, rfl⟩
theorem kp_tdg : KpS s (tdg T len s) := by
  unfold tdg
  split
  · exact KpS.tr (t := tdg0 T len s) (fun _ => rfl) kp_fail
  · exact fun _ => rfl
theorem eq_tdg (h : EqS s t) (e : s.2.2.2.1 = 0) : EqS (tdg T len s) (tdg T len t) := by
  have h1 := (h.2.2.2 e).1
  have h0 : EqS (tdg0 T len s) (tdg0 T len t) := by
    obtain ⟨a1, a2, a3, a4⟩ := h
    refine ⟨a1, a2, a3, fun _ => ?_⟩
    unfold tdg0
    rw [h1]
    exact ⟨rfl, rfl⟩
  unfold tdg
  rw [h1]
  split
  · exact eq_fail h0
  · exact h0
theorem kp_tnm {lo hi : Int32} : KpS s (tnm T len lo hi s) := by
  unfold tnm
  split
  · exact kp_tdg.tr kp_fail
  · exact kp_tdg
theorem eq_tnm {lo hi : Int32} (h : EqS s t) : EqS (tnm T len lo hi s) (nmS T len lo hi t) := by
  by_cases e : s.2.2.2.1 = 0
  · have h1 := (h.2.2.2 e).1
    unfold nmS
    rw [if_pos (h.e0.mp e)]
    unfold tnm
    rw [h1]
    split
    · exact eq_fail (eq_tdg h e)
    · exact eq_tdg h e
  · unfold nmS
    rw [if_neg (fun q => e (h.e0.mpr q))]
    exact h.kp kp_tnm e
theorem eq_tnv {lo hi : Int32} (h : EqS s t) : tnv T len lo hi s = nmV T len lo hi t := by
  have h2 := eq_tnm (T := T) (len := len) (lo := lo) (hi := hi) h
  by_cases e : s.2.2.2.1 = 0
  · have h1 := (h.2.2.2 e).1
    have e2 := h.e0.mp e
    unfold nmS at h2
    rw [if_pos e2] at h2
    unfold nmV
    rw [if_pos e2]
    unfold tnv
    by_cases q : (tnm T len lo hi s).2.2.2.1 = 0
    · rw [if_pos q, if_pos (h2.e0.mp q), h1]
    · rw [if_neg q, if_neg (fun q9 => q (h2.e0.mpr q9))]
  · unfold nmV
    rw [if_neg (fun q => e (h.e0.mpr q))]
    unfold tnv
    rw [if_neg (kp_tnm.e e)]
theorem eq_tnN {k : Nat} (h : EqS s t) : tnN T len k s = nmN T len k t := by
  unfold tnN nmN
  rw [eq_tnv h]
/-- a row of zeros and ones -/
theorem kp_tbI {b : Nat} {a : Int32} : ∀ k, KpS s (tbI T b a s k).1
  | 0 => fun _ => rfl
  | k + 1 => by
    unfold tbI
    split
    · exact (kp_tbI k).tr kp_fail
    · split
      · exact kp_tbI k
      · exact kp_tbI k
theorem kp_tbs : KpS s (tbs T len n s).1 := by
  unfold tbs
  split
  · exact kp_tdg.tr (kp_tbI n)
  · exact kp_tdg.tr kp_fail
theorem tb_ok {b : Nat} {a : Int32} (e : s.2.2.2.1 = 0) : ∀ k, k ≤ 32 → (isB T b k = true → tbI T b a s k = (s, rbB T b k)) ∧ (isB T b k = false → (tbI T b a s k).1 = rFail 2 a s)
  | 0, _ => ⟨fun _ => rfl, fun h => by cases h⟩
  | k + 1, hk => by
    obtain ⟨i1, i2⟩ := tb_ok (b := b) (a := a) e k (by omega)
    constructor
    · intro h
      unfold isB at h
      rw [Bool.and_eq_true, decide_eq_true_iff] at h
      have h1 := i1 h.1
      unfold tbI rbB
      rw [if_neg (Int32.not_lt.mpr h.2), h1]
      by_cases q : T (b + k) = 49
      · rw [if_pos q, if_pos ⟨by omega, q⟩]
      · rw [if_neg q, if_neg (fun z => q z.2), Int32.or_zero]
    · intro h
      unfold isB at h
      rw [Bool.and_eq_false_iff, decide_eq_false_iff_not] at h
      unfold tbI
      by_cases q : isB T b k = true
      · have h2 : ¬ T (b + k) ≤ 49 := by
          rcases h with h | h
          · rw [q] at h
            cases h
          · exact h
        rw [if_pos (Int32.not_le.mp h2), i1 q]
      · have h3 := i2 (Bool.eq_false_iff.mpr q)
        have h4 : ¬ (rFail 2 a s).2.2.2.1 = 0 := by
          unfold rFail
          rw [if_pos e]
          show ¬ (2 : Int32) = 0
          decide
        split
        · show rFail 2 a (tbI T b a s k).1 = _
          rw [h3]
          unfold rFail at h4 ⊢
          rw [if_neg h4]
        · split
          · exact h3
          · exact h3
end
