section
variable {l : Launch} {M : Mem} {n : Nat}
theorem feF_ok (f : Nat → Int32) (b n : Nat) : ∀ d e x, feF f b n d e x = -1 ∨ ∃ k, k < e + d ∧ feF f b n d e x = nI k
  | 0, _, _ => Or.inl rfl
  | d + 1, e, x => by
    rw [feF]
    split
    · exact Or.inr ⟨e, by omega, rfl⟩
    · rcases feF_ok f b n d (e + 1) (jrF f x n) with h | ⟨k, h1, h2⟩
      · exact Or.inl h
      · exact Or.inr ⟨k, by omega, h2⟩
theorem dsV_ok (f : Nat → Int32) (a b : Nat) : dsV f a b n = -1 ∨ ∃ k, k ≤ n ∧ dsV f a b n = nI k := by
  unfold dsV
  split
  · exact Or.inr ⟨0, Nat.zero_le _, rfl⟩
  · rcases feF_ok f b n n 1 (f a) with h | ⟨k, h1, h2⟩
    · exact Or.inl h
    · exact Or.inr ⟨k, by omega, h2⟩
theorem sp_lt : ∀ {d : Nat}, d ≤ 32 → nI d - 1 < nI d := by
  intro d h
  have h9 : ∀ d, d < 33 → nI d - 1 < nI d := by decide +kernel
  exact h9 d (by omega)
/-- the node after m steps of k -/
def ndF (f lv : Nat → Int32) (k a : Nat) : Nat → Nat
  | 0 => a
  | m + 1 => lowN (f (ndF f lv k a m) &&& lv (k - m - 1))
theorem ndF_lt {f lv : Nat → Int32} {k a : Nat} (h : a < 32) : ∀ m, ndF f lv k a m < 32
  | 0 => h
  | _ + 1 => lowN_lt _
def spM (M : Mem) (s b n k : Nat) : Mem := sI M 196 (wr (mI M 196) (rwlF (mI M (6 + 2 * s)) b n) (if k = 0 then 1 else k))
end
