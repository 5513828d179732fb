/-! statements one behind another -/
def StO (T : Nat → Int32) (len n : Nat) (z z1 : Mem × RP) : Prop := z.2.2.2.2.1 = 0 ∧ skipP T len z.2.1 < len ∧ (tsc T len (skp T len z.2)).2.2.2.1 = 0 ∧ rsR z.1 len n (tsc T len (skp T len z.2)) = z1
section
variable {T : Nat → Int32} {len n : Nat}
theorem rsL_s {d : Nat} {z z1 : Mem × RP} (hT : mI z.1 2 = T) (h : StO T len n z z1) : rsL len n (d + 1) z.1 z.2 = rsL len n d z1.1 z1.2 := by
  obtain ⟨h1, h2, h3, h4⟩ := h
  rw [rsL.eq_2, hT, if_pos (by rw [decide_eq_true h1, decide_eq_true h2]; rfl), if_pos h3, h4]
theorem rsL_e {d : Nat} {z : Mem × RP} (hT : mI z.1 2 = T) (h : z.2.1 = len) : rsL len n (d + 1) z.1 z.2 = z := by
  have e : skipP T len z.2.1 = len := by rw [h]; exact skip_e
  rw [rsL.eq_2, hT, e, if_neg (by rw [decide_eq_false (Nat.lt_irrefl len), Bool.and_false]; decide)]
  unfold skp
  rw [e, ← h]
theorem rsL_K : ∀ (K d : Nat) (z : Nat → Mem × RP), K < d → (∀ k, k ≤ K → mI (z k).1 2 = T) → (∀ k, k < K → StO T len n (z k) (z (k + 1))) → (z K).2.1 = len → rsL len n d (z 0).1 (z 0).2 = z K
  | 0, 0, _, h, _, _, _ => absurd h (Nat.lt_irrefl 0)
  | 0, d + 1, z, _, hT, _, he => rsL_e (hT 0 (Nat.le_refl 0)) he
  | K + 1, 0, _, h, _, _, _ => absurd h (Nat.not_lt_zero _)
  | K + 1, d + 1, z, h, hT, hs, he => by
    rw [rsL_s (hT 0 (Nat.zero_le _)) (hs 0 (Nat.succ_pos K))]
    exact rsL_K K d (fun k => z (k + 1)) (by omega) (fun k hk => hT (k + 1) (by omega)) (fun k hk => hs (k + 1) (by omega)) he
end

