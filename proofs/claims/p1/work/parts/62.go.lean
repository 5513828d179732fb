/-! p1: at most one call -/
section
variable {l : Launch} {Q : Res → Mem → Prop} {L : Nat} {xs : Nat → Int32}
theorem law_go (hL : L ≤ 5) (hQ : ∀ M, Q (.inl (some (.int 1))) M) : Go l jL_law 14 538 600002 7302232 Q 0 [(0, .retAddr 0)] [] 600002 7302232 (M00 L xs) := by
  refine law_made fun M hF hS => ?_
  have hL2 : ((L, xs) : Nat × (Nat → Int32)).1 ≤ 5 := hL
  generalize ((L, xs) : Nat × (Nat → Int32)) = S at *
  by_cases h : 5 ≤ S.1
  · refine law_in hS (by omega) (by decide) (by omega) (g_less (k' := 4) (n' := 24) (Nat.le_of_ble_eq_true rfl) (Nat.le_of_ble_eq_true rfl) ?_)
    exact law_step (k := 0) (n := 0) hF hF.1 hS (by omega) (by omega) (fun M2 h1 _ h2 => law_nx (law_out h2 (by omega) (by decide) (by omega) (hQ _))) (law_nx (law_out hS (by omega) (by decide) (by omega) (hQ _)))
  · exact law_out hS (by omega) (by decide) (by omega) (hQ _)
end
