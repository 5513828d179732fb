/-! what the class's calls leave as it was -/
def Cf (M M' : Mem) : Prop := mK M' = mK M ∧ mX M' = mX M ∧ mL M' = mL M ∧ mR M' = mR M ∧ mD M' = mD M ∧ mS M' = mS M ∧ ∀ i, 198 ≤ i → mI M' i = mI M i
section
variable {M M1 M2 : Mem}
theorem Cf.rf (M : Mem) : Cf M M := ⟨rfl, rfl, rfl, rfl, rfl, rfl, fun _ _ => rfl⟩
theorem Cf.tr (h : Cf M M1) (g : Cf M1 M2) : Cf M M2 := ⟨g.1.trans h.1, g.2.1.trans h.2.1, g.2.2.1.trans h.2.2.1, g.2.2.2.1.trans h.2.2.2.1, g.2.2.2.2.1.trans h.2.2.2.2.1, g.2.2.2.2.2.1.trans h.2.2.2.2.2.1, fun i hi => (g.2.2.2.2.2.2 i hi).trans (h.2.2.2.2.2.2 i hi)⟩
theorem Cf.S (h : Cf M M1) (hS : Shp M) : Shp M1 := by
  obtain ⟨⟨r9, hr⟩, -, h3⟩ := hS
  exact ⟨⟨r9, h.1.trans hr⟩, trivial, fun i j r q => by rw [h.2.2.2.1]; exact h3 i j r q⟩
theorem Cf.L (h : Cf M M1) : mL M1 = mL M := h.2.2.1
theorem Cf.I (h : Cf M M1) {i : Nat} (hi : 198 ≤ i) : mI M1 i = mI M i := h.2.2.2.2.2.2 i hi
theorem Cf.x (h : Cf M M1) : Xt (fun i => i < 198) M M1 := ⟨⟨[], by rw [h.1, List.append_nil]⟩, h.2.1, h.2.2.2.2.2.1, fun i _ hn => ⟨h.I (Nat.le_of_not_lt hn), by rw [h.L], by rw [h.2.2.2.1], by rw [h.2.2.2.2.1]⟩⟩
end
