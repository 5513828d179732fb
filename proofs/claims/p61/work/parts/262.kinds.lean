/-! a desk stays: by its cells, by their kinds, by their numbers -/
def cel (d n : Nat) (q : DQ) (i : Nat) : Prop := i = d ∨ i = q.1 ∨ i = q.2.1 ∨ i = q.2.2.1 ∨ ∃ s, s < 6 ∧ (i = q.2.2.2.1 s ∨ i = q.2.2.2.2.2 s ∨ ∃ r, r < n ∧ i = q.2.2.2.2.1 s r)
section
variable {M M' : Mem} {d n i N : Nat} {q : DQ} {u : Nat → Int64} {W : Nat → Prop} {ρ : Nat → Nat × Nat}
theorem DK.xg (h : DK M d n q u) (hx : Xt W M M') (hW : ∀ i, cel d n q i → ¬ W i) : DK M' d n q u := by
  obtain ⟨⟨a1, a2, a3, a4⟩, ⟨b1', b2, b3, b4⟩, ⟨c1, c2, c3⟩, hS⟩ := h
  have nd := hW d (Or.inl rfl)
  have n1 := hW q.1 (Or.inr (Or.inl rfl))
  have n2 := hW q.2.1 (Or.inr (Or.inr (Or.inl rfl)))
  have n3 := hW q.2.2.1 (Or.inr (Or.inr (Or.inr (Or.inl rfl))))
  have nS : ∀ {i s : Nat}, s < 6 → (i = q.2.2.2.1 s ∨ i = q.2.2.2.2.2 s ∨ ∃ r, r < n ∧ i = q.2.2.2.2.1 s r) → ¬ W i := fun {i s} hs h9 => hW i (Or.inr (Or.inr (Or.inr (Or.inr ⟨s, hs, h9⟩))))
  have eR := hx.R (k_lt a1) nd
  have eI := hx.I (k_lt a1) nd
  refine ⟨⟨hx.k a1, (congrFun eR 4).trans a2, (congrFun eR 5).trans a3, (congrFun eR 6).trans a4⟩, ⟨(congrFun eI 0).trans b1', (congrFun eI 1).trans b2, (congrFun eI 2).trans b3, (congrFun eI 3).trans b4⟩, ⟨hx.k c1, hx.k c2, hx.k c3⟩, fun t ht => ?_⟩
  have hS9 : DS M n q u t := hS t ht
  exact hS9.xt hx ⟨k_lt c1, k_lt c2, k_lt c3⟩ n1 n2 n3 (nS ht (Or.inl rfl)) (fun r hr => nS ht (Or.inr (Or.inr ⟨r, hr, rfl⟩))) (nS ht (Or.inr (Or.inl rfl))) ⟨fun _ _ => rfl, rfl, rfl, rfl, rfl⟩
/-- the kinds of a desk's cells -/
def dkk : Knd → Prop
  | .inr c => c = 7
  | .inl (.boolean, _) => True
  | .inl (.int, _) => True
  | .inl (.array _, _) => True
  | _ => False
theorem DK.cel_k (h : DK M d n q u) (hi : cel d n q i) : ∃ x, (mK M)[i]? = some x ∧ dkk x := by
  obtain ⟨⟨a1, -⟩, -, ⟨c1, c2, c3⟩, hS⟩ := h
  rcases hi with e | e | e | e | ⟨s, hs, e | e | ⟨r, hr, e⟩⟩
  · rw [e]; exact ⟨_, a1, rfl⟩
  · rw [e]; exact ⟨_, c1, trivial⟩
  · rw [e]; exact ⟨_, c2, trivial⟩
  · rw [e]; exact ⟨_, c3, trivial⟩
  · rw [e]; exact ⟨_, (hS s hs).1.2.1, trivial⟩
  · rw [e]; exact ⟨_, (hS s hs).2.2.2.1, trivial⟩
  · rw [e]; exact ⟨_, ((hS s hs).1.2.2 r hr).2.1, trivial⟩
/-- cells of other kinds are written -/
theorem DK.xk (h : DK M d n q u) (hx : Xt W M M') (hW : ∀ i, W i → ∃ x, (mK M)[i]? = some x ∧ ¬ dkk x) : DK M' d n q u := h.xg hx (fun i hi w => by
  obtain ⟨x, h1, h2⟩ := h.cel_k hi
  obtain ⟨y, h3, h4⟩ := hW i w
  rw [h1] at h3
  exact h4 (Option.some.inj h3 ▸ h2))
/-- whose the cells are -/
theorem OW.cel (ho : OW ρ d n q) (hi : cel d n q i) : (ρ i).1 = d := by
  obtain ⟨o1, o2, o3, o4, o5⟩ := ho
  rcases hi with e | e | e | e | ⟨s, hs, e | e | ⟨r, hr, e⟩⟩
  · rw [e, o1]
  · rw [e, o2]
  · rw [e, o3]
  · rw [e, o4]
  · rw [e, (o5 s hs).1]
  · rw [e, (o5 s hs).2.1]
  · rw [e, (o5 s hs).2.2 r hr]
end

