/-! the invariant of a run -/
def IS (M : Mem) : Prop := ∀ q, q < 2 → keptOk M (145 + 14 * q) ∧ ((mI M 173 q = 0 ∧ mI M 203 q = 0) ∨ (mI M 173 q = 1 ∧ mI M 203 q = 1 ∧ ∃ n', SR M (145 + 14 * q) (fun j => mL M 202 (220 * q + j)) n'))
def IC (M : Mem) (n : Nat) : Prop := ∀ s, s < 6 → mI M (175 + 2 * s) 1 ≠ 0 → ∀ r, r < n → mI M (176 + 2 * s) r = wOut (mI M (6 + 2 * s)) n n r
def IR (M : Mem) : Prop := (∃ len, len ≤ 600 ∧ mI M 1 1 = nI len ∧ mI M 198 8 = nI len ∧ txt M (mI M 2) len) ∧ mI M 198 14 = mI M 1 5 ∧ mI M 198 15 = (if mI M 1 5 = 0 then -1 else mI M 1 4)
def IX (M : Mem) : Prop := mI M 188 0 = 0 ∧ bsOk M ∧ (∃ k, k ≤ 32 ∧ mI M 0 14 = nI k) ∧ ∃ w, w ≤ 32 ∧ mI M 198 24 = nI w
def IP (M : Mem) (n p c : Nat) : Prop := mI M 0 4 = nI p ∧ p < 8 ∧ mI M 0 5 = nI c ∧ c ≤ 8 ∧ mI M 198 5 = nI c ∧ ∀ i, i < c → SR M (32 + 14 * ((p + 8 - c + i) % 8)) (fun j => mL M 201 (220 * i + j)) n
def IV (M : Mem) (n p c : Nat) : Prop := Shp M ∧ SR M 3 (mL M 199) n ∧ IP M n p c ∧ IS M ∧ IC M n ∧ IR M ∧ IX M
def Inv (M : Mem) : Prop := ∃ n p c, IV M n p c
section
variable {M M' : Mem} {n p c : Nat}
theorem IV.S (h : IV M n p c) : Shp M := h.1
theorem IV.z (h : IV M n p c) : mI M 3 1 = nI n := h.2.1.1.2.2.1
theorem IV.n1 (h : IV M n p c) : 1 ≤ n := h.2.1.1.1
theorem IV.n32 (h : IV M n p c) : n ≤ 32 := h.2.1.1.2.1
theorem IV.D (h : IV M n p c) : Dk M n p c := ⟨h.1, h.z, h.n32, h.2.2.1.1, h.2.2.1.2.1, h.2.2.1.2.2.1, h.2.2.1.2.2.2.1, SR_keep h.2.1⟩
theorem IV.R (h : IV M n p c) : Rr M n (Am M) := ⟨h.1, h.2.1.1.2.2.2, h.n1, h.n32, fun s r hs hr => by
  have h9 := (h.2.1.2.2.2.2 s hs).2.2.2.2.1 r hr
  rw [show 3 + 3 + 2 * s = 6 + 2 * s by omega] at h9
  exact h9⟩
theorem IV.wf (h : IV M n p c) {s : Nat} (hs : s < 6) : wfr n (mI M (6 + 2 * s)) := by
  have h9 := (h.2.1.2.2.2.2 s hs).2.2.2.2.2
  rw [show 3 + 3 + 2 * s = 6 + 2 * s by omega] at h9
  exact h9
theorem IV.wA (h : IV M n p c) : wfA n (Am M) := fun s r hs hr c hc => h.wf hs r hr c hc
/-- the cells that the invariant speaks of, but for closures and 188 -/
def qId (i : Nat) : Prop := i ≤ 16 ∨ (32 ≤ i ∧ i < 174)
theorem iv_q (h : IV M n p c) (hS : Shp M') (e : ∀ i, qId i → i ≠ 0 → mI M' i = mI M i) (e0 : (mI M' 0 4 = mI M 0 4 ∧ mI M' 0 5 = mI M 0 5) ∧ ∃ k, k ≤ 32 ∧ mI M' 0 14 = nI k) (e199 : mL M' 199 = mL M 199) (e201 : mL M' 201 = mL M 201) (e202 : mL M' 202 = mL M 202) (hC : IC M' n) (h188 : mI M' 188 0 = 0) (hbs : bsOk M') (e203 : mI M' 203 = mI M 203) (e204 : mI M' 204 = mI M 204) (e198 : mI M' 198 5 = mI M 198 5 ∧ mI M' 198 8 = mI M 198 8 ∧ mI M' 198 14 = mI M 198 14 ∧ mI M' 198 15 = mI M 198 15 ∧ ∃ w, w ≤ 32 ∧ mI M' 198 24 = nI w) : IV M' n p c := by
  obtain ⟨-, h2, ⟨p1, p2, p3, p4, p5, p6⟩, h4, -, ⟨⟨len, l1, l2, l3, l4⟩, r2, r3⟩, x1, x2, x3, x4⟩ := h
  refine ⟨hS, SR_cg h2 (fun i h1 h2 => e i (Or.inl (by omega)) (by omega)) (fun i _ => by rw [e199]), ⟨by rw [e0.1.1]; exact p1, p2, by rw [e0.1.2]; exact p3, p4, by rw [e198.1]; exact p5, fun i hi => ?_⟩, fun q hq => ?_, hC, ⟨⟨len, l1, by rw [e 1 (Or.inl (by decide)) (by decide)]; exact l2, by rw [e198.2.1]; exact l3, fun i hi => ?_⟩, by rw [e198.2.2.1, e 1 (Or.inl (by decide)) (by decide)]; exact r2, by rw [e198.2.2.2.1, e 1 (Or.inl (by decide)) (by decide)]; exact r3⟩, h188, hbs, e0.2, e198.2.2.2.2⟩
  · have hm : (p + 8 - c + i) % 8 < 8 := Nat.mod_lt _ (by decide)
    exact SR_cg (p6 i hi) (fun j h1 h2 => e j (Or.inr (by omega)) (by omega)) (fun j _ => by rw [e201])
  · obtain ⟨k1, k2⟩ := h4 q hq
    have e173 := e 173 (Or.inr (by decide)) (by decide)
    refine ⟨fun s hs => by rw [e _ (Or.inr (by omega)) (by omega)]; exact k1 s hs, ?_⟩
    rcases k2 with ⟨a1, a2⟩ | ⟨a1, a2, n', a3⟩
    · exact Or.inl ⟨by rw [e173]; exact a1, by rw [e203]; exact a2⟩
    · exact Or.inr ⟨by rw [e173]; exact a1, by rw [e203]; exact a2, n', SR_cg a3 (fun j h1 h2 => e j (Or.inr (by omega)) (by omega)) (fun j _ => by rw [e202])⟩
  · obtain ⟨j, j1, j2, j3⟩ := l4 i hi
    exact ⟨j, j1, by rw [e 2 (Or.inl (by decide)) (by decide)]; exact j2, by rw [e204]; exact j3⟩
end
