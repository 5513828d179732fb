/-! what is drawn, loaded -/
section
variable {M M' Mx : Mem} {n len : Nat} {ts : List ST9} {t : ST9} {u : Nat → Int64} {us : Nat → Nat → Int64}
theorem ch_map {l0 : List Nat} (h : ∀ k ∈ l0, 1 ≤ k ∧ k < 128) : ∀ x ∈ l0.map nI, chr9 x := fun x hx => by
  obtain ⟨k, h1, h2⟩ := List.mem_map.mp hx
  exact ⟨k, (h k h1).1, (h k h1).2, h2.symm⟩
theorem fc {k : Nat} {l0 : List Nat} (h1 : 1 ≤ k) (h2 : k < 128) (h : ∀ y ∈ l0, 1 ≤ y ∧ y < 128) : ∀ y ∈ k :: l0, 1 ≤ y ∧ y < 128 := fun y hy => (List.mem_cons.mp hy).elim (fun e => by rw [e]; exact ⟨h1, h2⟩) (h y)
theorem fcn : ∀ y ∈ ([] : List Nat), 1 ≤ y ∧ y < 128 := fun y hy => absurd hy List.not_mem_nil
theorem gW_chr (g : Nat → Bool) : ∀ k, ∀ x ∈ gW g k, chr9 x
  | 0 => fun x hx => absurd hx List.not_mem_nil
  | k + 1 => ch_l (gW_chr g k) (fun x hx => by
    rw [List.mem_singleton.mp hx]
    cases g k
    · exact ⟨48, by decide, by decide, rfl⟩
    · exact ⟨49, by decide, by decide, rfl⟩)
theorem sW_chr (hn : n ≤ 9) (hok : sOk n t u) : ∀ x ∈ sW n t, chr9 x := by
  obtain ⟨k, x, r, c, g⟩ := t
  rcases k with _ | _ | _ | _ | k
  · have hok1 : x < 6 ∧ r < n ∧ c < n := hok
    exact ch_map (l0 := [59, 32, 101, 100, 103, 101, 32, 48 + x, 32, 48 + r, 32, 48 + c]) (fc (by decide) (by decide) (fc (by decide) (by decide) (fc (by decide) (by decide) (fc (by decide) (by decide) (fc (by decide) (by decide) (fc (by decide) (by decide) (fc (by decide) (by decide) (fc (by omega) (by omega) (fc (by decide) (by decide) (fc (by omega) (by omega) (fc (by decide) (by decide) (fc (by omega) (by omega) fcn))))))))))))
  · have hok1 : x < 6 ∧ r < n := hok
    refine ch_l (w := roW x r) (w' := gW g n) ?_ (gW_chr g n)
    exact ch_map (l0 := [59, 114, 111, 119, 32, 48 + x, 32, 48 + r, 32]) (fc (by decide) (by decide) (fc (by decide) (by decide) (fc (by decide) (by decide) (fc (by decide) (by decide) (fc (by decide) (by decide) (fc (by omega) (by omega) (fc (by decide) (by decide) (fc (by omega) (by omega) (fc (by decide) (by decide) fcn)))))))))
  · have hok1 : x < 6 ∧ r < 4 := hok
    refine ch_l (w := fiW x) (w' := strW (4 + r)) ?_ ?_
    · exact ch_map (l0 := [32, 59, 102, 105, 108, 108, 32, 48 + x, 32]) (fc (by decide) (by decide) (fc (by decide) (by decide) (fc (by decide) (by decide) (fc (by decide) (by decide) (fc (by decide) (by decide) (fc (by decide) (by decide) (fc (by decide) (by decide) (fc (by omega) (by omega) (fc (by decide) (by decide) fcn)))))))))
    · rcases (by omega : r = 0 ∨ r = 1 ∨ r = 2 ∨ r = 3) with e | e | e | e <;> subst e
      · exact ch_map (l0 := [117, 110, 105, 116]) (by decide)
      · exact ch_map (l0 := [111, 110, 101, 115]) (by decide)
      · exact ch_map (l0 := [114, 105, 110, 103]) (by decide)
      · exact ch_map (l0 := [108, 111, 119, 101, 114]) (by decide)
  · have hok1 : x < 6 ∧ u (4 + x) = b1L false := hok
    exact ch_map (l0 := [59, 107, 101, 101, 112, 32, 48 + x]) (fc (by decide) (by decide) (fc (by decide) (by decide) (fc (by decide) (by decide) (fc (by decide) (by decide) (fc (by decide) (by decide) (fc (by decide) (by decide) (fc (by omega) (by omega) fcn)))))))
  · have hok1 : 1 ≤ x ∧ x ≤ 8 := hok
    exact ch_map (l0 := [59, 98, 108, 111, 99, 107, 32, 48 + x]) (fc (by decide) (by decide) (fc (by decide) (by decide) (fc (by decide) (by decide) (fc (by decide) (by decide) (fc (by decide) (by decide) (fc (by decide) (by decide) (fc (by decide) (by decide) (fc (by omega) (by omega) fcn))))))))
theorem sT_chr (hn : n ≤ 9) : ∀ (ts : List ST9) (u : Nat → Int64), sC n u ts → ∀ x ∈ sT n ts, chr9 x
  | [], _, _ => fun x hx => absurd hx List.not_mem_nil
  | t :: ts, u, h => ch_l (sW_chr hn h.1) (sT_chr hn ts _ h.2)
theorem tx_chr (hn : n ≤ 9) (h : sC n u ts) : ∀ x ∈ szW n ++ sT n ts, chr9 x := by
  refine ch_l ?_ (sT_chr hn ts u h)
  exact ch_map (l0 := [115, 105, 122, 101, 32, 48 + n]) (fc (by decide) (by decide) (fc (by decide) (by decide) (fc (by decide) (by decide) (fc (by decide) (by decide) (fc (by decide) (by decide) (fc (by omega) (by omega) fcn))))))
theorem chr_asc {tx : List Int32} (h : ∀ x ∈ tx, chr9 x) : ∀ x ∈ tx, asc x := fun x hx => by
  obtain ⟨k, h1, h2, h3⟩ := h x hx
  exact ⟨k, h2, h3⟩
theorem chr_T {tx : List Int32} (h : ∀ x ∈ tx, chr9 x) : ∃ T : Nat → Nat, ∀ j, j < tx.length → tx.getD j 0 = nI (T j) ∧ 1 ≤ T j ∧ T j < 128 := by
  have h1 : ∀ j, ∃ k, j < tx.length → tx.getD j 0 = nI k ∧ 1 ≤ k ∧ k < 128 := fun j => by
    by_cases e : j < tx.length
    · have h2 : tx.getD j 0 = tx[j] := by rw [List.getD_eq_getElem?_getD, List.getElem?_eq_getElem e]; rfl
      obtain ⟨k, k1, k2, k3⟩ := h _ (List.getElem_mem e)
      exact ⟨k, fun _ => ⟨h2.trans k3, k1, k2⟩⟩
    · exact ⟨0, fun z => absurd z e⟩
  exact Classical.skolem.mp h1
end
