/-! what the class's reader makes of a text whose characters are known -/
section
variable {T : Nat → Int32} {len p k d : Nat} {c : Int32 → Bool} {s : RP} {M : Mem}
theorem scan_run : ∀ (k d p : Nat), k ≤ d → (∀ i, i < k → c (T (p + i)) = true) → (k < d → c (T (p + k)) = false) → scan c T d p = p + k
  | 0, 0, p, _, _, _ => rfl
  | 0, d + 1, p, _, _, h2 => by
    unfold scan
    have q := h2 (Nat.succ_pos d)
    rw [Nat.add_zero] at q
    rw [if_neg (by rw [q]; decide)]
    rfl
  | k + 1, 0, p, h, _, _ => absurd h (Nat.not_succ_le_zero k)
  | k + 1, d + 1, p, h, h1, h2 => by
    unfold scan
    have q := h1 0 (Nat.succ_pos k)
    rw [Nat.add_zero] at q
    rw [if_pos q, scan_run k d (p + 1) (Nat.le_of_succ_le_succ h) (fun i hi => by rw [show p + 1 + i = p + (i + 1) by omega]; exact h1 (i + 1) (by omega)) (fun hk => by rw [show p + 1 + k = p + (k + 1) by omega]; exact h2 (by omega))]
    omega
/-- the text has a word at p -/
def sg (T : Nat → Int32) (p : Nat) (w : List Int32) : Prop := ∀ i, i < w.length → T (p + i) = w.getD i 0
theorem sg_app {w w' : List Int32} : sg T p (w ++ w') ↔ sg T p w ∧ sg T (p + w.length) w' := by
  refine ⟨fun h => ⟨fun i hi => ?_, fun i hi => ?_⟩, fun h i hi => ?_⟩
  · rw [h i (by rw [List.length_append]; omega), List.getD_eq_getElem?_getD, List.getElem?_append_left hi, ← List.getD_eq_getElem?_getD]
  · rw [Nat.add_assoc, h (w.length + i) (by rw [List.length_append]; omega), List.getD_eq_getElem?_getD, List.getElem?_append_right (by omega), show w.length + i - w.length = i by omega, ← List.getD_eq_getElem?_getD]
  · rw [List.length_append] at hi
    rcases Nat.lt_or_ge i w.length with e | e
    · rw [h.1 i e, List.getD_eq_getElem?_getD, List.getD_eq_getElem?_getD, List.getElem?_append_left e]
    · have h9 := h.2 (i - w.length) (by omega)
      rw [show p + w.length + (i - w.length) = p + i by omega] at h9
      rw [h9, List.getD_eq_getElem?_getD, List.getD_eq_getElem?_getD, List.getElem?_append_right e]
/-- no space here -/
theorem skip_0 (hp : p < len) (h : isSp (T p) = false) : skipP T len p = p := scan_run 0 (len - p) p (Nat.zero_le _) (fun i hi => absurd hi (Nat.not_lt_zero i)) (fun _ => h)
/-- one space -/
theorem skip_1 (hp : p + 1 < len) (h0 : T p = 32) (h : isSp (T (p + 1)) = false) : skipP T len p = p + 1 := scan_run 1 (len - p) p (by omega) (fun i hi => by rw [show p + i = p by omega, h0]; decide) (fun _ => h)
/-- nothing is left -/
theorem skip_e : skipP T len len = len := by
  unfold skipP
  rw [Nat.sub_self]
  rfl
/-- a number of one digit behind a space -/
theorem dig_1 (hp : p < len) (h : isDi (T p) = true) (h1 : p + 1 < len → isDi (T (p + 1)) = false) : digP T len p = p + 1 := scan_run 1 (len - p) p (by omega) (fun i hi => by rw [show p + i = p by omega]; exact h) (fun hk => h1 (by omega))
theorem di_ok : ∀ v, v < 10 → isDi (nI (48 + v)) = true ∧ isSp (nI (48 + v)) = false ∧ isLo (nI (48 + v)) = false ∧ least9 (10 * 0 + nI (48 + v) - 48) 1000 = nI v := by decide +kernel
theorem num_1 {v : Nat} {lo hi : Int32} (hv : v < 10) (he : s.2.2.2.1 = 0) (hp : s.1 + 1 < len) (h0 : T s.1 = 32) (h1 : T (s.1 + 1) = nI (48 + v)) (h2 : s.1 + 2 < len → isDi (T (s.1 + 2)) = false) (hlo : ¬ (nI v < lo ∨ hi < nI v)) : tnm T len lo hi s = (s.1 + 2, nI (s.1 + 1), s.2.2) ∧ tnv T len lo hi s = nI v := by
  obtain ⟨d1, d2, -, d4⟩ := di_ok v hv
  have e1 : skipP T len s.1 = s.1 + 1 := skip_1 hp h0 (by rw [h1]; exact d2)
  have e2 : digP T len (s.1 + 1) = s.1 + 2 := dig_1 hp (by rw [h1]; exact d1) (fun h => h2 h)
  have e3 : numV T len s.1 = nI v := by
    unfold numV
    rw [e1, e2, show s.1 + 2 - (s.1 + 1) = 1 by omega]
    show least9 (10 * 0 + T (s.1 + 1 + 0) - 48) 1000 = _
    rw [Nat.add_zero, h1]
    exact d4
  have e4 : tdg T len s = (s.1 + 2, nI (s.1 + 1), s.2.2) := by
    unfold tdg tdg0
    rw [e1, e2, if_neg (by omega)]
  have e5 : tnm T len lo hi s = (s.1 + 2, nI (s.1 + 1), s.2.2) := by
    unfold tnm
    rw [e3, if_neg hlo, e4]
  refine ⟨e5, ?_⟩
  unfold tnv
  rw [e5]
  show (if s.2.2.2.1 = 0 then _ else _) = _
  rw [if_pos he, e3]
/-- a word of letters -/
theorem word_k {w : List Int32} (hp : p + w.length ≤ len) (h : sg T p w) (hl : ∀ i, i < w.length → isLo (w.getD i 0) = true) (h1 : p + w.length < len → isLo (T (p + w.length)) = false) : wordP T len p = p + w.length := scan_run w.length (len - p) p (by omega) (fun i hi => by rw [h i hi]; exact hl i hi) (fun hk => h1 (by omega))
theorem wdL_t {b : Nat} {w : List Int32} (h : sg T b w) : ∀ d i, i + d ≤ w.length → wdL T b w d i = true
  | 0, _, _ => rfl
  | d + 1, i, hi => by
    unfold wdL
    rw [if_pos (h i (by omega))]
    exact wdL_t h d (i + 1) (by omega)
/-- the text is that word -/
theorem wdQ_t {b : Nat} {w : List Int32} (h : sg T b w) : wdQ T b (b + w.length) w = true := by
  unfold wdQ
  rw [if_pos (by omega)]
  exact wdL_t h w.length 0 (by omega)
theorem wdL_f {b : Nat} {w : List Int32} : ∀ d i j, i ≤ j → j < i + d → T (b + j) ≠ w.getD j 0 → wdL T b w d i = false
  | 0, i, j, h1, h2, _ => by omega
  | d + 1, i, j, h1, h2, h3 => by
    unfold wdL
    split
    · rename_i e
      by_cases q : i = j
      · rw [q] at e
        exact absurd e h3
      · exact wdL_f d (i + 1) j (by omega) (by omega) h3
    · rfl
/-- the text is another word -/
theorem wdQ_f {b : Nat} {w w' : List Int32} (h : sg T b w) (hn : w'.length ≠ w.length ∨ ∃ j, j < w'.length ∧ j < w.length ∧ w.getD j 0 ≠ w'.getD j 0) : wdQ T b (b + w.length) w' = false := by
  unfold wdQ
  by_cases e : b + w.length - b = w'.length
  · rw [if_pos e]
    rcases hn with h1 | ⟨j, h1, h2, h3⟩
    · exact absurd (show w'.length = w.length by omega) h1
    · exact wdL_f w'.length 0 j (Nat.zero_le j) (by omega) (by rw [h j h2]; exact h3)
  · rw [if_neg e]
end

