/-! the shape of what is made -/
theorem refSt_j {b i j : Nat} (h : 25 ≤ j) : refSt b i j = none := by
  unfold refSt
  by_cases h0 : i = b
  · rw [if_pos h0, if_neg (by omega)]
  rw [if_neg h0]
  by_cases h1 : i = b + 1
  · rw [if_pos h1, if_neg (by omega)]
  rw [if_neg h1, if_neg (by omega)]
theorem getD_j {L : List (Option Nat)} {j : Nat} (h : L.length ≤ j) : L.getD j none = none := by
  rw [List.getD_eq_getElem?_getD, List.getElem?_eq_none h]; rfl
theorem ref0_j {j : Nat} (h : 25 ≤ j) : ref0 j = none := getD_j (Nat.le_trans (by decide) h)
theorem ref198_j {j : Nat} (h : 25 ≤ j) : ref198 j = none := getD_j (Nat.le_trans (by decide) h)
theorem REFT_j {i j : Nat} (h : 25 ≤ j) : REFT i j = none := by
  unfold REFT
  by_cases h0 : i = 0
  · rw [if_pos h0]; exact ref0_j h
  rw [if_neg h0]
  by_cases h1 : i = 1
  · rw [if_pos h1]; exact if_neg (by omega)
  rw [if_neg h1]
  by_cases h2 : i < 17
  · rw [if_pos h2]; exact refSt_j h
  rw [if_neg h2]
  by_cases h3 : i < 31
  · rw [if_pos h3]; exact refSt_j h
  rw [if_neg h3]
  by_cases h4 : i = 31
  · rw [if_pos h4]; exact if_neg (by omega)
  rw [if_neg h4]
  by_cases h5 : i < 144
  · rw [if_pos h5]; exact refSt_j h
  rw [if_neg h5]
  by_cases h6 : i = 144
  · rw [if_pos h6]; exact if_neg (by omega)
  rw [if_neg h6]
  by_cases h7 : i < 159
  · rw [if_pos h7]; exact refSt_j h
  rw [if_neg h7]
  by_cases h8 : i < 173
  · rw [if_pos h8]; exact refSt_j h
  rw [if_neg h8]
  by_cases h9 : i = 174
  · rw [if_pos h9]; exact if_neg (by omega)
  rw [if_neg h9]
  by_cases h10 : i < 175
  · rw [if_pos h10]
  rw [if_neg h10]
  by_cases h11 : i < 187
  · rw [if_pos h11]; exact if_neg (by omega)
  rw [if_neg h11]
  by_cases h12 : i = 187
  · rw [if_pos h12]; exact if_neg (by omega)
  rw [if_neg h12]
  by_cases h13 : i = 191
  · rw [if_pos h13]; exact if_neg (by omega)
  rw [if_neg h13]
  by_cases h14 : i = 198
  · rw [if_pos h14]; exact ref198_j h
  rw [if_neg h14]
theorem REFT_i {i j : Nat} (h : 214 ≤ i) : REFT i j = none := by
  unfold REFT
  rw [if_neg (show ¬ i = 0 by omega), if_neg (show ¬ i = 1 by omega), if_neg (show ¬ i < 17 by omega), if_neg (show ¬ i < 31 by omega), if_neg (show ¬ i = 31 by omega), if_neg (show ¬ i < 144 by omega), if_neg (show ¬ i = 144 by omega), if_neg (show ¬ i < 159 by omega), if_neg (show ¬ i < 173 by omega), if_neg (show ¬ i = 174 by omega), if_neg (show ¬ i < 175 by omega), if_neg (show ¬ i < 187 by omega), if_neg (show ¬ i = 187 by omega), if_neg (show ¬ i = 191 by omega), if_neg (show ¬ i = 198 by omega)]
theorem REFT_b {i j r : Nat} (h : REFT i j = some r) : i < 214 ∧ j < 25 := by
  constructor
  · rcases Nat.lt_or_ge i 214 with q | q
    · exact q
    · rw [REFT_i q] at h; cases h
  · rcases Nat.lt_or_ge j 25 with q | q
    · exact q
    · rw [REFT_j q] at h; cases h
def chkO : Option Nat → Option Nat → Bool
  | none, _ => true
  | some _, none => false
  | some r, some q => Nat.beq r q
def allB (f : Nat → Bool) : Nat → Bool
  | 0 => true
  | n + 1 => allB f n && f n
def chkI (i : Nat) : Bool := allB (fun j => chkO (REFT i j) (lkR FR i j)) 25
theorem recB {f : Nat → Bool} : ∀ {n : Nat}, allB f n = true → ∀ i, i < n → f i = true
  | 0, _, i, hi => absurd hi (by omega)
  | n + 1, h, i, hi => by
    rw [allB.eq_2, Bool.and_eq_true] at h
    rcases Nat.lt_or_ge i n with q | q
    · exact recB h.1 i q
    · rw [show i = n by omega]; exact h.2
set_option maxRecDepth 20000 in
theorem chkR_ok : allB chkI 214 = true := by decide +kernel
theorem FR_ok {i j r : Nat} (h : REFT i j = some r) : lkR FR i j = some r := by
  obtain ⟨h1, h2⟩ := REFT_b h
  have h3 : chkO (REFT i j) (lkR FR i j) = true := recB (f := fun j => chkO (REFT i j) (lkR FR i j)) (n := 25) (recB (f := chkI) (n := 214) chkR_ok i h1) j h2
  rw [h] at h3
  generalize lkR FR i j = y at *
  cases y with
  | none => cases h3
  | some q => rw [Nat.eq_of_beq_eq_true (show Nat.beq r q = true from h3)]

