/-! the first memory -/
/-- the memory when all is made -/
def M0 (L : Nat) (xs : Nat → Int32) : Mem := nK (nK (X7M (nK (X6M (nK (M00 L xs) (.inr 6)) 0) (.inr 7)) 198) (kL 1)) (.inl (.double, 1))
set_option maxRecDepth 20000 in
theorem lenX6 : (X6b (bN B00 (.inr 6)) 0).1 = 198 := by decide +kernel
theorem madeX (L : Nat) (xs : Nat → Int32) : bOk (L, xs) (X6b (bN B00 (.inr 6)) 0) (X6M (nK (M00 L xs) (.inr 6)) 0) := X6_b (m := 0) (bOk_N (k := .inr 6) (bOk_00 L xs)) (Nat.lt_succ_self 0)
theorem made (L : Nat) (xs : Nat → Int32) : bOk (L, xs) BMd (R0M (nK (X6M (nK (M00 L xs) (.inr 6)) 0) (.inr 7)) 198) := by
  have h2 := madeX L xs
  have hl := lenX6
  have hB : BMd = R0b (bN (X6b (bN B00 (.inr 6)) 0) (.inr 7)) 198 := rfl
  rw [hB]
  generalize X6b (bN B00 (.inr 6)) 0 = X at *
  generalize X6M (nK (M00 L xs) (.inr 6)) 0 = Y at *
  exact R0_b (bOk_N h2) (by show 198 < X.1 + 1; omega)
/-- a new desk and a new reference -/
def Frs (M : Mem) : Prop := Shp M ∧ (∀ i j, mI M i j = lkI FI i j) ∧ mL M = fun_set (fun _ _ => 0) 199 (bgF (fun _ => 0) 8) ∧ mD M = fun _ _ => 0
theorem lenM (L : Nat) (xs : Nat → Int32) : (mK (nK (X6M (nK (M00 L xs) (.inr 6)) 0) (.inr 7))).length = 199 := by
  have h2 := madeX L xs
  have hl := lenX6
  generalize X6b (bN B00 (.inr 6)) 0 = X at *
  generalize X6M (nK (M00 L xs) (.inr 6)) 0 = Y at *
  have h3 := bOk_len (bOk_N (k := .inr 7) h2)
  rw [h3]
  show X.1 + 1 = 199
  rw [hl]
theorem M0_f (L : Nat) (xs : Nat → Int32) : Frs (sX (M0 L xs)) ∧ mS (sX (M0 L xs)) = (L, xs) := by
  obtain ⟨h0, h1, -, h2, h3, h4, h5, h6, h7, h8⟩ := made L xs
  have hl := lenM L xs
  have e1 := BMd_K
  have e2 := BMd_R
  have e3 := BMd_I
  have hBl := BMd_N
  generalize BMd = B at *
  rw [e1, List.reverse_reverse] at h1
  rw [hBl] at h4 h5
  rw [e2] at h2 h4
  rw [e3] at h3 h5
  clear e1 e2 e3 hBl
  obtain ⟨P0, hP0⟩ : ∃ P0, P0 = nK (X6M (nK (M00 L xs) (.inr 6)) 0) (.inr 7) := ⟨_, rfl⟩
  unfold M0 X7M
  rw [← hP0] at h0 h1 h2 h3 h6 h7 h8 hl ⊢
  clear hP0
  rw [hl]
  generalize R0M P0 198 = P at *
  have hp : P.1.length = 212 := by rw [show P.1 = layC ++ layM from h1]; rfl
  have hp2 : (P.1 ++ [kL 1]).length = 213 := by rw [List.length_append, hp]; rfl
  refine ⟨⟨⟨?_, rfl, ?_⟩, ?_, ?_, ?_⟩, h8⟩
  · show P.1 ++ [kL 1] ++ [.inl (.double, 1)] = layC ++ layM ++ layO
    rw [show P.1 = layC ++ layM from h1, List.append_assoc]; rfl
  · intro i j r h
    have h9 := FR_ok h
    show fun_set (fun_set (mR P) P.1.length (fun _ => none)) (P.1 ++ [kL 1]).length (fun _ => none) i j = some r
    rw [hp, hp2]
    unfold fun_set
    by_cases q1 : i = 213
    · rw [h4 i j (by omega)] at h9; cases h9
    · rw [if_neg q1]
      by_cases q2 : i = 212
      · rw [h4 i j (by omega)] at h9; cases h9
      · rw [if_neg q2, h2]; exact h9
  · intro i j
    show fun_set (fun_set (mI P) P.1.length (fun _ => 0)) (P.1 ++ [kL 1]).length (fun _ => 0) i j = _
    rw [hp, hp2]
    unfold fun_set
    by_cases q1 : i = 213
    · rw [if_pos q1]; exact (h5 i j (by omega)).symm
    · rw [if_neg q1]
      by_cases q2 : i = 212
      · rw [if_pos q2]; exact (h5 i j (by omega)).symm
      · rw [if_neg q2]; exact h3 i j
  · show fun_set (fun_set (fun_set (mL P) 199 (bgF (mL P 199) 8)) P.1.length (fun _ => 0)) (P.1 ++ [kL 1]).length (fun _ => 0) = _
    rw [hp, hp2, h6]
    funext i j
    unfold fun_set
    by_cases q1 : i = 213
    · rw [if_pos q1, if_neg (by omega)]
    · rw [if_neg q1]
      by_cases q2 : i = 212
      · rw [if_pos q2, if_neg (by omega)]
      · rw [if_neg q2]
  · show fun_set (fun_set (mD P) P.1.length (fun _ => 0)) (P.1 ++ [kL 1]).length (fun _ => 0) = _
    rw [h7]
    funext i j
    unfold fun_set
    by_cases q1 : i = (P.1 ++ [kL 1]).length
    · rw [if_pos q1]
    · rw [if_neg q1]
      by_cases q2 : i = P.1.length
      · rw [if_pos q2]
      · rw [if_neg q2]

