/-! the memory as it is made, as lists -/
abbrev Bld : Type := Nat × List Knd × List (Nat × Nat × Nat) × List (Nat × Nat × Int32)
def lkR : List (Nat × Nat × Nat) → Nat → Nat → Option Nat
  | [], _, _ => none
  | q :: L, i, j => bif (Nat.beq q.1 i && Nat.beq q.2.1 j) then some q.2.2 else lkR L i j
def lkI : List (Nat × Nat × Int32) → Nat → Nat → Int32
  | [], _, _ => 0
  | q :: L, i, j => bif (Nat.beq q.1 i && Nat.beq q.2.1 j) then q.2.2 else lkI L i j
def bOk (S : Nat × (Nat → Int32)) (B : Bld) (M : Mem) : Prop := mX M = true ∧ mK M = B.2.1.reverse ∧ (mK M).length = B.1 ∧ (∀ i j, mR M i j = lkR B.2.2.1 i j) ∧ (∀ i j, mI M i j = lkI B.2.2.2 i j) ∧ (∀ i j, B.1 ≤ i → lkR B.2.2.1 i j = none) ∧ (∀ i j, B.1 ≤ i → lkI B.2.2.2 i j = 0) ∧ mL M = (fun _ _ => 0) ∧ mD M = (fun _ _ => 0) ∧ mS M = S
def bN (B : Bld) (k : Knd) : Bld := (B.1 + 1, k :: B.2.1, B.2.2)
def bP (B : Bld) (m a r : Nat) : Bld := (B.1, B.2.1, (m, a, r) :: B.2.2.1, B.2.2.2)
def bJv (B : Bld) (m a : Nat) (v : Int32) : Bld := (B.1, B.2.1, B.2.2.1, (m, a, v) :: B.2.2.2)
def bC (B : Bld) (m a : Nat) (k : Knd) : Bld := bP (bN B k) m a B.1
def bO (f : Bld → Nat → Bld) (c m a : Nat) (B : Bld) : Bld := bP (f (bN B (.inr c)) B.1) m a B.1
def bOs (f : Bld → Nat → Bld) (c a : Nat) (B : Bld) : Nat → Bld
  | 0 => B
  | i + 1 => bO f c a i (bOs f c a B i)
theorem bk_len {B : Bld} {k : Knd} : (bN B k).1 = B.1 + 1 := rfl
theorem bq_and (a i b j : Nat) : (Nat.beq a i && Nat.beq b j) = true ↔ a = i ∧ b = j := by
  rw [Bool.and_eq_true]
  constructor
  · exact fun h => ⟨Nat.eq_of_beq_eq_true h.1, Nat.eq_of_beq_eq_true h.2⟩
  · rintro ⟨rfl, rfl⟩
    exact ⟨Nat.beq_refl _, Nat.beq_refl _⟩
section
variable {S : Nat × (Nat → Int32)} {B : Bld} {M : Mem} {m a : Nat} {k : Knd}
theorem bOk_len (h : bOk S B M) : (mK M).length = B.1 := h.2.2.1
theorem bOk_N (h : bOk S B M) : bOk S (bN B k) (nK M k) := by
  obtain ⟨h0, h1, h9, h2, h3, h4, h5, h6, h7, h8⟩ := h
  have hl : M.1.length = B.1 := h9
  refine ⟨h0, ?_, ?_, ?_, ?_, ?_, ?_, ?_, ?_, h8⟩
  · show M.1 ++ [k] = (k :: B.2.1).reverse
    rw [List.reverse_cons, show M.1 = B.2.1.reverse from h1]
  · show (M.1 ++ [k]).length = B.1 + 1
    rw [List.length_append, hl]; rfl
  · intro i j
    show fun_set (mR M) M.1.length (fun _ => none) i j = _
    unfold fun_set
    by_cases q : i = M.1.length
    · rw [if_pos q]; exact (h4 i j (by omega)).symm
    · rw [if_neg q]; exact h2 i j
  · intro i j
    show fun_set (mI M) M.1.length (fun _ => 0) i j = _
    unfold fun_set
    by_cases q : i = M.1.length
    · rw [if_pos q]; exact (h5 i j (by omega)).symm
    · rw [if_neg q]; exact h3 i j
  · intro i j hi
    rw [bk_len] at hi
    exact h4 i j (by omega)
  · intro i j hi
    rw [bk_len] at hi
    exact h5 i j (by omega)
  · show fun_set (mL M) M.1.length (fun _ => 0) = _
    rw [h6]
    funext i j
    unfold fun_set
    by_cases q : i = M.1.length
    · rw [if_pos q]
    · rw [if_neg q]
  · show fun_set (mD M) M.1.length (fun _ => 0) = _
    rw [h7]
    funext i j
    unfold fun_set
    by_cases q : i = M.1.length
    · rw [if_pos q]
    · rw [if_neg q]
theorem bOk_P {r : Nat} (h : bOk S B M) (hm : m < B.1) : bOk S (bP B m a r) (pR M m a r) := by
  obtain ⟨h0, h1, h9, h2, h3, h4, h5, h6, h7, h8⟩ := h
  refine ⟨h0, h1, h9, ?_, h3, ?_, h5, h6, h7, h8⟩
  · intro i j
    show fun_set (mR M) m (fun_set (mR M m) a (some r)) i j = bif (Nat.beq m i && Nat.beq a j) then some r else lkR B.2.2.1 i j
    unfold fun_set
    by_cases q : m = i ∧ a = j
    · rw [(bq_and m i a j).mpr q, if_pos q.1.symm, if_pos q.2.symm]; rfl
    · rw [show (Nat.beq m i && Nat.beq a j) = false from Bool.eq_false_iff.mpr (fun h => q ((bq_and m i a j).mp h))]
      show _ = lkR B.2.2.1 i j
      rw [← h2 i j]
      by_cases q1 : i = m
      · rw [if_pos q1]
        by_cases q2 : j = a
        · exact absurd ⟨q1.symm, q2.symm⟩ q
        · rw [if_neg q2, q1]
      · rw [if_neg q1]
  · intro i j hi
    show (bif (Nat.beq m i && Nat.beq a j) then some r else lkR B.2.2.1 i j) = none
    have hi2 : B.1 ≤ i := hi
    have e9 : (Nat.beq m i && Nat.beq a j) = false := Bool.eq_false_iff.mpr (fun h => by have := ((bq_and m i a j).mp h).1; omega)
    rw [e9]
    exact h4 i j hi
theorem bOk_I {v : Int32} (h : bOk S B M) (hm : m < B.1) : bOk S (bJv B m a v) (pI M m a v) := by
  obtain ⟨h0, h1, h9, h2, h3, h4, h5, h6, h7, h8⟩ := h
  refine ⟨h0, h1, h9, h2, ?_, h4, ?_, h6, h7, h8⟩
  · intro i j
    show fun_set (mI M) m (fun_set (mI M m) a v) i j = bif (Nat.beq m i && Nat.beq a j) then v else lkI B.2.2.2 i j
    unfold fun_set
    by_cases q : m = i ∧ a = j
    · rw [(bq_and m i a j).mpr q, if_pos q.1.symm, if_pos q.2.symm]; rfl
    · rw [show (Nat.beq m i && Nat.beq a j) = false from Bool.eq_false_iff.mpr (fun h => q ((bq_and m i a j).mp h))]
      show _ = lkI B.2.2.2 i j
      rw [← h3 i j]
      by_cases q1 : i = m
      · rw [if_pos q1]
        by_cases q2 : j = a
        · exact absurd ⟨q1.symm, q2.symm⟩ q
        · rw [if_neg q2, q1]
      · rw [if_neg q1]
  · intro i j hi
    show (bif (Nat.beq m i && Nat.beq a j) then v else lkI B.2.2.2 i j) = 0
    have hi2 : B.1 ≤ i := hi
    have e9 : (Nat.beq m i && Nat.beq a j) = false := Bool.eq_false_iff.mpr (fun h => by have := ((bq_and m i a j).mp h).1; omega)
    rw [e9]
    exact h5 i j hi
theorem bOk_C (h : bOk S B M) (hm : m < B.1) : bOk S (bC B m a k) (cRw M m a k) := by
  unfold bC cRw
  rw [bOk_len h]
  exact bOk_P (bOk_N h) (by rw [bk_len]; omega)
def fOk (f : Mem → Nat → Mem) (g : Bld → Nat → Bld) : Prop := ∀ (S : Nat × (Nat → Int32)) (B : Bld) (M : Mem) (m : Nat), bOk S B M → m < B.1 → bOk S (g B m) (f M m) ∧ B.1 ≤ (g B m).1
theorem bC_len : (bC B m a k).1 = B.1 + 1 := rfl
theorem bOk_O {f : Mem → Nat → Mem} {g : Bld → Nat → Bld} {c : Nat} (hf : fOk f g) (h : bOk S B M) (hm : m < B.1) : bOk S (bO g c m a B) (nO f c m a M) ∧ B.1 ≤ (bO g c m a B).1 := by
  unfold bO nO
  rw [bOk_len h]
  have h1 := bOk_N (k := .inr c) h
  have hl := bk_len (B := B) (k := .inr c)
  have h2 := hf _ _ _ B.1 h1 (by rw [hl]; omega)
  exact ⟨bOk_P h2.1 (by omega), by show B.1 ≤ (g (bN B (.inr c)) B.1).1; omega⟩
theorem bOk_Os {f : Mem → Nat → Mem} {g : Bld → Nat → Bld} {c : Nat} (hf : fOk f g) (h : bOk S B M) (hm : a < B.1) : ∀ i, bOk S (bOs g c a B i) (nOs f c a M i) ∧ B.1 ≤ (bOs g c a B i).1
  | 0 => by rw [nOs.eq_1]; exact ⟨h, Nat.le_refl _⟩
  | i + 1 => by
    have ih := bOk_Os (c := c) hf h hm i
    rw [nOs.eq_2]
    have h2 := bOk_O (c := c) (a := i) hf ih.1 (show a < _ by omega)
    exact ⟨h2.1, Nat.le_trans ih.2 h2.2⟩
end
def X2b (B : Bld) (m : Nat) : Bld := bC B m 0 (kI 32)
def X0b (B : Bld) (m : Nat) : Bld := bC B m 0 (kI 32)
def X4b (B : Bld) (m : Nat) : Bld := bC B m 0 (kI 600)
def X1b (B : Bld) (m : Nat) : Bld := bC (bC (bC B m 0 (kI 32)) m 1 (kI 32)) m 2 (kI 32)
def X3b (B : Bld) (m : Nat) : Bld := bC (bC (bC B m 0 (kI 256)) m 1 (kI 32)) m 2 (kI 32)
def X5b (B : Bld) (m : Nat) : Bld := bJv (bJv (bOs X2b 2 B.1 (bC B m 0 (.inl (.object kMx, 6))) 6) m 1 8) m 2 4
theorem X2_b : fOk X2M X2b := fun S B M m h hm => ⟨bOk_C h hm, by unfold X2b; rw [bC_len]; omega⟩
theorem X0_b : fOk X0M X0b := fun S B M m h hm => ⟨bOk_C h hm, by unfold X0b; rw [bC_len]; omega⟩
theorem X4_b : fOk X4M X4b := fun S B M m h hm => ⟨bOk_C h hm, by unfold X4b; rw [bC_len]; omega⟩
theorem X1_b : fOk X1M X1b := fun S B M m h hm => ⟨bOk_C (bOk_C (bOk_C h hm) (by rw [bC_len]; omega)) (by rw [bC_len, bC_len]; omega), by unfold X1b; rw [bC_len, bC_len, bC_len]; omega⟩
theorem X3_b : fOk X3M X3b := fun S B M m h hm => ⟨bOk_C (bOk_C (bOk_C h hm) (by rw [bC_len]; omega)) (by rw [bC_len, bC_len]; omega), by unfold X3b; rw [bC_len, bC_len, bC_len]; omega⟩
theorem X5_b : fOk X5M X5b := fun S B M m h hm => by
  have h1 := bOk_C (a := 0) (k := .inl (.object kMx, 6)) h hm
  have hl := bC_len (B := B) (m := m) (a := 0) (k := .inl (.object kMx, 6))
  have h2 := bOk_Os (c := 2) (a := B.1) X2_b h1 (by omega) 6
  unfold X5M X5b
  rw [bOk_len h]
  refine ⟨bOk_I (bOk_I h2.1 (by omega)) ?_, ?_⟩
  · show m < (bOs X2b 2 B.1 (bC B m 0 (.inl (.object kMx, 6))) 6).1
    omega
  · show B.1 ≤ (bOs X2b 2 B.1 (bC B m 0 (.inl (.object kMx, 6))) 6).1
    omega
def Q3b (B : Bld) (m : Nat) : Bld := bO X5b 5 m 2 (bO X5b 5 m 1 (bO X4b 4 m 0 B))
def Q4b (B : Bld) (m : Nat) : Bld := bC (Q3b B m) m 3 (.inl (.object kSt, 8))
def Q5b (B : Bld) (m : Nat) : Bld := bOs X5b 5 (Q3b B m).1 (Q4b B m) 8
def Q7b (B : Bld) (m : Nat) : Bld := bOs X5b 5 B.1 (bC B m 6 (.inl (.object kSt, 2))) 2
def Q9b (B : Bld) (m : Nat) : Bld := bOs X0b 0 (bC B m 7 (.inl (.boolean, 2))).1 (bC (bC B m 7 (.inl (.boolean, 2))) m 8 (.inl (.object kCl, 6))) 6
def Qzb (B : Bld) (m : Nat) : Bld := bC (bC (bC (bO X1b 1 m 10 (bO X3b 3 m 9 B)) m 11 (kI 32)) m 12 (kI 32)) m 13 (kI 32)
def X6b (B : Bld) (m : Nat) : Bld := Qzb (Q9b (Q7b (Q5b B m) m) m) m
section
variable {S : Nat × (Nat → Int32)} {B : Bld} {M : Mem} {m : Nat}
theorem Q5_b (h : bOk S B M) (hm : m < B.1) : bOk S (Q5b B m) (Q5M M m) ∧ m < (Q5b B m).1 := by
  have h1 := bOk_O (c := 4) (a := 0) X4_b h hm
  have h2 := bOk_O (c := 5) (a := 1) X5_b h1.1 (show m < _ by omega)
  have h3 := bOk_O (c := 5) (a := 2) X5_b h2.1 (show m < _ by omega)
  have h3a : bOk S (Q3b B m) (nO X5M 5 m 2 (nO X5M 5 m 1 (nO X4M 4 m 0 M))) := h3.1
  have hm3 : m < (Q3b B m).1 := by unfold Q3b; omega
  have h4 : bOk S (Q4b B m) (Q4M M m) := bOk_C h3a hm3
  have hl : (Q4b B m).1 = (Q3b B m).1 + 1 := bC_len
  unfold Q5b Q5M
  rw [bOk_len h3a]
  have h5 := bOk_Os (c := 5) (a := (Q3b B m).1) X5_b h4 (by omega) 8
  exact ⟨h5.1, by omega⟩
theorem Q7_b (h : bOk S B M) (hm : m < B.1) : bOk S (Q7b B m) (Q7M M m) ∧ m < (Q7b B m).1 := by
  have h4 := bOk_C (a := 6) (k := .inl (.object kSt, 2)) h hm
  have hl := bC_len (B := B) (m := m) (a := 6) (k := .inl (.object kSt, 2))
  unfold Q7b Q7M
  rw [bOk_len h]
  have h5 := bOk_Os (c := 5) (a := B.1) X5_b h4 (by omega) 2
  exact ⟨h5.1, by omega⟩
theorem Q9_b (h : bOk S B M) (hm : m < B.1) : bOk S (Q9b B m) (Q9M M m) ∧ m < (Q9b B m).1 := by
  have h3 := bOk_C (a := 7) (k := .inl (.boolean, 2)) h hm
  have hl3 := bC_len (B := B) (m := m) (a := 7) (k := .inl (.boolean, 2))
  have h4 := bOk_C (m := m) (a := 8) (k := .inl (.object kCl, 6)) h3 (by omega)
  have hl := bC_len (B := bC B m 7 (.inl (.boolean, 2))) (m := m) (a := 8) (k := .inl (.object kCl, 6))
  unfold Q9b Q9M
  rw [bOk_len h3]
  have h5 := bOk_Os (c := 0) (a := (bC B m 7 (.inl (.boolean, 2))).1) X0_b h4 (by omega) 6
  exact ⟨h5.1, by omega⟩
theorem Qz_b (h : bOk S B M) (hm : m < B.1) : bOk S (Qzb B m) (QzM M m) ∧ m < (Qzb B m).1 := by
  have h1 := bOk_O (c := 3) (a := 9) X3_b h hm
  have h2 := bOk_O (c := 1) (a := 10) X1_b h1.1 (show m < _ by omega)
  have h3 := bOk_C (m := m) (a := 11) (k := kI 32) h2.1 (by omega)
  have l3 := bC_len (B := bO X1b 1 m 10 (bO X3b 3 m 9 B)) (m := m) (a := 11) (k := kI 32)
  have h4 := bOk_C (m := m) (a := 12) (k := kI 32) h3 (by omega)
  have l4 := bC_len (B := bC (bO X1b 1 m 10 (bO X3b 3 m 9 B)) m 11 (kI 32)) (m := m) (a := 12) (k := kI 32)
  have h5 := bOk_C (m := m) (a := 13) (k := kI 32) h4 (by omega)
  have l5 := bC_len (B := bC (bC (bO X1b 1 m 10 (bO X3b 3 m 9 B)) m 11 (kI 32)) m 12 (kI 32)) (m := m) (a := 13) (k := kI 32)
  exact ⟨h5, by unfold Qzb; omega⟩
theorem X6_b (h : bOk S B M) (hm : m < B.1) : bOk S (X6b B m) (X6M M m) := by
  have h1 := Q5_b h hm
  have h2 := Q7_b h1.1 h1.2
  have h3 := Q9_b h2.1 h2.2
  exact (Qz_b h3.1 h3.2).1
end
/-- a run's first memory: nothing but the script -/
def M00 (L : Nat) (xs : Nat → Int32) : Mem := ([], true, fun _ _ => 0, fun _ _ => 0, fun _ _ => none, fun _ _ => 0, (L, xs))
def B00 : Bld := (0, [], [], [])
def BX6 : Bld := X6b (bN B00 (.inr 6)) 0
def FI6 : List (Nat × Nat × Int32) := [159, 145, 130, 116, 102, 88, 74, 60, 46, 32, 17, 3].flatMap fun b => [(b, 2, 4), (b, 1, 8)]
theorem bOk_00 (L : Nat) (xs : Nat → Int32) : bOk (L, xs) B00 (M00 L xs) := ⟨rfl, rfl, rfl, fun _ _ => rfl, fun _ _ => rfl, fun _ _ _ => rfl, fun _ _ _ => rfl, rfl, rfl, rfl⟩

/-! what is made, checked -/
set_option maxRecDepth 20000 in
theorem BX_K : BX6.2.1 = LAY.reverse := by decide +kernel
set_option maxRecDepth 20000 in
theorem BX_I : BX6.2.2.2 = FI6 := by decide +kernel
set_option maxRecDepth 20000 in
theorem BX_N : BX6.1 = 198 := by decide +kernel
def FR : List (Nat × Nat × Nat) := [(0, 13, 197), (0, 12, 196), (0, 11, 195), (0, 10, 191), (191, 2, 194), (191, 1, 193), (191, 0, 192), (0, 9, 187), (187, 2, 190), (187, 1, 189), (187, 0, 188), (174, 5, 185), (185, 0, 186), (174, 4, 183), (183, 0, 184), (174, 3, 181), (181, 0, 182), (174, 2, 179), (179, 0, 180), (174, 1, 177), (177, 0, 178), (174, 0, 175), (175, 0, 176), (0, 8, 174), (0, 7, 173), (144, 1, 159), (160, 5, 171), (171, 0, 172), (160, 4, 169), (169, 0, 170), (160, 3, 167), (167, 0, 168), (160, 2, 165), (165, 0, 166), (160, 1, 163), (163, 0, 164), (160, 0, 161), (161, 0, 162), (159, 0, 160), (144, 0, 145), (146, 5, 157), (157, 0, 158), (146, 4, 155), (155, 0, 156), (146, 3, 153), (153, 0, 154), (146, 2, 151), (151, 0, 152), (146, 1, 149), (149, 0, 150), (146, 0, 147), (147, 0, 148), (145, 0, 146), (0, 6, 144), (31, 7, 130), (131, 5, 142), (142, 0, 143), (131, 4, 140), (140, 0, 141), (131, 3, 138), (138, 0, 139), (131, 2, 136), (136, 0, 137), (131, 1, 134), (134, 0, 135), (131, 0, 132), (132, 0, 133), (130, 0, 131), (31, 6, 116), (117, 5, 128), (128, 0, 129), (117, 4, 126), (126, 0, 127), (117, 3, 124), (124, 0, 125), (117, 2, 122), (122, 0, 123), (117, 1, 120), (120, 0, 121), (117, 0, 118), (118, 0, 119), (116, 0, 117), (31, 5, 102), (103, 5, 114), (114, 0, 115), (103, 4, 112), (112, 0, 113), (103, 3, 110), (110, 0, 111), (103, 2, 108), (108, 0, 109), (103, 1, 106), (106, 0, 107), (103, 0, 104), (104, 0, 105), (102, 0, 103), (31, 4, 88), (89, 5, 100), (100, 0, 101), (89, 4, 98), (98, 0, 99), (89, 3, 96), (96, 0, 97), (89, 2, 94), (94, 0, 95), (89, 1, 92), (92, 0, 93), (89, 0, 90), (90, 0, 91), (88, 0, 89), (31, 3, 74), (75, 5, 86), (86, 0, 87), (75, 4, 84), (84, 0, 85), (75, 3, 82), (82, 0, 83), (75, 2, 80), (80, 0, 81), (75, 1, 78), (78, 0, 79), (75, 0, 76), (76, 0, 77), (74, 0, 75), (31, 2, 60), (61, 5, 72), (72, 0, 73), (61, 4, 70), (70, 0, 71), (61, 3, 68), (68, 0, 69), (61, 2, 66), (66, 0, 67), (61, 1, 64), (64, 0, 65), (61, 0, 62), (62, 0, 63), (60, 0, 61), (31, 1, 46), (47, 5, 58), (58, 0, 59), (47, 4, 56), (56, 0, 57), (47, 3, 54), (54, 0, 55), (47, 2, 52), (52, 0, 53), (47, 1, 50), (50, 0, 51), (47, 0, 48), (48, 0, 49), (46, 0, 47), (31, 0, 32), (33, 5, 44), (44, 0, 45), (33, 4, 42), (42, 0, 43), (33, 3, 40), (40, 0, 41), (33, 2, 38), (38, 0, 39), (33, 1, 36), (36, 0, 37), (33, 0, 34), (34, 0, 35), (32, 0, 33), (0, 3, 31), (0, 2, 17), (18, 5, 29), (29, 0, 30), (18, 4, 27), (27, 0, 28), (18, 3, 25), (25, 0, 26), (18, 2, 23), (23, 0, 24), (18, 1, 21), (21, 0, 22), (18, 0, 19), (19, 0, 20), (17, 0, 18), (0, 1, 3), (4, 5, 15), (15, 0, 16), (4, 4, 13), (13, 0, 14), (4, 3, 11), (11, 0, 12), (4, 2, 9), (9, 0, 10), (4, 1, 7), (7, 0, 8), (4, 0, 5), (5, 0, 6), (3, 0, 4), (0, 0, 1), (1, 0, 2)]
set_option maxRecDepth 20000 in
theorem BX_R : BX6.2.2.1 = FR := by decide +kernel
/-! the shape of what is made -/
theorem refSt_j {b i j : Nat} (h : 25 ≤ j) : refSt b i j = none := by
  unfold refSt
  by_cases h0 : i = b
  · rw [if_pos h0, if_neg (by omega)]
  rw [if_neg h0]
  by_cases h1 : i = b + 1
  · rw [if_pos h1, if_neg (by omega)]
  rw [if_neg h1, if_neg (by omega)]
theorem getD_j {L : List (Option Nat)} {j : Nat} (h : L.length ≤ j) : L.getD j none = none := by
  rw [List.getD_eq_getElem?_getD, List.getElem?_eq_none h]; rfl
theorem ref0_j {j : Nat} (h : 25 ≤ j) : ref0 j = none := getD_j (Nat.le_trans (by decide) h)
theorem REFT_j {i j : Nat} (h : 25 ≤ j) : REFT i j = none := by
  unfold REFT
  by_cases h0 : i = 0
  · rw [if_pos h0]; exact ref0_j h
  rw [if_neg h0]
  by_cases h1 : i = 1
  · rw [if_pos h1]; exact if_neg (by omega)
  rw [if_neg h1]
  by_cases h2 : i < 17
  · rw [if_pos h2]; exact refSt_j h
  rw [if_neg h2]
  by_cases h3 : i < 31
  · rw [if_pos h3]; exact refSt_j h
  rw [if_neg h3]
  by_cases h4 : i = 31
  · rw [if_pos h4]; exact if_neg (by omega)
  rw [if_neg h4]
  by_cases h5 : i < 144
  · rw [if_pos h5]; exact refSt_j h
  rw [if_neg h5]
  by_cases h6 : i = 144
  · rw [if_pos h6]; exact if_neg (by omega)
  rw [if_neg h6]
  by_cases h7 : i < 159
  · rw [if_pos h7]; exact refSt_j h
  rw [if_neg h7]
  by_cases h8 : i < 173
  · rw [if_pos h8]; exact refSt_j h
  rw [if_neg h8]
  by_cases h9 : i = 174
  · rw [if_pos h9]; exact if_neg (by omega)
  rw [if_neg h9]
  by_cases h10 : i < 175
  · rw [if_pos h10]
  rw [if_neg h10]
  by_cases h11 : i < 187
  · rw [if_pos h11]; exact if_neg (by omega)
  rw [if_neg h11]
  by_cases h12 : i = 187
  · rw [if_pos h12]; exact if_neg (by omega)
  rw [if_neg h12]
  by_cases h13 : i = 191
  · rw [if_pos h13]; exact if_neg (by omega)
  rw [if_neg h13]
theorem REFT_b {i j r : Nat} (h : REFT i j = some r) : i < 198 ∧ j < 25 := by
  constructor
  · exact reft_lt h
  · rcases Nat.lt_or_ge j 25 with q | q
    · exact q
    · rw [REFT_j q] at h; cases h
def chkO : Option Nat → Option Nat → Bool
  | none, _ => true
  | some _, none => false
  | some r, some q => Nat.beq r q
def allB (f : Nat → Bool) : Nat → Bool
  | 0 => true
  | n + 1 => allB f n && f n
def chkI (i : Nat) : Bool := allB (fun j => chkO (REFT i j) (lkR FR i j)) 25
theorem recB {f : Nat → Bool} : ∀ {n : Nat}, allB f n = true → ∀ i, i < n → f i = true
  | 0, _, i, hi => absurd hi (by omega)
  | n + 1, h, i, hi => by
    rw [allB.eq_2, Bool.and_eq_true] at h
    rcases Nat.lt_or_ge i n with q | q
    · exact recB h.1 i q
    · rw [show i = n by omega]; exact h.2
set_option maxRecDepth 20000 in
theorem chkR_ok : allB chkI 198 = true := by decide +kernel
theorem FR_ok {i j r : Nat} (h : REFT i j = some r) : lkR FR i j = some r := by
  obtain ⟨h1, h2⟩ := REFT_b h
  have h3 : chkO (REFT i j) (lkR FR i j) = true := recB (f := fun j => chkO (REFT i j) (lkR FR i j)) (n := 25) (recB (f := chkI) (n := 198) chkR_ok i h1) j h2
  rw [h] at h3
  generalize lkR FR i j = y at *
  cases y with
  | none => cases h3
  | some q => rw [Nat.eq_of_beq_eq_true (show Nat.beq r q = true from h3)]

/-! a new desk of the class -/
/-- the class's object is made -/
def FQ (M : Mem) : Prop := Shp M ∧ (∀ i j, mI M i j = lkI FI6 i j) ∧ mX M = true ∧ (mK M).length = 198
theorem madeX (L : Nat) (xs : Nat → Int32) : bOk (L, xs) BX6 (X6M (nK (M00 L xs) (.inr 6)) 0) := X6_b (m := 0) (bOk_N (k := .inr 6) (bOk_00 L xs)) (Nat.lt_succ_self 0)
theorem fq_made (L : Nat) (xs : Nat → Int32) : FQ (X6M (nK (M00 L xs) (.inr 6)) 0) ∧ mS (X6M (nK (M00 L xs) (.inr 6)) 0) = (L, xs) := by
  obtain ⟨h0, h1, h1', h2, h3, h4, h5, h6, h7, h8⟩ := madeX L xs
  have e1 := BX_K
  have e2 := BX_R
  have e3 := BX_I
  have e4 := BX_N
  generalize BX6 = B at *
  rw [e1, List.reverse_reverse] at h1
  rw [e2] at h2
  rw [e3] at h3
  rw [e4] at h1'
  generalize X6M (nK (M00 L xs) (.inr 6)) 0 = M at *
  exact ⟨⟨⟨⟨[], by rw [h1, List.append_nil]⟩, trivial, fun i j r h => by rw [h2]; exact FR_ok h⟩, h3, h0, h1'⟩, h8⟩
theorem lkI_no {i j : Nat} : ∀ {L : List (Nat × Nat × Int32)}, L.all (fun q => !Nat.beq q.1 i) = true → lkI L i j = 0
  | [], _ => rfl
  | q :: L, h => by
    rw [List.all_cons, Bool.and_eq_true] at h
    unfold lkI
    have h1 : Nat.beq q.1 i = false := by
      have := h.1
      cases h9 : Nat.beq q.1 i
      · rfl
      · rw [h9] at this
        cases this
    rw [h1]
    exact lkI_no h.2
section
variable {M : Mem}
theorem fq_v (h : FQ M) {i j : Nat} {v : Int32} (hd : lkI FI6 i j = v) : mI M i j = v := by
  rw [h.2.1]
  exact hd
theorem fq_0 (h : FQ M) {i j : Nat} (hi : FI6.all (fun q => !Nat.beq q.1 i) = true) : mI M i j = 0 := by
  rw [h.2.1]
  exact lkI_no hi
theorem fI_ok : ∀ s, s < 6 → FI6.all (fun q => !Nat.beq q.1 (6 + 2 * s)) = true ∧ FI6.all (fun q => !Nat.beq q.1 (5 + 2 * s)) = true ∧ FI6.all (fun q => !Nat.beq q.1 (175 + 2 * s)) = true ∧ FI6.all (fun q => !Nat.beq q.1 (145 + 2 + 2 * s)) = true := by decide +kernel
theorem fq_CV (h : FQ M) {us : Nat → Nat → Int64} : CV M 8 0 0 (bgF (fun _ => 0) 8) us := by
  have z : ∀ i, 2 ≤ i → i < 220 → bgF (fun _ => 0) 8 i = 0 := fun i h1 h2 => by rw [bg_at h2, if_neg (by omega), if_neg (by omega)]
  refine ⟨h.1, ⟨⟨by decide, by decide, fq_v h (by decide +kernel), by decide +kernel⟩, ⟨4, by decide, by decide, fq_v h (by decide +kernel), by decide +kernel⟩, ⟨0, fq_v h (by decide +kernel), by decide +kernel⟩, ⟨0, fq_v h (by decide +kernel), by decide +kernel⟩, fun s hs => ?_⟩, ⟨fq_v h (by decide +kernel), by decide, fq_v h (by decide +kernel), by decide, fun i hi => absurd hi (Nat.not_lt_zero i)⟩, fun s hs h1 => ?_, fq_v h (by decide +kernel)⟩
  · obtain ⟨k1, k2, k3, k4⟩ := fI_ok s hs
    unfold SS
    rw [show 3 + 2 + 2 * s = 5 + 2 * s by omega, show 3 + 3 + 2 * s = 6 + 2 * s by omega, fq_0 h k2, fq_0 h k2, fq_0 h k2, fq_0 h k2, z _ (by omega) (by omega), z _ (by omega) (by omega), z _ (by omega) (by omega), z _ (by omega) (by omega)]
    refine ⟨⟨false, rfl, rfl⟩, rfl, rfl, rfl, fun r hr => ?_, fun r _ c _ => ?_⟩
    · rw [z _ (by omega) (by omega), fq_0 h k1]
      exact uL_0.symm
    · rw [fq_0 h k1]
      exact hb_0 c
  · rw [fq_0 h (fI_ok s hs).2.2.1] at h1
    exact absurd rfl h1
theorem fq_keep (h : FQ M) : keptOk M 145 := fun s hs => by
  rw [fq_0 h (fI_ok s hs).2.2.2]
  exact Or.inl rfl
end
