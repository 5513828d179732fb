/-! the memory as it is made, as lists -/
abbrev Bld : Type := Nat × List Knd × List (Nat × Nat × Nat) × List (Nat × Nat × Int32)
def lkR : List (Nat × Nat × Nat) → Nat → Nat → Option Nat
  | [], _, _ => none
  | q :: L, i, j => bif (Nat.beq q.1 i && Nat.beq q.2.1 j) then some q.2.2 else lkR L i j
def lkI : List (Nat × Nat × Int32) → Nat → Nat → Int32
  | [], _, _ => 0
  | q :: L, i, j => bif (Nat.beq q.1 i && Nat.beq q.2.1 j) then q.2.2 else lkI L i j
def bOk (S : Nat × (Nat → Int32)) (B : Bld) (M : Mem) : Prop := mX M = true ∧ mK M = B.2.1.reverse ∧ (mK M).length = B.1 ∧ (∀ i j, mR M i j = lkR B.2.2.1 i j) ∧ (∀ i j, mI M i j = lkI B.2.2.2 i j) ∧ (∀ i j, B.1 ≤ i → lkR B.2.2.1 i j = none) ∧ (∀ i j, B.1 ≤ i → lkI B.2.2.2 i j = 0) ∧ mL M = (fun _ _ => 0) ∧ mD M = (fun _ _ => 0) ∧ mS M = S
def bN (B : Bld) (k : Knd) : Bld := (B.1 + 1, k :: B.2.1, B.2.2)
def bP (B : Bld) (m a r : Nat) : Bld := (B.1, B.2.1, (m, a, r) :: B.2.2.1, B.2.2.2)
def bJv (B : Bld) (m a : Nat) (v : Int32) : Bld := (B.1, B.2.1, B.2.2.1, (m, a, v) :: B.2.2.2)
def bC (B : Bld) (m a : Nat) (k : Knd) : Bld := bP (bN B k) m a B.1
def bO (f : Bld → Nat → Bld) (c m a : Nat) (B : Bld) : Bld := bP (f (bN B (.inr c)) B.1) m a B.1
def bOs (f : Bld → Nat → Bld) (c a : Nat) (B : Bld) : Nat → Bld
  | 0 => B
  | i + 1 => bO f c a i (bOs f c a B i)
theorem bk_len {B : Bld} {k : Knd} : (bN B k).1 = B.1 + 1 := rfl
theorem bq_and (a i b j : Nat) : (Nat.beq a i && Nat.beq b j) = true ↔ a = i ∧ b = j := by
  rw [Bool.and_eq_true]
  constructor
  · exact fun h => ⟨Nat.eq_of_beq_eq_true h.1, Nat.eq_of_beq_eq_true h.2⟩
  · rintro ⟨rfl, rfl⟩
    exact ⟨Nat.beq_refl _, Nat.beq_refl _⟩
section
variable {S : Nat × (Nat → Int32)} {B : Bld} {M : Mem} {m a : Nat} {k : Knd}
theorem bOk_len (h : bOk S B M) : (mK M).length = B.1 := h.2.2.1
theorem bOk_N (h : bOk S B M) : bOk S (bN B k) (nK M k) := by
  obtain ⟨h0, h1, h9, h2, h3, h4, h5, h6, h7, h8⟩ := h
  have hl : M.1.length = B.1 := h9
  refine ⟨h0, ?_, ?_, ?_, ?_, ?_, ?_, ?_, ?_, h8⟩
  · show M.1 ++ [k] = (k :: B.2.1).reverse
    rw [List.reverse_cons, show M.1 = B.2.1.reverse from h1]
  · show (M.1 ++ [k]).length = B.1 + 1
    rw [List.length_append, hl]; rfl
  · intro i j
    show fun_set (mR M) M.1.length (fun _ => none) i j = _
    unfold fun_set
    by_cases q : i = M.1.length
    · rw [if_pos q]; exact (h4 i j (by omega)).symm
    · rw [if_neg q]; exact h2 i j
  · intro i j
    show fun_set (mI M) M.1.length (fun _ => 0) i j = _
    unfold fun_set
    by_cases q : i = M.1.length
    · rw [if_pos q]; exact (h5 i j (by omega)).symm
    · rw [if_neg q]; exact h3 i j
  · intro i j hi
    rw [bk_len] at hi
    exact h4 i j (by omega)
  · intro i j hi
    rw [bk_len] at hi
    exact h5 i j (by omega)
  · show fun_set (mL M) M.1.length (fun _ => 0) = _
    rw [h6]
    funext i j
    unfold fun_set
    by_cases q : i = M.1.length
    · rw [if_pos q]
    · rw [if_neg q]
  · show fun_set (mD M) M.1.length (fun _ => 0) = _
    rw [h7]
    funext i j
    unfold fun_set
    by_cases q : i = M.1.length
    · rw [if_pos q]
    · rw [if_neg q]
theorem bOk_P {r : Nat} (h : bOk S B M) (hm : m < B.1) : bOk S (bP B m a r) (pR M m a r) := by
  obtain ⟨h0, h1, h9, h2, h3, h4, h5, h6, h7, h8⟩ := h
  refine ⟨h0, h1, h9, ?_, h3, ?_, h5, h6, h7, h8⟩
  · intro i j
    show fun_set (mR M) m (fun_set (mR M m) a (some r)) i j = bif (Nat.beq m i && Nat.beq a j) then some r else lkR B.2.2.1 i j
    unfold fun_set
    by_cases q : m = i ∧ a = j
    · rw [(bq_and m i a j).mpr q, if_pos q.1.symm, if_pos q.2.symm]; rfl
    · rw [show (Nat.beq m i && Nat.beq a j) = false from Bool.eq_false_iff.mpr (fun h => q ((bq_and m i a j).mp h))]
      show _ = lkR B.2.2.1 i j
      rw [← h2 i j]
      by_cases q1 : i = m
      · rw [if_pos q1]
        by_cases q2 : j = a
        · exact absurd ⟨q1.symm, q2.symm⟩ q
        · rw [if_neg q2, q1]
      · rw [if_neg q1]
  · intro i j hi
    show (bif (Nat.beq m i && Nat.beq a j) then some r else lkR B.2.2.1 i j) = none
    have hi2 : B.1 ≤ i := hi
    have e9 : (Nat.beq m i && Nat.beq a j) = false := Bool.eq_false_iff.mpr (fun h => by have := ((bq_and m i a j).mp h).1; omega)
    rw [e9]
    exact h4 i j hi
theorem bOk_I {v : Int32} (h : bOk S B M) (hm : m < B.1) : bOk S (bJv B m a v) (pI M m a v) := by
  obtain ⟨h0, h1, h9, h2, h3, h4, h5, h6, h7, h8⟩ := h
  refine ⟨h0, h1, h9, h2, ?_, h4, ?_, h6, h7, h8⟩
  · intro i j
    show fun_set (mI M) m (fun_set (mI M m) a v) i j = bif (Nat.beq m i && Nat.beq a j) then v else lkI B.2.2.2 i j
    unfold fun_set
    by_cases q : m = i ∧ a = j
    · rw [(bq_and m i a j).mpr q, if_pos q.1.symm, if_pos q.2.symm]; rfl
    · rw [show (Nat.beq m i && Nat.beq a j) = false from Bool.eq_false_iff.mpr (fun h => q ((bq_and m i a j).mp h))]
      show _ = lkI B.2.2.2 i j
      rw [← h3 i j]
      by_cases q1 : i = m
      · rw [if_pos q1]
        by_cases q2 : j = a
        · exact absurd ⟨q1.symm, q2.symm⟩ q
        · rw [if_neg q2, q1]
      · rw [if_neg q1]
  · intro i j hi
    show (bif (Nat.beq m i && Nat.beq a j) then v else lkI B.2.2.2 i j) = 0
    have hi2 : B.1 ≤ i := hi
    have e9 : (Nat.beq m i && Nat.beq a j) = false := Bool.eq_false_iff.mpr (fun h => by have := ((bq_and m i a j).mp h).1; omega)
    rw [e9]
    exact h5 i j hi
theorem bOk_C (h : bOk S B M) (hm : m < B.1) : bOk S (bC B m a k) (cR M m a k) := by
  unfold bC cR
  rw [bOk_len h]
  exact bOk_P (bOk_N h) (by rw [bk_len]; omega)
def fOk (f : Mem → Nat → Mem) (g : Bld → Nat → Bld) : Prop := ∀ (S : Nat × (Nat → Int32)) (B : Bld) (M : Mem) (m : Nat), bOk S B M → m < B.1 → bOk S (g B m) (f M m) ∧ B.1 ≤ (g B m).1
theorem bC_len : (bC B m a k).1 = B.1 + 1 := rfl
theorem bOk_O {f : Mem → Nat → Mem} {g : Bld → Nat → Bld} {c : Nat} (hf : fOk f g) (h : bOk S B M) (hm : m < B.1) : bOk S (bO g c m a B) (nO f c m a M) ∧ B.1 ≤ (bO g c m a B).1 := by
  unfold bO nO
  rw [bOk_len h]
  have h1 := bOk_N (k := .inr c) h
  have hl := bk_len (B := B) (k := .inr c)
  have h2 := hf _ _ _ B.1 h1 (by rw [hl]; omega)
  exact ⟨bOk_P h2.1 (by omega), by show B.1 ≤ (g (bN B (.inr c)) B.1).1; omega⟩
theorem bOk_Os {f : Mem → Nat → Mem} {g : Bld → Nat → Bld} {c : Nat} (hf : fOk f g) (h : bOk S B M) (hm : a < B.1) : ∀ i, bOk S (bOs g c a B i) (nOs f c a M i) ∧ B.1 ≤ (bOs g c a B i).1
  | 0 => by rw [nOs.eq_1]; exact ⟨h, Nat.le_refl _⟩
  | i + 1 => by
    have ih := bOk_Os (c := c) hf h hm i
    rw [nOs.eq_2]
    have h2 := bOk_O (c := c) (a := i) hf ih.1 (show a < _ by omega)
    exact ⟨h2.1, Nat.le_trans ih.2 h2.2⟩
end
def X2b (B : Bld) (m : Nat) : Bld := bC B m 0 (kI 32)
def X0b (B : Bld) (m : Nat) : Bld := bC B m 0 (kI 32)
def X4b (B : Bld) (m : Nat) : Bld := bC B m 0 (kI 600)
def X1b (B : Bld) (m : Nat) : Bld := bC (bC (bC B m 0 (kI 32)) m 1 (kI 32)) m 2 (kI 32)
def X3b (B : Bld) (m : Nat) : Bld := bC (bC (bC B m 0 (kI 256)) m 1 (kI 32)) m 2 (kI 32)
def X5b (B : Bld) (m : Nat) : Bld := bJv (bJv (bOs X2b 2 B.1 (bC B m 0 (.inl (.object kMx, 6))) 6) m 1 8) m 2 4
theorem X2_b : fOk X2M X2b := fun S B M m h hm => ⟨bOk_C h hm, by unfold X2b; rw [bC_len]; omega⟩
theorem X0_b : fOk X0M X0b := fun S B M m h hm => ⟨bOk_C h hm, by unfold X0b; rw [bC_len]; omega⟩
theorem X4_b : fOk X4M X4b := fun S B M m h hm => ⟨bOk_C h hm, by unfold X4b; rw [bC_len]; omega⟩
theorem X1_b : fOk X1M X1b := fun S B M m h hm => ⟨bOk_C (bOk_C (bOk_C h hm) (by rw [bC_len]; omega)) (by rw [bC_len, bC_len]; omega), by unfold X1b; rw [bC_len, bC_len, bC_len]; omega⟩
theorem X3_b : fOk X3M X3b := fun S B M m h hm => ⟨bOk_C (bOk_C (bOk_C h hm) (by rw [bC_len]; omega)) (by rw [bC_len, bC_len]; omega), by unfold X3b; rw [bC_len, bC_len, bC_len]; omega⟩
theorem X5_b : fOk X5M X5b := fun S B M m h hm => by
  have h1 := bOk_C (a := 0) (k := .inl (.object kMx, 6)) h hm
  have hl := bC_len (B := B) (m := m) (a := 0) (k := .inl (.object kMx, 6))
  have h2 := bOk_Os (c := 2) (a := B.1) X2_b h1 (by omega) 6
  unfold X5M X5b
  rw [bOk_len h]
  refine ⟨bOk_I (bOk_I h2.1 (by omega)) ?_, ?_⟩
  · show m < (bOs X2b 2 B.1 (bC B m 0 (.inl (.object kMx, 6))) 6).1
    omega
  · show B.1 ≤ (bOs X2b 2 B.1 (bC B m 0 (.inl (.object kMx, 6))) 6).1
    omega
def Q3b (B : Bld) (m : Nat) : Bld := bO X5b 5 m 2 (bO X5b 5 m 1 (bO X4b 4 m 0 B))
def Q4b (B : Bld) (m : Nat) : Bld := bC (Q3b B m) m 3 (.inl (.object kSt, 8))
def Q5b (B : Bld) (m : Nat) : Bld := bOs X5b 5 (Q3b B m).1 (Q4b B m) 8
def Q7b (B : Bld) (m : Nat) : Bld := bOs X5b 5 B.1 (bC B m 6 (.inl (.object kSt, 2))) 2
def Q9b (B : Bld) (m : Nat) : Bld := bOs X0b 0 (bC B m 7 (.inl (.boolean, 2))).1 (bC (bC B m 7 (.inl (.boolean, 2))) m 8 (.inl (.object kCl, 6))) 6
def Qzb (B : Bld) (m : Nat) : Bld := bC (bC (bC (bO X1b 1 m 10 (bO X3b 3 m 9 B)) m 11 (kI 32)) m 12 (kI 32)) m 13 (kI 32)
def X6b (B : Bld) (m : Nat) : Bld := Qzb (Q9b (Q7b (Q5b B m) m) m) m
section
variable {S : Nat × (Nat → Int32)} {B : Bld} {M : Mem} {m : Nat}
theorem Q5_b (h : bOk S B M) (hm : m < B.1) : bOk S (Q5b B m) (Q5M M m) ∧ m < (Q5b B m).1 := by
  have h1 := bOk_O (c := 4) (a := 0) X4_b h hm
  have h2 := bOk_O (c := 5) (a := 1) X5_b h1.1 (show m < _ by omega)
  have h3 := bOk_O (c := 5) (a := 2) X5_b h2.1 (show m < _ by omega)
  have h3a : bOk S (Q3b B m) (nO X5M 5 m 2 (nO X5M 5 m 1 (nO X4M 4 m 0 M))) := h3.1
  have hm3 : m < (Q3b B m).1 := by unfold Q3b; omega
  have h4 : bOk S (Q4b B m) (Q4M M m) := bOk_C h3a hm3
  have hl : (Q4b B m).1 = (Q3b B m).1 + 1 := bC_len
  unfold Q5b Q5M
  rw [bOk_len h3a]
  have h5 := bOk_Os (c := 5) (a := (Q3b B m).1) X5_b h4 (by omega) 8
  exact ⟨h5.1, by omega⟩
theorem Q7_b (h : bOk S B M) (hm : m < B.1) : bOk S (Q7b B m) (Q7M M m) ∧ m < (Q7b B m).1 := by
  have h4 := bOk_C (a := 6) (k := .inl (.object kSt, 2)) h hm
  have hl := bC_len (B := B) (m := m) (a := 6) (k := .inl (.object kSt, 2))
  unfold Q7b Q7M
  rw [bOk_len h]
  have h5 := bOk_Os (c := 5) (a := B.1) X5_b h4 (by omega) 2
  exact ⟨h5.1, by omega⟩
theorem Q9_b (h : bOk S B M) (hm : m < B.1) : bOk S (Q9b B m) (Q9M M m) ∧ m < (Q9b B m).1 := by
  have h3 := bOk_C (a := 7) (k := .inl (.boolean, 2)) h hm
  have hl3 := bC_len (B := B) (m := m) (a := 7) (k := .inl (.boolean, 2))
  have h4 := bOk_C (m := m) (a := 8) (k := .inl (.object kCl, 6)) h3 (by omega)
  have hl := bC_len (B := bC B m 7 (.inl (.boolean, 2))) (m := m) (a := 8) (k := .inl (.object kCl, 6))
  unfold Q9b Q9M
  rw [bOk_len h3]
  have h5 := bOk_Os (c := 0) (a := (bC B m 7 (.inl (.boolean, 2))).1) X0_b h4 (by omega) 6
  exact ⟨h5.1, by omega⟩
theorem Qz_b (h : bOk S B M) (hm : m < B.1) : bOk S (Qzb B m) (QzM M m) ∧ m < (Qzb B m).1 := by
  have h1 := bOk_O (c := 3) (a := 9) X3_b h hm
  have h2 := bOk_O (c := 1) (a := 10) X1_b h1.1 (show m < _ by omega)
  have h3 := bOk_C (m := m) (a := 11) (k := kI 32) h2.1 (by omega)
  have l3 := bC_len (B := bO X1b 1 m 10 (bO X3b 3 m 9 B)) (m := m) (a := 11) (k := kI 32)
  have h4 := bOk_C (m := m) (a := 12) (k := kI 32) h3 (by omega)
  have l4 := bC_len (B := bC (bO X1b 1 m 10 (bO X3b 3 m 9 B)) m 11 (kI 32)) (m := m) (a := 12) (k := kI 32)
  have h5 := bOk_C (m := m) (a := 13) (k := kI 32) h4 (by omega)
  have l5 := bC_len (B := bC (bC (bO X1b 1 m 10 (bO X3b 3 m 9 B)) m 11 (kI 32)) m 12 (kI 32)) (m := m) (a := 13) (k := kI 32)
  exact ⟨h5, by unfold Qzb; omega⟩
theorem X6_b (h : bOk S B M) (hm : m < B.1) : bOk S (X6b B m) (X6M M m) := by
  have h1 := Q5_b h hm
  have h2 := Q7_b h1.1 h1.2
  have h3 := Q9_b h2.1 h2.2
  exact (Qz_b h3.1 h3.2).1
end
def R1b (B : Bld) (m : Nat) : Bld := bC (bC (bC (bC B m 0 (kL 220)) m 1 (kL 220)) m 2 (kL 1760)) m 3 (kL 440)
def R2b (B : Bld) (m : Nat) : Bld := bJv (bC (bC B m 4 (.inl (.boolean, 2))) m 7 (.inl (.byte, 600))) m 15 (-1)
def R3b (B : Bld) (m : Nat) : Bld := bC (bC (bC (bC B m 16 (kL 32)) m 17 (kL 32)) m 18 (kL 32)) m 19 (kI 32)
def R4b (B : Bld) (m : Nat) : Bld := bC (bC (bC B m 20 (kL 32)) m 21 (kI 32)) m 23 (.inl (.byte, 32))
def R0b (B : Bld) (m : Nat) : Bld := R4b (R3b (R2b (R1b B m) m) m) m
section
variable {S : Nat × (Nat → Int32)} {B : Bld} {M : Mem} {m : Nat}
theorem bOk_C' {a : Nat} {k : Knd} (h : bOk S B M ∧ m < B.1) : bOk S (bC B m a k) (cR M m a k) ∧ m < (bC B m a k).1 := ⟨bOk_C h.1 h.2, by rw [bC_len]; have := h.2; omega⟩
theorem bOk_I' {a : Nat} {v : Int32} (h : bOk S B M ∧ m < B.1) : bOk S (bJv B m a v) (pI M m a v) ∧ m < (bJv B m a v).1 := ⟨bOk_I h.1 h.2, h.2⟩
theorem R0_b (h : bOk S B M) (hm : m < B.1) : bOk S (R0b B m) (R0M M m) :=
  (bOk_C' (bOk_C' (bOk_C' (bOk_C' (bOk_C' (bOk_C' (bOk_C' (bOk_I' (bOk_C' (bOk_C' (bOk_C' (bOk_C' (bOk_C' (bOk_C' ⟨h, hm⟩)))))))))))))).1
end
/-- a run's first memory: nothing but the script -/
def M00 (L : Nat) (xs : Nat → Int32) : Mem := ([], true, fun _ _ => 0, fun _ _ => 0, fun _ _ => none, fun _ _ => 0, (L, xs))
def B00 : Bld := (0, [], [], [])
def BMd : Bld := R0b (bN (X6b (bN B00 (.inr 6)) 0) (.inr 7)) 198
def FI : List (Nat × Nat × Int32) := (198, 15, -1) :: ([159, 145, 130, 116, 102, 88, 74, 60, 46, 32, 17, 3].flatMap fun b => [(b, 2, 4), (b, 1, 8)])
theorem bOk_00 (L : Nat) (xs : Nat → Int32) : bOk (L, xs) B00 (M00 L xs) := ⟨rfl, rfl, rfl, fun _ _ => rfl, fun _ _ => rfl, fun _ _ _ => rfl, fun _ _ _ => rfl, rfl, rfl, rfl⟩

