/-! writes that go up an array -/
section
variable {l : Launch} {J : Jm} {F L MC MS : Nat} {Q : Res → Mem → Prop} {pc : Nat} {lv : List (Nat × Value)} {st : List Value} {k n : Nat} {M : Mem}
abbrev pI (M : Mem) (i k : Nat) (x : Int32) : Mem := sI M i (fun_set (mI M i) k x)
abbrev pL (M : Mem) (i k : Nat) (x : Int64) : Mem := sL M i (fun_set (mL M i) k x)
def wr {α : Type} (f x : Nat → α) (i : Nat) : Nat → α := fun k => if k < i then x k else f k
theorem wr_0 {α : Type} (f x : Nat → α) : wr f x 0 = f := by funext k; simp [wr]
theorem wr_s {α : Type} (f x : Nat → α) (i : Nat) : fun_set (wr f x i) i (x i) = wr f x (i + 1) := by
  funext k
  simp only [fun_set, wr]
  by_cases h : k = i
  · subst h; simp
  · by_cases h2 : k < i
    · rw [if_neg h, if_pos h2, if_pos (by omega)]
    · rw [if_neg h, if_neg h2, if_neg (by omega)]
theorem wr_lt {α : Type} {f x : Nat → α} {i k : Nat} (h : k < i) : wr f x i k = x k := by simp [wr, h]
theorem wr_ge {α : Type} {f x : Nat → α} {i k : Nat} (h : i ≤ k) : wr f x i k = f k := by simp [wr, Nat.not_lt.mpr h]
theorem cpy_wr {α : Type} (f g : Nat → α) (c : Nat) : va_cpy f g 0 0 c = wr g f c := by funext k; simp [va_cpy, wr]
theorem go_cast {M' : Mem} (e : M = M') (h : Go l J F L MC MS Q pc lv st k n M') : Go l J F L MC MS Q pc lv st k n M := by rw [e]; exact h
theorem sI_id (M : Mem) (a : Nat) : sI M a (mI M a) = M := by simp only [sI, mI, fs_same]
theorem sL_id (M : Mem) (a : Nat) : sL M a (mL M a) = M := by simp only [sL, mL, fs_same]
theorem sI_eq {M : Mem} {a : Nat} {f : Nat → Int32} (h : f = mI M a) : M = sI M a f := by rw [h, sI_id]
theorem sL_eq {M : Mem} {a : Nat} {f : Nat → Int64} (h : f = mL M a) : M = sL M a f := by rw [h, sL_id]
theorem sI_2 (M : Mem) (a : Nat) (f g : Nat → Int32) : sI (sI M a f) a g = sI M a g := by simp only [sI, fs_twice]
theorem sL_2 (M : Mem) (a : Nat) (f g : Nat → Int64) : sL (sL M a f) a g = sL M a g := by simp only [sL, fs_twice]
theorem sI_self (M : Mem) (a : Nat) (f : Nat → Int32) : mI (sI M a f) a = f := by simp only [sI, mI, fs_self]
theorem sL_self (M : Mem) (a : Nat) (f : Nat → Int64) : mL (sL M a f) a = f := by simp only [sL, mL, fs_self]
theorem sI_ne {M : Mem} {a b : Nat} {f : Nat → Int32} (h : b ≠ a) : mI (sI M a f) b = mI M b := by simp only [sI, mI, fs_ne _ _ h]
theorem sL_ne {M : Mem} {a b : Nat} {f : Nat → Int64} (h : b ≠ a) : mL (sL M a f) b = mL M b := by simp only [sL, mL, fs_ne _ _ h]
theorem sI_st {M : Mem} {a i : Nat} {g h : Nat → Int32} {x : Int32} (e : fun_set g i x = h) : pI (sI M a g) a i x = sI M a h := by
  simp only [pI, sI, mI, fs_self, fs_twice, e]
theorem sL_st {M : Mem} {a i : Nat} {g h : Nat → Int64} {x : Int64} (e : fun_set g i x = h) : pL (sL M a g) a i x = sL M a h := by
  simp only [pL, sL, mL, fs_self, fs_twice, e]
theorem pI_self (M : Mem) (i k : Nat) (x : Int32) : mI (pI M i k x) i k = x := by simp only [pI, sI, mI, fs_self]
theorem pI_k {M : Mem} {i k j : Nat} {x : Int32} (h : j ≠ k) : mI (pI M i k x) i j = mI M i j := by simp only [pI, sI, mI, fs_self, fs_ne _ _ h]
theorem pI_i {M : Mem} {i k j : Nat} {x : Int32} (h : j ≠ i) : mI (pI M i k x) j = mI M j := by simp only [pI, sI, mI, fs_ne _ _ h]
theorem pI_get (M : Mem) (i k j r : Nat) (x : Int32) : mI (pI M i k x) j r = if j = i ∧ r = k then x else mI M j r := by
  by_cases h : j = i
  · subst h
    by_cases h2 : r = k
    · subst h2; simp [pI_self]
    · rw [pI_k h2, if_neg (fun h => h2 h.2)]
  · rw [pI_i h, if_neg (fun h9 => h h9.1)]
theorem mem_extI {M M' : Mem} (h1 : mK M = mK M') (h2 : mX M = mX M') (h3 : mL M = mL M') (h4 : mR M = mR M') (h5 : mD M = mD M') (h6 : mS M = mS M') (h : ∀ i, mI M i = mI M' i) : M = M' := by
  obtain ⟨a1, a2, a3, a4, a5, a6, a7⟩ := M
  obtain ⟨b1, b2, b3, b4, b5, b6, b7⟩ := M'
  have h7 : a3 = b3 := funext h
  cases h1; cases h2; cases h3; cases h4; cases h5; cases h6; cases h7
  rfl
end
