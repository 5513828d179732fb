/-! what a method leaves as it was -/
/-- cells may be new; of the old ones those alone may have changed that W names -/
def Xt (W : Nat → Prop) (M M' : Mem) : Prop := (∃ rest, mK M' = mK M ++ rest) ∧ mX M' = mX M ∧ mS M' = mS M ∧ ∀ i, i < (mK M).length → ¬ W i → mI M' i = mI M i ∧ mL M' i = mL M i ∧ mR M' i = mR M i ∧ mD M' i = mD M i
abbrev Xn (M M' : Mem) : Prop := Xt (fun _ => False) M M'
section
variable {M M1 M2 M' : Mem} {W W' : Nat → Prop} {i : Nat}
theorem Xt.rf (W : Nat → Prop) (M : Mem) : Xt W M M := ⟨⟨[], (List.append_nil _).symm⟩, rfl, rfl, fun _ _ _ => ⟨rfl, rfl, rfl, rfl⟩⟩
theorem Xt.len (h : Xt W M M') : (mK M).length ≤ (mK M').length := by
  obtain ⟨rest, hr⟩ := h.1
  rw [hr, List.length_append]
  omega
theorem Xt.k {x : Knd} (h : Xt W M M') (hi : (mK M)[i]? = some x) : (mK M')[i]? = some x := by
  obtain ⟨rest, hr⟩ := h.1
  rw [hr, List.getElem?_append_left (List.getElem?_eq_some_iff.mp hi).1]
  exact hi
theorem k_lt {x : Knd} (hi : (mK M)[i]? = some x) : i < (mK M).length := (List.getElem?_eq_some_iff.mp hi).1
theorem Xt.tr' (h1 : Xt W M M1) (h2 : Xt W' M1 M2) (hw : ∀ i, i < (mK M).length → W' i → W i) : Xt W M M2 := by
  have hl := h1.len
  obtain ⟨⟨r1, a1⟩, b1, c1, d1⟩ := h1
  obtain ⟨⟨r2, a2⟩, b2, c2, d2⟩ := h2
  refine ⟨⟨r1 ++ r2, by rw [a2, a1, List.append_assoc]⟩, b2.trans b1, c2.trans c1, fun i hi hP => ?_⟩
  obtain ⟨e1, e2, e3, e4⟩ := d1 i hi hP
  obtain ⟨f1, f2, f3, f4⟩ := d2 i (by omega) (fun h => hP (hw i hi h))
  exact ⟨f1.trans e1, f2.trans e2, f3.trans e3, f4.trans e4⟩
theorem Xt.tr (h1 : Xt W M M1) (h2 : Xt W M1 M2) : Xt W M M2 := h1.tr' h2 (fun _ _ h => h)
theorem Xt.up (h : Xt W M M') (hw : ∀ i, i < (mK M).length → W i → W' i) : Xt W' M M' := (Xt.rf W' M).tr' h hw
theorem Xt.I (h : Xt W M M') (hi : i < (mK M).length) (hW : ¬ W i) : mI M' i = mI M i := (h.2.2.2 i hi hW).1
theorem Xt.L (h : Xt W M M') (hi : i < (mK M).length) (hW : ¬ W i) : mL M' i = mL M i := (h.2.2.2 i hi hW).2.1
theorem Xt.R (h : Xt W M M') (hi : i < (mK M).length) (hW : ¬ W i) : mR M' i = mR M i := (h.2.2.2 i hi hW).2.2.1
theorem Xt.nK (h : Xt W M M1) (x : Knd) : Xt W M (nK M1 x) := h.tr ⟨⟨[x], rfl⟩, rfl, rfl, fun i hi _ => ⟨fs_ne _ _ (Nat.ne_of_lt hi), fs_ne _ _ (Nat.ne_of_lt hi), fs_ne _ _ (Nat.ne_of_lt hi), fs_ne _ _ (Nat.ne_of_lt hi)⟩⟩
theorem Xt.nC (h : Xt W M M1) (a : Nat) (x : Knd) : Xt W M (nC M1 a x) := h.tr ⟨⟨[x], rfl⟩, rfl, rfl, fun i hi _ => ⟨fs_ne _ _ (Nat.ne_of_lt hi), fs_ne _ _ (Nat.ne_of_lt hi), fs_ne _ _ (Nat.ne_of_lt hi), fs_ne _ _ (Nat.ne_of_lt hi)⟩⟩
theorem Xt.sI (h : Xt W M M1) {a : Nat} {f : Nat → Int32} (ha : a < (mK M).length → W a) : Xt W M (sI M1 a f) := h.tr' (W' := fun i => i = a) ⟨⟨[], (List.append_nil _).symm⟩, rfl, rfl, fun i _ hi => ⟨fs_ne _ _ hi, rfl, rfl, rfl⟩⟩ (fun i hi e => by rw [e] at hi ⊢; exact ha hi)
theorem Xt.sL (h : Xt W M M1) {a : Nat} {f : Nat → Int64} (ha : a < (mK M).length → W a) : Xt W M (sL M1 a f) := h.tr' (W' := fun i => i = a) ⟨⟨[], (List.append_nil _).symm⟩, rfl, rfl, fun i _ hi => ⟨rfl, fs_ne _ _ hi, rfl, rfl⟩⟩ (fun i hi e => by rw [e] at hi ⊢; exact ha hi)
theorem Xt.sR (h : Xt W M M1) {a : Nat} {f : Nat → Option Nat} (ha : a < (mK M).length → W a) : Xt W M (sR M1 a f) := h.tr' (W' := fun i => i = a) ⟨⟨[], (List.append_nil _).symm⟩, rfl, rfl, fun i _ hi => ⟨rfl, rfl, fs_ne _ _ hi, rfl⟩⟩ (fun i hi e => by rw [e] at hi ⊢; exact ha hi)
theorem sR_self (M : Mem) (a : Nat) (f : Nat → Option Nat) : mR (sR M a f) a = f := fs_self _ _ _
theorem sR_ne {M : Mem} {a b : Nat} {f : Nat → Option Nat} (h : b ≠ a) : mR (sR M a f) b = mR M b := fs_ne _ _ h
theorem mR_sI (M : Mem) (a : Nat) (f : Nat → Int32) : mR (sI M a f) = mR M := rfl
theorem mI_sR (M : Mem) (a : Nat) (f : Nat → Option Nat) : mI (sR M a f) = mI M := rfl
theorem mR_sL (M : Mem) (a : Nat) (f : Nat → Int64) : mR (sL M a f) = mR M := rfl
theorem mI_sL (M : Mem) (a : Nat) (f : Nat → Int64) : mI (sL M a f) = mI M := rfl
/-- a new cell's number and what it holds -/
theorem new_I (M : Mem) (x : Knd) : mI (nK M x) (mK M).length = fun _ => 0 := fs_self _ _ _
theorem new_L (M : Mem) (x : Knd) : mL (nK M x) (mK M).length = fun _ => 0 := fs_self _ _ _
theorem new_R (M : Mem) (x : Knd) : mR (nK M x) (mK M).length = fun _ => none := fs_self _ _ _
theorem new_at (M : Mem) (x : Knd) : (mK (nK M x))[(mK M).length]? = some x := (new_k M x).1
theorem new_l (M : Mem) (x : Knd) : (mK (nK M x)).length = (mK M).length + 1 := (new_k M x).2
theorem new_o (M : Mem) {x y : Knd} (h : (mK M)[i]? = some y) : (mK (nK M x))[i]? = some y := by
  show (mK M ++ [x])[i]? = _
  rw [List.getElem?_append_left (k_lt h)]
  exact h
theorem new_cI (M : Mem) (a : Nat) (x : Knd) : mI (nC M a x) (mK M).length = mI M a := fs_self _ _ _
theorem new_Ine (M : Mem) (x : Knd) (h : i < (mK M).length) : mI (nK M x) i = mI M i := fs_ne _ _ (Nat.ne_of_lt h)
theorem new_Rne (M : Mem) (x : Knd) (h : i < (mK M).length) : mR (nK M x) i = mR M i := fs_ne _ _ (Nat.ne_of_lt h)
theorem new_Lne (M : Mem) (x : Knd) (h : i < (mK M).length) : mL (nK M x) i = mL M i := fs_ne _ _ (Nat.ne_of_lt h)
end

