section
variable {l : Launch} {M : Mem}
def beG (f g : Nat → Int32) (n a k : Nat) : Int32 := if hb (f a) k = true then -1 else gainW g (nodesTo g a n) k n
def beI (f g : Nat → Int32) (n a : Nat) (q : Int32 × Int32) : Nat → Int32 × Int32
  | 0 => q
  | k + 1 => if beG f g n a k ≤ (beI f g n a q k).2 then beI f g n a q k else (32 * nI a + nI k, beG f g n a k)
def beO (f g : Nat → Int32) (n : Nat) : Nat → Int32 × Int32
  | 0 => (-1, -1)
  | k + 1 => beI f g n k (beO f g n k) n
def wkL (M : Mem) (s n a k : Nat) : Int32 := if hb (mI M (6 + 2 * s) a) k = true then loV M s a k n else -1
def wkM (M : Mem) (s n a k : Nat) : Mem := if hb (mI M (6 + 2 * s) a) k = true then loM M s a k n else M
def wkI (s n a : Nat) (q : Mem × Int32 × Int32) : Nat → Mem × Int32 × Int32
  | 0 => q
  | k + 1 => (wkM (wkI s n a q k).1 s n a k, if wkL (wkI s n a q k).1 s n a k ≤ (wkI s n a q k).2.2 then (wkI s n a q k).2 else (32 * nI a + nI k, wkL (wkI s n a q k).1 s n a k))
def wkO (M : Mem) (s n : Nat) : Nat → Mem × Int32 × Int32
  | 0 => (M, -1, -1)
  | k + 1 => wkI s n k (wkO M s n k) n
/-- a memory that differs from M in made rows and closures alone -/
def Nr (M M' : Mem) : Prop := Shp M' ∧ ∀ i, i < 175 ∨ 196 ≤ i → mI M' i = mI M i
theorem lwMem_ne {s a b n i : Nat} (h : i ≠ 195) : mI (lwMem M s a b n) i = mI M i := by unfold lwMem; exact sI_ne h
theorem loM_nr {M' : Mem} {s a b n : Nat} (h : Nr M M') (hs : s < 6) : Nr M (loM M' s a b n) := by
  unfold loM
  refine ⟨clOf_S (by unfold lwMem; exact shp_sI h.1) s n, fun i hi => ?_⟩
  rw [clOf_ne (by omega) hs, lwMem_ne (by omega)]
  exact h.2 i hi
theorem wkM_nr {M' : Mem} {s n a k : Nat} (h : Nr M M') (hs : s < 6) : Nr M (wkM M' s n a k) := by
  unfold wkM
  split
  · exact loM_nr h hs
  · exact h
theorem wkI_nr {s n a : Nat} {q : Mem × Int32 × Int32} (h : Nr M q.1) (hs : s < 6) : ∀ k, Nr M (wkI s n a q k).1
  | 0 => h
  | k + 1 => wkM_nr (wkI_nr h hs k) hs
theorem wkO_nr {s n : Nat} (hS : Shp M) (hs : s < 6) : ∀ k, Nr M (wkO M s n k).1
  | 0 => ⟨hS, fun _ _ => rfl⟩
  | k + 1 => wkI_nr (wkO_nr hS hs k) hs n
end
