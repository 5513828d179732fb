section
variable {l : Launch} {M : Mem}
/-- the elimination of a slot beside a right side -/
def elQ (M : Mem) (s n : Nat) (x : Int32) : ES := elAll M n (mI M (6 + 2 * s)) (wr (mI M 193) (fun i => us x (nI i) &&& 1) n)
theorem elQ_c (M : Mem) (s n : Nat) (x : Int32) : (elQ M s n x).2.2.2 ≤ n := by
  have h := elIt_c n (wr (mI M 192) (mI M (6 + 2 * s)) n, wr (mI M 193) (fun i => us x (nI i) &&& 1) n, mI M 194, 0) n
  simp only [Nat.zero_add] at h
  exact h
theorem elMem_S (hS : Shp M) (s : ES) : Shp (elMem M s) := hS
theorem elMem_ne {i : Nat} (s : ES) (h : i < 191 ∨ 194 < i) : mI (elMem M s) i = mI M i := by
  unfold elMem
  rw [sI_ne (by omega), sI_ne (by omega), sI_ne (by omega), sI_ne (by omega)]
end
