/-! a new desk beside a new reference -/
theorem lkI_no {i j : Nat} : ∀ {L : List (Nat × Nat × Int32)}, L.all (fun q => !Nat.beq q.1 i) = true → lkI L i j = 0
  | [], _ => rfl
  | q :: L, h => by
    rw [List.all_cons, Bool.and_eq_true] at h
    unfold lkI
    have h1 : Nat.beq q.1 i = false := by
      have := h.1
      cases h9 : Nat.beq q.1 i
      · rfl
      · rw [h9] at this
        cases this
    rw [h1]
    exact lkI_no h.2
abbrev Z1 : Nat → Int32 := fun _ => 0
abbrev Z2 : Nat → Nat → Int32 := fun _ _ => 0
section
variable {l : Launch} {M M' : Mem}
theorem f_0 (h : Frs M) {i : Nat} (hi : FI.all (fun q => !Nat.beq q.1 i) = true) : mI M i = Z1 := funext fun j => by
  rw [h.2.1]
  exact lkI_no hi
theorem f_z (h : Frs M) : mI M 3 1 = nI 8 := by
  rw [h.2.1]
  decide +kernel
theorem f_bl (h : Frs M) : mI M 3 2 = nI 4 := by
  rw [h.2.1]
  decide +kernel
theorem fI_ok : ∀ s, s < 6 → FI.all (fun q => !Nat.beq q.1 (6 + 2 * s)) = true ∧ FI.all (fun q => !Nat.beq q.1 (5 + 2 * s)) = true ∧ FI.all (fun q => !Nat.beq q.1 (175 + 2 * s)) = true ∧ FI.all (fun q => !Nat.beq q.1 (176 + 2 * s)) = true := by decide +kernel
theorem f_rows (h : Frs M) {s : Nat} (hs : s < 6) : mI M (6 + 2 * s) = Z1 := f_0 h (fI_ok s hs).1
theorem f_mx (h : Frs M) {s : Nat} (hs : s < 6) : mI M (5 + 2 * s) = Z1 := f_0 h (fI_ok s hs).2.1
theorem f_cl0 (h : Frs M) {s : Nat} (hs : s < 6) : mI M (175 + 2 * s) = Z1 := f_0 h (fI_ok s hs).2.2.1
theorem f_cl1 (h : Frs M) {s : Nat} (hs : s < 6) : mI M (176 + 2 * s) = Z1 := f_0 h (fI_ok s hs).2.2.2
theorem f_D (h : Frs M) : Dk M 8 0 0 := ⟨h.1, f_z h, by decide, by rw [h.2.1]; decide +kernel, by decide, by rw [h.2.1]; decide +kernel, by decide, fun s hs => Or.inl (by
  rw [show 3 + 2 + 2 * s = 5 + 2 * s by omega, f_mx h hs])⟩
/-- the reference is new -/
def Fq (M : Mem) : Prop := Shp M ∧ (∀ i, i < 212 → mL M i = fun_set (fun _ _ => 0) 199 (bgF (fun _ => 0) 8) i) ∧ ∀ i, 198 ≤ i → ∀ j, mI M i j = lkI FI i j
theorem fq_0 (h : Frs M) (hc : Cf M M') : Fq M' := ⟨hc.S h.1, fun i _ => by rw [hc.L, h.2.2.1], fun i hi j => by rw [hc.I hi, h.2.1]⟩
theorem fq_1 {v : Int64} (h : Fq M) : Fq (pL M 212 0 v) := ⟨h.1, fun i hi => by
  rw [show mL (pL M 212 0 v) i = mL M i from sL_ne9 (by omega)]
  exact h.2.1 i hi, h.2.2⟩
theorem fq_2 {f : Nat → UInt64} (h : Fq M) : Fq (sD M 213 f) := h
theorem fq_L (h : Fq M) : mL M 199 = bgF (fun _ => 0) 8 := by
  rw [h.2.1 199 (by decide)]
  unfold fun_set
  rw [if_pos rfl]
theorem bg_ge {i : Nat} (hi : 2 ≤ i) : bgF (fun _ => 0) 8 i = 0 := by
  unfold bgF fun_set clF
  rw [if_neg (by omega), if_neg (by omega)]
  split <;> rfl
theorem fq_R (h : Fq M) : Rr M 8 Z2 := ⟨h.1, by rw [fq_L h]; decide +kernel, by decide, by decide, fun s r hs hr => by
  rw [fq_L h, bg_ge (by omega)]
  exact uL_0.symm⟩
theorem fq_c (h : Fq M) : mI M 198 5 = nI 0 := by
  rw [h.2.2 198 (by decide)]
  decide +kernel
theorem fq_bl (h : Fq M) : mL M 199 1 = lN 4 := by
  rw [fq_L h]
  decide +kernel
theorem fq_bs (h : Fq M) : bsOk M := fun i hi => by
  rw [h.2.1 209 (by decide)]
  unfold fun_set
  rw [if_neg (by decide)]
  show (0 : Int64) = uL (0 : Int64).toInt32
  decide +kernel
theorem fz_wf : wfA 8 Z2 := fun s r _ _ c _ => hb_0 c
theorem wr_z (n : Nat) : wr Z1 Z1 n = Z1 := by
  funext k
  unfold wr
  split <;> rfl
theorem wIn_z (m : Nat) : ∀ i, wIn Z1 m i = Z1
  | 0 => rfl
  | i + 1 => by
    unfold wIn
    rw [wIn_z m i, hb_0, if_neg (by decide)]
theorem wO_z (n : Nat) : ∀ k, wOut Z1 n k = Z1
  | 0 => rfl
  | k + 1 => by
    unfold wOut
    rw [wO_z n k, wIn_z]
theorem cl_new {s n : Nat} (h1 : mI M (175 + 2 * s) 1 = 0) (h2 : mI M (176 + 2 * s) = Z1) (h3 : mI M (6 + 2 * s) = Z1) : mI (clOf M s n) (175 + 2 * s + 1) = Z1 := by
  unfold clOf
  rw [if_pos h1]
  unfold clMake
  show mI (sI (sI M (175 + 2 * s + 1) _) (175 + 2 * s) _) (175 + 2 * s + 1) = _
  rw [sI_ne (by omega), sI_self, show 175 + 2 * s + 1 = 176 + 2 * s by omega, h2, h3, wr_z, wO_z]
theorem f_cl (h : Frs M) {s n : Nat} (hs : s < 6) : mI (clOf M s n) (175 + 2 * s + 1) = Z1 := cl_new (by rw [f_cl0 h hs]) (f_cl1 h hs) (f_rows h hs)
/-- the class's rows -/
theorem fq_A (h : Frs M) (hq : Fq M') : Rr M' 8 (Am M) := ⟨hq.1, (fq_R hq).2.1, by decide, by decide, fun s r hs hr => by
  rw [(fq_R hq).2.2.2.2 s r hs hr]
  show _ = uL (mI M (6 + 2 * s) r)
  rw [f_rows h hs]⟩
theorem am_wf (h : Frs M) : wfA 8 (Am M) := fun s r hs _ c _ => by
  show hb (mI M (6 + 2 * s) r) c = false
  rw [f_rows h hs]
  exact hb_0 c
theorem am_0 (h : Frs M) {s : Nat} (hs : s < 6) : Am M s = Z1 := f_rows h hs
end
