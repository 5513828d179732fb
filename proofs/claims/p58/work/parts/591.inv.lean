/-! what leaves the invariant -/
def Cq (M M' : Mem) : Prop := Cf M M' ∧ ∀ i, i < 175 → mI M' i = mI M i
def Rq (M M' : Mem) : Prop := Rf M M' ∧ (mL M' 199 = mL M 199 ∧ mL M' 201 = mL M 201 ∧ mL M' 202 = mL M 202) ∧ (bsOk M → bsOk M') ∧ (mI M' 203 = mI M 203 ∧ mI M' 204 = mI M 204) ∧ ∀ j, j ≠ 6 → j ≠ 22 → mI M' 198 j = mI M 198 j
section
variable {M M1 M' M2 : Mem} {n p c : Nat}
theorem Cq.rf (M : Mem) : Cq M M := ⟨Cf.rf M, fun _ _ => rfl⟩
theorem Cq.tr (h : Cq M M1) (g : Cq M1 M2) : Cq M M2 := ⟨h.1.tr g.1, fun i hi => (g.2 i hi).trans (h.2 i hi)⟩
theorem Rq.rf (M : Mem) : Rq M M := ⟨Rf.rf M, ⟨rfl, rfl, rfl⟩, fun h => h, ⟨rfl, rfl⟩, fun _ _ _ => rfl⟩
theorem Rq.tr (h : Rq M M1) (g : Rq M1 M2) : Rq M M2 := ⟨h.1.tr g.1, ⟨g.2.1.1.trans h.2.1.1, g.2.1.2.1.trans h.2.1.2.1, g.2.1.2.2.trans h.2.1.2.2⟩, fun q => g.2.2.1 (h.2.2.1 q), ⟨g.2.2.2.1.1.trans h.2.2.2.1.1, g.2.2.2.1.2.trans h.2.2.2.1.2⟩, fun j h1 h2 => (g.2.2.2.2 j h1 h2).trans (h.2.2.2.2 j h1 h2)⟩
theorem iv_c (h : IV M n p c) (hc : Cq M M') (hC : IC M' n) (h188 : mI M' 188 0 = 0) : IV M' n p c :=
  iv_q h (hc.1.S h.S) (fun i hi _ => hc.2 i (by unfold qId at hi; omega)) (by rw [hc.2 0 (by decide)]; exact ⟨⟨rfl, rfl⟩, h.2.2.2.2.2.2.2.2.1⟩) (by rw [hc.1.L]) (by rw [hc.1.L]) (by rw [hc.1.L]) hC h188 (fun i hi => by rw [hc.1.L]; exact h.2.2.2.2.2.2.2.1 i hi) (hc.1.I (by decide)) (hc.1.I (by decide)) (by rw [hc.1.I (Nat.le_refl 198)]; exact ⟨rfl, rfl, rfl, rfl, h.2.2.2.2.2.2.2.2.2⟩)
theorem iv_1 {v : Int64} (h : IV M n p c) : IV (pL M 212 0 v) n p c :=
  iv_q h h.1 (fun _ _ _ => rfl) ⟨⟨rfl, rfl⟩, h.2.2.2.2.2.2.2.2.1⟩ (sL_ne9 (by decide)) (sL_ne9 (by decide)) (sL_ne9 (by decide)) h.2.2.2.2.1 h.2.2.2.2.2.2.1 (fun i hi => by rw [sL_ne9 (by decide)]; exact h.2.2.2.2.2.2.2.1 i hi) rfl rfl ⟨rfl, rfl, rfl, rfl, h.2.2.2.2.2.2.2.2.2⟩
theorem iv_2 {f : Nat → UInt64} (h : IV M n p c) : IV (sD M 213 f) n p c := h
theorem iv_r (h : IV M n p c) (hr : Rq M M') : IV M' n p c := by
  have hI : ∀ i, i < 198 → mI M' i = mI M i := fun i hi => hr.1.I hi
  refine iv_q h (hr.1.S h.S) (fun i hi _ => hI i (by unfold qId at hi; omega)) (by rw [hI 0 (by decide)]; exact ⟨⟨rfl, rfl⟩, h.2.2.2.2.2.2.2.2.1⟩) hr.2.1.1 hr.2.1.2.1 hr.2.1.2.2 (fun s hs h1 r hr2 => ?_) (by rw [hI 188 (by decide)]; exact h.2.2.2.2.2.2.1) (hr.2.2.1 h.2.2.2.2.2.2.2.1) hr.2.2.2.1.1 hr.2.2.2.1.2 ⟨hr.2.2.2.2 5 (by decide) (by decide), hr.2.2.2.2 8 (by decide) (by decide), hr.2.2.2.2 14 (by decide) (by decide), hr.2.2.2.2 15 (by decide) (by decide), by rw [hr.2.2.2.2 24 (by decide) (by decide)]; exact h.2.2.2.2.2.2.2.2.2⟩
  rw [hI _ (by omega)] at h1
  rw [hI _ (by omega), hI _ (by omega)]
  exact h.2.2.2.2.1 s hs h1 r hr2
theorem rq_thr {x : Int32} (h : Rq M M1) : Rq M (thr M1 x) := h.tr ⟨rf_thr (Rf.rf _), ⟨rfl, rfl, rfl⟩, fun q => q, ⟨sI_ne (by decide), sI_ne (by decide)⟩, fun j h1 _ => by
  unfold thr
  rw [pI_at, if_neg (fun q => h1 q.2)]⟩
theorem rq_sL {i : Nat} {f : Nat → Int64} (hi : i = 205 ∨ i = 206 ∨ i = 207) (h : Rq M M1) : Rq M (sL M1 i f) := h.tr ⟨rf_sL (by omega) (Rf.rf _), ⟨sL_ne9 (by omega), sL_ne9 (by omega), sL_ne9 (by omega)⟩, fun q j hj => by
  rw [sL_ne9 (by omega)]
  exact q j hj, ⟨rfl, rfl⟩, fun _ _ _ => rfl⟩
theorem rq_hdM {x k : Nat} {f : Nat → Int32} (hi : x = 205 ∨ x = 206 ∨ x = 207) (h : Rq M M1) : Rq M (hdM M1 x k f) := by
  unfold hdM
  exact rq_sL hi h
theorem rq_sI {i : Nat} {f : Nat → Int32} (hi : i = 208 ∨ i = 210 ∨ i = 211) (h : Rq M M1) : Rq M (sI M1 i f) := h.tr ⟨rf_sI (by omega) (Rf.rf _), ⟨rfl, rfl, rfl⟩, fun q => q, ⟨sI_ne (by omega), sI_ne (by omega)⟩, fun j _ _ => congrFun (sI_ne (by omega)) j⟩
theorem rq_farM {f : Nat → Int32} {k t : Nat} (h : Rq M M1) : Rq M (farM M1 f k t) := by
  unfold farM
  exact rq_sI (Or.inl rfl) h
theorem rq_gfM {f : Nat → Int32} {k : Nat} (h : Rq M M1) : ∀ j, Rq M (gfM M1 f k j)
  | 0 => h
  | j + 1 => rq_farM h
theorem rq_209 {f : Nat → Int32} {k : Nat} (h : Rq M M1) : Rq M (sL M1 209 (wr (mL M1 209) (uR f) k)) := h.tr ⟨rf_sL (by decide) (Rf.rf _), ⟨sL_ne9 (by decide), sL_ne9 (by decide), sL_ne9 (by decide)⟩, fun q i hi => by
  show fun_set (mL M1) 209 (wr (mL M1 209) (uR f) k) 209 i = uL (fun_set (mL M1) 209 (wr (mL M1 209) (uR f) k) 209 i).toInt32
  unfold fun_set
  rw [if_pos rfl]
  unfold wr
  split
  · exact congrArg uL (uL_32 _).symm
  · exact q i hi, ⟨rfl, rfl⟩, fun _ _ _ => rfl⟩
theorem sL_I9 (X : Mem) (i : Nat) (f : Nat → Int64) : mI (sL X i f) = mI X := rfl
theorem rq_22 {X : Mem} {g : Nat → Int32} {v : Int32} (h : Rq M X) (e : mI X 198 = g) : Rq M (sI X 198 (fun_set g 22 v)) := by
  subst e
  refine h.tr ⟨rf_sI (by decide) (Rf.rf _), ⟨rfl, rfl, rfl⟩, fun q => q, ⟨sI_ne (by decide), sI_ne (by decide)⟩, fun j _ h22 => ?_⟩
  rw [sI_self]
  unfold fun_set
  rw [if_neg h22]
theorem rq_rbM {k : Nat} {s : ES} (h : Rq M M1) : Rq M (rbM M1 k s) := by
  have h1 := rq_sL (i := 205) (f := wr (mL M1 205) (uR s.1) k) (Or.inl rfl) h
  have e9 : mL (sL M1 205 (wr (mL M1 205) (uR s.1) k)) 209 = mL M1 209 := sL_ne9 (by decide)
  have e8 : mI (sL M1 205 (wr (mL M1 205) (uR s.1) k)) = mI M1 := sL_I9 _ _ _
  unfold rbM
  generalize sL M1 205 (wr (mL M1 205) (uR s.1) k) = X at *
  rw [← e9]
  have h2 := rq_209 (f := s.2.1) (k := k) h1
  have e7 := sL_I9 X 209 (wr (mL X 209) (uR s.2.1) k)
  generalize sL X 209 (wr (mL X 209) (uR s.2.1) k) = Y at *
  have h3 := rq_sI (i := 210) (f := s.2.2.1) (Or.inr (Or.inl rfl)) h2
  have e6 : mI (sI Y 210 s.2.2.1) 198 = mI Y 198 := sI_ne (by decide)
  generalize sI Y 210 s.2.2.1 = Z at *
  exact rq_22 h3 (by rw [e6, e7, e8])
end
