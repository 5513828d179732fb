/-! what a call of both sides comes to -/
def t6 (M : Mem) : Prop := mI M 198 6 = 0
section
variable {M M1 M2 : Mem}
theorem t6_thr : t6 (thr M 0) := by
  unfold t6 thr
  show fun_set (mI M) 198 (fun_set (mI M 198) 6 0) 198 6 = 0
  unfold fun_set
  rw [if_pos rfl, if_pos rfl]
theorem thr_6 {x : Int32} : mI (thr M x) 198 6 = x := by
  unfold thr
  show fun_set (mI M) 198 (fun_set (mI M 198) 6 x) 198 6 = x
  unfold fun_set
  rw [if_pos rfl, if_pos rfl]
theorem t6_hdM {x n : Nat} {f : Nat → Int32} (h : t6 M) : t6 (hdM M x n f) := by
  unfold hdM
  exact h
theorem t6_sL {i : Nat} {f : Nat → Int64} (h : t6 M) : t6 (sL M i f) := h
theorem t6_sI {i : Nat} {f : Nat → Int32} (hi : i ≠ 198) (h : t6 M) : t6 (sI M i f) := (congrFun (sI_ne (Ne.symm hi)) 6).trans h
theorem t6_pI {j : Nat} {x : Int32} (hj : j ≠ 6) (h : t6 M) : t6 (pI M 198 j x) := by
  unfold t6 at h ⊢
  show fun_set (mI M) 198 (fun_set (mI M 198) j x) 198 6 = 0
  unfold fun_set
  rw [if_pos rfl, if_neg (Ne.symm hj)]
  exact h
theorem t6_farM {f : Nat → Int32} {n t : Nat} (h : t6 M) : t6 (farM M f n t) := by
  unfold farM
  exact t6_sI (by decide) h
theorem t6_gfM {f : Nat → Int32} {n : Nat} (h : t6 M) : ∀ k, t6 (gfM M f n k)
  | 0 => h
  | k + 1 => t6_farM h
theorem t6_rbM {n : Nat} {s : ES} (h : t6 M) : t6 (rbM M n s) := by
  unfold rbM
  have h1 : t6 (sI (sL (sL M 205 (wr (mL M 205) (uR s.1) n)) 209 (wr (mL M 209) (uR s.2.1) n)) 210 s.2.2.1) := t6_sI (by decide) h
  exact t6_pI (by decide) h1
theorem t6_kepM {c : Nat} (h : t6 M) : t6 (kepM M c) := by
  unfold kepM
  exact t6_pI (by decide) (t6_sL h)
theorem t6_lkM {s : Nat} {x : Int32} (h : t6 M) : t6 (lkM M s x) := by
  unfold lkM
  split
  · exact h
  · exact h
theorem t6_anM {s : Nat} {x : Int32} (h : t6 M) : t6 (anM M s x) := by
  unfold anM
  exact t6_sL (t6_lkM h)
theorem t6_lyM {t n : Nat} {f : Nat → Int32} (h : t6 M) : t6 (lyM M t n f) := by
  unfold lyM
  exact h
theorem t6_lsM {t n : Nat} {f : Nat → Int32} (h : t6 M) : t6 (lsM M t n f) := by
  unfold lsM
  exact t6_anM (t6_lyM h)
theorem t6_k0M {c : Nat} : t6 (k0M M c) := by
  unfold k0M
  exact t6_kepM t6_thr
theorem t6_srM {s r : Nat} {v : Int32} (h : t6 M) : t6 (srM M s r v) := by
  unfold srM
  exact h
theorem t6_kpS {s : Nat} {b : Bool} (h : t6 M) : t6 (kpS M s b) := by
  unfold kpS
  exact h
theorem t6_wrtM {n : Nat} {x : Int32} : t6 (wrtM M n x) := by
  unfold wrtM
  exact t6_sI (by decide) (t6_pI (by decide) t6_thr)
theorem t6_saM {q : Nat} : t6 (saM M q) := by
  unfold saM
  exact t6_sI (by decide) (t6_sL t6_thr)
theorem t6_reM {q : Nat} : t6 (reM M q) := by
  unfold reM
  exact t6_pI (by decide) (t6_sL t6_thr)
theorem t6_rpM {n s r q : Nat} {f : Nat → Int32} {c : Nat} : t6 (rpM M n s r q f c) := by
  unfold rpM rpM1
  exact t6_hdM (t6_srM (t6_lkM (t6_hdM (t6_hdM t6_k0M))))
theorem t6_muM {fl : Bool} {f g : Nat → Int32} {n bl : Nat} (h : t6 M) : t6 (muM M fl f g n bl) := by
  unfold muM ctM
  exact t6_hdM h
theorem t6_pdM {n bl t : Nat} {fl : Bool} {f g : Nat → Int32} {c : Nat} : t6 (pdM M n bl t fl f g c) := by
  unfold pdM
  exact t6_lsM (t6_muM (t6_hdM (t6_hdM t6_k0M)))
theorem t6_pwZ {n bl t : Nat} {fl : Bool} {f0 : Nat → Int32} {x : Int32} {c : Nat} : t6 (pwZ M n bl t fl f0 x c) := by
  unfold pwZ pqM
  exact t6_lsM (t6_hdM (t6_sL (t6_sL (t6_sL (t6_hdM t6_k0M)))))
theorem t6_inM {n t : Nat} {f : Nat → Int32} {c : Nat} : t6 (inM M n t f c) := by
  unfold inM
  exact t6_lsM (t6_kepM (t6_rbM t6_thr))
theorem t6_rcM {n : Nat} {f : Nat → Int32} {k : Nat} (h : t6 M) : t6 (rcM M n f k) := by
  unfold rcM
  exact t6_sL (t6_hdM (t6_hdM h))
end
section
variable {l : Launch} {M M1 M2 : Mem}
/-- a call by its wrapper and the reference's: an int -/
def SemI (l : Launch) (J J7 : Jm) (F L c n F7 : Nat) (As As7 : List Value) (M : Mem) (P : Mem → Prop) : Prop := ∃ (kk b : Int32) (M1 M2 : Mem), EvR l J F L c n As M (.inl (some (.int kk))) M1 ∧ EvR l J7 F7 160 0 0 As7 M1 (.inl (some (.int b))) M2 ∧ Shp M1 ∧ Shp M2 ∧ mI M2 198 6 = kk ∧ (kk = 0 → mL M2 212 0 = b.toInt64) ∧ P M2
def SemJ (l : Launch) (J J7 : Jm) (F L c n F7 : Nat) (As As7 : List Value) (M : Mem) (P : Mem → Prop) : Prop := ∃ (kk : Int32) (b : Int64) (M1 M2 : Mem), EvR l J F L c n As M (.inl (some (.int kk))) M1 ∧ EvR l J7 F7 160 0 0 As7 M1 (.inl (some (.long b))) M2 ∧ Shp M1 ∧ Shp M2 ∧ mI M2 198 6 = kk ∧ (kk = 0 → mL M2 212 0 = b) ∧ P M2
def SemZ (l : Launch) (J J7 : Jm) (F L c n F7 : Nat) (As As7 : List Value) (M : Mem) (P : Mem → Prop) : Prop := ∃ (kk : Int32) (b : Bool) (M1 M2 : Mem), EvR l J F L c n As M (.inl (some (.int kk))) M1 ∧ EvR l J7 F7 160 0 0 As7 M1 (.inl (some (.int (b1 b)))) M2 ∧ Shp M1 ∧ Shp M2 ∧ mI M2 198 6 = kk ∧ (kk = 0 → mL M2 212 0 = if b then 1 else 0) ∧ P M2
def SemD (l : Launch) (J J7 : Jm) (F L c n F7 : Nat) (As As7 : List Value) (M : Mem) (P : Mem → Prop) : Prop := ∃ (kk : Int32) (b : UInt64) (M1 M2 : Mem), EvR l J F L c n As M (.inl (some (.int kk))) M1 ∧ EvR l J7 F7 160 0 0 As7 M1 (.inl (some (.double b))) M2 ∧ Shp M1 ∧ Shp M2 ∧ mI M2 198 6 = kk ∧ (kk = 0 → mD M2 213 0 = b ∧ Op.cmpValue (FP.dcmp b b) CmpOp.l = 0) ∧ P M2
def SemF (l : Launch) (J J7 : Jm) (F L c n F7 : Nat) (As As7 : List Value) (M : Mem) (P : Mem → Prop) : Prop := ∃ (kk : Int32) (b : UInt32) (M1 M2 : Mem), EvR l J F L c n As M (.inl (some (.int kk))) M1 ∧ EvR l J7 F7 160 0 0 As7 M1 (.inl (some (.float b))) M2 ∧ Shp M1 ∧ Shp M2 ∧ mI M2 198 6 = kk ∧ (kk = 0 → mD M2 213 0 = FP.f2d b ∧ Op.cmpValue (FP.dcmp (FP.f2d b) (FP.f2d b)) CmpOp.l = 0 ∧ vf_n64 (FP.f2d b)) ∧ P M2
/-- a call of both sides, none throws -/
def SemN (l : Launch) (J J7 : Jm) (F L F7 L7 : Nat) (As As7 : List Value) (M : Mem) (P : Mem → Prop) : Prop := ∃ (b : Int32) (M1 M2 : Mem), EvR l J F L 0 0 As M (.inl (some (.int b))) M1 ∧ EvR l J7 F7 L7 0 0 As7 M1 (.inl (some (.int b))) M2 ∧ Shp M1 ∧ Shp M2 ∧ P M2
variable {J J7 : Jm} {F L c n F7 : Nat} {As As7 : List Value} {P : Mem → Prop}
theorem smI_g {v : Int32} {M' : Mem} (hS : Shp M') (h1 : EvR l J F L c n As M (.inl (some (.int 0))) (pL M' 212 0 v.toInt64)) (h2 : EvR l J7 F7 160 0 0 As7 (pL M' 212 0 v.toInt64) (.inl (some (.int v))) M2) (hr : Rf (pL M' 212 0 v.toInt64) M2) (ht : t6 M2) (hP : P M2) : SemI l J J7 F L c n F7 As As7 M P := by
  refine ⟨0, v, _, _, h1, h2, hS, hr.S hS, ht, fun _ => ?_, hP⟩
  rw [hr.L (by decide)]
  show fun_set (mL M') 212 (fun_set (mL M' 212) 0 v.toInt64) 212 0 = _
  unfold fun_set
  rw [if_pos rfl, if_pos rfl]
theorem smI_x {e b : Int32} (hS : Shp M) (he : e ≠ 0) (h1 : EvR l J F L c n As M (.inl (some (.int e))) M) (h2 : EvR l J7 F7 160 0 0 As7 M (.inl (some (.int b))) (thr M e)) (hP : P (thr M e)) : SemI l J J7 F L c n F7 As As7 M P :=
  ⟨e, b, _, _, h1, h2, hS, (rf_thr (Rf.rf M)).S hS, thr_6, fun h => absurd h he, hP⟩
theorem smJ_g {v : Int64} {M' : Mem} (hS : Shp M') (h1 : EvR l J F L c n As M (.inl (some (.int 0))) (pL M' 212 0 v)) (h2 : EvR l J7 F7 160 0 0 As7 (pL M' 212 0 v) (.inl (some (.long v))) M2) (hr : Rf (pL M' 212 0 v) M2) (ht : t6 M2) (hP : P M2) : SemJ l J J7 F L c n F7 As As7 M P := by
  refine ⟨0, v, _, _, h1, h2, hS, hr.S hS, ht, fun _ => ?_, hP⟩
  rw [hr.L (by decide)]
  show fun_set (mL M') 212 (fun_set (mL M' 212) 0 v) 212 0 = _
  unfold fun_set
  rw [if_pos rfl, if_pos rfl]
theorem smJ_x {e : Int32} {b : Int64} (hS : Shp M) (he : e ≠ 0) (h1 : EvR l J F L c n As M (.inl (some (.int e))) M) (h2 : EvR l J7 F7 160 0 0 As7 M (.inl (some (.long b))) (thr M e)) (hP : P (thr M e)) : SemJ l J J7 F L c n F7 As As7 M P :=
  ⟨e, b, _, _, h1, h2, hS, (rf_thr (Rf.rf M)).S hS, thr_6, fun h => absurd h he, hP⟩
theorem smZ_g {v : Bool} {M' : Mem} (hS : Shp M') (h1 : EvR l J F L c n As M (.inl (some (.int 0))) (pL M' 212 0 (if v then 1 else 0))) (h2 : EvR l J7 F7 160 0 0 As7 (pL M' 212 0 (if v then 1 else 0)) (.inl (some (.int (b1 v)))) M2) (hr : Rf (pL M' 212 0 (if v then 1 else 0)) M2) (ht : t6 M2) (hP : P M2) : SemZ l J J7 F L c n F7 As As7 M P := by
  refine ⟨0, v, _, _, h1, h2, hS, hr.S hS, ht, fun _ => ?_, hP⟩
  rw [hr.L (by decide)]
  show fun_set (mL M') 212 (fun_set (mL M' 212) 0 (if v then 1 else 0)) 212 0 = _
  unfold fun_set
  rw [if_pos rfl, if_pos rfl]
theorem smZ_x {e : Int32} {b : Bool} (hS : Shp M) (he : e ≠ 0) (h1 : EvR l J F L c n As M (.inl (some (.int e))) M) (h2 : EvR l J7 F7 160 0 0 As7 M (.inl (some (.int (b1 b)))) (thr M e)) (hP : P (thr M e)) : SemZ l J J7 F L c n F7 As As7 M P :=
  ⟨e, b, _, _, h1, h2, hS, (rf_thr (Rf.rf M)).S hS, thr_6, fun h => absurd h he, hP⟩
theorem smD_g {v : UInt64} {M' : Mem} (hS : Shp M') (hv : Op.cmpValue (FP.dcmp v v) CmpOp.l = 0) (h1 : EvR l J F L c n As M (.inl (some (.int 0))) (sD M' 213 (fun_set (mD M' 213) 0 v))) (h2 : EvR l J7 F7 160 0 0 As7 (sD M' 213 (fun_set (mD M' 213) 0 v)) (.inl (some (.double v))) M2) (hr : Rf (sD M' 213 (fun_set (mD M' 213) 0 v)) M2) (ht : t6 M2) (hP : P M2) : SemD l J J7 F L c n F7 As As7 M P := by
  refine ⟨0, v, _, _, h1, h2, hS, hr.S hS, ht, fun _ => ⟨?_, hv⟩, hP⟩
  rw [hr.D]
  show fun_set (mD M') 213 (fun_set (mD M' 213) 0 v) 213 0 = _
  unfold fun_set
  rw [if_pos rfl, if_pos rfl]
theorem smD_x {e : Int32} {b : UInt64} (hS : Shp M) (he : e ≠ 0) (h1 : EvR l J F L c n As M (.inl (some (.int e))) M) (h2 : EvR l J7 F7 160 0 0 As7 M (.inl (some (.double b))) (thr M e)) (hP : P (thr M e)) : SemD l J J7 F L c n F7 As As7 M P :=
  ⟨e, b, _, _, h1, h2, hS, (rf_thr (Rf.rf M)).S hS, thr_6, fun h => absurd h he, hP⟩
theorem smF_g {v : UInt32} {M' : Mem} (hS : Shp M') (hv : Op.cmpValue (FP.dcmp (FP.f2d v) (FP.f2d v)) CmpOp.l = 0) (hv2 : vf_n64 (FP.f2d v)) (h1 : EvR l J F L c n As M (.inl (some (.int 0))) (sD M' 213 (fun_set (mD M' 213) 0 (FP.f2d v)))) (h2 : EvR l J7 F7 160 0 0 As7 (sD M' 213 (fun_set (mD M' 213) 0 (FP.f2d v))) (.inl (some (.float v))) M2) (hr : Rf (sD M' 213 (fun_set (mD M' 213) 0 (FP.f2d v))) M2) (ht : t6 M2) (hP : P M2) : SemF l J J7 F L c n F7 As As7 M P := by
  refine ⟨0, v, _, _, h1, h2, hS, hr.S hS, ht, fun _ => ⟨?_, hv, hv2⟩, hP⟩
  rw [hr.D]
  show fun_set (mD M') 213 (fun_set (mD M' 213) 0 (FP.f2d v)) 213 0 = _
  unfold fun_set
  rw [if_pos rfl, if_pos rfl]
theorem smF_x {e : Int32} {b : UInt32} (hS : Shp M) (he : e ≠ 0) (h1 : EvR l J F L c n As M (.inl (some (.int e))) M) (h2 : EvR l J7 F7 160 0 0 As7 M (.inl (some (.float b))) (thr M e)) (hP : P (thr M e)) : SemF l J J7 F L c n F7 As As7 M P :=
  ⟨e, b, _, _, h1, h2, hS, (rf_thr (Rf.rf M)).S hS, thr_6, fun h => absurd h he, hP⟩
theorem smI_q {v v' : Int32} {M' : Mem} (hS : Shp M') (h1 : EvR l J F L c n As M (.inl (some (.int 0))) (pL M' 212 0 v.toInt64)) (h2 : EvR l J7 F7 160 0 0 As7 (pL M' 212 0 v.toInt64) (.inl (some (.int v'))) M2) (he : v' = v) (hr : Rf (pL M' 212 0 v.toInt64) M2) (ht : t6 M2) (hP : P M2) : SemI l J J7 F L c n F7 As As7 M P := by
  subst he
  exact smI_g hS h1 h2 hr ht hP
theorem smJ_q {v v' : Int64} {M' : Mem} (hS : Shp M') (h1 : EvR l J F L c n As M (.inl (some (.int 0))) (pL M' 212 0 v)) (h2 : EvR l J7 F7 160 0 0 As7 (pL M' 212 0 v) (.inl (some (.long v'))) M2) (he : v' = v) (hr : Rf (pL M' 212 0 v) M2) (ht : t6 M2) (hP : P M2) : SemJ l J J7 F L c n F7 As As7 M P := by
  subst he
  exact smJ_g hS h1 h2 hr ht hP
theorem smZ_q {v v' : Bool} {M' : Mem} (hS : Shp M') (h1 : EvR l J F L c n As M (.inl (some (.int 0))) (pL M' 212 0 (if v then 1 else 0))) (h2 : EvR l J7 F7 160 0 0 As7 (pL M' 212 0 (if v then 1 else 0)) (.inl (some (.int (b1 v')))) M2) (he : v' = v) (hr : Rf (pL M' 212 0 (if v then 1 else 0)) M2) (ht : t6 M2) (hP : P M2) : SemZ l J J7 F L c n F7 As As7 M P := by
  subst he
  exact smZ_g hS h1 h2 hr ht hP
theorem smD_q {v v' : UInt64} {M' : Mem} (hS : Shp M') (hv : Op.cmpValue (FP.dcmp v v) CmpOp.l = 0) (h1 : EvR l J F L c n As M (.inl (some (.int 0))) (sD M' 213 (fun_set (mD M' 213) 0 v))) (h2 : EvR l J7 F7 160 0 0 As7 (sD M' 213 (fun_set (mD M' 213) 0 v)) (.inl (some (.double v'))) M2) (he : v' = v) (hr : Rf (sD M' 213 (fun_set (mD M' 213) 0 v)) M2) (ht : t6 M2) (hP : P M2) : SemD l J J7 F L c n F7 As As7 M P := by
  subst he
  exact smD_g hS hv h1 h2 hr ht hP
theorem smF_q {v v' : UInt32} {M' : Mem} (hS : Shp M') (hv : Op.cmpValue (FP.dcmp (FP.f2d v) (FP.f2d v)) CmpOp.l = 0) (hv2 : vf_n64 (FP.f2d v)) (h1 : EvR l J F L c n As M (.inl (some (.int 0))) (sD M' 213 (fun_set (mD M' 213) 0 (FP.f2d v)))) (h2 : EvR l J7 F7 160 0 0 As7 (sD M' 213 (fun_set (mD M' 213) 0 (FP.f2d v))) (.inl (some (.float v'))) M2) (he : v' = v) (hr : Rf (sD M' 213 (fun_set (mD M' 213) 0 (FP.f2d v))) M2) (ht : t6 M2) (hP : P M2) : SemF l J J7 F L c n F7 As As7 M P := by
  subst he
  exact smF_g hS hv hv2 h1 h2 hr ht hP
theorem uL_u (x : Int32) : x.toInt64 &&& 4294967295 = uL x := rfl
end
