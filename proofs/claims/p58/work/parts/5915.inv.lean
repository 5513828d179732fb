/-! what a call of both sides comes to, the answers compared where E holds -/
section
def SmI (E : Prop) (l : Launch) (J J7 : Jm) (F L c n F7 : Nat) (As As7 : List Value) (M : Mem) (P : Mem → Prop) : Prop := ∃ (kk b : Int32) (M1 M2 : Mem), EvR l J F L c n As M (.inl (some (.int kk))) M1 ∧ EvR l J7 F7 160 0 0 As7 M1 (.inl (some (.int b))) M2 ∧ Shp M1 ∧ Shp M2 ∧ mI M2 198 6 = kk ∧ (E → kk = 0 → mL M2 212 0 = b.toInt64) ∧ P M2
def SmJ (E : Prop) (l : Launch) (J J7 : Jm) (F L c n F7 : Nat) (As As7 : List Value) (M : Mem) (P : Mem → Prop) : Prop := ∃ (kk : Int32) (b : Int64) (M1 M2 : Mem), EvR l J F L c n As M (.inl (some (.int kk))) M1 ∧ EvR l J7 F7 160 0 0 As7 M1 (.inl (some (.long b))) M2 ∧ Shp M1 ∧ Shp M2 ∧ mI M2 198 6 = kk ∧ (E → kk = 0 → mL M2 212 0 = b) ∧ P M2
def SmZ (E : Prop) (l : Launch) (J J7 : Jm) (F L c n F7 : Nat) (As As7 : List Value) (M : Mem) (P : Mem → Prop) : Prop := ∃ (kk : Int32) (b : Bool) (M1 M2 : Mem), EvR l J F L c n As M (.inl (some (.int kk))) M1 ∧ EvR l J7 F7 160 0 0 As7 M1 (.inl (some (.int (b1 b)))) M2 ∧ Shp M1 ∧ Shp M2 ∧ mI M2 198 6 = kk ∧ (E → kk = 0 → mL M2 212 0 = if b then 1 else 0) ∧ P M2
def SmD (E : Prop) (l : Launch) (J J7 : Jm) (F L c n F7 : Nat) (As As7 : List Value) (M : Mem) (P : Mem → Prop) : Prop := ∃ (kk : Int32) (b : UInt64) (M1 M2 : Mem), EvR l J F L c n As M (.inl (some (.int kk))) M1 ∧ EvR l J7 F7 160 0 0 As7 M1 (.inl (some (.double b))) M2 ∧ Shp M1 ∧ Shp M2 ∧ mI M2 198 6 = kk ∧ (E → kk = 0 → mD M2 213 0 = b ∧ Op.cmpValue (FP.dcmp b b) CmpOp.l = 0) ∧ P M2
def SmF (E : Prop) (l : Launch) (J J7 : Jm) (F L c n F7 : Nat) (As As7 : List Value) (M : Mem) (P : Mem → Prop) : Prop := ∃ (kk : Int32) (b : UInt32) (M1 M2 : Mem), EvR l J F L c n As M (.inl (some (.int kk))) M1 ∧ EvR l J7 F7 160 0 0 As7 M1 (.inl (some (.float b))) M2 ∧ Shp M1 ∧ Shp M2 ∧ mI M2 198 6 = kk ∧ (E → kk = 0 → mD M2 213 0 = FP.f2d b ∧ Op.cmpValue (FP.dcmp (FP.f2d b) (FP.f2d b)) CmpOp.l = 0 ∧ vf_n64 (FP.f2d b)) ∧ P M2
def SmN (E : Prop) (l : Launch) (J J7 : Jm) (F L F7 L7 : Nat) (As As7 : List Value) (M : Mem) (P : Mem → Prop) : Prop := ∃ (a b : Int32) (M1 M2 : Mem), EvR l J F L 0 0 As M (.inl (some (.int a))) M1 ∧ EvR l J7 F7 L7 0 0 As7 M1 (.inl (some (.int b))) M2 ∧ Shp M1 ∧ Shp M2 ∧ (E → a = b) ∧ P M2
variable {E : Prop} {l : Launch} {M M' M2 : Mem} {n p c : Nat} {J J7 : Jm} {F L mc ms F7 : Nat} {As As7 : List Value}
theorem i1_at {v : Int64} : mL (pL M' 212 0 v) 212 0 = v := by
  show fun_set (mL M') 212 (fun_set (mL M' 212) 0 v) 212 0 = v
  unfold fun_set
  rw [if_pos rfl, if_pos rfl]
theorem i2_at {v : UInt64} : mD (sD M' 213 (fun_set (mD M' 213) 0 v)) 213 0 = v := by
  show fun_set (mD M') 213 (fun_set (mD M' 213) 0 v) 213 0 = v
  unfold fun_set
  rw [if_pos rfl, if_pos rfl]
theorem qI {v v' : Int32} (hI : IV M' n p c) (h1 : EvR l J F L mc ms As M (.inl (some (.int 0))) (pL M' 212 0 v.toInt64)) (h2 : EvR l J7 F7 160 0 0 As7 (pL M' 212 0 v.toInt64) (.inl (some (.int v'))) M2) (he : E → v' = v) (hr : Rf (pL M' 212 0 v.toInt64) M2) (ht : t6 M2) (hP : Inv M2) : SmI E l J J7 F L mc ms F7 As As7 M Inv :=
  ⟨0, v', _, _, h1, h2, hI.S, hr.S hI.S, ht, fun e _ => by rw [hr.L (by decide), i1_at, he e], hP⟩
theorem qJ {v v' : Int64} (hI : IV M' n p c) (h1 : EvR l J F L mc ms As M (.inl (some (.int 0))) (pL M' 212 0 v)) (h2 : EvR l J7 F7 160 0 0 As7 (pL M' 212 0 v) (.inl (some (.long v'))) M2) (he : E → v' = v) (hr : Rf (pL M' 212 0 v) M2) (ht : t6 M2) (hP : Inv M2) : SmJ E l J J7 F L mc ms F7 As As7 M Inv :=
  ⟨0, v', _, _, h1, h2, hI.S, hr.S hI.S, ht, fun e _ => by rw [hr.L (by decide), i1_at, he e], hP⟩
theorem qZ {v v' : Bool} (hI : IV M' n p c) (h1 : EvR l J F L mc ms As M (.inl (some (.int 0))) (pL M' 212 0 (if v then 1 else 0))) (h2 : EvR l J7 F7 160 0 0 As7 (pL M' 212 0 (if v then 1 else 0)) (.inl (some (.int (b1 v')))) M2) (he : E → v' = v) (hr : Rf (pL M' 212 0 (if v then 1 else 0)) M2) (ht : t6 M2) (hP : Inv M2) : SmZ E l J J7 F L mc ms F7 As As7 M Inv :=
  ⟨0, v', _, _, h1, h2, hI.S, hr.S hI.S, ht, fun e _ => by rw [hr.L (by decide), i1_at, he e], hP⟩
theorem qD {v v' : UInt64} (hI : IV M' n p c) (hv : Op.cmpValue (FP.dcmp v v) CmpOp.l = 0) (h1 : EvR l J F L mc ms As M (.inl (some (.int 0))) (sD M' 213 (fun_set (mD M' 213) 0 v))) (h2 : EvR l J7 F7 160 0 0 As7 (sD M' 213 (fun_set (mD M' 213) 0 v)) (.inl (some (.double v'))) M2) (he : E → v' = v) (hr : Rf (sD M' 213 (fun_set (mD M' 213) 0 v)) M2) (ht : t6 M2) (hP : Inv M2) : SmD E l J J7 F L mc ms F7 As As7 M Inv :=
  ⟨0, v', _, _, h1, h2, hI.S, hr.S hI.S, ht, fun e _ => by
    rw [hr.D, i2_at, he e]
    exact ⟨rfl, hv⟩, hP⟩
theorem qF {v v' : UInt32} (hI : IV M' n p c) (hv : Op.cmpValue (FP.dcmp (FP.f2d v) (FP.f2d v)) CmpOp.l = 0) (hv2 : vf_n64 (FP.f2d v)) (h1 : EvR l J F L mc ms As M (.inl (some (.int 0))) (sD M' 213 (fun_set (mD M' 213) 0 (FP.f2d v)))) (h2 : EvR l J7 F7 160 0 0 As7 (sD M' 213 (fun_set (mD M' 213) 0 (FP.f2d v))) (.inl (some (.float v'))) M2) (he : E → v' = v) (hr : Rf (sD M' 213 (fun_set (mD M' 213) 0 (FP.f2d v))) M2) (ht : t6 M2) (hP : Inv M2) : SmF E l J J7 F L mc ms F7 As As7 M Inv :=
  ⟨0, v', _, _, h1, h2, hI.S, hr.S hI.S, ht, fun e _ => by
    rw [hr.D, i2_at, he e]
    exact ⟨rfl, hv, hv2⟩, hP⟩
theorem iv_thr {x : Int32} (h : IV M n p c) : Inv (thr M x) := ⟨n, p, c, iv_r h (rq_thr (Rq.rf M))⟩
theorem xI {e b : Int32} (h : IV M n p c) (he : e ≠ 0) (h1 : EvR l J F L mc ms As M (.inl (some (.int e))) M) (h2 : EvR l J7 F7 160 0 0 As7 M (.inl (some (.int b))) (thr M e)) : SmI E l J J7 F L mc ms F7 As As7 M Inv :=
  ⟨e, b, _, _, h1, h2, h.S, (rf_thr (Rf.rf M)).S h.S, thr_6, fun _ q => absurd q he, iv_thr h⟩
theorem xJ {e : Int32} {b : Int64} (h : IV M n p c) (he : e ≠ 0) (h1 : EvR l J F L mc ms As M (.inl (some (.int e))) M) (h2 : EvR l J7 F7 160 0 0 As7 M (.inl (some (.long b))) (thr M e)) : SmJ E l J J7 F L mc ms F7 As As7 M Inv :=
  ⟨e, b, _, _, h1, h2, h.S, (rf_thr (Rf.rf M)).S h.S, thr_6, fun _ q => absurd q he, iv_thr h⟩
theorem xZ {e : Int32} {b : Bool} (h : IV M n p c) (he : e ≠ 0) (h1 : EvR l J F L mc ms As M (.inl (some (.int e))) M) (h2 : EvR l J7 F7 160 0 0 As7 M (.inl (some (.int (b1 b)))) (thr M e)) : SmZ E l J J7 F L mc ms F7 As As7 M Inv :=
  ⟨e, b, _, _, h1, h2, h.S, (rf_thr (Rf.rf M)).S h.S, thr_6, fun _ q => absurd q he, iv_thr h⟩
theorem xD {e : Int32} {b : UInt64} (h : IV M n p c) (he : e ≠ 0) (h1 : EvR l J F L mc ms As M (.inl (some (.int e))) M) (h2 : EvR l J7 F7 160 0 0 As7 M (.inl (some (.double b))) (thr M e)) : SmD E l J J7 F L mc ms F7 As As7 M Inv :=
  ⟨e, b, _, _, h1, h2, h.S, (rf_thr (Rf.rf M)).S h.S, thr_6, fun _ q => absurd q he, iv_thr h⟩
theorem xF {e : Int32} {b : UInt32} (h : IV M n p c) (he : e ≠ 0) (h1 : EvR l J F L mc ms As M (.inl (some (.int e))) M) (h2 : EvR l J7 F7 160 0 0 As7 M (.inl (some (.float b))) (thr M e)) : SmF E l J J7 F L mc ms F7 As As7 M Inv :=
  ⟨e, b, _, _, h1, h2, h.S, (rf_thr (Rf.rf M)).S h.S, thr_6, fun _ q => absurd q he, iv_thr h⟩
/-- the reference beside the class's rows -/
theorem iv_A {v : Int64} (h : IV M n p c) (hc : Cf M M') : Rr (pL M' 212 0 v) n (Am M) := ⟨hc.S h.S, by
  rw [sL_ne9 (by decide), hc.L]
  exact h.R.2.1, h.n1, h.n32, fun s r hs hr => by
  rw [sL_ne9 (by decide), hc.L]
  exact h.R.2.2.2.2 s r hs hr⟩
theorem iv_B {f : Nat → UInt64} (h : IV M n p c) (hc : Cf M M') : Rr (sD M' 213 f) n (Am M) := ⟨hc.S h.S, by
  show mL M' 199 0 = _
  rw [hc.L]
  exact h.R.2.1, h.n1, h.n32, fun s r hs hr => by
  show mL M' 199 _ = _
  rw [hc.L]
  exact h.R.2.2.2.2 s r hs hr⟩
/-- closures asked for -/
theorem cq_sI {i : Nat} {f : Nat → Int32} (hi : 175 ≤ i ∧ i < 198) : Cq M (sI M i f) := ⟨cf_sI hi.2 (Cf.rf M), fun j hj => sI_ne (by omega)⟩
theorem cq_clOf {s : Nat} (hs : s < 6) : Cq M (clOf M s n) := ⟨cf_clOf hs, fun i hi => clOf_ne (Or.inl hi) hs⟩
theorem cl_self {s : Nat} (hs : s < 6) (h0 : mI M (175 + 2 * s) 1 = 0) : mI (clOf M s n) (176 + 2 * s) = wOut (wr (mI M (176 + 2 * s)) (mI M (6 + 2 * s)) n) n n := by
  unfold clOf
  rw [if_pos h0]
  unfold clMake
  show mI (sI (sI M (175 + 2 * s + 1) _) (175 + 2 * s) _) (176 + 2 * s) = _
  rw [sI_ne (by omega), show 176 + 2 * s = 175 + 2 * s + 1 by omega, sI_self]
theorem cl_rows (h : IV M n p c) {s : Nat} (hs : s < 6) : ∀ r, r < n → mI (clOf M s n) (175 + 2 * s + 1) r = wOut (Am M s) n n r := fun r hr => by
  rw [show 175 + 2 * s + 1 = 176 + 2 * s by omega]
  by_cases h0 : mI M (175 + 2 * s) 1 = 0
  · rw [cl_self hs h0]
    exact wO_cg (fun i hi => wr_lt hi) n (Nat.le_refl n) r hr
  · unfold clOf
    rw [if_neg h0]
    exact h.2.2.2.2.1 s hs h0 r hr
theorem cl_ne {s i : Nat} (h1 : i ≠ 175 + 2 * s) (h2 : i ≠ 176 + 2 * s) : mI (clOf M s n) i = mI M i := by
  unfold clOf
  split
  · exact clMake_ne h1 (by omega)
  · rfl
theorem ic_clOf (h : IV M n p c) {s : Nat} (hs : s < 6) : IC (clOf M s n) n := fun t ht h1 r hr => by
  rw [cl_ne (i := 6 + 2 * t) (by omega) (by omega)]
  by_cases e : t = s
  · subst e
    rw [show 176 + 2 * t = 175 + 2 * t + 1 by omega]
    exact cl_rows h ht r hr
  · rw [cl_ne (by omega) (by omega)]
    rw [cl_ne (by omega) (by omega)] at h1
    exact h.2.2.2.2.1 t ht h1 r hr
theorem iv_clOf (h : IV M n p c) {s : Nat} (hs : s < 6) : IV (clOf M s n) n p c := iv_c h (cq_clOf hs) (ic_clOf h hs) (by
  rw [cl_ne (by omega) (by omega)]
  exact h.2.2.2.2.2.2.1)
theorem iv_sI (h : IV M n p c) {i : Nat} {f : Nat → Int32} (hi : (189 ≤ i ∧ i < 198) ∨ i = 187) : IV (sI M i f) n p c := iv_c h (cq_sI (by omega)) (fun t ht h1 r hr => by
  rw [sI_ne (by omega)] at h1
  rw [sI_ne (by omega), sI_ne (by omega)]
  exact h.2.2.2.2.1 t ht h1 r hr) (by
  rw [sI_ne (by omega)]
  exact h.2.2.2.2.2.2.1)
theorem iv_elMem (h : IV M n p c) (s : ES) : IV (elMem M s) n p c := by
  unfold elMem
  exact iv_sI (iv_sI (iv_sI (iv_sI h (Or.inl (by decide))) (Or.inl (by decide))) (Or.inl (by decide))) (Or.inl (by decide))
theorem iv_spM (h : IV M n p c) {s b k : Nat} : IV (spM M s b n k) n p c := by
  unfold spM
  exact iv_sI h (Or.inl (by decide))
theorem iv_lwMem (h : IV M n p c) {s a b : Nat} : IV (lwMem M s a b n) n p c := by
  unfold lwMem
  exact iv_sI h (Or.inl (by decide))
theorem iv_loM (h : IV M n p c) {s a b : Nat} (hs : s < 6) : IV (loM M s a b n) n p c := by
  unfold loM
  exact iv_clOf (iv_lwMem h) hs
theorem iv_wkI {s a : Nat} (hs : s < 6) {q : Mem × Int32 × Int32} (h : IV q.1 n p c) : ∀ k, IV (wkI s n a q k).1 n p c
  | 0 => h
  | k + 1 => by
    have ih := iv_wkI (a := a) hs h k
    show IV (wkM (wkI s n a q k).1 s n a k) n p c
    unfold wkM
    split
    · exact iv_loM ih hs
    · exact ih
theorem iv_wkO (h : IV M n p c) {s : Nat} (hs : s < 6) : ∀ k, IV (wkO M s n k).1 n p c
  | 0 => h
  | k + 1 => iv_wkI hs (iv_wkO h hs k) n
end
