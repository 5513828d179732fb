/-! the reference reads: a word, a number -/
/-- the reader's numbers in the reference's object: position, start, statement, error, its position -/
def prF (g : Nat → Int32) (s : RP) : Nat → Int32 := fun j => if j = 9 then nI s.1 else if j = 10 then s.2.1 else if j = 13 then s.2.2.1 else if j = 11 then s.2.2.2.1 else if j = 12 then s.2.2.2.2 else g j
def psM (M : Mem) (s : RP) : Mem := sI M 198 (prF (mI M 198) s)
section
variable {M : Mem} {s : RP}
theorem ps_S (hS : Shp M) : Shp (psM M s) := hS
theorem ps_8 : mI (psM M s) 198 8 = mI M 198 8 := by simp [psM, prF, sI, mI, fun_set]
theorem ps_9 : mI (psM M s) 198 9 = nI s.1 := by simp [psM, prF, sI, mI, fun_set]
theorem ps_10 : mI (psM M s) 198 10 = s.2.1 := by simp [psM, prF, sI, mI, fun_set]
theorem ps_13 : mI (psM M s) 198 13 = s.2.2.1 := by simp [psM, prF, sI, mI, fun_set]
theorem ps_11 : mI (psM M s) 198 11 = s.2.2.2.1 := by simp [psM, prF, sI, mI, fun_set]
theorem ps_12 : mI (psM M s) 198 12 = s.2.2.2.2 := by simp [psM, prF, sI, mI, fun_set]
theorem ps_ne {i : Nat} (h : i ≠ 198) : mI (psM M s) i = mI M i := sI_ne h
theorem ps_set {j : Nat} {v : Int32} {t : RP} (h : ∀ i, prF (mI M 198) t i = if i = j then v else prF (mI M 198) s i) : pI (psM M s) 198 j v = psM M t := by
  have e : mI (psM M s) 198 = prF (mI M 198) s := sI_self M 198 _
  show sI (psM M s) 198 (fun_set (mI (psM M s) 198) j v) = _
  rw [e]
  unfold psM
  rw [sI_2]
  congr 1
  funext i
  rw [h i]; rfl
theorem ps_p9 {v : Int32} {p : Nat} (h : v = nI p) : pI (psM M s) 198 9 v = psM M (p, s.2) := ps_set fun i => by
  subst h
  unfold prF
  by_cases h1 : i = 9
  · simp [h1]
  · simp [h1]
theorem ps_p10 {v : Int32} : pI (psM M s) 198 10 v = psM M (s.1, v, s.2.2) := ps_set fun i => by
  unfold prF
  by_cases h1 : i = 10
  · simp [h1]
  · simp [h1]
theorem ps_p13 {v : Int32} : pI (psM M s) 198 13 v = psM M (s.1, s.2.1, v, s.2.2.2) := ps_set fun i => by
  unfold prF
  by_cases h1 : i = 13
  · simp [h1]
  · simp [h1]
theorem ps_p11 {v : Int32} : pI (psM M s) 198 11 v = psM M (s.1, s.2.1, s.2.2.1, v, s.2.2.2.2) := ps_set fun i => by
  unfold prF
  by_cases h1 : i = 11
  · simp [h1]
  · simp [h1]
theorem ps_p12 {v : Int32} : pI (psM M s) 198 12 v = psM M (s.1, s.2.1, s.2.2.1, s.2.2.2.1, v) := ps_set fun i => by
  unfold prF
  by_cases h1 : i = 12
  · simp [h1]
  · simp [h1]
theorem ps_sL {x : Nat} {f : Nat → Int64} : sL (psM M s) x f = psM (sL M x f) s := rfl
theorem ps_2 {t : RP} (h : ∀ i, prF (prF (mI M 198) s) t i = prF (mI M 198) t i) : psM (psM M s) t = psM M t := by
  unfold psM
  rw [sI_self, sI_2]
  congr 1
  funext i; exact h i
end
/-- the text of the class as the reference's buffer holds it -/
def txt (M : Mem) (T : Nat → Int32) (len : Nat) : Prop := ∀ i, i < len → ∃ j, j < 256 ∧ T i = nI j ∧ mI M 204 i = sx (nI j)
section
variable {l : Launch} {M : Mem} {s : RP} {len : Nat} {T : Nat → Int32}
def hvF (T : Nat → Int32) (len p : Nat) : Int32 := if p < len then T p else -1
theorem r_here (hS : Shp M) (hT : txt M T len) (hl : mI M 198 8 = nI len) (hL : len ≤ 600) (hp : s.1 ≤ len) : EvR l jX7_here 0 0 0 0 [.ref 198] (psM M s) (.inl (some (.int (hvF T len s.1)))) (psM M s) := by
  have h9 : mI (psM M s) 198 9 = nI s.1 := ps_9
  have h8 : mI (psM M s) 198 8 = nI len := ps_8.trans hl
  have eb : mI (psM M s) 204 = mI M 204 := ps_ne (by decide)
  have hS1 : Shp (psM M s) := hS
  generalize psM M s = M1 at *
  unfold hvF
  refine ev_intro rfl (nb rfl) rfl ?_
  by_cases h : s.1 < len
  · obtain ⟨j, j1, j2, j3⟩ := hT s.1 h
    have e2 : mI M1 204 s.1 &&& 255 = T s.1 := by rw [eb, j3, (sx_nar j j1).2, j2]
    rw [if_pos h]
    refine g_aload_n (pc := 0) dX7_here_0 rfl trivial ?_
    refine g_getf (pc := 1) (v := .int _) dX7_here_1 fk_X7_84 (shK hS1 rfl) (fun _ => congrArg Value.int (h9)) ?_
    refine g_aload_n (pc := 4) dX7_here_4 rfl trivial ?_
    refine g_getf (pc := 5) (v := .int _) dX7_here_5 fk_X7_81 (shK hS1 rfl) (fun _ => congrArg Value.int (h8)) ?_
    refine g_icmp_ge (pc := 8) (tgt := 27) dX7_here_8 rfl (fun h8 => absurd h8 (nI_ge h (by omega))) (fun _ => ?_)
    refine g_aload_n (pc := 11) dX7_here_11 rfl trivial ?_
    refine g_getf (pc := 12) dX7_here_12 fk_X7_26 (shK hS1 rfl) (fv_arr (shR hS1 rfl)) ?_
    refine g_aload_n (pc := 15) dX7_here_15 rfl trivial ?_
    refine g_getf (pc := 16) (v := .int _) dX7_here_16 fk_X7_84 (shK hS1 rfl) (fun _ => congrArg Value.int (h9)) ?_
    refine g_baload (pc := 19) dX7_here_19 (shK hS1 rfl) rfl (by omega) (nl rfl) ?_
    refine g_sipush (pc := 20) (v := 255) dX7_here_20 rfl ?_
    refine g_iand (pc := 23) dX7_here_23 ?_
    rw [e2]
    refine g_goto (pc := 24) (tgt := 28) dX7_here_24 rfl ?_
    refine g_ireturn (pc := 28) dX7_here_28 rfl rfl ?_
    exact ⟨rfl, rfl⟩
  · rw [if_neg h]
    refine g_aload_n (pc := 0) dX7_here_0 rfl trivial ?_
    refine g_getf (pc := 1) (v := .int _) dX7_here_1 fk_X7_84 (shK hS1 rfl) (fun _ => congrArg Value.int (h9)) ?_
    refine g_aload_n (pc := 4) dX7_here_4 rfl trivial ?_
    refine g_getf (pc := 5) (v := .int _) dX7_here_5 fk_X7_81 (shK hS1 rfl) (fun _ => congrArg Value.int (h8)) ?_
    refine g_icmp_ge (pc := 8) (tgt := 27) dX7_here_8 rfl (fun _ => ?_) (fun h8 => absurd (nI_le (by omega) (by omega)) h8)
    refine g_iconst (pc := 27) (v := (-1)) dX7_here_27 rfl ?_
    refine g_ireturn (pc := 28) dX7_here_28 rfl rfl ?_
    exact ⟨rfl, rfl⟩
theorem scan_done (c : Int32 → Bool) (T : Nat → Int32) : ∀ (d p : Nat), c (T p) = true → 0 < d → scan c T d p = scan c T (d - 1) (p + 1)
  | 0, p, h, h2 => by omega
  | d + 1, p, h, h2 => by rw [scan, if_pos h]; rfl
/-- behind the spaces -/
def nxS (T : Nat → Int32) (len : Nat) (s : RP) : RP := (skipP T len s.1, nI (skipP T len s.1), s.2.2)
theorem isSp_hv {p : Nat} : hvF T len p = 32 ↔ p < len ∧ isSp (T p) = true := by
  unfold hvF isSp
  by_cases h : p < len
  · rw [if_pos h]; simp [h]
  · rw [if_neg h]; simp [h]
theorem skipP_s {p : Nat} (h : p < len) (h2 : isSp (T p) = true) : skipP T len p = skipP T len (p + 1) := by
  unfold skipP
  rw [scan_done isSp T (len - p) p h2 (by omega)]
  congr 1
theorem skipP_0 {p : Nat} (h : ¬ (p < len ∧ isSp (T p) = true)) : skipP T len p = p := by
  unfold skipP
  cases hd : len - p with
  | zero => rfl
  | succ d => rw [scan, if_neg (fun q => h ⟨by omega, q⟩)]
theorem r_next (hS : Shp M) (hT : txt M T len) (hl : mI M 198 8 = nI len) (hL : len ≤ 600) (hp : s.1 ≤ len) : EvR l jX7_next 1 30 0 0 [.ref 198] (psM M s) (.inl (some (.int (hvF T len (skipP T len s.1))))) (psM M (nxS T len s)) := by
  have hsk := skipP_le (T := T) hp
  obtain ⟨S, hs⟩ : ∃ S, S = skipP T len s.1 := ⟨_, rfl⟩
  rw [← hs] at hsk
  have eN : nxS T len s = (S, nI S, s.2.2) := by rw [hs]; rfl
  rw [← hs, eN]
  refine ev_intro rfl (nb rfl) rfl ?_
  refine go_while (pc := 0) (σ := Nat) (fun p => p ≤ len ∧ skipP T len p = S) (fun p => len - p) (fun p => [(0, .ref 198)]) (fun p => psM M (p, s.2)) s.1 ⟨rfl, trivial⟩ rfl ⟨hp, hs.symm⟩ ?_
  rintro p ⟨h1, h2⟩ ih
  have hS1 : Shp (psM M (p, s.2)) := hS
  have q1 := r_here (l := l) (s := (p, s.2)) hS hT hl hL h1
  have h9 : mI (psM M (p, s.2)) 198 9 = nI p := ps_9
  by_cases h : p < len ∧ isSp (T p) = true
  · rw [skipP_s h.1 h.2] at h2
    have e9 : pI (psM M (p, s.2)) 198 9 (nI (p + 1)) = psM M (p + 1, s.2) := ps_p9 rfl
    have ih2 := ih (p + 1) ⟨h.1, h2⟩ (by omega)
    generalize psM M (p + 1, s.2) = M2 at *
    generalize psM M (p, s.2) = M1 at *
    refine g_aload_n (pc := 0) dX7_next_0 rfl trivial ?_
    refine g_invV_r (pc := 1) (As := []) dX7_next_1 rfl (q1) rfl rfl (shK hS1 rfl) rfl rfl lk_X7_87 rfl (nb rfl) ⟨nb rfl, nb rfl⟩ rfl ?_
    refine g_bipush (pc := 4) (v := 32) dX7_next_4 rfl ?_
    refine g_icmp_ne (pc := 6) (tgt := 22) dX7_next_6 rfl (fun h6 => absurd h6 ((fun z => z (isSp_hv.mpr h)))) (fun _ => ?_)
    refine g_aload_n (pc := 9) dX7_next_9 rfl trivial ?_
    refine g_dup (pc := 10) dX7_next_10 rfl ?_
    refine g_getf (pc := 11) (v := .int _) dX7_next_11 fk_X7_84 (shK hS1 rfl) (fun _ => congrArg Value.int (h9)) ?_
    refine g_iconst (pc := 14) (v := 1) dX7_next_14 rfl ?_
    refine g_iadd (pc := 15) dX7_next_15 ?_
    rw [nI_1]
    refine g_putI (pc := 16) dX7_next_16 fp_X7_84 (shK hS1 rfl) ⟨rfl, rfl⟩ (fun _ _ _ _ => rfl) ?_
    refine go_cast e9 ?_
    refine g_goto (pc := 19) (tgt := 0) dX7_next_19 rfl ?_
    exact ih2
  · rw [skipP_0 h] at h2
    subst h2
    have e10 : pI (psM M (p, s.2)) 198 10 (nI p) = psM M (p, nI p, s.2.2) := ps_p10
    have q2 := r_here (l := l) (s := (p, nI p, s.2.2)) hS hT hl hL h1
    have hS2 : Shp (psM M (p, nI p, s.2.2)) := hS
    generalize psM M (p, nI p, s.2.2) = M2 at *
    generalize psM M (p, s.2) = M1 at *
    refine g_aload_n (pc := 0) dX7_next_0 rfl trivial ?_
    refine g_invV_r (pc := 1) (As := []) dX7_next_1 rfl (q1) rfl rfl (shK hS1 rfl) rfl rfl lk_X7_87 rfl (nb rfl) ⟨nb rfl, nb rfl⟩ rfl ?_
    refine g_bipush (pc := 4) (v := 32) dX7_next_4 rfl ?_
    refine g_icmp_ne (pc := 6) (tgt := 22) dX7_next_6 rfl (fun _ => ?_) (fun h6 => absurd ((fun z => h (isSp_hv.mp z))) h6)
    refine g_aload_n (pc := 22) dX7_next_22 rfl trivial ?_
    refine g_aload_n (pc := 23) dX7_next_23 rfl trivial ?_
    refine g_getf (pc := 24) (v := .int _) dX7_next_24 fk_X7_84 (shK hS1 rfl) (fun _ => congrArg Value.int (h9)) ?_
    refine g_putI (pc := 27) dX7_next_27 fp_X7_90 (shK hS1 rfl) ⟨rfl, rfl⟩ (fun _ _ _ _ => rfl) ?_
    refine go_cast e10 ?_
    refine g_aload_n (pc := 30) dX7_next_30 rfl trivial ?_
    refine g_invV_r (pc := 31) (As := []) dX7_next_31 rfl (q2) rfl rfl (shK hS2 rfl) rfl rfl lk_X7_87 rfl (nb rfl) ⟨nb rfl, nb rfl⟩ rfl ?_
    refine g_ireturn (pc := 34) dX7_next_34 rfl rfl ?_
    exact ⟨rfl, rfl⟩
theorem r_fails {k : Int32} (hS : Shp M) : EvR l jX7_fails 0 0 0 0 [.ref 198, .int k] (psM M s) (.inl none) (psM M (rFail k s.2.1 s)) := by
  have hS1 : Shp (psM M s) := hS
  have h11 : mI (psM M s) 198 11 = s.2.2.2.1 := ps_11
  unfold rFail
  refine ev_intro rfl (nb rfl) rfl ?_
  by_cases h : s.2.2.2.1 = 0
  · rw [if_pos h]
    have e11 : pI (psM M s) 198 11 k = psM M (s.1, s.2.1, s.2.2.1, k, s.2.2.2.2) := ps_p11
    have hS2 : Shp (psM M (s.1, s.2.1, s.2.2.1, k, s.2.2.2.2)) := hS
    have h10 : mI (psM M (s.1, s.2.1, s.2.2.1, k, s.2.2.2.2)) 198 10 = s.2.1 := ps_10
    have e12 : pI (psM M (s.1, s.2.1, s.2.2.1, k, s.2.2.2.2)) 198 12 s.2.1 = psM M (s.1, s.2.1, s.2.2.1, k, s.2.1) := ps_p12
    generalize psM M (s.1, s.2.1, s.2.2.1, k, s.2.1) = M3 at *
    generalize psM M (s.1, s.2.1, s.2.2.1, k, s.2.2.2.2) = M2 at *
    generalize psM M s = M1 at *
    refine g_aload_n (pc := 0) dX7_fails_0 rfl trivial ?_
    refine g_getf (pc := 1) (v := .int _) dX7_fails_1 fk_X7_93 (shK hS1 rfl) (fun _ => congrArg Value.int (h11)) ?_
    refine g_if_ne (pc := 4) (tgt := 20) dX7_fails_4 rfl (fun h4 => absurd h4 ((fun z => z h))) (fun _ => ?_)
    refine g_aload_n (pc := 7) dX7_fails_7 rfl trivial ?_
    refine g_iload_n (pc := 8) dX7_fails_8 rfl ?_
    refine g_putI (pc := 9) dX7_fails_9 fp_X7_93 (shK hS1 rfl) ⟨rfl, rfl⟩ (fun _ _ _ _ => rfl) ?_
    refine go_cast e11 ?_
    refine g_aload_n (pc := 12) dX7_fails_12 rfl trivial ?_
    refine g_aload_n (pc := 13) dX7_fails_13 rfl trivial ?_
    refine g_getf (pc := 14) (v := .int _) dX7_fails_14 fk_X7_90 (shK hS2 rfl) (fun _ => congrArg Value.int (h10)) ?_
    refine g_putI (pc := 17) dX7_fails_17 fp_X7_96 (shK hS2 rfl) ⟨rfl, rfl⟩ (fun _ _ _ _ => rfl) ?_
    refine go_cast e12 ?_
    refine g_return (pc := 20) dX7_fails_20 rfl ?_
    exact ⟨rfl, rfl⟩
  · rw [if_neg h]
    generalize psM M s = M1 at *
    refine g_aload_n (pc := 0) dX7_fails_0 rfl trivial ?_
    refine g_getf (pc := 1) (v := .int _) dX7_fails_1 fk_X7_93 (shK hS1 rfl) (fun _ => congrArg Value.int (h11)) ?_
    refine g_if_ne (pc := 4) (tgt := 20) dX7_fails_4 rfl (fun _ => ?_) (fun h4 => absurd (h) h4)
    refine g_return (pc := 20) dX7_fails_20 rfl ?_
    exact ⟨rfl, rfl⟩
theorem hv_in {a b : Int32} {c : Int32 → Bool} {p : Nat} (ha : ¬ (a ≤ -1)) (hc : ∀ v, c v = true ↔ a ≤ v ∧ v ≤ b) : (a.toInt64 ≤ (hvF T len p).toInt64 ∧ (hvF T len p).toInt64 ≤ b.toInt64) ↔ p < len ∧ c (T p) = true := by
  rw [le_long, le_long]
  unfold hvF
  by_cases h : p < len
  · rw [if_pos h, hc]; simp [h]
  · rw [if_neg h]; simp [h]; intro q; exact absurd q ha
theorem isLo_iff (v : Int32) : isLo v = true ↔ 97 ≤ v ∧ v ≤ 122 := by
  unfold isLo
  rw [Bool.and_eq_true, Bool.not_eq_true', Bool.not_eq_true', decide_eq_false_iff_not, decide_eq_false_iff_not, Int32.not_lt, Int32.not_lt]
theorem isDi_iff (v : Int32) : isDi v = true ↔ 48 ≤ v ∧ v ≤ 57 := by
  unfold isDi
  rw [Bool.and_eq_true, Bool.not_eq_true', Bool.not_eq_true', decide_eq_false_iff_not, decide_eq_false_iff_not, Int32.not_lt, Int32.not_lt]
theorem wordP_s {p : Nat} (h : p < len) (h2 : isLo (T p) = true) : wordP T len p = wordP T len (p + 1) := by
  unfold wordP
  rw [scan_done isLo T (len - p) p h2 (by omega)]
  congr 1
theorem wordP_0 {p : Nat} (h : ¬ (p < len ∧ isLo (T p) = true)) : wordP T len p = p := by
  unfold wordP
  cases hd : len - p with
  | zero => rfl
  | succ d => rw [scan, if_neg (fun q => h ⟨by omega, q⟩)]
theorem digP_s {p : Nat} (h : p < len) (h2 : isDi (T p) = true) : digP T len p = digP T len (p + 1) := by
  unfold digP
  rw [scan_done isDi T (len - p) p h2 (by omega)]
  congr 1
theorem digP_0 {p : Nat} (h : ¬ (p < len ∧ isDi (T p) = true)) : digP T len p = p := by
  unfold digP
  cases hd : len - p with
  | zero => rfl
  | succ d => rw [scan, if_neg (fun q => h ⟨by omega, q⟩)]
theorem r_reads (hS : Shp M) (hT : txt M T len) (hl : mI M 198 8 = nI len) (hL : len ≤ 600) (hp : s.1 ≤ len) : EvR l jX7_reads 2 60 0 0 [.ref 198] (psM M s) (.inl none) (psM M (twd T len s)) := by
  have hsk := skipP_le (T := T) hp
  have q1 := r_next (l := l) (s := s) hS hT hl hL hp
  have hS0 : Shp (psM M (nxS T len s)) := hS
  obtain ⟨b, hb⟩ : ∃ b, b = skipP T len s.1 := ⟨_, rfl⟩
  obtain ⟨S, hs⟩ : ∃ S, S = wordP T len b := ⟨_, rfl⟩
  have e0 : nxS T len s = (b, nI b, s.2.2) := by rw [hb]; rfl
  have eE : twd T len s = (S, nI b, s.2.2) := by rw [hs, hb]; rfl
  rw [← hb] at hsk
  rw [e0] at q1 hS0
  rw [eE]
  refine ev_intro rfl (nb rfl) rfl ?_
  refine g_aload_n (pc := 0) dX7_reads_0 rfl trivial ?_
  refine g_invV_r (pc := 1) (As := []) dX7_reads_1 rfl (q1) rfl rfl (shK (ps_S hS) rfl) rfl rfl lk_X7_99 rfl (nb rfl) ⟨nb rfl, nb rfl⟩ rfl ?_
  refine g_pop (pc := 4) dX7_reads_4 rfl ?_
  refine go_while (pc := 5) (σ := Nat) (fun p => p ≤ len ∧ wordP T len p = S) (fun p => len - p) (fun p => [(0, .ref 198)]) (fun p => psM M (p, nI b, s.2.2)) b ⟨rfl, trivial⟩ rfl ⟨hsk.2, hs.symm⟩ ?_
  rintro p ⟨h1, h2⟩ ih
  have hS1 : Shp (psM M (p, nI b, s.2.2)) := hS
  have q2 := r_here (l := l) (s := (p, nI b, s.2.2)) hS hT hl hL h1
  have h9 : mI (psM M (p, nI b, s.2.2)) 198 9 = nI p := ps_9
  have hin := hv_in (T := T) (len := len) (p := p) (a := 97) (b := 122) (c := isLo) (by decide) isLo_iff
  by_cases h : p < len ∧ isLo (T p) = true
  · rw [wordP_s h.1 h.2] at h2
    have hh := hin.mpr h
    have e9 : pI (psM M (p, nI b, s.2.2)) 198 9 (nI (p + 1)) = psM M (p + 1, nI b, s.2.2) := ps_p9 rfl
    have ih2 := ih (p + 1) ⟨h.1, h2⟩ (by omega)
    generalize psM M (p + 1, nI b, s.2.2) = M2 at *
    generalize psM M (p, nI b, s.2.2) = M1 at *
    refine g_aload_n (pc := 5) dX7_reads_5 rfl trivial ?_
    refine g_invV_r (pc := 6) (As := []) dX7_reads_6 rfl (q2) rfl rfl (shK hS1 rfl) rfl rfl lk_X7_87 rfl (nb rfl) ⟨nb rfl, nb rfl⟩ rfl ?_
    refine g_i2l (pc := 9) dX7_reads_9 rfl ?_
    refine g_ldc2 (pc := 10) dX7_reads_10 wd_1325 ?_
    refine g_ldc2 (pc := 13) dX7_reads_13 wd_1326 ?_
    refine g_invS_r (pc := 16) (As := [_, _, _]) dX7_reads_16 rfl (r_in_t hh.1 hh.2) rfl rfl lk_X7_67 rfl (nb rfl) ⟨nb rfl, nb rfl⟩ rfl ?_
    refine g_if_eq (pc := 19) (tgt := 35) dX7_reads_19 rfl (fun h19 => absurd h19 ((by decide))) (fun _ => ?_)
    refine g_aload_n (pc := 22) dX7_reads_22 rfl trivial ?_
    refine g_dup (pc := 23) dX7_reads_23 rfl ?_
    refine g_getf (pc := 24) (v := .int _) dX7_reads_24 fk_X7_84 (shK hS1 rfl) (fun _ => congrArg Value.int (h9)) ?_
    refine g_iconst (pc := 27) (v := 1) dX7_reads_27 rfl ?_
    refine g_iadd (pc := 28) dX7_reads_28 ?_
    rw [nI_1]
    refine g_putI (pc := 29) dX7_reads_29 fp_X7_84 (shK hS1 rfl) ⟨rfl, rfl⟩ (fun _ _ _ _ => rfl) ?_
    refine go_cast e9 ?_
    refine g_goto (pc := 32) (tgt := 5) dX7_reads_32 rfl ?_
    exact ih2
  · rw [wordP_0 h] at h2
    subst h2
    generalize psM M (p, nI b, s.2.2) = M1 at *
    refine g_aload_n (pc := 5) dX7_reads_5 rfl trivial ?_
    refine g_invV_r (pc := 6) (As := []) dX7_reads_6 rfl (q2) rfl rfl (shK hS1 rfl) rfl rfl lk_X7_87 rfl (nb rfl) ⟨nb rfl, nb rfl⟩ rfl ?_
    refine g_i2l (pc := 9) dX7_reads_9 rfl ?_
    refine g_ldc2 (pc := 10) dX7_reads_10 wd_1325 ?_
    refine g_ldc2 (pc := 13) dX7_reads_13 wd_1326 ?_
    refine g_invS_r (pc := 16) (As := [_, _, _]) dX7_reads_16 rfl (r_in_f (fun z => h (hin.mp z))) rfl rfl lk_X7_67 rfl (nb rfl) ⟨nb rfl, nb rfl⟩ rfl ?_
    refine g_if_eq (pc := 19) (tgt := 35) dX7_reads_19 rfl (fun _ => ?_) (fun h19 => absurd (rfl) h19)
    refine g_return (pc := 35) dX7_reads_35 rfl ?_
    exact ⟨rfl, rfl⟩
end

