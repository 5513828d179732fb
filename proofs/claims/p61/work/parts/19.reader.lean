/-! the reader of a text -/
/-- position, start, statement, error, its position -/
abbrev RP : Type := Nat × Int32 × Int32 × Int32 × Int32
def rdF (g : Nat → Int32) (s : RP) : Nat → Int32 := fun j => if j = 2 then nI s.1 else if j = 3 then s.2.1 else if j = 4 then s.2.2.1 else if j = 5 then s.2.2.2.1 else if j = 6 then s.2.2.2.2 else g j
def rdM (M : Mem) (s : RP) : Mem := sI M 1 (rdF (mI M 1) s)
section
variable {M : Mem} {s : RP}
theorem rd_S (hS : Shp M) : Shp (rdM M s) := hS
theorem rd_1 : mI (rdM M s) 1 1 = mI M 1 1 := by simp [rdM, rdF, sI, mI, fun_set]
theorem rd_2 : mI (rdM M s) 1 2 = nI s.1 := by simp [rdM, rdF, sI, mI, fun_set]
theorem rd_3 : mI (rdM M s) 1 3 = s.2.1 := by simp [rdM, rdF, sI, mI, fun_set]
theorem rd_4 : mI (rdM M s) 1 4 = s.2.2.1 := by simp [rdM, rdF, sI, mI, fun_set]
theorem rd_5 : mI (rdM M s) 1 5 = s.2.2.2.1 := by simp [rdM, rdF, sI, mI, fun_set]
theorem rd_6 : mI (rdM M s) 1 6 = s.2.2.2.2 := by simp [rdM, rdF, sI, mI, fun_set]
theorem rd_ne {i : Nat} (h : i ≠ 1) : mI (rdM M s) i = mI M i := sI_ne h
theorem rd_p2 {v : Int32} {p : Nat} (h : v = nI p) : pI (rdM M s) 1 2 v = rdM M (p, s.2) := by
  subst h
  refine mem_extI rfl rfl rfl rfl rfl rfl (fun i => ?_)
  by_cases i1 : i = 1
  · subst i1; funext j; simp only [rdM, rdF, sI, mI, pI, fun_set, if_true]; split <;> simp [*]
  · simp [rdM, sI, mI, pI, fun_set, i1]
theorem rd_p3 {v : Int32} : pI (rdM M s) 1 3 v = rdM M (s.1, v, s.2.2) := by
  refine mem_extI rfl rfl rfl rfl rfl rfl (fun i => ?_)
  by_cases i1 : i = 1
  · subst i1; funext j; simp only [rdM, rdF, sI, mI, pI, fun_set, if_true]
    by_cases j3 : j = 3
    · subst j3; simp
    · simp [j3]
  · simp [rdM, sI, mI, pI, fun_set, i1]
theorem rd_p4 {v : Int32} : pI (rdM M s) 1 4 v = rdM M (s.1, s.2.1, v, s.2.2.2) := by
  refine mem_extI rfl rfl rfl rfl rfl rfl (fun i => ?_)
  by_cases i1 : i = 1
  · subst i1; funext j; simp only [rdM, rdF, sI, mI, pI, fun_set, if_true]
    by_cases j3 : j = 4
    · subst j3; simp
    · simp [j3]
  · simp [rdM, sI, mI, pI, fun_set, i1]
theorem rd_p56 {v w : Int32} : pI (pI (rdM M s) 1 5 v) 1 6 w = rdM M (s.1, s.2.1, s.2.2.1, v, w) := by
  refine mem_extI rfl rfl rfl rfl rfl rfl (fun i => ?_)
  by_cases i1 : i = 1
  · subst i1; funext j; simp only [rdM, rdF, sI, mI, pI, fun_set, if_true]
    by_cases j3 : j = 5
    · subst j3; simp
    · by_cases j4 : j = 6
      · subst j4; simp
      · simp [j3, j4]
  · simp [rdM, sI, mI, pI, fun_set, i1]
theorem rd_sI {i : Nat} {f : Nat → Int32} (h : i ≠ 1) : sI (rdM M s) i f = rdM (sI M i f) s := by
  unfold rdM
  rw [sI_swap (Ne.symm h), sI_ne (Ne.symm h)]
theorem rd_pI {i j : Nat} {v : Int32} (h : i ≠ 1) : pI (rdM M s) i j v = rdM (pI M i j v) s := by
  show sI (rdM M s) i (fun_set (mI (rdM M s) i) j v) = _
  rw [rd_sI h, rd_ne h]
end
section
variable {l : Launch} {M : Mem} {s : RP} {len : Nat}
def scan (c : Int32 → Bool) (T : Nat → Int32) : Nat → Nat → Nat
  | 0, p => p
  | d + 1, p => if c (T p) = true then scan c T d (p + 1) else p
theorem scan_le (c : Int32 → Bool) (T : Nat → Int32) : ∀ d p, p ≤ scan c T d p ∧ scan c T d p ≤ p + d
  | 0, p => ⟨Nat.le_refl _, Nat.le_refl _⟩
  | d + 1, p => by
    unfold scan
    split
    · have := scan_le c T d (p + 1); omega
    · omega
def isSp (v : Int32) : Bool := decide (v = 32)
def isLo (v : Int32) : Bool := !decide (v < 97) && !decide (122 < v)
def isDi (v : Int32) : Bool := !decide (v < 48) && !decide (57 < v)
def skipP (T : Nat → Int32) (len p : Nat) : Nat := scan isSp T (len - p) p
theorem skipP_le {T : Nat → Int32} {p : Nat} (h : p ≤ len) : p ≤ skipP T len p ∧ skipP T len p ≤ len := by have := scan_le isSp T (len - p) p; unfold skipP; omega
def skp (T : Nat → Int32) (len : Nat) (s : RP) : RP := (skipP T len s.1, s.2)
theorem r_skipSpaces (hS : Shp M) (hl : mI M 1 1 = nI len) (hL : len ≤ 600) (hp : s.1 ≤ len) : EvR l jX4_skipSpaces 0 0 0 0 [.ref 1] (rdM M s) (.inl none) (rdM M (skp (mI M 2) len s)) := by
  obtain ⟨S, hs⟩ : ∃ S, S = skp (mI M 2) len s := ⟨_, rfl⟩
  rw [← hs]
  refine ev_intro rfl (nb rfl) rfl ?_
  refine go_while (pc := 0) (σ := Nat) (fun p => p ≤ len ∧ (scan isSp (mI M 2) (len - p) p, s.2) = S) (fun p => len - p) (fun _ => [(0, .ref 1)]) (fun p => rdM M (p, s.2)) s.1 ⟨rfl, trivial⟩ rfl ⟨hp, hs.symm⟩ ?_
  rintro p ⟨h1, h2⟩ ih
  have hS1 : Shp (rdM M (p, s.2)) := rd_S hS
  have hr2 : mI (rdM M (p, s.2)) 1 2 = nI p := rd_2
  have hr1 : mI (rdM M (p, s.2)) 1 1 = nI len := rd_1.trans hl
  by_cases hi : p < len
  · rw [show len - p = (len - (p + 1)) + 1 by omega, scan] at h2
    refine g_aload_n (pc := 0) dX4_skipSpaces_0 rfl trivial ?_
    refine g_getf (pc := 1) (v := .int _) dX4_skipSpaces_1 fk_X4_21 (shK hS1 rfl) (fun _ => congrArg Value.int (hr2)) ?_
    refine g_aload_n (pc := 4) dX4_skipSpaces_4 rfl trivial ?_
    refine g_getf (pc := 5) (v := .int _) dX4_skipSpaces_5 fk_X4_17 (shK hS1 rfl) (fun _ => congrArg Value.int (hr1)) ?_
    refine g_icmp_ge (pc := 8) (tgt := 38) dX4_skipSpaces_8 rfl (fun h8 => absurd h8 (nI_ge hi (by omega))) (fun _ => ?_)
    refine g_aload_n (pc := 11) dX4_skipSpaces_11 rfl trivial ?_
    refine g_getf (pc := 12) dX4_skipSpaces_12 fk_X4_9 (shK hS1 rfl) (fv_arr (shR hS1 rfl)) ?_
    refine g_aload_n (pc := 15) dX4_skipSpaces_15 rfl trivial ?_
    refine g_getf (pc := 16) (v := .int _) dX4_skipSpaces_16 fk_X4_21 (shK hS1 rfl) (fun _ => congrArg Value.int (hr2)) ?_
    refine g_iaload (pc := 19) dX4_skipSpaces_19 (shK hS1 rfl) rfl (show p < 600 by omega) (nl rfl) ?_
    rw [rd_ne (by decide)]
    refine g_bipush (pc := 20) (v := 32) dX4_skipSpaces_20 rfl ?_
    refine g_icmp_ne (pc := 22) (tgt := 38) dX4_skipSpaces_22 rfl (fun h22 => ?_) (fun h22 => ?_)
    · rw [if_neg (by unfold isSp; simp [h22])] at h2
      refine g_return (pc := 38) dX4_skipSpaces_38 rfl ?_
      exact ⟨rfl, by rw [← h2]⟩
    · rw [if_pos (by unfold isSp; simpa using h22)] at h2
      refine g_aload_n (pc := 25) dX4_skipSpaces_25 rfl trivial ?_
      refine g_dup (pc := 26) dX4_skipSpaces_26 rfl ?_
      refine g_getf (pc := 27) (v := .int _) dX4_skipSpaces_27 fk_X4_21 (shK hS1 rfl) (fun _ => congrArg Value.int (hr2)) ?_
      refine g_iconst (pc := 30) (v := 1) dX4_skipSpaces_30 rfl ?_
      refine g_iadd (pc := 31) dX4_skipSpaces_31 ?_
      refine g_putI (pc := 32) dX4_skipSpaces_32 fp_X4_21 (shK hS1 rfl) ⟨rfl, rfl⟩ (fun _ _ _ _ => rfl) ?_
      refine go_cast (rd_p2 (nI_1 p)) ?_
      refine g_goto (pc := 35) (tgt := 0) dX4_skipSpaces_35 rfl ?_
      exact ih (p + 1) ⟨by omega, h2⟩ (by omega)
  · have hi' : p = len := by omega
    subst hi'
    refine g_aload_n (pc := 0) dX4_skipSpaces_0 rfl trivial ?_
    refine g_getf (pc := 1) (v := .int _) dX4_skipSpaces_1 fk_X4_21 (shK hS1 rfl) (fun _ => congrArg Value.int (hr2)) ?_
    refine g_aload_n (pc := 4) dX4_skipSpaces_4 rfl trivial ?_
    refine g_getf (pc := 5) (v := .int _) dX4_skipSpaces_5 fk_X4_17 (shK hS1 rfl) (fun _ => congrArg Value.int (hr1)) ?_
    refine g_icmp_ge (pc := 8) (tgt := 38) dX4_skipSpaces_8 rfl (fun _ => ?_) (fun h8 => absurd (nI_le (Nat.le_refl _) (by omega)) h8)
    refine g_return (pc := 38) dX4_skipSpaces_38 rfl ?_
    exact ⟨rfl, by rw [← h2, Nat.sub_self]; rfl⟩
def wordP (T : Nat → Int32) (len p : Nat) : Nat := scan isLo T (len - p) p
def twd (T : Nat → Int32) (len : Nat) (s : RP) : RP := (wordP T len (skipP T len s.1), nI (skipP T len s.1), s.2.2)
theorem wordP_le {T : Nat → Int32} {p : Nat} (h : p ≤ len) : p ≤ wordP T len p ∧ wordP T len p ≤ len := by have := scan_le isLo T (len - p) p; unfold wordP; omega
theorem r_takeWord (hS : Shp M) (hl : mI M 1 1 = nI len) (hL : len ≤ 600) (hp : s.1 ≤ len) : EvR l jX4_takeWord 1 20 0 0 [.ref 1] (rdM M s) (.inl none) (rdM M (twd (mI M 2) len s)) := by
  obtain ⟨S, hs⟩ : ∃ S, S = twd (mI M 2) len s := ⟨_, rfl⟩
  rw [← hs]
  have hsk := skipP_le (T := mI M 2) hp
  have hS0 : Shp (rdM M (skp (mI M 2) len s)) := rd_S hS
  have hr0 : mI (rdM M (skp (mI M 2) len s)) 1 2 = nI (skipP (mI M 2) len s.1) := rd_2
  have hS9 : Shp (rdM M s) := rd_S hS
  refine ev_intro rfl (nb rfl) rfl ?_
  refine g_aload_n (pc := 0) dX4_takeWord_0 rfl trivial ?_
  refine g_invV_r (pc := 1) (As := []) dX4_takeWord_1 rfl (r_skipSpaces hS hl hL hp) rfl rfl (shK hS9 rfl) rfl rfl lk_X4_133 rfl (nb rfl) ⟨nb rfl, nb rfl⟩ rfl ?_
  refine g_aload_n (pc := 4) dX4_takeWord_4 rfl trivial ?_
  refine g_aload_n (pc := 5) dX4_takeWord_5 rfl trivial ?_
  refine g_getf (pc := 6) (v := .int _) dX4_takeWord_6 fk_X4_21 (shK hS0 rfl) (fun _ => congrArg Value.int (hr0)) ?_
  refine g_putI (pc := 9) dX4_takeWord_9 fp_X4_70 (shK hS0 rfl) ⟨rfl, rfl⟩ (fun _ _ _ _ => rfl) ?_
  refine go_cast rd_p3 ?_
  refine go_while (pc := 12) (σ := Nat) (fun p => p ≤ len ∧ (scan isLo (mI M 2) (len - p) p, nI (skipP (mI M 2) len s.1), s.2.2) = S) (fun p => len - p) (fun _ => [(0, .ref 1)]) (fun p => rdM M (p, nI (skipP (mI M 2) len s.1), s.2.2)) (skipP (mI M 2) len s.1) ⟨rfl, trivial⟩ rfl ⟨hsk.2, hs.symm⟩ ?_
  generalize skipP (mI M 2) len s.1 = q at *
  rintro p ⟨h1, h2⟩ ih
  have hS1 : Shp (rdM M (p, nI q, s.2.2)) := rd_S hS
  have hr2 : mI (rdM M (p, nI q, s.2.2)) 1 2 = nI p := rd_2
  have hr1 : mI (rdM M (p, nI q, s.2.2)) 1 1 = nI len := rd_1.trans hl
  by_cases hi : p < len
  · rw [show len - p = (len - (p + 1)) + 1 by omega, scan] at h2
    refine g_aload_n (pc := 12) dX4_takeWord_12 rfl trivial ?_
    refine g_getf (pc := 13) (v := .int _) dX4_takeWord_13 fk_X4_21 (shK hS1 rfl) (fun _ => congrArg Value.int (hr2)) ?_
    refine g_aload_n (pc := 16) dX4_takeWord_16 rfl trivial ?_
    refine g_getf (pc := 17) (v := .int _) dX4_takeWord_17 fk_X4_17 (shK hS1 rfl) (fun _ => congrArg Value.int (hr1)) ?_
    refine g_icmp_ge (pc := 20) (tgt := 64) dX4_takeWord_20 rfl (fun h20 => absurd h20 (nI_ge hi (by omega))) (fun _ => ?_)
    refine g_aload_n (pc := 23) dX4_takeWord_23 rfl trivial ?_
    refine g_getf (pc := 24) dX4_takeWord_24 fk_X4_9 (shK hS1 rfl) (fv_arr (shR hS1 rfl)) ?_
    refine g_aload_n (pc := 27) dX4_takeWord_27 rfl trivial ?_
    refine g_getf (pc := 28) (v := .int _) dX4_takeWord_28 fk_X4_21 (shK hS1 rfl) (fun _ => congrArg Value.int (hr2)) ?_
    refine g_iaload (pc := 31) dX4_takeWord_31 (shK hS1 rfl) rfl (show p < 600 by omega) (nl rfl) ?_
    rw [rd_ne (by decide)]
    refine g_bipush (pc := 32) (v := 97) dX4_takeWord_32 rfl ?_
    refine g_icmp_lt (pc := 34) (tgt := 64) dX4_takeWord_34 rfl (fun h34 => ?_) (fun h34 => ?_)
    · rw [if_neg (by unfold isLo; simp [h34])] at h2
      refine g_return (pc := 64) dX4_takeWord_64 rfl ?_
      exact ⟨rfl, by rw [← h2]⟩
    · refine g_aload_n (pc := 37) dX4_takeWord_37 rfl trivial ?_
      refine g_getf (pc := 38) dX4_takeWord_38 fk_X4_9 (shK hS1 rfl) (fv_arr (shR hS1 rfl)) ?_
      refine g_aload_n (pc := 41) dX4_takeWord_41 rfl trivial ?_
      refine g_getf (pc := 42) (v := .int _) dX4_takeWord_42 fk_X4_21 (shK hS1 rfl) (fun _ => congrArg Value.int (hr2)) ?_
      refine g_iaload (pc := 45) dX4_takeWord_45 (shK hS1 rfl) rfl (show p < 600 by omega) (nl rfl) ?_
      rw [rd_ne (by decide)]
      refine g_bipush (pc := 46) (v := 122) dX4_takeWord_46 rfl ?_
      refine g_icmp_gt (pc := 48) (tgt := 64) dX4_takeWord_48 rfl (fun h48 => ?_) (fun h48 => ?_)
      · rw [if_neg (by unfold isLo; simp [h48])] at h2
        refine g_return (pc := 64) dX4_takeWord_64 rfl ?_
        exact ⟨rfl, by rw [← h2]⟩
      · rw [if_pos (by unfold isLo; simp [h34, h48])] at h2
        refine g_aload_n (pc := 51) dX4_takeWord_51 rfl trivial ?_
        refine g_dup (pc := 52) dX4_takeWord_52 rfl ?_
        refine g_getf (pc := 53) (v := .int _) dX4_takeWord_53 fk_X4_21 (shK hS1 rfl) (fun _ => congrArg Value.int (hr2)) ?_
        refine g_iconst (pc := 56) (v := 1) dX4_takeWord_56 rfl ?_
        refine g_iadd (pc := 57) dX4_takeWord_57 ?_
        refine g_putI (pc := 58) dX4_takeWord_58 fp_X4_21 (shK hS1 rfl) ⟨rfl, rfl⟩ (fun _ _ _ _ => rfl) ?_
        refine go_cast (rd_p2 (nI_1 p)) ?_
        refine g_goto (pc := 61) (tgt := 12) dX4_takeWord_61 rfl ?_
        exact ih (p + 1) ⟨by omega, h2⟩ (by omega)
  · have hi' : p = len := by omega
    subst hi'
    refine g_aload_n (pc := 12) dX4_takeWord_12 rfl trivial ?_
    refine g_getf (pc := 13) (v := .int _) dX4_takeWord_13 fk_X4_21 (shK hS1 rfl) (fun _ => congrArg Value.int (hr2)) ?_
    refine g_aload_n (pc := 16) dX4_takeWord_16 rfl trivial ?_
    refine g_getf (pc := 17) (v := .int _) dX4_takeWord_17 fk_X4_17 (shK hS1 rfl) (fun _ => congrArg Value.int (hr1)) ?_
    refine g_icmp_ge (pc := 20) (tgt := 64) dX4_takeWord_20 rfl (fun _ => ?_) (fun h20 => absurd (nI_le (Nat.le_refl _) (by omega)) h20)
    refine g_return (pc := 64) dX4_takeWord_64 rfl ?_
    exact ⟨rfl, by rw [← h2, Nat.sub_self]; rfl⟩
end
