/-! the reference reads: a text -/
/-- every number among the rows is a row -/
def uOk (u : Nat → Int64) : Prop := ∀ i, 28 ≤ i → i < 220 → u i = uL (u i).toInt32
theorem uOk_set {u : Nat → Int64} (h : uOk u) (j : Nat) (x : Int32) : uOk (fun_set u j (uL x)) := fun i h1 h2 => by
  unfold fun_set
  by_cases e : i = j
  · rw [if_pos e, uL_32]
  · rw [if_neg e]; exact h i h1 h2
theorem uOk_lo {u : Nat → Int64} (h : uOk u) {j : Nat} (hj : j < 28) (x : Int64) : uOk (fun_set u j x) := fun i h1 h2 => by
  unfold fun_set
  rw [if_neg (by omega)]; exact h i h1 h2
theorem lyF_ok {u : Nat → Int64} (h : uOk u) (a n : Nat) (f : Nat → Int32) : uOk (lyF u a f n) := fun i h1 h2 => by
  unfold lyF
  split
  · rw [uL_32]
  · exact h i h1 h2
theorem bgF_ok (u : Nat → Int64) (n : Nat) : uOk (bgF u n) := uOk_lo (uOk_lo (fun i h1 h2 => by unfold clF; rw [if_pos (by omega)]; decide) (by decide) _) (by decide) _
section
variable {s : RP} {len n : Nat} {T : Nat → Int32} {u : Nat → Int64}
theorem tnm_ge {lo hi : Int32} (hp : s.1 ≤ len) : s.1 ≤ (tnm T len lo hi s).1 := by
  rw [(tnm_1 T len lo hi s).1]
  have h1 := skipP_le (T := T) hp
  have h2 := digP_le (T := T) h1.2
  omega
theorem nmS_ge {lo hi : Int32} (hp : s.1 ≤ len) : s.1 ≤ (nmS T len lo hi s).1 := by
  unfold nmS; split
  · exact tnm_ge hp
  · exact Nat.le_refl _
theorem twd_ge (hp : s.1 ≤ len) : s.1 ≤ (twd T len s).1 := by
  have h1 := skipP_le (T := T) hp
  have h2 := wordP_le (T := T) h1.2
  show s.1 ≤ wordP T len (skipP T len s.1)
  omega
/-- a step of reading -/
def stOk (u : Nat → Int64) (s : RP) (len : Nat) (r : (Nat → Int64) × RP) : Prop := s.1 ≤ r.2.1 ∧ r.2.1 ≤ len ∧ r.1 0 = u 0 ∧ (uOk u → uOk r.1)
theorem gE_ok (hp : s.1 ≤ len) : stOk u s len (gE T len n u s) := by
  have h1 := nmS_le (T := T) (lo := 0) (hi := nI 5) hp
  have h2 := nmS_le (T := T) (lo := 0) (hi := nI (n - 1)) h1
  have h3 := nmS_le (T := T) (lo := 0) (hi := nI (n - 1)) h2
  have g1 := nmS_ge (T := T) (lo := 0) (hi := nI 5) hp
  have g2 := nmS_ge (T := T) (lo := 0) (hi := nI (n - 1)) h1
  have g3 := nmS_ge (T := T) (lo := 0) (hi := nI (n - 1)) h2
  refine ⟨show s.1 ≤ (nmS T len 0 (nI (n - 1)) (nmS T len 0 (nI (n - 1)) (nmS T len 0 (nI 5) s))).1 by omega, h3, ?_, fun h => ?_⟩
  · show (ite _ _ _ : Nat → Int64) 0 = _
    split
    · unfold fun_set; rw [if_neg (by omega)]
    · rfl
  · show uOk (ite _ _ _)
    split
    · intro i i1 i2
      by_cases e : i = 28 + 32 * nmN T len 5 s + nmN T len (n - 1) (nmS T len 0 (nI 5) s)
      · subst e
        rw [h _ i1 i2, uL_or]
        exact uOk_set h _ _ _ i1 i2
      · unfold fun_set; rw [if_neg e]; exact h i i1 i2
    · exact h
theorem gR_ok (hp : s.1 ≤ len) : stOk u s len (gR T len n u s) := by
  have h1 := nmS_le (T := T) (lo := 0) (hi := nI 5) hp
  have h2 := nmS_le (T := T) (lo := 0) (hi := nI (n - 1)) h1
  have g1 := nmS_ge (T := T) (lo := 0) (hi := nI 5) hp
  have g2 := nmS_ge (T := T) (lo := 0) (hi := nI (n - 1)) h1
  unfold gR
  generalize nmN T len (n - 1) (nmS T len 0 (nI 5) s) = r at *
  generalize nmN T len 5 s = a at *
  generalize nmS T len 0 (nI (n - 1)) (nmS T len 0 (nI 5) s) = s2 at *
  have hk := skipP_le (T := T) h2
  have hd := digP_le (T := T) hk.2
  generalize skipP T len s2.1 = b at *
  split
  · unfold gRb
    split
    · split
      · exact ⟨show s.1 ≤ digP T len b by omega, hd.2, by show fun_set u _ _ 0 = _; unfold fun_set; rw [if_neg (by omega)], fun h => uOk_set h _ _⟩
      · refine ⟨?_, ?_, rfl, fun h => h⟩
        · show s.1 ≤ (rFail 2 (nI b) (digP T len b, nI b, s2.2.2)).1
          rw [(rFail_1 _ _ _).1]; show s.1 ≤ digP T len b; omega
        · show (rFail 2 (nI b) (digP T len b, nI b, s2.2.2)).1 ≤ len
          rw [(rFail_1 _ _ _).1]; exact hd.2
    · refine ⟨?_, ?_, rfl, fun h => h⟩
      · show s.1 ≤ (rFail 1 (nI b) (b, nI b, s2.2.2)).1
        rw [(rFail_1 _ _ _).1]; show s.1 ≤ b; omega
      · show (rFail 1 (nI b) (b, nI b, s2.2.2)).1 ≤ len
        rw [(rFail_1 _ _ _).1]; exact hk.2
  · exact ⟨show s.1 ≤ s2.1 by omega, h2, rfl, fun h => h⟩
theorem gF_ok (hp : s.1 ≤ len) : stOk u s len (gF T len n u s) := by
  have h1 := nmS_le (T := T) (lo := 0) (hi := nI 5) hp
  have g1 := nmS_ge (T := T) (lo := 0) (hi := nI 5) hp
  unfold gF
  generalize nmN T len 5 s = a at *
  generalize nmS T len 0 (nI 5) s = s1 at *
  have h2 := (twd_le (T := T) h1).1
  have g2 := twd_ge (T := T) h1
  generalize twd T len s1 = s2 at *
  generalize khF T (skipP T len s1.1) s2.1 = k
  split
  · refine ⟨?_, ?_, rfl, fun h => h⟩
    · show s.1 ≤ (rFail 1 _ s2).1
      rw [(rFail_1 _ _ _).1]; omega
    · show (rFail 1 _ s2).1 ≤ len
      rw [(rFail_1 _ _ _).1]; exact h2
  · split
    · exact ⟨show s.1 ≤ s2.1 by omega, h2, by show lyF u a _ n 0 = _; unfold lyF; rw [if_neg (by omega)], fun h => lyF_ok h _ _ _⟩
    · exact ⟨show s.1 ≤ s2.1 by omega, h2, rfl, fun h => h⟩
theorem gK_ok (hp : s.1 ≤ len) : stOk u s len (gK T len u s) := by
  have h1 := nmS_le (T := T) (lo := 0) (hi := nI 5) hp
  have g1 := nmS_ge (T := T) (lo := 0) (hi := nI 5) hp
  have ha := (nmN_ok (T := T) (len := len) (s := s) (h := 5) (by decide)).2
  unfold gK
  generalize nmN T len 5 s = a at *
  generalize nmS T len 0 (nI 5) s = s1 at *
  refine ⟨?_, ?_, by show fun_set u _ _ 0 = _; unfold fun_set; rw [if_neg (by omega)], fun h => uOk_lo h (by omega) _⟩
  · show s.1 ≤ (ite _ _ _ : RP).1
    split
    · rw [(rFail_1 _ _ _).1]; omega
    · omega
  · show (ite _ _ _ : RP).1 ≤ len
    split
    · rw [(rFail_1 _ _ _).1]; omega
    · omega
theorem gS_ok (hp : s.1 ≤ len) : stOk u s len (gS T len n u s) := by
  have h1 := (twd_le (T := T) hp).1
  have g1 := twd_ge (T := T) hp
  have key : ∀ r, stOk u (twd T len s) len r → stOk u s len r := fun r h => ⟨Nat.le_trans g1 h.1, h.2⟩
  unfold gS
  split
  · exact key _ (gE_ok h1)
  · split
    · exact key _ (gR_ok h1)
    · split
      · exact key _ (gF_ok h1)
      · split
        · exact key _ (gK_ok h1)
        · split
          · exact key _ ⟨nmS_ge h1, nmS_le h1, rfl, fun h => uOk_lo h (by decide) _⟩
          · refine ⟨?_, ?_, rfl, fun h => h⟩
            · show s.1 ≤ (rFail 1 _ _).1
              rw [(rFail_1 _ _ _).1]; exact g1
            · show (rFail 1 _ _).1 ≤ len
              rw [(rFail_1 _ _ _).1]; exact h1
theorem mvS_le (hp : s.1 ≤ len) : s.1 ≤ (mvS T len s).1 ∧ (mvS T len s).1 ≤ len := by
  have h := skipP_le (T := T) hp
  unfold mvS
  split
  · split
    · split
      · exact ⟨show s.1 ≤ skipP T len s.1 + 1 by omega, show skipP T len s.1 + 1 ≤ len by omega⟩
      · rw [(rFail_1 _ _ _).1]; exact h
    · exact h
  · exact ⟨Nat.le_refl _, hp⟩
theorem mvB_lt (hp : s.1 ≤ len) (h : mvB T len s = true) : s.1 < (mvS T len s).1 := by
  have h1 := skipP_le (T := T) hp
  unfold mvB at h
  simp only [Bool.and_eq_true, decide_eq_true_iff] at h
  unfold mvS
  rw [if_pos h.1.1, if_pos h.1.2, if_pos h.2]
  show s.1 < skipP T len s.1 + 1
  omega
/-- statements one after another, d at most -/
def gL (T : Nat → Int32) (len n : Nat) : Nat → (Nat → Int64) → RP → (Nat → Int64) × RP
  | 0, u, s => (u, mvS T len s)
  | d + 1, u, s => if mvB T len s = true then gL T len n d (gS T len n u (mvS T len s)).1 (gS T len n u (mvS T len s)).2 else (u, mvS T len s)
termination_by d => d
theorem gL_ok : ∀ (d : Nat) (u : Nat → Int64) (s : RP), s.1 ≤ len → stOk u s len (gL T len n d u s)
  | 0, u, s, hp => by
    rw [gL.eq_1]
    exact ⟨(mvS_le hp).1, (mvS_le hp).2, rfl, fun h => h⟩
  | d + 1, u, s, hp => by
    have h := mvS_le (T := T) hp
    rw [gL.eq_2]
    split
    · have h2 := gS_ok (T := T) (n := n) (u := u) h.2
      have h3 := gL_ok d (gS T len n u (mvS T len s)).1 (gS T len n u (mvS T len s)).2 h2.2.1
      exact ⟨Nat.le_trans h.1 (Nat.le_trans h2.1 h3.1), h3.2.1, h3.2.2.1.trans h2.2.2.1, fun q => h3.2.2.2 (h2.2.2.2 q)⟩
    · exact ⟨h.1, h.2, rfl, fun h => h⟩
def lrN (T : Nat → Int32) (len : Nat) (b0 e0 : Int32) : Nat := szN T len (0, b0, 0, 0, e0)
def lrR (T : Nat → Int32) (len : Nat) (b0 e0 : Int32) (u : Nat → Int64) : (Nat → Int64) × RP := gL T len (lrN T len b0 e0) len (bgF u (lrN T len b0 e0)) (szS T len (0, b0, 0, 0, e0))
end
def anK (M : Mem) (x : Int32) : Nat → Mem
  | 0 => M
  | k + 1 => anM (anK M x k) k x
termination_by k => k
theorem anK_R {M : Mem} {n : Nat} {A : Nat → Nat → Int32} {x : Int32} (h : Rr M n A) : ∀ k, k ≤ 6 → Rr (anK M x k) n A
  | 0, _ => by rw [anK.eq_1]; exact h
  | k + 1, hk => by rw [anK.eq_2]; exact anM_R (anK_R h k (by omega)) (by omega)
def lrM (M : Mem) (T : Nat → Int32) (len : Nat) : Mem := psM (sL (thr M 0) 200 (lrR T len (mI M 198 10) (mI M 198 12) (mL M 200)).1) (lrR T len (mI M 198 10) (mI M 198 12) (mL M 200)).2
/-- read, whether there was an error or not -/
def lrD (M : Mem) (T : Nat → Int32) (len : Nat) (r : RP) : Mem := pI (pI (pI (lrM M T len) 198 8 0) 198 14 r.2.2.2.1) 198 15 (if r.2.2.2.1 = 0 then -1 else r.2.2.1)
def lrC (M : Mem) (T : Nat → Int32) (len : Nat) (r : RP) : Mem := pI (sL (lrD M T len r) 199 (cpF (mL M 199) 0 (lrR T len (mI M 198 10) (mI M 198 12) (mL M 200)).1 0 220)) 198 5 0
def ldE (M : Mem) (T : Nat → Int32) (len : Nat) (r : RP) : Mem := if r.2.2.2.1 = 0 then anK (lrC M T len r) (nI (lrN T len (mI M 198 10) (mI M 198 12))) 6 else lrD M T len r
def ldV (n : Nat) (r : RP) : Int32 := if r.2.2.2.1 = 0 then nI n else -100 - r.2.2.2.2
def ldA (M : Mem) (T : Nat → Int32) (len : Nat) : Nat → Nat → Int32 := fun s r => ((lrR T len (mI M 198 10) (mI M 198 12) (mL M 200)).1 (28 + 32 * s + r)).toInt32
theorem lrC_R {M : Mem} {T : Nat → Int32} {len : Nat} {r : RP} (hS : Shp M) : Rr (lrC M T len r) (lrN T len (mI M 198 10) (mI M 198 12)) (ldA M T len) := by
  obtain ⟨n1, n2, n3⟩ := szN_ok T len (0, mI M 198 10, 0, 0, mI M 198 12)
  have hz : (szS T len (0, mI M 198 10, 0, 0, mI M 198 12)).1 ≤ len := nmS_le (szS0_le (Nat.zero_le _))
  have h := gL_ok (T := T) (n := lrN T len (mI M 198 10) (mI M 198 12)) len (bgF (mL M 200) (lrN T len (mI M 198 10) (mI M 198 12))) _ hz
  have h0 : (lrR T len (mI M 198 10) (mI M 198 12) (mL M 200)).1 0 = lN (lrN T len (mI M 198 10) (mI M 198 12)) := h.2.2.1
  have hu : uOk (lrR T len (mI M 198 10) (mI M 198 12) (mL M 200)).1 := h.2.2.2 (bgF_ok _ _)
  have e : mL (lrC M T len r) 199 = cpF (mL M 199) 0 (lrR T len (mI M 198 10) (mI M 198 12) (mL M 200)).1 0 220 := sL_self (lrD M T len r) 199 _
  refine ⟨hS, ?_, n2, n3, fun s r hs hr => ?_⟩
  · rw [e]; unfold cpF; rw [if_pos (by omega)]; exact h0
  · have hr2 : r < 32 := Nat.lt_of_lt_of_le hr n3
    rw [e]; unfold cpF; rw [if_pos (by omega)]
    show (lrR T len (mI M 198 10) (mI M 198 12) (mL M 200)).1 (28 + 32 * s + r - 220 * 0 + 220 * 0) = _
    rw [show 28 + 32 * s + r - 220 * 0 + 220 * 0 = 28 + 32 * s + r by omega]
    exact hu _ (by omega) (by omega)
section
variable {l : Launch} {M : Mem} {s : RP} {len n : Nat} {T : Nat → Int32}
theorem ps_start : pI (pI (pI M 198 9 0) 198 11 0) 198 13 0 = psM M (0, mI M 198 10, 0, 0, mI M 198 12) := by
  refine mem_extI rfl rfl rfl rfl rfl rfl (fun i => ?_)
  by_cases i1 : i = 198
  · subst i1; funext j; simp only [psM, prF, sI, mI, pI, fun_set, if_true]
    by_cases j2 : j = 9
    · subst j2; rfl
    · by_cases j3 : j = 10
      · subst j3; rfl
      · by_cases j4 : j = 13
        · subst j4; rfl
        · by_cases j5 : j = 11
          · subst j5; rfl
          · by_cases j6 : j = 12
            · subst j6; rfl
            · simp [j2, j3, j4, j5, j6]
  · simp [psM, sI, mI, pI, fun_set, i1]
theorem n_load (hS : Shp M) (hT : txt M T len) (hl : mI M 198 8 = nI len) (hL : len ≤ 600) : EvR l jX7_load 8 220 0 0 [.ref 198] M (.inl (some (.int (ldV (lrN T len (mI M 198 10) (mI M 198 12)) (lrR T len (mI M 198 10) (mI M 198 12) (mL M 200)).2)))) (ldE M T len (lrR T len (mI M 198 10) (mI M 198 12) (mL M 200)).2) := by
  have hS1 : Shp (thr M 0) := hS
  have hT1 : txt (thr M 0) T len := fun i hi => by
    obtain ⟨j, j1, j2, j3⟩ := hT i hi
    exact ⟨j, j1, j2, by rw [← j3]; exact congrFun (pI_i (by decide)) i⟩
  have hl1 : mI (thr M 0) 198 8 = nI len := (pI_k (by decide)).trans hl
  have hb1 : mI (thr M 0) 198 10 = mI M 198 10 := pI_k (by decide)
  have he1 : mI (thr M 0) 198 12 = mI M 198 12 := pI_k (by decide)
  have e1 : pI (pI (pI (thr M 0) 198 9 0) 198 11 0) 198 13 0 = psM (thr M 0) (0, mI M 198 10, 0, 0, mI M 198 12) := by rw [ps_start, hb1, he1]
  have hz := r_sizePart (l := l) (s := (0, mI M 198 10, 0, 0, mI M 198 12)) hS1 hT1 hl1 hL (Nat.zero_le _)
  have hCR := lrC_R (T := T) (len := len) (r := (lrR T len (mI M 198 10) (mI M 198 12) (mL M 200)).2) hS
  obtain ⟨n1, n2, n3⟩ := szN_ok T len (0, mI M 198 10, 0, 0, mI M 198 12)
  have hzl : (szS T len (0, mI M 198 10, 0, 0, mI M 198 12)).1 ≤ len := nmS_le (szS0_le (Nat.zero_le _))
  have eL : lrM M T len = psM (sL (thr M 0) 200 (lrR T len (mI M 198 10) (mI M 198 12) (mL M 200)).1) (lrR T len (mI M 198 10) (mI M 198 12) (mL M 200)).2 := rfl
  have e199 : mL (thr M 0) 199 = mL M 199 := rfl
  unfold ldE
  unfold lrC lrD at hCR ⊢
  rw [eL] at hCR ⊢
  rw [show mL (thr M 0) 200 = mL M 200 from rfl] at hz
  rw [← e199] at hCR ⊢
  clear eL e199
  unfold lrR at hCR ⊢
  rw [show szN T len (0, mI M 198 10, 0, 0, mI M 198 12) = lrN T len (mI M 198 10) (mI M 198 12) from rfl] at hz n1 n2 n3
  generalize lrN T len (mI M 198 10) (mI M 198 12) = n at *
  generalize szS T len (0, mI M 198 10, 0, 0, mI M 198 12) = s1 at *
  obtain ⟨S, hs⟩ : ∃ S, S = gL T len n len (bgF (mL M 200) n) s1 := ⟨_, rfl⟩
  rw [← hs] at hCR ⊢
  have e0 : pI M 198 6 0 = thr M 0 := rfl
  have hu0 : bgF (mL M 200) n 0 = lN n := rfl
  have hfin : Go l jX7_load 8 220 0 0 (fun r' M9 => r' = .inl (some (.int (ldV n S.2))) ∧ M9 = ite (S.2.2.2.2.1 = 0) (anK (pI (sL (pI (pI (pI (psM (sL (thr M 0) 200 S.1) S.2) 198 8 0) 198 14 S.2.2.2.2.1) 198 15 (if S.2.2.2.2.1 = 0 then -1 else S.2.2.2.1)) 199 (cpF (mL (thr M 0) 199) 0 S.1 0 220)) 198 5 0) (nI n) 6) (pI (pI (pI (psM (sL (thr M 0) 200 S.1) S.2) 198 8 0) 198 14 S.2.2.2.2.1) 198 15 (if S.2.2.2.2.1 = 0 then -1 else S.2.2.2.1))) 38 [(0, .ref 198)] [] 0 0 (psM (sL (thr M 0) 200 S.1) S.2) := by
    have h11 : mI (psM (sL (thr M 0) 200 S.1) S.2) 198 11 = S.2.2.2.2.1 := ps_11
    have h12 : mI (psM (sL (thr M 0) 200 S.1) S.2) 198 12 = S.2.2.2.2.2 := ps_12
    have h13 : mI (psM (sL (thr M 0) 200 S.1) S.2) 198 13 = S.2.2.2.1 := ps_13
    have h199 : mL (psM (sL (thr M 0) 200 S.1) S.2) 199 = mL (thr M 0) 199 := rfl
    have h200 : mL (psM (sL (thr M 0) 200 S.1) S.2) 200 = S.1 := sL_self (thr M 0) 200 _
    have hS2 : Shp (psM (sL (thr M 0) 200 S.1) S.2) := hS
    generalize psM (sL (thr M 0) 200 S.1) S.2 = M1 at *
    unfold ldV
    have hk0 : mI (pI M1 198 8 0) 198 11 = S.2.2.2.2.1 := (pI_k (by decide)).trans h11
    have hk1 : mI (pI (pI M1 198 8 0) 198 14 S.2.2.2.2.1) 198 11 = S.2.2.2.2.1 := (pI_k (by decide)).trans hk0
    have hk3 : mI (pI (pI M1 198 8 0) 198 14 S.2.2.2.2.1) 198 13 = S.2.2.2.1 := (pI_k (by decide)).trans ((pI_k (by decide)).trans h13)
    have hS3 : Shp (pI M1 198 8 0) := hS2
    have hS4 : Shp (pI (pI M1 198 8 0) 198 14 S.2.2.2.2.1) := hS2
    have hS5 : ∀ v, Shp (pI (pI (pI M1 198 8 0) 198 14 S.2.2.2.2.1) 198 15 v) := fun v => hS2
    have hk5 : ∀ v, mI (pI (pI (pI M1 198 8 0) 198 14 S.2.2.2.2.1) 198 15 v) 198 11 = S.2.2.2.2.1 := fun v => (pI_k (by decide)).trans hk1
    have hk6 : ∀ v, mI (pI (pI (pI M1 198 8 0) 198 14 S.2.2.2.2.1) 198 15 v) 198 12 = S.2.2.2.2.2 := fun v => (pI_k (by decide)).trans ((pI_k (by decide)).trans ((pI_k (by decide)).trans h12))
    by_cases he : S.2.2.2.2.1 = 0
    · rw [if_pos he] at hCR
      rw [if_pos he, if_pos he, if_pos he]
      have q1 := r_copies (l := l) (M := pI (pI (pI M1 198 8 0) 198 14 S.2.2.2.2.1) 198 15 (-1)) (x := 200) (y := 199) (h := 0) (t := 0) (shK (hS5 _) rfl) (shK (hS5 _) rfl) (by decide) (by decide) (by decide) (by decide) (by decide)
      have a1 : mL (pI (pI (pI M1 198 8 0) 198 14 S.2.2.2.2.1) 198 15 (-1)) 200 = S.1 := h200
      have a2 : mL (pI (pI (pI M1 198 8 0) 198 14 S.2.2.2.2.1) 198 15 (-1)) 199 = mL (thr M 0) 199 := h199
      rw [a1, a2] at q1
      have hS6 : Shp (sL (pI (pI (pI M1 198 8 0) 198 14 S.2.2.2.2.1) 198 15 (-1)) 199 (cpF (mL (thr M 0) 199) 0 S.1 0 220)) := hS2
      have hS5a := hS5 (-1)
      have hk5a := hk5 (-1)
      clear hS5 hk5 hk6
      have hCR : Rr (pI (sL (pI (pI (pI M1 198 8 0) 198 14 S.2.2.2.2.1) 198 15 (-1)) 199 (cpF (mL (thr M 0) 199) 0 S.1 0 220)) 198 5 0) n (ldA M T len) := hCR
      generalize hM6 : pI (sL (pI (pI (pI M1 198 8 0) 198 14 S.2.2.2.2.1) 198 15 (-1)) 199 (cpF (mL (thr M 0) 199) 0 S.1 0 220)) 198 5 0 = M6 at *
      generalize sL (pI (pI (pI M1 198 8 0) 198 14 S.2.2.2.2.1) 198 15 (-1)) 199 (cpF (mL (thr M 0) 199) 0 S.1 0 220) = M5 at *
      generalize hM4 : pI (pI (pI M1 198 8 0) 198 14 S.2.2.2.2.1) 198 15 (-1) = M4 at *
      generalize hM3 : pI (pI M1 198 8 0) 198 14 S.2.2.2.2.1 = M3 at *
      generalize hM2 : pI M1 198 8 0 = M2 at *
      refine g_aload_n (pc := 38) dX7_load_38 rfl trivial ?_
      refine g_iconst (pc := 39) (v := 0) dX7_load_39 rfl ?_
      refine g_putI (pc := 40) dX7_load_40 fp_X7_81 (shK hS2 rfl) ⟨rfl, rfl⟩ (fun _ _ _ _ => rfl) ?_
      refine go_cast hM2 ?_
      refine g_aload_n (pc := 43) dX7_load_43 rfl trivial ?_
      refine g_aload_n (pc := 44) dX7_load_44 rfl trivial ?_
      refine g_getf (pc := 45) (v := .int _) dX7_load_45 fk_X7_93 (shK hS3 rfl) (fun _ => congrArg Value.int (hk0)) ?_
      refine g_putI (pc := 48) dX7_load_48 fp_X7_195 (shK hS3 rfl) ⟨rfl, rfl⟩ (fun _ _ _ _ => rfl) ?_
      refine go_cast hM3 ?_
      refine g_aload_n (pc := 51) dX7_load_51 rfl trivial ?_
      refine g_aload_n (pc := 52) dX7_load_52 rfl trivial ?_
      refine g_getf (pc := 53) (v := .int _) dX7_load_53 fk_X7_93 (shK hS4 rfl) (fun _ => congrArg Value.int (hk1)) ?_
      refine g_if_ne (pc := 56) (tgt := 63) dX7_load_56 rfl (fun h56 => absurd h56 ((fun z => z he))) (fun _ => ?_)
      refine g_iconst (pc := 59) (v := (-1)) dX7_load_59 rfl ?_
      refine g_goto (pc := 60) (tgt := 67) dX7_load_60 rfl ?_
      refine g_putI (pc := 67) dX7_load_67 fp_X7_30 (shK hS4 rfl) ⟨rfl, rfl⟩ (fun _ _ _ _ => rfl) ?_
      refine go_cast hM4 ?_
      refine g_aload_n (pc := 70) dX7_load_70 rfl trivial ?_
      refine g_getf (pc := 71) (v := .int _) dX7_load_71 fk_X7_93 (shK hS5a rfl) (fun _ => congrArg Value.int (hk5a)) ?_
      refine g_if_eq (pc := 74) (tgt := 85) dX7_load_74 rfl (fun _ => ?_) (fun h74 => absurd (he) h74)
      refine g_aload_n (pc := 85) dX7_load_85 rfl trivial ?_
      refine g_getf (pc := 86) dX7_load_86 fk_X7_13 (shK hS5a rfl) (fv_arr (shR hS5a rfl)) ?_
      refine g_iconst (pc := 89) (v := 0) dX7_load_89 rfl ?_
      refine g_aload_n (pc := 90) dX7_load_90 rfl trivial ?_
      refine g_getf (pc := 91) dX7_load_91 fk_X7_9 (shK hS5a rfl) (fv_arr (shR hS5a rfl)) ?_
      refine g_iconst (pc := 94) (v := 0) dX7_load_94 rfl ?_
      refine g_invS_r (pc := 95) (As := [_, _, _, _]) dX7_load_95 rfl (q1) rfl rfl lk_X7_198 rfl (nb rfl) ⟨nb rfl, nb rfl⟩ rfl ?_
      refine g_aload_n (pc := 98) dX7_load_98 rfl trivial ?_
      refine g_iconst (pc := 99) (v := 0) dX7_load_99 rfl ?_
      refine g_putI (pc := 100) dX7_load_100 fp_X7_201 (shK hS6 rfl) ⟨rfl, rfl⟩ (fun _ _ _ _ => rfl) ?_
      refine go_cast hM6 ?_
      refine g_iconst (pc := 103) (v := 0) dX7_load_103 rfl ?_
      refine g_istore_n (pc := 104) (lv' := [(0, _), (1, _)]) dX7_load_104 (nl rfl) rfl ?_
      refine go_loop (pc := 105) 6 (fun i => [(0, .ref 198), (1, .int (nI i))]) (fun i => anK M6 (nI n) i) ⟨rfl, rfl, trivial⟩ (by rw [anK.eq_1]) ?_ ?_
      · intro i hi ih
        have h3 := anK_R (x := nI n) hCR i (by omega)
        rw [anK.eq_2 M6 (nI n) i] at ih
        generalize anK M6 (nI n) 6 = M9 at *
        generalize anK M6 (nI n) i = M7 at *
        refine g_iload_n (pc := 105) dX7_load_105 rfl ?_
        refine g_bipush (pc := 106) (v := 6) dX7_load_106 rfl ?_
        refine g_icmp_ge (pc := 108) (tgt := 122) dX7_load_108 rfl (fun h108 => absurd h108 (nI_ge (b := 6) hi (by omega))) (fun _ => ?_)
        refine g_aload_n (pc := 111) dX7_load_111 rfl trivial ?_
        refine g_iload_n (pc := 112) dX7_load_112 rfl ?_
        refine g_invV_r (pc := 113) (As := [_]) dX7_load_113 rfl (r_madeAnew h3 hi) rfl rfl (shK h3.1 rfl) rfl rfl lk_X7_204 rfl (nb rfl) ⟨nb rfl, nb rfl⟩ rfl ?_
        refine g_iinc (pc := 116) (lv' := [(0, _), (1, _)]) dX7_load_116 rfl (nI_1 _) (nl rfl) rfl ?_
        refine g_goto (pc := 119) (tgt := 105) dX7_load_119 rfl ?_
        exact ih
      · have h3 := anK_R (x := nI n) hCR 6 (by omega)
        generalize anK M6 (nI n) 6 = M9 at *
        refine g_iload_n (pc := 105) dX7_load_105 rfl ?_
        refine g_bipush (pc := 106) (v := 6) dX7_load_106 rfl ?_
        refine g_icmp_ge (pc := 108) (tgt := 122) dX7_load_108 rfl (fun _ => ?_) (fun h108 => absurd (nI_le (Nat.le_refl 6) (by omega)) h108)
        refine g_aload_n (pc := 122) dX7_load_122 rfl trivial ?_
        refine g_invV_r (pc := 123) (As := []) dX7_load_123 rfl (r_size h3) rfl rfl (shK h3.1 rfl) rfl rfl lk_X7_71 rfl (nb rfl) ⟨nb rfl, nb rfl⟩ rfl ?_
        refine g_ireturn (pc := 126) dX7_load_126 rfl rfl ?_
        exact ⟨rfl, rfl⟩
    · rw [if_neg he, if_neg he, if_neg he]
      have hS5a := hS5 S.2.2.2.1
      have hk5a := hk5 S.2.2.2.1
      have hk6a := hk6 S.2.2.2.1
      clear hS5 hk5 hk6
      generalize hM4 : pI (pI (pI M1 198 8 0) 198 14 S.2.2.2.2.1) 198 15 S.2.2.2.1 = M4 at *
      generalize hM3 : pI (pI M1 198 8 0) 198 14 S.2.2.2.2.1 = M3 at *
      generalize hM2 : pI M1 198 8 0 = M2 at *
      refine g_aload_n (pc := 38) dX7_load_38 rfl trivial ?_
      refine g_iconst (pc := 39) (v := 0) dX7_load_39 rfl ?_
      refine g_putI (pc := 40) dX7_load_40 fp_X7_81 (shK hS2 rfl) ⟨rfl, rfl⟩ (fun _ _ _ _ => rfl) ?_
      refine go_cast hM2 ?_
      refine g_aload_n (pc := 43) dX7_load_43 rfl trivial ?_
      refine g_aload_n (pc := 44) dX7_load_44 rfl trivial ?_
      refine g_getf (pc := 45) (v := .int _) dX7_load_45 fk_X7_93 (shK hS3 rfl) (fun _ => congrArg Value.int (hk0)) ?_
      refine g_putI (pc := 48) dX7_load_48 fp_X7_195 (shK hS3 rfl) ⟨rfl, rfl⟩ (fun _ _ _ _ => rfl) ?_
      refine go_cast hM3 ?_
      refine g_aload_n (pc := 51) dX7_load_51 rfl trivial ?_
      refine g_aload_n (pc := 52) dX7_load_52 rfl trivial ?_
      refine g_getf (pc := 53) (v := .int _) dX7_load_53 fk_X7_93 (shK hS4 rfl) (fun _ => congrArg Value.int (hk1)) ?_
      refine g_if_ne (pc := 56) (tgt := 63) dX7_load_56 rfl (fun _ => ?_) (fun h56 => absurd (he) h56)
      refine g_aload_n (pc := 63) dX7_load_63 rfl trivial ?_
      refine g_getf (pc := 64) (v := .int _) dX7_load_64 fk_X7_183 (shK hS4 rfl) (fun _ => congrArg Value.int (hk3)) ?_
      refine g_putI (pc := 67) dX7_load_67 fp_X7_30 (shK hS4 rfl) ⟨rfl, rfl⟩ (fun _ _ _ _ => rfl) ?_
      refine go_cast hM4 ?_
      refine g_aload_n (pc := 70) dX7_load_70 rfl trivial ?_
      refine g_getf (pc := 71) (v := .int _) dX7_load_71 fk_X7_93 (shK hS5a rfl) (fun _ => congrArg Value.int (hk5a)) ?_
      refine g_if_eq (pc := 74) (tgt := 85) dX7_load_74 rfl (fun h74 => absurd h74 (he)) (fun _ => ?_)
      refine g_bipush (pc := 77) (v := (-100)) dX7_load_77 rfl ?_
      refine g_aload_n (pc := 79) dX7_load_79 rfl trivial ?_
      refine g_getf (pc := 80) (v := .int _) dX7_load_80 fk_X7_96 (shK hS5a rfl) (fun _ => congrArg Value.int (hk6a)) ?_
      refine g_isub (pc := 83) dX7_load_83 ?_
      refine g_ireturn (pc := 84) dX7_load_84 rfl rfl ?_
      exact ⟨rfl, rfl⟩
  refine ev_intro rfl (nb rfl) rfl ?_
  have hSa : Shp (pI (thr M 0) 198 9 0) := hS
  have hSb : Shp (pI (pI (thr M 0) 198 9 0) 198 11 0) := hS
  refine g_aload_n (pc := 0) dX7_load_0 rfl trivial ?_
  refine g_iconst (pc := 1) (v := 0) dX7_load_1 rfl ?_
  refine g_putI (pc := 2) dX7_load_2 fp_X7_60 (shK hS rfl) ⟨rfl, rfl⟩ (fun _ _ _ _ => rfl) ?_
  refine go_cast e0 ?_
  refine g_aload_n (pc := 5) dX7_load_5 rfl trivial ?_
  refine g_iconst (pc := 6) (v := 0) dX7_load_6 rfl ?_
  refine g_putI (pc := 7) dX7_load_7 fp_X7_84 (shK hS1 rfl) ⟨rfl, rfl⟩ (fun _ _ _ _ => rfl) ?_
  refine g_aload_n (pc := 10) dX7_load_10 rfl trivial ?_
  refine g_iconst (pc := 11) (v := 0) dX7_load_11 rfl ?_
  refine g_putI (pc := 12) dX7_load_12 fp_X7_93 (shK hSa rfl) ⟨rfl, rfl⟩ (fun _ _ _ _ => rfl) ?_
  refine g_aload_n (pc := 15) dX7_load_15 rfl trivial ?_
  refine g_iconst (pc := 16) (v := 0) dX7_load_16 rfl ?_
  refine g_putI (pc := 17) dX7_load_17 fp_X7_183 (shK hSb rfl) ⟨rfl, rfl⟩ (fun _ _ _ _ => rfl) ?_
  refine go_cast e1 ?_
  skip
  have hS0 : Shp (psM (thr M 0) (0, mI M 198 10, 0, 0, mI M 198 12)) := hS
  refine g_aload_n (pc := 20) dX7_load_20 rfl trivial ?_
  refine g_invV_r (pc := 21) (As := []) dX7_load_21 rfl (hz) rfl rfl (shK hS0 rfl) rfl rfl lk_X7_186 rfl (nb rfl) ⟨nb rfl, nb rfl⟩ rfl ?_
  refine go_while (pc := 24) (σ := Nat × (Nat → Int64) × RP) (fun q => q.1 ≤ q.2.2.1 ∧ q.2.2.1 ≤ len ∧ q.2.1 0 = lN n ∧ gL T len n (len - q.1) q.2.1 q.2.2 = S) (fun q => len - q.1) (fun q => [(0, .ref 198)]) (fun q => psM (sL (thr M 0) 200 q.2.1) q.2.2) (0, bgF (mL M 200) n, s1) ⟨rfl, trivial⟩ rfl ⟨Nat.zero_le _, hzl, hu0, hs.symm⟩ ?_
  rintro ⟨i, u, s2⟩ ⟨h1, hp2, hu2, hq2⟩ ih
  simp only at h1 hp2 hu2 hq2 ih
  have hSu : ∀ t, Shp (psM (sL (thr M 0) 200 u) t) := fun t => hS
  have hTu : txt (sL (thr M 0) 200 u) T len := hT1
  have hlu : mI (sL (thr M 0) 200 u) 198 8 = nI len := hl1
  have hzu : mL (sL (thr M 0) 200 u) 200 0 = lN n := by rw [sL_self]; exact hu2
  have q1 := r_isMore (l := l) (M := sL (thr M 0) 200 u) (s := s2) hS hTu hlu hL hp2
  have hm := mvS_le (T := T) hp2
  by_cases hb : mvB T len s2 = true
  · have hlt := mvB_lt hp2 hb
    rw [show len - i = (len - (i + 1)) + 1 by omega, gL.eq_2, if_pos hb] at hq2
    rw [hb] at q1
    have q2 := r_statement (l := l) (M := sL (thr M 0) 200 u) (s := mvS T len s2) hS hTu hlu hL hm.2 hzu n2 n3
    have hok := gS_ok (T := T) (n := n) (u := u) hm.2
    rw [show mL (sL (thr M 0) 200 u) 200 = u from sL_self _ _ _, sL_2] at q2
    have ih2 := ih (i + 1, (gS T len n u (mvS T len s2)).1, (gS T len n u (mvS T len s2)).2) ⟨by have := hok.1; simp only; omega, hok.2.1, hok.2.2.1.trans hu2, hq2⟩ (by simp only; omega)
    generalize gS T len n u (mvS T len s2) = r at *
    simp only at ih2
    have hS3 := hSu (mvS T len s2)
    have hS2 := hSu s2
    generalize psM (sL (thr M 0) 200 r.1) r.2 = M3 at *
    generalize psM (sL (thr M 0) 200 u) (mvS T len s2) = M2 at *
    generalize psM (sL (thr M 0) 200 u) s2 = M1 at *
    refine g_aload_n (pc := 24) dX7_load_24 rfl trivial ?_
    refine g_invV_r (pc := 25) (As := []) dX7_load_25 rfl (q1) rfl rfl (shK hS2 rfl) rfl rfl lk_X7_189 rfl (nb rfl) ⟨nb rfl, nb rfl⟩ rfl ?_
    refine g_if_eq (pc := 28) (tgt := 38) dX7_load_28 rfl (fun h28 => absurd h28 ((by decide))) (fun _ => ?_)
    refine g_aload_n (pc := 31) dX7_load_31 rfl trivial ?_
    refine g_invV_r (pc := 32) (As := []) dX7_load_32 rfl (q2) rfl rfl (shK hS3 rfl) rfl rfl lk_X7_193 rfl (nb rfl) ⟨nb rfl, nb rfl⟩ rfl ?_
    refine g_goto (pc := 35) (tgt := 24) dX7_load_35 rfl ?_
    exact ih2
  · have e9 : S = (u, mvS T len s2) := by
      rw [← hq2]
      cases len - i with
      | zero => rw [gL.eq_1]
      | succ d => rw [gL.eq_2, if_neg hb]
    rw [Bool.eq_false_iff.mpr hb] at q1
    have hS2 := hSu s2
    rw [e9] at hfin
    simp only at hfin
    rw [e9]
    refine g_aload_n (pc := 24) dX7_load_24 rfl trivial ?_
    refine g_invV_r (pc := 25) (As := []) dX7_load_25 rfl (q1) rfl rfl (shK hS2 rfl) rfl rfl lk_X7_189 rfl (nb rfl) ⟨nb rfl, nb rfl⟩ rfl ?_
    refine g_if_eq (pc := 28) (tgt := 38) dX7_load_28 rfl (fun _ => ?_) (fun h28 => absurd (rfl) h28)
    exact hfin
end

