/-! the reference reads: numbers as the class reads them, edges, closures to keep -/
theorem scan_all (c : Int32 → Bool) (T : Nat → Int32) : ∀ d p i, p ≤ i → i < scan c T d p → c (T i) = true
  | 0, p, i, h, h2 => by rw [scan] at h2; omega
  | d + 1, p, i, h, h2 => by
    rw [scan] at h2
    by_cases hc : c (T p) = true
    · rw [if_pos hc] at h2
      by_cases e : i = p
      · rw [e]; exact hc
      · exact scan_all c T d (p + 1) i (by omega) h2
    · rw [if_neg hc] at h2; omega
theorem di_n {v : Int32} (h : isDi v = true) : ∃ d, d ≤ 9 ∧ v = nI (48 + d) := by
  obtain ⟨h1, h2⟩ := (isDi_iff v).mp h
  rw [Int32.le_iff_toInt_le] at h1 h2
  have a1 : (48 : Int32).toInt = 48 := rfl
  have a2 : (57 : Int32).toInt = 57 := rfl
  rw [a1] at h1
  rw [a2] at h2
  refine ⟨(v.toInt - 48).toNat, by omega, Int32.toInt_inj.mp ?_⟩
  rw [nI_toInt (by omega)]
  omega
theorem dig_step {a d : Nat} (ha : a ≤ 10000000) (hd : d ≤ 9) : 10 * nI a + nI (48 + d) - 48 = nI (10 * a + d) := by
  rw [show (10 : Int32) = nI 10 from rfl, nI_mul, nI_add, show (48 : Int32) = nI 48 from rfl, nI_sub' (by omega)]
  congr 1
  omega
theorem least_n {a b : Nat} (ha : a < 2147483648) (hb9 : b < 2147483648) : least9 (nI a) (nI b) = nI (min a b) := by
  unfold least9
  by_cases h : b < a
  · rw [if_pos (nI_lt h ha), Nat.min_eq_right (by omega)]
  · rw [if_neg (nI_nlt (by omega) hb9), Nat.min_eq_left (by omega)]
theorem val_FG (T : Nat → Int32) (q : Nat) : ∀ k, (∀ i, q ≤ i → i < q + k → isDi (T i) = true) → ∃ a g, valF T q k = nI a ∧ valG T q k = nI g ∧ a ≤ 1000 ∧ g ≤ 10000000 ∧ ((a = g ∧ a < 1000) ∨ (a = 1000 ∧ 1000 ≤ g))
  | 0, _ => ⟨0, 0, rfl, rfl, by omega, by omega, Or.inl ⟨rfl, by omega⟩⟩
  | k + 1, h => by
    obtain ⟨a, g, h1, h2, h3, h4, h5⟩ := val_FG T q k (fun i hi hj => h i hi (by omega))
    obtain ⟨d, d1, d2⟩ := di_n (h (q + k) (by omega) (by omega))
    refine ⟨min (10 * a + d) 1000, min 10000000 (10 * g + d), ?_, ?_, by omega, by omega, by omega⟩
    · rw [valF, h1, d2, dig_step (by omega) d1, show (1000 : Int32) = nI 1000 from rfl, least_n (by omega) (by omega)]
    · rw [valG, h2, d2, dig_step (by omega) d1, show (10000000 : Int32) = nI 10000000 from rfl, least_n (by omega) (by omega)]
section
variable {T : Nat → Int32} {len : Nat} {s : RP}
theorem num_FG (p : Nat) : ∃ a g, numV T len p = nI a ∧ numG T len p = nI g ∧ a ≤ 1000 ∧ g ≤ 10000000 ∧ ((a = g ∧ a < 1000) ∨ (a = 1000 ∧ 1000 ≤ g)) := by
  refine val_FG T (skipP T len p) _ (fun i hi hj => ?_)
  refine scan_all isDi T (len - skipP T len p) (skipP T len p) i hi ?_
  have hle := (scan_le isDi T (len - skipP T len p) (skipP T len p)).1
  show i < digP T len (skipP T len p)
  have : skipP T len p ≤ digP T len (skipP T len p) := hle
  omega
theorem num_rng {lo hi : Int32} (p : Nat) (hhi : hi < 1000) : (lo ≤ numG T len p ∧ numG T len p ≤ hi) ↔ ¬ (numV T len p < lo ∨ hi < numV T len p) := by
  obtain ⟨a, g, h1, h2, h3, h4, h5⟩ := num_FG (T := T) (len := len) p
  rw [h1, h2]
  have e1 : (1000 : Int32).toInt = 1000 := rfl
  simp only [Int32.le_iff_toInt_le, Int32.lt_iff_toInt_lt, nI_toInt (show a < 2 ^ 31 by omega), nI_toInt (show g < 2 ^ 31 by omega)] at *
  rw [e1] at hhi
  omega
theorem num_val {lo hi : Int32} (p : Nat) (hhi : hi < 1000) (h : lo ≤ numG T len p ∧ numG T len p ≤ hi) : numG T len p = numV T len p := by
  obtain ⟨a, g, h1, h2, h3, h4, h5⟩ := num_FG (T := T) (len := len) p
  rw [h2] at h
  rw [h1, h2]
  have e1 : (1000 : Int32).toInt = 1000 := rfl
  have h6 := h.2
  rw [Int32.le_iff_toInt_le, nI_toInt (by omega)] at h6
  rw [Int32.lt_iff_toInt_lt, e1] at hhi
  congr 1
  omega
theorem rFail_e {k a : Int32} (h : s.2.2.2.1 ≠ 0) : rFail k a s = s := by unfold rFail; rw [if_neg h]
theorem rFail_0 {k a : Int32} (h : s.2.2.2.1 = 0) : rFail k a s = (s.1, s.2.1, s.2.2.1, k, a) := by unfold rFail; rw [if_pos h]
theorem tdg0_e : (tdg0 T len s).2.2.2.1 = s.2.2.2.1 := rfl
theorem tnm_G {lo hi : Int32} (hhi : hi < 1000) (he : s.2.2.2.1 = 0) : tnm T len lo hi s = (if skipP T len s.1 = digP T len (skipP T len s.1) then rFail 1 (nI (skipP T len s.1)) (tdg0 T len s) else if lo ≤ numG T len s.1 ∧ numG T len s.1 ≤ hi then tdg0 T len s else rFail 2 (nI (skipP T len s.1)) (tdg0 T len s)) := by
  unfold tnm tdg
  by_cases h : skipP T len s.1 = digP T len (skipP T len s.1)
  · rw [if_pos h, if_pos h]
    have h2 : (rFail 1 (nI (skipP T len s.1)) (tdg0 T len s)).2.2.2.1 ≠ 0 := by
      rw [rFail_0 (show (tdg0 T len s).2.2.2.1 = 0 from he)]; exact (by decide : (1 : Int32) ≠ 0)
    rw [rFail_e h2, ite_self]
  · rw [if_neg h, if_neg h]
    by_cases h3 : lo ≤ numG T len s.1 ∧ numG T len s.1 ≤ hi
    · rw [if_pos h3, if_neg ((num_rng s.1 hhi).mp h3)]
    · rw [if_neg h3, if_pos (Classical.byContradiction fun q => h3 ((num_rng s.1 hhi).mpr q))]
theorem tnv_G {lo hi : Int32} (hhi : hi < 1000) (he : s.2.2.2.1 = 0) : tnv T len lo hi s = (if skipP T len s.1 = digP T len (skipP T len s.1) then lo else if lo ≤ numG T len s.1 ∧ numG T len s.1 ≤ hi then numG T len s.1 else lo) := by
  unfold tnv
  rw [tnm_G hhi he]
  have h0 : (tdg0 T len s).2.2.2.1 = 0 := he
  by_cases h : skipP T len s.1 = digP T len (skipP T len s.1)
  · rw [if_pos h, if_pos h, rFail_0 h0, if_neg (show ¬ (1 : Int32) = 0 by decide)]
  · rw [if_neg h, if_neg h]
    by_cases h3 : lo ≤ numG T len s.1 ∧ numG T len s.1 ≤ hi
    · rw [if_pos h3, if_pos h3, if_pos h0, num_val s.1 hhi h3]
    · rw [if_neg h3, if_neg h3, rFail_0 h0, if_neg (show ¬ (2 : Int32) = 0 by decide)]
/-- a number is read where no error was -/
def nmS (T : Nat → Int32) (len : Nat) (lo hi : Int32) (s : RP) : RP := if s.2.2.2.1 = 0 then tnm T len lo hi s else s
def nmV (T : Nat → Int32) (len : Nat) (lo hi : Int32) (s : RP) : Int32 := if s.2.2.2.1 = 0 then tnv T len lo hi s else lo
def nmN (T : Nat → Int32) (len h : Nat) (s : RP) : Nat := (nmV T len 0 (nI h) s).toNatClampNeg
theorem nmS_le {lo hi : Int32} (hp : s.1 ≤ len) : (nmS T len lo hi s).1 ≤ len := by
  unfold nmS; split
  · exact tnm_le hp
  · exact hp
theorem nmN_ok {h : Nat} (hh : h < 2147483648) : nmV T len 0 (nI h) s = nI (nmN T len h s) ∧ nmN T len h s ≤ h := by
  unfold nmN nmV
  by_cases he : s.2.2.2.1 = 0
  · rw [if_pos he]
    have := tnN_ok T len hh s
    unfold tnN at this
    exact this
  · rw [if_neg he]
    exact ⟨rfl, Nat.zero_le _⟩
end
section
variable {l : Launch} {M : Mem} {s : RP} {len n : Nat} {T : Nat → Int32}
theorem r_numR {lo hi : Int32} (hS : Shp M) (hT : txt M T len) (hl : mI M 198 8 = nI len) (hL : len ≤ 600) (hp : s.1 ≤ len) (hhi : hi < 1000) : EvR l jX7_number 2 60 0 0 [.ref 198, .int lo, .int hi] (psM M s) (.inl (some (.int (nmV T len lo hi s)))) (psM M (nmS T len lo hi s)) := by
  unfold nmV nmS
  by_cases he : s.2.2.2.1 = 0
  · rw [if_pos he, if_pos he, tnm_G hhi he, tnv_G hhi he]
    exact r_numberG hS hT hl hL hp he
  · rw [if_neg he, if_neg he]
    exact r_number_e hS he
theorem r_readSlot (hS : Shp M) (hT : txt M T len) (hl : mI M 198 8 = nI len) (hL : len ≤ 600) (hp : s.1 ≤ len) : EvR l jX7_readSlot 3 90 0 0 [.ref 198] (psM M s) (.inl (some (.int (nI (nmN T len 5 s))))) (psM M (nmS T len 0 (nI 5) s)) := by
  have q1 := r_numR (l := l) (s := s) (lo := 0) (hi := nI 5) hS hT hl hL hp (by decide)
  rw [(nmN_ok (T := T) (len := len) (s := s) (h := 5) (by decide)).1] at q1
  have hS1 : Shp (psM M s) := hS
  generalize psM M (nmS T len 0 (nI 5) s) = M2 at *
  generalize psM M s = M1 at *
  refine ev_intro rfl (nb rfl) rfl ?_
  refine g_aload_n (pc := 0) dX7_readSlot_0 rfl trivial ?_
  refine g_iconst (pc := 1) (v := 0) dX7_readSlot_1 rfl ?_
  refine g_iconst (pc := 2) (v := 5) dX7_readSlot_2 rfl ?_
  refine g_invV_r (pc := 3) (As := [_, _]) dX7_readSlot_3 rfl (q1) rfl rfl (shK hS1 rfl) rfl rfl lk_X7_129 rfl (nb rfl) ⟨nb rfl, nb rfl⟩ rfl ?_
  refine g_ireturn (pc := 6) dX7_readSlot_6 rfl rfl ?_
  exact ⟨rfl, rfl⟩
theorem r_readNode (hS : Shp M) (hT : txt M T len) (hl : mI M 198 8 = nI len) (hL : len ≤ 600) (hp : s.1 ≤ len) (hz : mL M 200 0 = lN n) (hn : 1 ≤ n) (hn9 : n ≤ 32) : EvR l jX7_readNode 3 90 0 0 [.ref 198] (psM M s) (.inl (some (.int (nI (nmN T len (n - 1) s))))) (psM M (nmS T len 0 (nI (n - 1)) s)) := by
  have q1 := r_numR (l := l) (s := s) (lo := 0) (hi := nI (n - 1)) hS hT hl hL hp (nI_lt (b := 1000) (by omega) (by decide))
  rw [(nmN_ok (T := T) (len := len) (s := s) (h := n - 1) (by omega)).1] at q1
  have hS1 : Shp (psM M s) := hS
  have hz1 : mL (psM M s) 200 0 = lN n := hz
  generalize psM M (nmS T len 0 (nI (n - 1)) s) = M2 at *
  generalize psM M s = M1 at *
  refine ev_intro rfl (nb rfl) rfl ?_
  refine g_aload_n (pc := 0) dX7_readNode_0 rfl trivial ?_
  refine g_iconst (pc := 1) (v := 0) dX7_readNode_1 rfl ?_
  refine g_aload_n (pc := 2) dX7_readNode_2 rfl trivial ?_
  refine g_getf (pc := 3) dX7_readNode_3 fk_X7_13 (shK hS1 rfl) (fv_arr (shR hS1 rfl)) ?_
  refine g_iconst (pc := 6) (v := 0) dX7_readNode_6 rfl ?_
  refine g_laload (pc := 7) dX7_readNode_7 (shK hS1 rfl) rfl (by decide) (nl rfl) ?_
  rw [hz1]
  refine g_l2i (pc := 8) dX7_readNode_8 (lN_i n) ?_
  refine g_iconst (pc := 9) (v := 1) dX7_readNode_9 rfl ?_
  refine g_isub (pc := 10) dX7_readNode_10 ?_
  rw [nI_m1 hn]
  refine g_invV_r (pc := 11) (As := [_, _]) dX7_readNode_11 rfl (q1) rfl rfl (shK hS1 rfl) rfl rfl lk_X7_129 rfl (nb rfl) ⟨nb rfl, nb rfl⟩ rfl ?_
  refine g_ireturn (pc := 14) dX7_readNode_14 rfl rfl ?_
  exact ⟨rfl, rfl⟩
/-- an edge read: the rows, the numbers -/
def gE (T : Nat → Int32) (len n : Nat) (u : Nat → Int64) (s : RP) : (Nat → Int64) × RP :=
  (if (nmS T len 0 (nI (n - 1)) (nmS T len 0 (nI (n - 1)) (nmS T len 0 (nI 5) s))).2.2.2.1 = 0 then fun_set u (28 + 32 * nmN T len 5 s + nmN T len (n - 1) (nmS T len 0 (nI 5) s)) (u (28 + 32 * nmN T len 5 s + nmN T len (n - 1) (nmS T len 0 (nI 5) s)) ||| uL (bitI (nmN T len (n - 1) (nmS T len 0 (nI (n - 1)) (nmS T len 0 (nI 5) s))))) else u,
    nmS T len 0 (nI (n - 1)) (nmS T len 0 (nI (n - 1)) (nmS T len 0 (nI 5) s)))
theorem r_edgePart (hS : Shp M) (hT : txt M T len) (hl : mI M 198 8 = nI len) (hL : len ≤ 600) (hp : s.1 ≤ len) (hz : mL M 200 0 = lN n) (hn : 1 ≤ n) (hn9 : n ≤ 32) : EvR l jX7_edgePart 4 130 0 0 [.ref 198] (psM M s) (.inl none) (psM (sL M 200 (gE T len n (mL M 200) s).1) (gE T len n (mL M 200) s).2) := by
  have q1 := r_readSlot (l := l) (s := s) hS hT hl hL hp
  have ha := (nmN_ok (T := T) (len := len) (s := s) (h := 5) (by decide)).2
  unfold gE
  generalize nmN T len 5 s = a at *
  have hp1 := nmS_le (T := T) (lo := 0) (hi := nI 5) hp
  generalize nmS T len 0 (nI 5) s = s1 at *
  have q2 := r_readNode (l := l) (s := s1) hS hT hl hL hp1 hz hn hn9
  have hr := (nmN_ok (T := T) (len := len) (s := s1) (h := n - 1) (by omega)).2
  generalize nmN T len (n - 1) s1 = r at *
  have hp2 := nmS_le (T := T) (lo := 0) (hi := nI (n - 1)) hp1
  generalize nmS T len 0 (nI (n - 1)) s1 = s2 at *
  have q3 := r_readNode (l := l) (s := s2) hS hT hl hL hp2 hz hn hn9
  have hc := (nmN_ok (T := T) (len := len) (s := s2) (h := n - 1) (by omega)).2
  generalize nmN T len (n - 1) s2 = c at *
  generalize nmS T len 0 (nI (n - 1)) s2 = s3 at *
  have h11 : mI (psM M s3) 198 11 = s3.2.2.2.1 := ps_11
  have hS0 : Shp (psM M s) := hS
  have hS1 : Shp (psM M s1) := hS
  have hS2 : Shp (psM M s2) := hS
  have hS3 : Shp (psM M s3) := hS
  have eu : mL (psM M s3) 200 = mL M 200 := rfl
  have eP : ∀ w, sL (psM M s3) 200 w = psM (sL M 200 w) s3 := fun w => ps_sL
  refine ev_intro rfl (nb rfl) rfl ?_
  by_cases he : s3.2.2.2.1 = 0
  · rw [if_pos he]
    simp only
    rw [← eP, ← eu]
    generalize psM M s3 = M3 at *
    generalize psM M s2 = M2 at *
    generalize psM M s1 = M1 at *
    generalize psM M s = M0 at *
    refine g_aload_n (pc := 0) dX7_edgePart_0 rfl trivial ?_
    refine g_invV_r (pc := 1) (As := []) dX7_edgePart_1 rfl (q1) rfl rfl (shK hS0 rfl) rfl rfl lk_X7_140 rfl (nb rfl) ⟨nb rfl, nb rfl⟩ rfl ?_
    refine g_istore_n (pc := 4) (lv' := [(0, _), (1, _)]) dX7_edgePart_4 (nl rfl) rfl ?_
    refine g_aload_n (pc := 5) dX7_edgePart_5 rfl trivial ?_
    refine g_invV_r (pc := 6) (As := []) dX7_edgePart_6 rfl (q2) rfl rfl (shK hS1 rfl) rfl rfl lk_X7_143 rfl (nb rfl) ⟨nb rfl, nb rfl⟩ rfl ?_
    refine g_istore_n (pc := 9) (lv' := [(0, _), (1, _), (2, _)]) dX7_edgePart_9 (nl rfl) rfl ?_
    refine g_aload_n (pc := 10) dX7_edgePart_10 rfl trivial ?_
    refine g_invV_r (pc := 11) (As := []) dX7_edgePart_11 rfl (q3) rfl rfl (shK hS2 rfl) rfl rfl lk_X7_143 rfl (nb rfl) ⟨nb rfl, nb rfl⟩ rfl ?_
    refine g_istore_n (pc := 14) (lv' := [(0, _), (1, _), (2, _), (3, _)]) dX7_edgePart_14 (nl rfl) rfl ?_
    refine g_aload_n (pc := 15) dX7_edgePart_15 rfl trivial ?_
    refine g_getf (pc := 16) (v := .int _) dX7_edgePart_16 fk_X7_93 (shK hS3 rfl) (fun _ => congrArg Value.int (h11)) ?_
    refine g_if_ne (pc := 19) (tgt := 42) dX7_edgePart_19 rfl (fun h19 => absurd h19 ((fun z => z he))) (fun _ => ?_)
    refine g_aload_n (pc := 22) dX7_edgePart_22 rfl trivial ?_
    refine g_getf (pc := 23) dX7_edgePart_23 fk_X7_13 (shK hS3 rfl) (fv_arr (shR hS3 rfl)) ?_
    refine g_bipush (pc := 26) (v := 28) dX7_edgePart_26 rfl ?_
    refine g_bipush (pc := 28) (v := 32) dX7_edgePart_28 rfl ?_
    refine g_iload_n (pc := 30) dX7_edgePart_30 rfl ?_
    refine g_imul (pc := 31) dX7_edgePart_31 ?_
    refine g_iadd (pc := 32) dX7_edgePart_32 ?_
    refine g_iload_n (pc := 33) dX7_edgePart_33 rfl ?_
    refine g_iadd (pc := 34) dX7_edgePart_34 ?_
    rw [ixR]
    refine g_dup2_11 (pc := 35) dX7_edgePart_35 rfl rfl ?_
    refine g_laload (pc := 36) dX7_edgePart_36 (shK hS3 rfl) rfl (show 28 + 32 * a + r < 220 by omega) (nl rfl) ?_
    refine g_lconst (pc := 37) (v := 1) dX7_edgePart_37 rfl ?_
    refine g_iload_n (pc := 38) dX7_edgePart_38 rfl ?_
    refine g_lshl (pc := 39) dX7_edgePart_39 rfl ?_
    rw [sh_bit c (by omega)]
    refine g_lor (pc := 40) dX7_edgePart_40 ?_
    refine g_lastore (pc := 41) dX7_edgePart_41 (shK hS3 rfl) rfl (show 28 + 32 * a + r < 220 by omega) (nl rfl) ?_
    refine g_return (pc := 42) dX7_edgePart_42 rfl ?_
    exact ⟨rfl, rfl⟩
  · rw [if_neg he]
    simp only
    have e9 : psM (sL M 200 (mL M 200)) s3 = psM M s3 := by rw [sL_id]
    rw [e9]
    generalize psM M s3 = M3 at *
    generalize psM M s2 = M2 at *
    generalize psM M s1 = M1 at *
    generalize psM M s = M0 at *
    refine g_aload_n (pc := 0) dX7_edgePart_0 rfl trivial ?_
    refine g_invV_r (pc := 1) (As := []) dX7_edgePart_1 rfl (q1) rfl rfl (shK hS0 rfl) rfl rfl lk_X7_140 rfl (nb rfl) ⟨nb rfl, nb rfl⟩ rfl ?_
    refine g_istore_n (pc := 4) (lv' := [(0, _), (1, _)]) dX7_edgePart_4 (nl rfl) rfl ?_
    refine g_aload_n (pc := 5) dX7_edgePart_5 rfl trivial ?_
    refine g_invV_r (pc := 6) (As := []) dX7_edgePart_6 rfl (q2) rfl rfl (shK hS1 rfl) rfl rfl lk_X7_143 rfl (nb rfl) ⟨nb rfl, nb rfl⟩ rfl ?_
    refine g_istore_n (pc := 9) (lv' := [(0, _), (1, _), (2, _)]) dX7_edgePart_9 (nl rfl) rfl ?_
    refine g_aload_n (pc := 10) dX7_edgePart_10 rfl trivial ?_
    refine g_invV_r (pc := 11) (As := []) dX7_edgePart_11 rfl (q3) rfl rfl (shK hS2 rfl) rfl rfl lk_X7_143 rfl (nb rfl) ⟨nb rfl, nb rfl⟩ rfl ?_
    refine g_istore_n (pc := 14) (lv' := [(0, _), (1, _), (2, _), (3, _)]) dX7_edgePart_14 (nl rfl) rfl ?_
    refine g_aload_n (pc := 15) dX7_edgePart_15 rfl trivial ?_
    refine g_getf (pc := 16) (v := .int _) dX7_edgePart_16 fk_X7_93 (shK hS3 rfl) (fun _ => congrArg Value.int (h11)) ?_
    refine g_if_ne (pc := 19) (tgt := 42) dX7_edgePart_19 rfl (fun _ => ?_) (fun h19 => absurd (he) h19)
    refine g_return (pc := 42) dX7_edgePart_42 rfl ?_
    exact ⟨rfl, rfl⟩
def gK (T : Nat → Int32) (len : Nat) (u : Nat → Int64) (s : RP) : (Nat → Int64) × RP :=
  (fun_set u (4 + nmN T len 5 s) 1, if (nmS T len 0 (nI 5) s).2.2.2.1 = 0 ∧ u (4 + nmN T len 5 s) = 1 then rFail 3 (nmS T len 0 (nI 5) s).2.1 (nmS T len 0 (nI 5) s) else nmS T len 0 (nI 5) s)
theorem r_keepPart (hS : Shp M) (hT : txt M T len) (hl : mI M 198 8 = nI len) (hL : len ≤ 600) (hp : s.1 ≤ len) : EvR l jX7_keepPart 4 130 0 0 [.ref 198] (psM M s) (.inl none) (psM (sL M 200 (gK T len (mL M 200) s).1) (gK T len (mL M 200) s).2) := by
  have q1 := r_readSlot (l := l) (s := s) hS hT hl hL hp
  have ha := (nmN_ok (T := T) (len := len) (s := s) (h := 5) (by decide)).2
  unfold gK
  generalize nmN T len 5 s = a at *
  generalize nmS T len 0 (nI 5) s = s1 at *
  have i4 : 4 + nI a = nI (4 + a) := nI_add 4 a
  have h11 : mI (psM M s1) 198 11 = s1.2.2.2.1 := ps_11
  have hS0 : Shp (psM M s) := hS
  have hS1 : Shp (psM M s1) := hS
  have qf := r_fails (l := l) (M := M) (s := s1) (k := 3) hS
  have eu : mL (psM M s1) 200 = mL M 200 := rfl
  have hS2 : Shp (psM M (rFail 3 s1.2.1 s1)) := hS
  have eP : ∀ w t, psM (sL M 200 w) t = sL (psM M t) 200 w := fun w t => ps_sL.symm
  have eu2 : ∀ t, mL M 200 = mL (psM M t) 200 := fun t => rfl
  refine ev_intro rfl (nb rfl) rfl ?_
  simp only
  by_cases he : s1.2.2.2.1 = 0
  · by_cases h1 : mL M 200 (4 + a) = 1
    · rw [if_pos ⟨he, h1⟩, eP]
      rw [show fun_set (mL M 200) (4 + a) 1 = fun_set (mL (psM M (rFail 3 s1.2.1 s1)) 200) (4 + a) 1 from rfl]
      have h1' : mL (psM M s1) 200 (4 + a) = 1 := h1
      generalize psM M (rFail 3 s1.2.1 s1) = M2 at *
      generalize psM M s1 = M1 at *
      generalize psM M s = M0 at *
      refine g_aload_n (pc := 0) dX7_keepPart_0 rfl trivial ?_
      refine g_invV_r (pc := 1) (As := []) dX7_keepPart_1 rfl (q1) rfl rfl (shK hS0 rfl) rfl rfl lk_X7_140 rfl (nb rfl) ⟨nb rfl, nb rfl⟩ rfl ?_
      refine g_istore_n (pc := 4) (lv' := [(0, _), (1, _)]) dX7_keepPart_4 (nl rfl) rfl ?_
      refine g_aload_n (pc := 5) dX7_keepPart_5 rfl trivial ?_
      refine g_getf (pc := 6) (v := .int _) dX7_keepPart_6 fk_X7_93 (shK hS1 rfl) (fun _ => congrArg Value.int (h11)) ?_
      refine g_if_ne (pc := 9) (tgt := 30) dX7_keepPart_9 rfl (fun h9 => absurd h9 ((fun z => z he))) (fun _ => ?_)
      refine g_aload_n (pc := 12) dX7_keepPart_12 rfl trivial ?_
      refine g_getf (pc := 13) dX7_keepPart_13 fk_X7_13 (shK hS1 rfl) (fv_arr (shR hS1 rfl)) ?_
      refine g_iconst (pc := 16) (v := 4) dX7_keepPart_16 rfl ?_
      refine g_iload_n (pc := 17) dX7_keepPart_17 rfl ?_
      refine g_iadd (pc := 18) dX7_keepPart_18 ?_
      rw [i4]
      refine g_laload (pc := 19) dX7_keepPart_19 (shK hS1 rfl) rfl (show 4 + a < 220 by omega) (nl rfl) ?_
      rw [h1']
      refine g_lconst (pc := 20) (v := 1) dX7_keepPart_20 rfl ?_
      refine g_lcmp (pc := 21) dX7_keepPart_21 ?_
      refine g_if_ne (pc := 22) (tgt := 30) dX7_keepPart_22 rfl (fun h22 => absurd h22 ((by decide))) (fun _ => ?_)
      refine g_aload_n (pc := 25) dX7_keepPart_25 rfl trivial ?_
      refine g_iconst (pc := 26) (v := 3) dX7_keepPart_26 rfl ?_
      refine g_invV_r (pc := 27) (As := [_]) dX7_keepPart_27 rfl (qf) rfl rfl (shK hS1 rfl) rfl rfl lk_X7_118 rfl (nb rfl) ⟨nb rfl, nb rfl⟩ rfl ?_
      refine g_aload_n (pc := 30) dX7_keepPart_30 rfl trivial ?_
      refine g_getf (pc := 31) dX7_keepPart_31 fk_X7_13 (shK hS2 rfl) (fv_arr (shR hS2 rfl)) ?_
      refine g_iconst (pc := 34) (v := 4) dX7_keepPart_34 rfl ?_
      refine g_iload_n (pc := 35) dX7_keepPart_35 rfl ?_
      refine g_iadd (pc := 36) dX7_keepPart_36 ?_
      rw [i4]
      refine g_lconst (pc := 37) (v := 1) dX7_keepPart_37 rfl ?_
      refine g_lastore (pc := 38) dX7_keepPart_38 (shK hS2 rfl) rfl (show 4 + a < 220 by omega) (nl rfl) ?_
      refine g_return (pc := 39) dX7_keepPart_39 rfl ?_
      exact ⟨rfl, rfl⟩
    · rw [if_neg (fun z => h1 z.2), eP]
      rw [show fun_set (mL M 200) (4 + a) 1 = fun_set (mL (psM M s1) 200) (4 + a) 1 from rfl]
      have h1' : ¬ mL (psM M s1) 200 (4 + a) = 1 := h1
      generalize psM M s1 = M1 at *
      generalize psM M s = M0 at *
      refine g_aload_n (pc := 0) dX7_keepPart_0 rfl trivial ?_
      refine g_invV_r (pc := 1) (As := []) dX7_keepPart_1 rfl (q1) rfl rfl (shK hS0 rfl) rfl rfl lk_X7_140 rfl (nb rfl) ⟨nb rfl, nb rfl⟩ rfl ?_
      refine g_istore_n (pc := 4) (lv' := [(0, _), (1, _)]) dX7_keepPart_4 (nl rfl) rfl ?_
      refine g_aload_n (pc := 5) dX7_keepPart_5 rfl trivial ?_
      refine g_getf (pc := 6) (v := .int _) dX7_keepPart_6 fk_X7_93 (shK hS1 rfl) (fun _ => congrArg Value.int (h11)) ?_
      refine g_if_ne (pc := 9) (tgt := 30) dX7_keepPart_9 rfl (fun h9 => absurd h9 ((fun z => z he))) (fun _ => ?_)
      refine g_aload_n (pc := 12) dX7_keepPart_12 rfl trivial ?_
      refine g_getf (pc := 13) dX7_keepPart_13 fk_X7_13 (shK hS1 rfl) (fv_arr (shR hS1 rfl)) ?_
      refine g_iconst (pc := 16) (v := 4) dX7_keepPart_16 rfl ?_
      refine g_iload_n (pc := 17) dX7_keepPart_17 rfl ?_
      refine g_iadd (pc := 18) dX7_keepPart_18 ?_
      rw [i4]
      refine g_laload (pc := 19) dX7_keepPart_19 (shK hS1 rfl) rfl (show 4 + a < 220 by omega) (nl rfl) ?_
      refine g_lconst (pc := 20) (v := 1) dX7_keepPart_20 rfl ?_
      refine g_lcmp (pc := 21) dX7_keepPart_21 ?_
      refine g_if_ne (pc := 22) (tgt := 30) dX7_keepPart_22 rfl (fun _ => ?_) (fun h22 => absurd ((fun z => h1' ((lg_cmp_eq _ _).mp z))) h22)
      refine g_aload_n (pc := 30) dX7_keepPart_30 rfl trivial ?_
      refine g_getf (pc := 31) dX7_keepPart_31 fk_X7_13 (shK hS1 rfl) (fv_arr (shR hS1 rfl)) ?_
      refine g_iconst (pc := 34) (v := 4) dX7_keepPart_34 rfl ?_
      refine g_iload_n (pc := 35) dX7_keepPart_35 rfl ?_
      refine g_iadd (pc := 36) dX7_keepPart_36 ?_
      rw [i4]
      refine g_lconst (pc := 37) (v := 1) dX7_keepPart_37 rfl ?_
      refine g_lastore (pc := 38) dX7_keepPart_38 (shK hS1 rfl) rfl (show 4 + a < 220 by omega) (nl rfl) ?_
      refine g_return (pc := 39) dX7_keepPart_39 rfl ?_
      exact ⟨rfl, rfl⟩
  · rw [if_neg (fun z => he z.1), eP]
    rw [show fun_set (mL M 200) (4 + a) 1 = fun_set (mL (psM M s1) 200) (4 + a) 1 from rfl]
    generalize psM M s1 = M1 at *
    generalize psM M s = M0 at *
    refine g_aload_n (pc := 0) dX7_keepPart_0 rfl trivial ?_
    refine g_invV_r (pc := 1) (As := []) dX7_keepPart_1 rfl (q1) rfl rfl (shK hS0 rfl) rfl rfl lk_X7_140 rfl (nb rfl) ⟨nb rfl, nb rfl⟩ rfl ?_
    refine g_istore_n (pc := 4) (lv' := [(0, _), (1, _)]) dX7_keepPart_4 (nl rfl) rfl ?_
    refine g_aload_n (pc := 5) dX7_keepPart_5 rfl trivial ?_
    refine g_getf (pc := 6) (v := .int _) dX7_keepPart_6 fk_X7_93 (shK hS1 rfl) (fun _ => congrArg Value.int (h11)) ?_
    refine g_if_ne (pc := 9) (tgt := 30) dX7_keepPart_9 rfl (fun _ => ?_) (fun h9 => absurd (he) h9)
    refine g_aload_n (pc := 30) dX7_keepPart_30 rfl trivial ?_
    refine g_getf (pc := 31) dX7_keepPart_31 fk_X7_13 (shK hS1 rfl) (fv_arr (shR hS1 rfl)) ?_
    refine g_iconst (pc := 34) (v := 4) dX7_keepPart_34 rfl ?_
    refine g_iload_n (pc := 35) dX7_keepPart_35 rfl ?_
    refine g_iadd (pc := 36) dX7_keepPart_36 ?_
    rw [i4]
    refine g_lconst (pc := 37) (v := 1) dX7_keepPart_37 rfl ?_
    refine g_lastore (pc := 38) dX7_keepPart_38 (shK hS1 rfl) rfl (show 4 + a < 220 by omega) (nl rfl) ?_
    refine g_return (pc := 39) dX7_keepPart_39 rfl ?_
    exact ⟨rfl, rfl⟩
end

