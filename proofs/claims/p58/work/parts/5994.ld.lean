/-! rows and kinds of both readers -/
section
variable {M : Mem} {s t : RP} {T : Nat → Int32} {len n : Nat} {u : Nat → Int64}
theorem rb_z {b : Nat} {c : Nat} : ∀ k, k ≤ 32 → k ≤ c → hb (rbB T b k) c = false
  | 0, _, _ => hb_0 c
  | k + 1, hk, hc => by
    unfold rbB
    rw [hb_or, rb_z k (by omega) (by omega)]
    split
    · rw [hb_bitI (by omega), decide_eq_false (by omega)]
      rfl
    · rw [hb_0]
      rfl
theorem dig_b {b : Nat} : ¬ (b < len ∧ isDi (T b) = true) ↔ b = digP T len b := by
  unfold digP
  constructor
  · intro h
    by_cases q : b < len
    · obtain ⟨d, hd⟩ : ∃ d, len - b = d + 1 := ⟨len - b - 1, by omega⟩
      rw [hd]
      unfold scan
      rw [if_neg (fun z => h ⟨q, z⟩)]
    · rw [show len - b = 0 by omega]
      rfl
  · intro h q
    obtain ⟨d, hd⟩ : ∃ d, len - b = d + 1 := ⟨len - b - 1, by omega⟩
    rw [hd] at h
    unfold scan at h
    rw [if_pos q.2] at h
    have := (scan_le isDi T d (b + 1)).1
    omega
/-- the digits of a row -/
theorem tb_R {a r : Nat} (hn1 : 1 ≤ n) (hn : n ≤ 32) (h : EqS s t) (e : s.2.2.2.1 = 0) : EqS (tbs T len n s).1 (gRb T len n a r u t (skipP T len t.1)).2 ∧ ((tbs T len n s).1.2.2.2.1 = 0 → (gRb T len n a r u t (skipP T len t.1)).1 = fun_set u (28 + 32 * a + r) (uL (tbs T len n s).2) ∧ ∀ c, n ≤ c → hb (tbs T len n s).2 c = false) := by
  obtain ⟨a1, a2, a3, a4⟩ := h
  have e2 : t.2.2.2.1 = 0 := by rw [← a2]; exact e
  have hp := (a4 e).1
  unfold tbs gRb
  rw [hp]
  generalize hb9 : skipP T len t.1 = b
  have h0 : EqS (digP T len b, nI b, s.2.2) (digP T len b, nI b, t.2.2) := ⟨a1, a2, fun q => absurd e q, fun _ => ⟨rfl, rfl⟩⟩
  have eT0 : tdg0 T len s = (digP T len b, nI b, s.2.2) := by
    unfold tdg0
    rw [hp, hb9]
  have eT : tdg T len s = if b = digP T len b then rFail 1 (nI b) (digP T len b, nI b, s.2.2) else (digP T len b, nI b, s.2.2) := by
    unfold tdg
    rw [eT0, hp, hb9]
  rw [eT]
  have g1 : ∀ k p, rFail k (nI b) (p, nI b, t.2.2) = (p, nI b, t.2.2.1, k, nI b) := fun k p => by
    unfold rFail
    rw [if_pos (show (p, nI b, t.2.2).2.2.2.1 = 0 from e2)]
  have g2 : ∀ k p, rFail k (nI b) (p, nI b, s.2.2) = (p, nI b, s.2.2.1, k, nI b) := fun k p => by
    unfold rFail
    rw [if_pos (show (p, nI b, s.2.2).2.2.2.1 = 0 from e)]
  by_cases q : b = digP T len b
  · have q2 : ¬ (b < len ∧ isDi (T b) = true) := dig_b.mpr q
    rw [if_pos q, if_neg q2, g1, g2, if_neg (show ¬ digP T len b - b = n by omega)]
    have g3 : rFail 2 (nI b) (digP T len b, nI b, s.2.2.1, 1, nI b) = (digP T len b, nI b, s.2.2.1, 1, nI b) := by
      unfold rFail
      exact if_neg (show ¬ (1 : Int32) = 0 by decide)
    show EqS (rFail 2 (nI b) (digP T len b, nI b, s.2.2.1, 1, nI b)) (b, nI b, t.2.2.1, 1, nI b) ∧ ((rFail 2 (nI b) (digP T len b, nI b, s.2.2.1, 1, nI b)).2.2.2.1 = 0 → _)
    rw [g3]
    exact ⟨⟨a1, rfl, fun _ => rfl, fun z => absurd z (show ¬ (1 : Int32) = 0 by decide)⟩, fun z => absurd z (show ¬ (1 : Int32) = 0 by decide)⟩
  · have q2 : b < len ∧ isDi (T b) = true := Decidable.byContradiction (fun z => q (dig_b.mp z))
    rw [if_neg q, if_pos q2]
    by_cases q3 : digP T len b - b = n
    · rw [if_pos q3]
      obtain ⟨t1, t2⟩ := tb_ok (T := T) (b := b) (a := nI b) (s := (digP T len b, nI b, s.2.2)) e n hn
      rw [q3]
      by_cases q4 : isB T b n = true
      · rw [t1 q4, if_pos ⟨q4, rfl⟩]
        exact ⟨h0, fun _ => ⟨rfl, fun c hc => rb_z n hn hc⟩⟩
      · rw [if_neg (fun z => q4 z.1), t2 (Bool.eq_false_iff.mpr q4), g1, g2]
        exact ⟨⟨a1, rfl, fun _ => rfl, fun z => absurd z (show ¬ (2 : Int32) = 0 by decide)⟩, fun z => absurd z (show ¬ (2 : Int32) = 0 by decide)⟩
    · rw [if_neg q3, if_neg (fun z => q3 z.2), g1, g2]
      exact ⟨⟨a1, rfl, fun _ => rfl, fun z => absurd z (show ¬ (2 : Int32) = 0 by decide)⟩, fun z => absurd z (show ¬ (2 : Int32) = 0 by decide)⟩
theorem st_rr (hn1 : 1 ≤ n) (hn : n ≤ 32) (h : EqS s t) (hD : s.2.2.2.1 = 0 → SR M 17 u n) : StR len n (rrM M len n s, rrS (mI M 2) len n s) (gR (mI M 2) len n u t) := by
  have hn2 : n - 1 < 2147483648 := by omega
  have hn3 : n - 1 < n := by omega
  have h1 := eq_tnm (T := mI M 2) (len := len) (lo := 0) (hi := nI 5) h
  have h2 := eq_tnm (T := mI M 2) (len := len) (lo := 0) (hi := nI (n - 1)) h1
  have q1 := eq_tnN (T := mI M 2) (len := len) (k := 5) h
  have q2 := eq_tnN (T := mI M 2) (len := len) (k := n - 1) h1
  have l1 := Nat.lt_succ_of_le (tnN_ok (mI M 2) len (h := 5) (by decide) s).2
  have l2 := Nat.lt_of_le_of_lt (tnN_ok (mI M 2) len (h := n - 1) hn2 (tnm (mI M 2) len 0 (nI 5) s)).2 hn3
  have hk : KpS s (tnm (mI M 2) len 0 (nI (n - 1)) (tnm (mI M 2) len 0 (nI 5) s)) := KpS.tr (t := tnm (mI M 2) len 0 (nI 5) s) kp_tnm kp_tnm
  unfold StR rrM rrS gR
  rw [← q1, ← q2]
  clear q1 q2 h1
  generalize tnN (mI M 2) len 5 s = a at *
  generalize tnN (mI M 2) len (n - 1) (tnm (mI M 2) len 0 (nI 5) s) = r at *
  generalize tnm (mI M 2) len 0 (nI (n - 1)) (tnm (mI M 2) len 0 (nI 5) s) = s2 at *
  generalize nmS (mI M 2) len 0 (nI (n - 1)) (nmS (mI M 2) len 0 (nI 5) t) = t2 at *
  by_cases e : s2.2.2.2.1 = 0
  · rw [if_pos (h2.e0.mp e)]
    obtain ⟨b1', b2⟩ := tb_R (T := mI M 2) (len := len) (u := u) (a := a) (r := r) hn1 hn h2 e
    refine ⟨b1', fun e9 => ?_⟩
    obtain ⟨c1, c2⟩ := b2 e9
    show SR (sI M (20 + 2 * a) (fun_set (mI M (20 + 2 * a)) r (tbs (mI M 2) len n s2).2)) 17 (gRb (mI M 2) len n a r u t2 (skipP (mI M 2) len t2.1)).1 n
    rw [c1]
    have h9 := SR_setb (y := (tbs (mI M 2) len n s2).2) l1 l2 hn (hD (kp_e hk e)) c2
    rw [show 17 + 3 + 2 * a = 20 + 2 * a by omega] at h9
    exact h9
  · rw [if_neg (fun q => e (h2.e0.mpr q))]
    exact ⟨h2.kp kp_tbs e, fun q => absurd q (kp_tbs.e e)⟩
/-- kinds of rows -/
theorem kd_w : strW 17 = strW 4 ∧ strW 18 = strW 5 ∧ strW 19 = strW 6 ∧ strW 20 = strW 7 := by decide +kernel
theorem kd_V {b p i : Nat} : kdV T b p n i = if khF T b p = 4 then none else some (flF (khF T b p) n i) := by
  obtain ⟨k1, k2, k3, k4⟩ := kd_w
  unfold kdV khF
  rw [k1, k2, k3, k4]
  by_cases c1 : wdQ T b p (strW 4) = true
  · rw [if_pos c1, if_pos c1]
    rfl
  · rw [if_neg c1, if_neg c1]
    by_cases c2 : wdQ T b p (strW 5) = true
    · rw [if_pos c2, if_pos c2]
      rfl
    · rw [if_neg c2, if_neg c2]
      by_cases c3 : wdQ T b p (strW 6) = true
      · rw [if_pos c3, if_pos c3]
        rfl
      · rw [if_neg c3, if_neg c3]
        by_cases c4 : wdQ T b p (strW 7) = true
        · rw [if_pos c4, if_pos c4]
          rfl
        · rw [if_neg c4, if_neg c4]
          rfl
theorem kp_fi {b p : Nat} : ∀ k, KpS s (fiS T b p n s k)
  | 0 => fun _ => rfl
  | k + 1 => by
    unfold fiS kdS
    split
    · exact (kp_fi k).tr kp_fail
    · exact kp_fi k
theorem fail_2 {k a k' a' : Int32} (hk : k ≠ 0) : rFail k' a' (rFail k a s) = rFail k a s := by
  have h : ¬ (rFail k a s).2.2.2.1 = 0 := by
    unfold rFail
    by_cases e : s.2.2.2.1 = 0
    · rw [if_pos e]
      exact hk
    · rw [if_neg e]
      exact e
  generalize rFail k a s = z at *
  unfold rFail
  rw [if_neg h]
theorem fi_4 {b p : Nat} (h : khF T b p = 4) : ∀ k, fiS T b p n s (k + 1) = rFail 1 (nI b) s
  | 0 => by
    unfold fiS kdS
    rw [kd_V, if_pos h, if_pos rfl]
    rfl
  | k + 1 => by
    rw [fiS, fi_4 h k]
    unfold kdS
    rw [kd_V, if_pos h, if_pos rfl]
    exact fail_2 (by decide)
theorem fi_n {b p : Nat} (h : khF T b p ≠ 4) : ∀ k, fiS T b p n s k = s
  | 0 => rfl
  | k + 1 => by
    rw [fiS, fi_n h k]
    unfold kdS
    rw [kd_V, if_neg h, if_neg (fun q => by cases q)]
theorem fl_wf {k : Nat} (hn1 : 1 ≤ n) (hn : n ≤ 32) : wfr n (flF k n) := fun r hr c hc => by
  unfold flF
  split
  · rw [hb_bitI (by omega), decide_eq_false (by omega)]
  · split
    · rw [hb_lowM hn, decide_eq_false (by omega)]
    · split
      · split
        · rw [hb_bitI (by omega), decide_eq_false (by omega)]
        · rw [show (1 : Int32) = bitI 0 by decide +kernel, hb_bitI (by omega), decide_eq_false (by omega)]
      · rw [hb_lowM (by omega), decide_eq_false (by omega)]
end
