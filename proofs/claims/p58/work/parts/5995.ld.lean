/-! statements and the text of both readers -/
section
variable {M : Mem} {s t : RP} {T : Nat → Int32} {len n : Nat} {u : Nat → Int64}
theorem st_fi (hn1 : 1 ≤ n) (hn : n ≤ 32) (h : EqS s t) (hD : s.2.2.2.1 = 0 → SR M 17 u n) : StR len n (rfM M len n s, rfS (mI M 2) len n s) (gF (mI M 2) len n u t) := by
  obtain ⟨n1, rfl⟩ : ∃ n1, n = n1 + 1 := ⟨n - 1, by omega⟩
  have h1 := eq_tnm (T := mI M 2) (len := len) (lo := 0) (hi := nI 5) h
  have q1 := eq_tnN (T := mI M 2) (len := len) (k := 5) h
  have l1 := Nat.lt_succ_of_le (tnN_ok (mI M 2) len (h := 5) (by decide) s).2
  have hk : KpS s (tnm (mI M 2) len 0 (nI 5) s) := kp_tnm
  unfold StR rfM rfS gF
  rw [← q1]
  clear q1
  generalize tnN (mI M 2) len 5 s = a at *
  generalize tnm (mI M 2) len 0 (nI 5) s = s1 at *
  generalize nmS (mI M 2) len 0 (nI 5) t = t1 at *
  have h2 := eq_twd (T := mI M 2) (len := len) h1
  have hk2 : KpS s1 (twd (mI M 2) len s1) := kp_twd
  by_cases e : s1.2.2.2.1 = 0
  · have hp := (h1.2.2.2 e).1
    have hw : (twd (mI M 2) len s1).1 = (twd (mI M 2) len t1).1 := by
      unfold twd
      rw [hp]
    have e2 : (twd (mI M 2) len t1).2.2.2.1 = 0 := (h1.e0.mp e)
    rw [hp, hw]
    generalize skipP (mI M 2) len t1.1 = b at *
    generalize hp9 : (twd (mI M 2) len t1).1 = p9 at *
    by_cases q : khF (mI M 2) b p9 = 4
    · rw [if_pos q, fi_4 q n1]
      have h3 := eq_fail (k := 1) (a := nI b) h2
      refine ⟨h3, fun z => absurd z ?_⟩
      show ¬ (rFail 1 (nI b) (twd (mI M 2) len s1)).2.2.2.1 = 0
      unfold rFail
      rw [if_pos (show (twd (mI M 2) len s1).2.2.2.1 = 0 from e)]
      show ¬ (1 : Int32) = 0
      decide
    · rw [if_neg q, fi_n q, if_pos e2]
      refine ⟨h2, fun _ => ?_⟩
      have h9 := SR_rowb (f := flF (khF (mI M 2) b p9) (n1 + 1)) (g := wr (mI M (20 + 2 * a)) (kdG (mI M 2) b p9 (n1 + 1)) (n1 + 1)) l1 (hD (kp_e hk e)) (fun r hr => by
        rw [wr_lt hr]
        unfold kdG
        rw [kd_V, if_neg q]
        rfl) (fl_wf hn1 hn)
      rw [show 17 + 3 + 2 * a = 20 + 2 * a by omega] at h9
      exact h9
  · have h4 : KpS s1 (fiS (mI M 2) (skipP (mI M 2) len s1.1) (twd (mI M 2) len s1).1 (n1 + 1) (twd (mI M 2) len s1) (n1 + 1)) := hk2.tr (kp_fi _)
    have e1 : ¬ t1.2.2.2.1 = 0 := fun q => e (h1.e0.mpr q)
    have e2 : ¬ (twd (mI M 2) len t1).2.2.2.1 = 0 := e1
    have h5 := h1.kp h4 e
    have h6 : EqS (fiS (mI M 2) (skipP (mI M 2) len s1.1) (twd (mI M 2) len s1).1 (n1 + 1) (twd (mI M 2) len s1) (n1 + 1)) (twd (mI M 2) len t1) := by
      obtain ⟨a1, a2, a3, a4⟩ := h5
      exact ⟨a1, a2, a3, fun q => absurd q (h4.e e)⟩
    refine ⟨?_, fun q => absurd q (h4.e e)⟩
    have h7 : rFail 1 (nI (skipP (mI M 2) len t1.1)) (twd (mI M 2) len t1) = twd (mI M 2) len t1 := by
      unfold rFail
      rw [if_neg e2]
    rw [h7, if_neg e2, ite_self]
    exact h6
theorem kd_w2 : strW 14 = strW 1 ∧ strW 15 = strW 2 ∧ strW 16 = strW 3 ∧ strW 21 = strW 8 ∧ strW 22 = strW 9 ∧ strW 13 = strW 0 := by decide +kernel
/-- the readers' numbers but for the start of what is read -/
def EqW (s t : RP) : Prop := s.2.2.1 = t.2.2.1 ∧ s.2.2.2.1 = t.2.2.2.1 ∧ (s.2.2.2.1 ≠ 0 → s.2.2.2.2 = t.2.2.2.2) ∧ (s.2.2.2.1 = 0 → s.1 = t.1)
theorem EqS.w (h : EqS s t) : EqW s t := ⟨h.1, h.2.1, h.2.2.1, fun e => (h.2.2.2 e).1⟩
theorem eq_twd' (h : EqW s t) : EqS (twd T len s) (twd T len t) := by
  obtain ⟨a1, a2, a3, a4⟩ := h
  refine ⟨a1, a2, a3, fun e => ?_⟩
  have := a4 e
  unfold twd
  rw [this]
  exact ⟨rfl, rfl⟩
theorem st_all (hn1 : 1 ≤ n) (hn : n ≤ 32) (h : EqW s t) (e : s.2.2.2.1 = 0) (hD : SR M 17 u n) : StR len n (rsR M len n s) (gS (mI M 2) len n u t) := by
  obtain ⟨k1, k2, k3, k4, k5, -⟩ := kd_w2
  have h2 := eq_twd' (T := mI M 2) (len := len) h
  have hp := h.2.2.2 e
  have hw : (twd (mI M 2) len s).1 = (twd (mI M 2) len t).1 := by
    unfold twd
    rw [hp]
  unfold rsR gS
  rw [k1, k2, k3, k4, k5, hp, hw]
  generalize twd (mI M 2) len s = s1 at *
  generalize skipP (mI M 2) len t.1 = b at *
  generalize hp9 : (twd (mI M 2) len t).1 = p9 at *
  generalize twd (mI M 2) len t = t1 at *
  have hD' : s1.2.2.2.1 = 0 → SR M 17 u n := fun _ => hD
  by_cases c1 : wdQ (mI M 2) b p9 (strW 1) = true
  · rw [if_pos c1, if_pos c1]
    exact st_ed hn1 hn h2 hD'
  · rw [if_neg c1, if_neg c1]
    by_cases c2 : wdQ (mI M 2) b p9 (strW 2) = true
    · rw [if_pos c2, if_pos c2]
      exact st_rr hn1 hn h2 hD'
    · rw [if_neg c2, if_neg c2]
      by_cases c3 : wdQ (mI M 2) b p9 (strW 3) = true
      · rw [if_pos c3, if_pos c3]
        exact st_fi hn1 hn h2 hD'
      · rw [if_neg c3, if_neg c3]
        by_cases c4 : wdQ (mI M 2) b p9 (strW 8) = true
        · rw [if_pos c4, if_pos c4]
          exact st_kp h2 hD'
        · rw [if_neg c4, if_neg c4]
          by_cases c5 : wdQ (mI M 2) b p9 (strW 9) = true
          · rw [if_pos c5, if_pos c5]
            exact st_bl h2 hD'
          · rw [if_neg c5, if_neg c5]
            exact ⟨eq_fail h2, fun _ => hD⟩
/-- the ends of both readers -/
def EqE (s t : RP) : Prop := s.2.2.1 = t.2.2.1 ∧ s.2.2.2.1 = t.2.2.2.1 ∧ (s.2.2.2.1 ≠ 0 → s.2.2.2.2 = t.2.2.2.2)
theorem rsL_e : ∀ d, s.2.2.2.1 ≠ 0 → (rsL len n d M s).1 = M ∧ (rsL len n d M s).2.2.2 = s.2.2
  | 0, _ => by
    rw [rsL.eq_1]
    exact ⟨rfl, rfl⟩
  | d + 1, e => by
    rw [rsL.eq_2, decide_eq_false e, Bool.false_and, if_neg Bool.false_ne_true]
    exact ⟨rfl, rfl⟩
theorem mv_e (e : t.2.2.2.1 ≠ 0) : mvS T len t = t ∧ mvB T len t = false := by
  unfold mvS mvB
  rw [if_neg e, decide_eq_false e]
  exact ⟨rfl, rfl⟩
theorem gL_e : ∀ d, t.2.2.2.1 ≠ 0 → gL T len n d u t = (u, t)
  | 0, e => by rw [gL.eq_1, (mv_e e).1]
  | d + 1, e => by rw [gL.eq_2, (mv_e e).2, if_neg Bool.false_ne_true, (mv_e e).1]
theorem rs_loop (hn1 : 1 ≤ n) (hn : n ≤ 32) (hT : mI M 2 = T) : ∀ (d : Nat) (M1 : Mem) (u : Nat → Int64) (s t : RP), Shp M1 → mI M1 2 = T → EqW s t → t.1 ≤ len → (s.2.2.2.1 = 0 → len ≤ t.1 + d) → (s.2.2.2.1 = 0 → SR M1 17 u n) → EqE (rsL len n d M1 s).2 (gL T len n d u t).2 ∧ ((rsL len n d M1 s).2.2.2.2.1 = 0 → SR (rsL len n d M1 s).1 17 (gL T len n d u t).1 n)
  | d, M1, u, s, t, hS, hM, hW, hl, hd, hD => by
    by_cases e : s.2.2.2.1 = 0
    · have e2 : t.2.2.2.1 = 0 := by rw [← hW.2.1]; exact e
      have hp := hW.2.2.2 e
      cases d with
      | zero =>
        have h9 := hd e
        rw [rsL.eq_1, gL.eq_1]
        have hk : ¬ skipP T len t.1 < len := by
          have := (skipP_le (T := T) hl).1
          omega
        have hm : mvS T len t = nxS T len t := by
          unfold mvS
          rw [if_pos e2, if_neg hk]
        rw [hm]
        exact ⟨⟨hW.1, hW.2.1, hW.2.2.1⟩, fun _ => hD e⟩
      | succ d =>
        rw [rsL.eq_2, gL.eq_2, decide_eq_true e, Bool.true_and, hM]
        have hks : (skp T len s).1 = skipP T len t.1 := by
          unfold skp
          rw [hp]
        by_cases c1 : skipP T len t.1 < len
        · rw [hp, decide_eq_true c1, if_pos rfl]
          by_cases c2 : T (skipP T len t.1) = 59
          · have ht : tsc T len (skp T len s) = (skipP T len t.1 + 1, s.2.1, s.2.2.1 + 1, s.2.2.2) := by
              unfold tsc
              rw [if_pos (by rw [hks]; exact ⟨c1, c2⟩), hks]
              rfl
            have hm : mvS T len t = (skipP T len t.1 + 1, nI (skipP T len t.1), t.2.2.1 + 1, t.2.2.2) := by
              unfold mvS
              rw [if_pos e2, if_pos c1, if_pos c2]
            have hb9 : mvB T len t = true := by
              unfold mvB
              rw [decide_eq_true e2, decide_eq_true c1, decide_eq_true c2]
              rfl
            have hW2 : EqW (skipP T len t.1 + 1, s.2.1, s.2.2.1 + 1, s.2.2.2) (skipP T len t.1 + 1, nI (skipP T len t.1), t.2.2.1 + 1, t.2.2.2) := ⟨by rw [hW.1], hW.2.1, hW.2.2.1, fun _ => rfl⟩
            rw [hb9, if_pos rfl, ht, if_pos (show (skipP T len t.1 + 1, s.2.1, s.2.2.1 + 1, s.2.2.2).2.2.2.1 = 0 from e), hm]
            have hSt := st_all (M := M1) (len := len) (u := u) hn1 hn hW2 (show (skipP T len t.1 + 1, s.2.1, s.2.2.1 + 1, s.2.2.2).2.2.2.1 = 0 from e) (hD e)
            have hok := rsR_ok (M := M1) (n := n) (s := (skipP T len t.1 + 1, s.2.1, s.2.2.1 + 1, s.2.2.2)) (len := len) hS (show skipP T len t.1 + 1 ≤ len from c1)
            have hg := gS_ok (T := T) (len := len) (n := n) (u := u) (s := (skipP T len t.1 + 1, nI (skipP T len t.1), t.2.2.1 + 1, t.2.2.2)) (show skipP T len t.1 + 1 ≤ len from c1)
            rw [hM] at hSt
            have hsk := (skipP_le (T := T) hl).1
            have hg1 : skipP T len t.1 + 1 ≤ (gS T len n u (skipP T len t.1 + 1, nI (skipP T len t.1), t.2.2.1 + 1, t.2.2.2)).2.1 := hg.1
            have hd2 := hd e
            exact rs_loop hn1 hn hT d _ _ _ _ hok.1.1 ((hok.1.2.1 2 (Or.inl (by decide))).trans hM) hSt.1.w hg.2.1 (fun _ => by omega) hSt.2
          · have ht : tsc T len (skp T len s) = rFail 1 (nI (skipP T len t.1)) (skp T len s) := by
              unfold tsc
              rw [if_neg (by rw [hks]; exact fun q => c2 q.2), hks]
            have hm : mvS T len t = rFail 1 (nI (skipP T len t.1)) (nxS T len t) := by
              unfold mvS
              rw [if_pos e2, if_pos c1, if_neg c2]
            have hb9 : mvB T len t = false := by
              unfold mvB
              rw [decide_eq_false c2, Bool.and_false]
            have h7 : (tsc T len (skp T len s)).2.2 = (s.2.2.1, 1, nI (skipP T len t.1)) := by
              rw [ht]
              unfold rFail
              rw [if_pos (show (skp T len s).2.2.2.1 = 0 from e)]
              rfl
            have h8 : (mvS T len t).2.2 = (t.2.2.1, 1, nI (skipP T len t.1)) := by
              rw [hm]
              unfold rFail
              rw [if_pos (show (nxS T len t).2.2.2.1 = 0 from e2)]
              rfl
            have h9 : (tsc T len (skp T len s)).2.2.2.1 ≠ 0 := by
              rw [h7]
              show ¬ (1 : Int32) = 0
              decide
            rw [hb9, if_neg Bool.false_ne_true, if_neg h9]
            obtain ⟨g1, g2⟩ := rsL_e (M := M1) (n := n) (len := len) d h9
            have g3 : (rsL len n d M1 (tsc T len (skp T len s))).2.2.2 = (s.2.2.1, 1, nI (skipP T len t.1)) := g2.trans h7
            generalize rsL len n d M1 (tsc T len (skp T len s)) = A at *
            refine ⟨⟨by rw [g3, h8]; exact hW.1, by rw [g3, h8], fun _ => by rw [g3, h8]⟩, fun q => absurd q ?_⟩
            rw [g3]
            show ¬ (1 : Int32) = 0
            decide
        · rw [hp, decide_eq_false c1, if_neg Bool.false_ne_true]
          have hm : mvS T len t = nxS T len t := by
            unfold mvS
            rw [if_pos e2, if_neg c1]
          have hb9 : mvB T len t = false := by
            unfold mvB
            rw [decide_eq_false c1, Bool.and_false, Bool.false_and]
          rw [hb9, if_neg Bool.false_ne_true, hm]
          exact ⟨⟨hW.1, hW.2.1, hW.2.2.1⟩, fun _ => hD e⟩
    · have e2 : t.2.2.2.1 ≠ 0 := fun q => e (by rw [hW.2.1]; exact q)
      obtain ⟨g1, g2⟩ := rsL_e (M := M1) (n := n) (len := len) d e
      rw [gL_e d e2]
      generalize rsL len n d M1 s = A at *
      refine ⟨⟨by rw [g2]; exact hW.1, by rw [g2]; exact hW.2.1, fun _ => by rw [g2]; exact hW.2.2.1 e⟩, fun q => absurd q ?_⟩
      rw [g2]
      exact e
end
