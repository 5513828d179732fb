/-! the class's reader, statement by statement -/
section
variable {T : Nat → Int32} {len p a n : Nat} {s : RP} {M : Mem}
theorem lo_sp {v : Int32} (h : isLo v = true) : isSp v = false := by
  unfold isSp
  refine decide_eq_false (fun e => ?_)
  rw [e] at h
  exact absurd h (by decide)
theorem semi_0 (he : s.1 = p) (hp : p < len) (h : T p = 59) : skipP T len s.1 = p ∧ tsc T len (skp T len s) = (p + 1, s.2.1, s.2.2.1 + 1, s.2.2.2) := by
  have e1 : skipP T len s.1 = p := by rw [he]; exact skip_0 hp (by rw [h]; decide)
  refine ⟨e1, ?_⟩
  unfold tsc skp
  rw [e1]
  exact if_pos ⟨hp, h⟩
theorem semi_1 (he : s.1 = p) (hp : p + 1 < len) (h0 : T p = 32) (h : T (p + 1) = 59) : skipP T len s.1 = p + 1 ∧ tsc T len (skp T len s) = (p + 2, s.2.1, s.2.2.1 + 1, s.2.2.2) := by
  have e1 : skipP T len s.1 = p + 1 := by rw [he]; exact skip_1 hp h0 (by rw [h]; decide)
  refine ⟨e1, ?_⟩
  unfold tsc skp
  rw [e1]
  exact if_pos ⟨hp, h⟩
theorem twd_0 {w : List Int32} (he : s.1 = a) (hw : 0 < w.length) (hp : a + w.length ≤ len) (h : sg T a w) (hl : ∀ i, i < w.length → isLo (w.getD i 0) = true) (h1 : a + w.length < len → isLo (T (a + w.length)) = false) : skipP T len s.1 = a ∧ twd T len s = (a + w.length, nI a, s.2.2) := by
  have e0 : T a = w.getD 0 0 := h 0 hw
  have e1 : skipP T len s.1 = a := by rw [he]; exact skip_0 (by omega) (by rw [e0]; exact lo_sp (hl 0 hw))
  refine ⟨e1, ?_⟩
  unfold twd
  rw [e1, word_k hp h hl h1]
theorem twd_1 {w : List Int32} (he : s.1 = a) (hw : 0 < w.length) (hp : a + 1 + w.length ≤ len) (h0 : T a = 32) (h : sg T (a + 1) w) (hl : ∀ i, i < w.length → isLo (w.getD i 0) = true) (h1 : a + 1 + w.length < len → isLo (T (a + 1 + w.length)) = false) : skipP T len s.1 = a + 1 ∧ twd T len s = (a + 1 + w.length, nI (a + 1), s.2.2) := by
  have e0 : T (a + 1) = w.getD 0 0 := h 0 hw
  have e1 : skipP T len s.1 = a + 1 := by rw [he]; exact skip_1 (by omega) h0 (by rw [e0]; exact lo_sp (hl 0 hw))
  refine ⟨e1, ?_⟩
  unfold twd
  rw [e1, word_k hp h hl h1]
theorem nin {v h : Nat} (hv : v ≤ h) (hh : h < 2147483648) : ¬ (nI v < 0 ∨ nI h < nI v) := fun z => z.elim (fun z9 => nI_pos (by omega) z9) (fun z9 => nI_ngt hv (by omega) z9)
/-- a number behind a space -/
theorem num_N {v h : Nat} (hv : v < 10) (hvh : v ≤ h) (hh : h < 2147483648) (he : s.2.2.2.1 = 0) (hs : s.1 = a) (hp : a + 1 < len) (h0 : T a = 32) (h1 : T (a + 1) = nI (48 + v)) (h2 : a + 2 < len → isDi (T (a + 2)) = false) : tnm T len 0 (nI h) s = (a + 2, nI (a + 1), s.2.2) ∧ tnN T len h s = v := by
  subst hs
  obtain ⟨q1, q2⟩ := num_1 (lo := 0) (hi := nI h) hv he hp h0 h1 h2 (nin hvh hh)
  refine ⟨q1, ?_⟩
  unfold tnN
  rw [q2, nI_clamp (by omega)]
theorem di_32 : isDi 32 = false := by decide
/-- '; edge s r c' -/
def edW (x r c : Nat) : List Int32 := [59, 32, 101, 100, 103, 101, 32, nI (48 + x), 32, nI (48 + r), 32, nI (48 + c)]
theorem st_edge {x r c : Nat} (hT : mI M 2 = T) (hs : s.1 = p) (he : s.2.2.2.1 = 0) (h : sg T p (edW x r c)) (hx : x < 6) (hr : r < n) (hc : c < n) (hn : n ≤ 9) (hp : p + 12 ≤ len) (h9 : p + 12 < len → isDi (T (p + 12)) = false) : skipP T len s.1 < len ∧ (tsc T len (skp T len s)).2.2.2.1 = 0 ∧ rsR M len n (tsc T len (skp T len s)) = (sI M (20 + 2 * x) (fun_set (mI M (20 + 2 * x)) r (mI M (20 + 2 * x) r ||| bitI c)), (p + 12, nI (p + 11), s.2.2.1 + 1, s.2.2.2)) := by
  obtain ⟨k1, k2⟩ := semi_0 (len := len) hs (by omega) (h 0 (by decide : 0 < 12))
  have t6 : T (p + 6) = 32 := h 6 (by decide : 6 < 12)
  have t8 : T (p + 8) = 32 := h 8 (by decide : 8 < 12)
  have t10 : T (p + 10) = 32 := h 10 (by decide : 10 < 12)
  have hw : sg T (p + 2) (strW 1) := (sg_app.mp (sg_app.mp (show sg T p ([59, 32] ++ (strW 1 ++ [32, nI (48 + x), 32, nI (48 + r), 32, nI (48 + c)])) from h)).2).1
  obtain ⟨w1, w2⟩ : skipP T len (p + 1, s.2.1, s.2.2.1 + 1, s.2.2.2).1 = p + 2 ∧ twd T len (p + 1, s.2.1, s.2.2.1 + 1, s.2.2.2) = (p + 6, nI (p + 2), s.2.2.1 + 1, s.2.2.2) := twd_1 (s := (p + 1, s.2.1, s.2.2.1 + 1, s.2.2.2)) (len := len) (w := strW 1) rfl (by decide) (show p + 1 + 1 + 4 ≤ len by omega) (h 1 (by decide : 1 < 12)) hw (by decide) (fun _ => by show isLo (T (p + 6)) = false; rw [t6]; decide)
  obtain ⟨n1, m1⟩ : tnm T len 0 (nI 5) (p + 6, nI (p + 2), s.2.2.1 + 1, s.2.2.2) = (p + 8, nI (p + 7), s.2.2.1 + 1, s.2.2.2) ∧ tnN T len 5 (p + 6, nI (p + 2), s.2.2.1 + 1, s.2.2.2) = x := num_N (s := (p + 6, nI (p + 2), s.2.2.1 + 1, s.2.2.2)) (len := len) (h := 5) (v := x) (by omega) (by omega) (by decide) he rfl (by omega) t6 (h 7 (by decide : 7 < 12)) (fun _ => by show isDi (T (p + 8)) = false; rw [t8]; exact di_32)
  obtain ⟨n2, m2⟩ : tnm T len 0 (nI (n - 1)) (p + 8, nI (p + 7), s.2.2.1 + 1, s.2.2.2) = (p + 10, nI (p + 9), s.2.2.1 + 1, s.2.2.2) ∧ tnN T len (n - 1) (p + 8, nI (p + 7), s.2.2.1 + 1, s.2.2.2) = r := num_N (s := (p + 8, nI (p + 7), s.2.2.1 + 1, s.2.2.2)) (len := len) (h := n - 1) (v := r) (by omega) (by omega) (by omega) he rfl (by omega) t8 (h 9 (by decide : 9 < 12)) (fun _ => by show isDi (T (p + 10)) = false; rw [t10]; exact di_32)
  obtain ⟨n3, m3⟩ : tnm T len 0 (nI (n - 1)) (p + 10, nI (p + 9), s.2.2.1 + 1, s.2.2.2) = (p + 12, nI (p + 11), s.2.2.1 + 1, s.2.2.2) ∧ tnN T len (n - 1) (p + 10, nI (p + 9), s.2.2.1 + 1, s.2.2.2) = c := num_N (s := (p + 10, nI (p + 9), s.2.2.1 + 1, s.2.2.2)) (len := len) (h := n - 1) (v := c) (by omega) (by omega) (by omega) he rfl (by omega) t10 (h 11 (by decide : 11 < 12)) h9
  refine ⟨by rw [k1]; omega, by rw [k2]; exact he, ?_⟩
  rw [k2]
  unfold rsR
  rw [hT, w1, w2]
  have q1 : wdQ T (p + 2) (p + 6) (strW 1) = true := wdQ_t hw
  rw [if_pos q1]
  unfold edM edS
  rw [hT]
  rw [n1, m1, n2, m2, n3, m3]
end

