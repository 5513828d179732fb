section
variable {T : Nat → Int32} {len p a n : Nat} {s : RP} {M : Mem}
/-- a row of a kind -/
def kdR (kind n i : Nat) : Int32 := if kind = 0 then bitI i else if kind = 1 then lowM n else if kind = 2 then (if i + 1 < n then bitI (i + 1) else 1) else lowM i
theorem wd_len2 : (strW 4).length = 4 ∧ (strW 5).length = 4 ∧ (strW 6).length = 4 ∧ (strW 7).length = 5 := by decide
theorem kdV_ok {b kind i : Nat} (hk : kind < 4) (h : sg T b (strW (4 + kind))) : kdV T b (b + (strW (4 + kind)).length) n i = some (kdR kind n i) := by
  unfold kdV
  rcases (by omega : kind = 0 ∨ kind = 1 ∨ kind = 2 ∨ kind = 3) with e | e | e | e
  · subst e
    rw [if_pos (wdQ_t h)]
    rfl
  · subst e
    rw [if_neg (no_w h (by decide) (by decide) (by decide)), if_pos (wdQ_t h)]
    rfl
  · subst e
    rw [if_neg (no_w h (by decide) (by decide) (by decide)), if_neg (no_w h (by decide) (by decide) (by decide)), if_pos (wdQ_t h)]
    rfl
  · subst e
    rw [if_neg (no_w h (by decide) (by decide) (by decide)), if_neg (no_w h (by decide) (by decide) (by decide)), if_neg (no_w h (by decide) (by decide) (by decide)), if_pos (wdQ_t h)]
    rfl
theorem fiS_ok {b kind : Nat} (hk : kind < 4) (h : sg T b (strW (4 + kind))) : ∀ k, fiS T b (b + (strW (4 + kind)).length) n s k = s
  | 0 => rfl
  | k + 1 => by
    rw [fiS, fiS_ok hk h k]
    unfold kdS
    rw [kdV_ok hk h, if_neg (fun e => by cases e)]
/-- ' ;fill s ' and the kind -/
def fiW (x : Nat) : List Int32 := [32, 59, 102, 105, 108, 108, 32, nI (48 + x), 32]
theorem kw_lo : ∀ kind, kind < 4 → 0 < (strW (4 + kind)).length ∧ (strW (4 + kind)).length ≤ 5 ∧ ∀ i, i < (strW (4 + kind)).length → isLo ((strW (4 + kind)).getD i 0) = true := by decide
theorem st_fill {x kind : Nat} (hT : mI M 2 = T) (hs : s.1 = p) (he : s.2.2.2.1 = 0) (h : sg T p (fiW x)) (hw9 : sg T (p + 9) (strW (4 + kind))) (hx : x < 6) (hkd : kind < 4) (hp : p + 9 + (strW (4 + kind)).length ≤ len) (h9 : p + 9 + (strW (4 + kind)).length < len → isLo (T (p + 9 + (strW (4 + kind)).length)) = false) : skipP T len s.1 < len ∧ (tsc T len (skp T len s)).2.2.2.1 = 0 ∧ rsR M len n (tsc T len (skp T len s)) = (sI M (20 + 2 * x) (wr (mI M (20 + 2 * x)) (kdR kind n) n), (p + 9 + (strW (4 + kind)).length, nI (p + 9), s.2.2.1 + 1, s.2.2.2)) := by
  obtain ⟨l1, l2, l3⟩ := kw_lo kind hkd
  have t6 : T (p + 6) = 32 := h 6 (by decide : 6 < 9)
  have t8 : T (p + 8) = 32 := h 8 (by decide : 8 < 9)
  obtain ⟨k1, k2⟩ := semi_1 (len := len) hs (by omega) (h 0 (by decide : 0 < 9)) (h 1 (by decide : 1 < 9))
  have hw : sg T (p + 2) (strW 3) := (sg_app.mp (sg_app.mp (show sg T p ([32, 59] ++ (strW 3 ++ [32, nI (48 + x), 32])) from h)).2).1
  obtain ⟨w1, w2⟩ : skipP T len (p + 2, s.2.1, s.2.2.1 + 1, s.2.2.2).1 = p + 2 ∧ twd T len (p + 2, s.2.1, s.2.2.1 + 1, s.2.2.2) = (p + 6, nI (p + 2), s.2.2.1 + 1, s.2.2.2) := twd_0 (s := (p + 2, s.2.1, s.2.2.1 + 1, s.2.2.2)) (len := len) (w := strW 3) rfl (by decide) (show p + 2 + 4 ≤ len by omega) hw (by decide) (fun _ => by show isLo (T (p + 6)) = false; rw [t6]; decide)
  obtain ⟨n1, m1⟩ : tnm T len 0 (nI 5) (p + 6, nI (p + 2), s.2.2.1 + 1, s.2.2.2) = (p + 8, nI (p + 7), s.2.2.1 + 1, s.2.2.2) ∧ tnN T len 5 (p + 6, nI (p + 2), s.2.2.1 + 1, s.2.2.2) = x := num_N (s := (p + 6, nI (p + 2), s.2.2.1 + 1, s.2.2.2)) (len := len) (h := 5) (v := x) (by omega) (by omega) (by decide) he rfl (by omega) t6 (h 7 (by decide : 7 < 9)) (fun _ => by show isDi (T (p + 8)) = false; rw [t8]; exact di_32)
  obtain ⟨v1, v2⟩ : skipP T len (p + 8, nI (p + 7), s.2.2.1 + 1, s.2.2.2).1 = p + 9 ∧ twd T len (p + 8, nI (p + 7), s.2.2.1 + 1, s.2.2.2) = (p + 9 + (strW (4 + kind)).length, nI (p + 9), s.2.2.1 + 1, s.2.2.2) := twd_1 (s := (p + 8, nI (p + 7), s.2.2.1 + 1, s.2.2.2)) (len := len) (w := strW (4 + kind)) rfl l1 (show p + 8 + 1 + (strW (4 + kind)).length ≤ len by omega) t8 hw9 l3 h9
  refine ⟨by rw [k1]; omega, by rw [k2]; exact he, ?_⟩
  rw [k2]
  unfold rsR
  rw [hT, w1, w2]
  have q3 : wdQ T (p + 2) (p + 6) (strW 3) = true := wdQ_t hw
  have q1 : ¬ (wdQ T (p + 2) (p + 6) (strW 1) = true) := no_w hw (by decide) (by decide) (by decide)
  have q2 : ¬ (wdQ T (p + 2) (p + 6) (strW 2) = true) := no_w hw (by decide) (by decide) (by decide)
  rw [if_neg q1, if_neg q2, if_pos q3]
  unfold rfM rfS
  have hkG : kdG T (p + 9) (p + 9 + (strW (4 + kind)).length) n = kdR kind n := funext fun i => by
    unfold kdG
    rw [kdV_ok hkd hw9]
    rfl
  rw [hT, n1, m1, v1, v2]
  show (sI M (20 + 2 * x) (wr (mI M (20 + 2 * x)) (kdG T (p + 9) (p + 9 + (strW (4 + kind)).length) n) n), fiS T (p + 9) (p + 9 + (strW (4 + kind)).length) n (p + 9 + (strW (4 + kind)).length, nI (p + 9), s.2.2.1 + 1, s.2.2.2) n) = _
  rw [hkG, fiS_ok hkd hw9]
/-- 'size n' -/
def szW (n : Nat) : List Int32 := [115, 105, 122, 101, 32, nI (48 + n)]
theorem st_size (hn1 : 1 ≤ n) (hn : n ≤ 9) (h : sg T 0 (szW n)) (hp : 6 ≤ len) (h9 : 6 < len → isDi (T 6) = false) {a1 : Int32} : rzS T len (0, a1, 0, 0, 0) = (6, nI 5, 0, 0, 0) ∧ rzV T len (0, a1, 0, 0, 0) = nI n := by
  have t4 : T 4 = 32 := h 4 (by decide : 4 < 6)
  have hw : sg T 0 (strW 0) := (sg_app.mp (show sg T 0 (strW 0 ++ [32, nI (48 + n)]) from h)).1
  obtain ⟨w1, w2⟩ : skipP T len ((0, a1, 0, 0, 0) : RP).1 = 0 ∧ twd T len (0, a1, 0, 0, 0) = (4, nI 0, 0, 0, 0) := twd_0 (s := (0, a1, 0, 0, 0)) (len := len) (w := strW 0) rfl (by decide) (show 0 + 4 ≤ len by omega) hw (by decide) (fun _ => by show isLo (T 4) = false; rw [t4]; decide)
  have e0 : rzS0 T len (0, a1, 0, 0, 0) = (4, nI 0, 0, 0, 0) := by
    unfold rzS0
    rw [w1, w2]
    have q0 : wdQ T 0 4 (strW 0) = true := wdQ_t (b := 0) hw
    rw [if_pos q0]
  obtain ⟨n1, m1⟩ : tnm T len 1 32 (4, nI 0, 0, 0, 0) = (6, nI 5, 0, 0, 0) ∧ tnv T len 1 32 (4, nI 0, 0, 0, 0) = nI n := num_1 (s := (4, nI 0, 0, 0, 0)) (len := len) (lo := 1) (hi := 32) (v := n) (by omega) rfl (by omega : 4 + 1 < len) t4 (h 5 (by decide : 5 < 6)) h9 (fun z => z.elim (fun z9 => nI_ngt (a := 1) (b := n) hn1 (by omega) z9) (fun z9 => nI_ngt (a := n) (b := 32) (by omega) (by omega) z9))
  unfold rzS rzV
  rw [e0]
  exact ⟨n1, m1⟩
end

