section
variable {T : Nat → Int32} {len p a n : Nat} {s : RP} {M : Mem}
theorem wd_ne1 : (strW 2).getD 0 0 ≠ (strW 1).getD 0 0 ∧ (strW 3).getD 0 0 ≠ (strW 1).getD 0 0 ∧ (strW 8).getD 0 0 ≠ (strW 1).getD 0 0 ∧ (strW 9).getD 0 0 ≠ (strW 1).getD 0 0 ∧ (strW 3).getD 0 0 ≠ (strW 2).getD 0 0 ∧ (strW 8).getD 0 0 ≠ (strW 2).getD 0 0 ∧ (strW 9).getD 0 0 ≠ (strW 2).getD 0 0 ∧ (strW 8).getD 0 0 ≠ (strW 3).getD 0 0 ∧ (strW 9).getD 0 0 ≠ (strW 3).getD 0 0 ∧ (strW 9).getD 0 0 ≠ (strW 8).getD 0 0 := by decide
theorem wd_len : (strW 1).length = 4 ∧ (strW 2).length = 3 ∧ (strW 3).length = 4 ∧ (strW 8).length = 4 ∧ (strW 9).length = 5 := by decide
theorem no_w {b i j : Nat} (h : sg T b (strW i)) (hi : 0 < (strW i).length) (hj : 0 < (strW j).length) (hn : (strW i).getD 0 0 ≠ (strW j).getD 0 0) : ¬ (wdQ T b (b + (strW i).length) (strW j) = true) := by
  rw [wdQ_f h (Or.inr ⟨0, hj, hi, hn⟩)]
  decide
/-- ';keep s' -/
def kpW (x : Nat) : List Int32 := [59, 107, 101, 101, 112, 32, nI (48 + x)]
theorem st_keep {x : Nat} (hT : mI M 2 = T) (hs : s.1 = p) (he : s.2.2.2.1 = 0) (h : sg T p (kpW x)) (hx : x < 6) (hk : mI M (19 + 2 * x) 1 = 0) (hp : p + 7 ≤ len) (h9 : p + 7 < len → isDi (T (p + 7)) = false) : skipP T len s.1 < len ∧ (tsc T len (skp T len s)).2.2.2.1 = 0 ∧ rsR M len n (tsc T len (skp T len s)) = (pI M (19 + 2 * x) 1 1, (p + 7, nI (p + 6), s.2.2.1 + 1, s.2.2.2)) := by
  obtain ⟨k1, k2⟩ := semi_0 (len := len) hs (by omega) (h 0 (by decide : 0 < 7))
  have t5 : T (p + 5) = 32 := h 5 (by decide : 5 < 7)
  have hw : sg T (p + 1) (strW 8) := (sg_app.mp (sg_app.mp (show sg T p ([59] ++ (strW 8 ++ [32, nI (48 + x)])) from h)).2).1
  obtain ⟨w1, w2⟩ : skipP T len (p + 1, s.2.1, s.2.2.1 + 1, s.2.2.2).1 = p + 1 ∧ twd T len (p + 1, s.2.1, s.2.2.1 + 1, s.2.2.2) = (p + 5, nI (p + 1), s.2.2.1 + 1, s.2.2.2) := twd_0 (s := (p + 1, s.2.1, s.2.2.1 + 1, s.2.2.2)) (len := len) (w := strW 8) rfl (by decide) (show p + 1 + 4 ≤ len by omega) hw (by decide) (fun _ => by show isLo (T (p + 5)) = false; rw [t5]; decide)
  obtain ⟨n1, m1⟩ : tnm T len 0 (nI 5) (p + 5, nI (p + 1), s.2.2.1 + 1, s.2.2.2) = (p + 7, nI (p + 6), s.2.2.1 + 1, s.2.2.2) ∧ tnN T len 5 (p + 5, nI (p + 1), s.2.2.1 + 1, s.2.2.2) = x := num_N (s := (p + 5, nI (p + 1), s.2.2.1 + 1, s.2.2.2)) (len := len) (h := 5) (v := x) (by omega) (by omega) (by decide) he rfl (by omega) t5 (h 6 (by decide : 6 < 7)) h9
  refine ⟨by rw [k1]; omega, by rw [k2]; exact he, ?_⟩
  rw [k2]
  unfold rsR
  rw [hT, w1, w2]
  have q8 : wdQ T (p + 1) (p + 5) (strW 8) = true := wdQ_t hw
  have q1 : ¬ (wdQ T (p + 1) (p + 5) (strW 1) = true) := no_w hw (by decide) (by decide) (by decide)
  have q2 : ¬ (wdQ T (p + 1) (p + 5) (strW 2) = true) := no_w hw (by decide) (by decide) (by decide)
  have q3 : ¬ (wdQ T (p + 1) (p + 5) (strW 3) = true) := no_w hw (by decide) (by decide) (by decide)
  rw [if_neg q1, if_neg q2, if_neg q3, if_pos q8]
  unfold rkM rkS
  rw [hT, m1, if_pos hk, n1]
/-- ';block b' -/
def blW (b : Nat) : List Int32 := [59, 98, 108, 111, 99, 107, 32, nI (48 + b)]
theorem st_block {b : Nat} (hT : mI M 2 = T) (hs : s.1 = p) (he : s.2.2.2.1 = 0) (h : sg T p (blW b)) (hb1 : 1 ≤ b) (hb8 : b ≤ 8) (hp : p + 8 ≤ len) (h9 : p + 8 < len → isDi (T (p + 8)) = false) : skipP T len s.1 < len ∧ (tsc T len (skp T len s)).2.2.2.1 = 0 ∧ rsR M len n (tsc T len (skp T len s)) = (pI M 17 2 (nI b), (p + 8, nI (p + 7), s.2.2.1 + 1, s.2.2.2)) := by
  obtain ⟨k1, k2⟩ := semi_0 (len := len) hs (by omega) (h 0 (by decide : 0 < 8))
  have t6 : T (p + 6) = 32 := h 6 (by decide : 6 < 8)
  have hw : sg T (p + 1) (strW 9) := (sg_app.mp (sg_app.mp (show sg T p ([59] ++ (strW 9 ++ [32, nI (48 + b)])) from h)).2).1
  obtain ⟨w1, w2⟩ : skipP T len (p + 1, s.2.1, s.2.2.1 + 1, s.2.2.2).1 = p + 1 ∧ twd T len (p + 1, s.2.1, s.2.2.1 + 1, s.2.2.2) = (p + 6, nI (p + 1), s.2.2.1 + 1, s.2.2.2) := twd_0 (s := (p + 1, s.2.1, s.2.2.1 + 1, s.2.2.2)) (len := len) (w := strW 9) rfl (by decide) (show p + 1 + 5 ≤ len by omega) hw (by decide) (fun _ => by show isLo (T (p + 6)) = false; rw [t6]; decide)
  obtain ⟨n1, m1⟩ : tnm T len 1 8 (p + 6, nI (p + 1), s.2.2.1 + 1, s.2.2.2) = (p + 8, nI (p + 7), s.2.2.1 + 1, s.2.2.2) ∧ tnv T len 1 8 (p + 6, nI (p + 1), s.2.2.1 + 1, s.2.2.2) = nI b := num_1 (s := (p + 6, nI (p + 1), s.2.2.1 + 1, s.2.2.2)) (len := len) (lo := 1) (hi := 8) (v := b) (by omega) he (by omega : p + 6 + 1 < len) t6 (h 7 (by decide : 7 < 8)) h9 (fun z => z.elim (fun z9 => nI_ngt (a := 1) (b := b) hb1 (by omega) z9) (fun z9 => nI_ngt (a := b) (b := 8) hb8 (by omega) z9))
  refine ⟨by rw [k1]; omega, by rw [k2]; exact he, ?_⟩
  rw [k2]
  unfold rsR
  rw [hT, w1, w2]
  have q9 : wdQ T (p + 1) (p + 6) (strW 9) = true := wdQ_t hw
  have q1 : ¬ (wdQ T (p + 1) (p + 6) (strW 1) = true) := no_w hw (by decide) (by decide) (by decide)
  have q2 : ¬ (wdQ T (p + 1) (p + 6) (strW 2) = true) := no_w hw (by decide) (by decide) (by decide)
  have q3 : ¬ (wdQ T (p + 1) (p + 6) (strW 3) = true) := no_w hw (by decide) (by decide) (by decide)
  have q8 : ¬ (wdQ T (p + 1) (p + 6) (strW 8) = true) := no_w hw (by decide) (by decide) (by decide)
  rw [if_neg q1, if_neg q2, if_neg q3, if_neg q8, if_pos q9, m1, n1]
/-- a row out of ones and zeros -/
def rwB (g : Nat → Bool) : Nat → Int32
  | 0 => 0
  | k + 1 => if g k = true then rwB g k ||| bitI k else rwB g k
def chB (v : Bool) : Int32 := match v with
  | true => 49
  | false => 48
theorem chB_ok (v : Bool) : isDi (chB v) = true ∧ isSp (chB v) = false ∧ ¬ (49 < chB v) ∧ (chB v = 49 ↔ v = true) := by cases v <;> decide
theorem tbI_ok {g : Nat → Bool} {b : Nat} {x : Int32} (h : ∀ i, i < n → T (b + i) = chB (g i)) : ∀ k, k ≤ n → tbI T b x s k = (s, rwB g k)
  | 0, _ => rfl
  | k + 1, hk => by
    obtain ⟨-, -, h3, h4⟩ := chB_ok (g k)
    rw [tbI, h k (by omega), if_neg h3, tbI_ok h k (by omega), rwB]
    by_cases e : g k = true
    · rw [if_pos (h4.mpr e), if_pos e]
    · rw [if_neg (fun z => e (h4.mp z)), if_neg e]
/-- ';row s r ' and the row -/
def roW (x r : Nat) : List Int32 := [59, 114, 111, 119, 32, nI (48 + x), 32, nI (48 + r), 32]
theorem st_row {x r : Nat} {g : Nat → Bool} (hT : mI M 2 = T) (hs : s.1 = p) (he : s.2.2.2.1 = 0) (h : sg T p (roW x r)) (hg : ∀ i, i < n → T (p + 9 + i) = chB (g i)) (hx : x < 6) (hr : r < n) (hn : n ≤ 9) (hp : p + 9 + n ≤ len) (h9 : p + 9 + n < len → isDi (T (p + 9 + n)) = false) : skipP T len s.1 < len ∧ (tsc T len (skp T len s)).2.2.2.1 = 0 ∧ rsR M len n (tsc T len (skp T len s)) = (sI M (20 + 2 * x) (fun_set (mI M (20 + 2 * x)) r (rwB g n)), (p + 9 + n, nI (p + 9), s.2.2.1 + 1, s.2.2.2)) := by
  obtain ⟨k1, k2⟩ := semi_0 (len := len) hs (by omega) (h 0 (by decide : 0 < 9))
  have t4 : T (p + 4) = 32 := h 4 (by decide : 4 < 9)
  have t6 : T (p + 6) = 32 := h 6 (by decide : 6 < 9)
  have t8 : T (p + 8) = 32 := h 8 (by decide : 8 < 9)
  have hw : sg T (p + 1) (strW 2) := (sg_app.mp (sg_app.mp (show sg T p ([59] ++ (strW 2 ++ [32, nI (48 + x), 32, nI (48 + r), 32])) from h)).2).1
  obtain ⟨w1, w2⟩ : skipP T len (p + 1, s.2.1, s.2.2.1 + 1, s.2.2.2).1 = p + 1 ∧ twd T len (p + 1, s.2.1, s.2.2.1 + 1, s.2.2.2) = (p + 4, nI (p + 1), s.2.2.1 + 1, s.2.2.2) := twd_0 (s := (p + 1, s.2.1, s.2.2.1 + 1, s.2.2.2)) (len := len) (w := strW 2) rfl (by decide) (show p + 1 + 3 ≤ len by omega) hw (by decide) (fun _ => by show isLo (T (p + 4)) = false; rw [t4]; decide)
  obtain ⟨n1, m1⟩ : tnm T len 0 (nI 5) (p + 4, nI (p + 1), s.2.2.1 + 1, s.2.2.2) = (p + 6, nI (p + 5), s.2.2.1 + 1, s.2.2.2) ∧ tnN T len 5 (p + 4, nI (p + 1), s.2.2.1 + 1, s.2.2.2) = x := num_N (s := (p + 4, nI (p + 1), s.2.2.1 + 1, s.2.2.2)) (len := len) (h := 5) (v := x) (by omega) (by omega) (by decide) he rfl (by omega) t4 (h 5 (by decide : 5 < 9)) (fun _ => by show isDi (T (p + 6)) = false; rw [t6]; exact di_32)
  obtain ⟨n2, m2⟩ : tnm T len 0 (nI (n - 1)) (p + 6, nI (p + 5), s.2.2.1 + 1, s.2.2.2) = (p + 8, nI (p + 7), s.2.2.1 + 1, s.2.2.2) ∧ tnN T len (n - 1) (p + 6, nI (p + 5), s.2.2.1 + 1, s.2.2.2) = r := num_N (s := (p + 6, nI (p + 5), s.2.2.1 + 1, s.2.2.2)) (len := len) (h := n - 1) (v := r) (by omega) (by omega) (by omega) he rfl (by omega) t6 (h 7 (by decide : 7 < 9)) (fun _ => by show isDi (T (p + 8)) = false; rw [t8]; exact di_32)
  have hg0 := hg 0 (by omega)
  rw [Nat.add_zero] at hg0
  have e1 : skipP T len (p + 8) = p + 9 := skip_1 (by omega) t8 (by show isSp (T (p + 9)) = false; rw [hg0]; exact (chB_ok _).2.1)
  have e2 : digP T len (p + 9) = p + 9 + n := scan_run n (len - (p + 9)) (p + 9) (by omega) (fun i hi => by rw [hg i hi]; exact (chB_ok _).1) (fun _ => h9 (by omega))
  have e3 : tdg T len (p + 8, nI (p + 7), s.2.2.1 + 1, s.2.2.2) = (p + 9 + n, nI (p + 9), s.2.2.1 + 1, s.2.2.2) := by
    unfold tdg tdg0
    show (if skipP T len (p + 8) = digP T len (skipP T len (p + 8)) then _ else (digP T len (skipP T len (p + 8)), nI (skipP T len (p + 8)), _)) = _
    rw [e1, e2, if_neg (by omega)]
  have e4 : tbs T len n (p + 8, nI (p + 7), s.2.2.1 + 1, s.2.2.2) = ((p + 9 + n, nI (p + 9), s.2.2.1 + 1, s.2.2.2), rwB g n) := by
    unfold tbs
    rw [e3]
    show (if digP T len (skipP T len (p + 8)) - skipP T len (p + 8) = n then tbI T (skipP T len (p + 8)) (nI (skipP T len (p + 8))) _ n else _) = _
    rw [e1, e2, if_pos (by omega), tbI_ok hg n (Nat.le_refl n)]
  refine ⟨by rw [k1]; omega, by rw [k2]; exact he, ?_⟩
  rw [k2]
  unfold rsR
  rw [hT, w1, w2]
  have q2 : wdQ T (p + 1) (p + 4) (strW 2) = true := wdQ_t hw
  have q1 : ¬ (wdQ T (p + 1) (p + 4) (strW 1) = true) := no_w hw (by decide) (by decide) (by decide)
  rw [if_neg q1, if_pos q2]
  unfold rrM rrS
  rw [hT, n1, m1, n2, m2, e4]
end

