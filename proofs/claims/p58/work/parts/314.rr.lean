/-! the reference reads: fillings, a statement, the size -/
def khF (T : Nat → Int32) (b p : Nat) : Nat := if wdQ T b p (strW 17) = true then 0 else if wdQ T b p (strW 18) = true then 1 else if wdQ T b p (strW 19) = true then 2 else if wdQ T b p (strW 20) = true then 3 else 4
def khV (k : Nat) : Int32 := if k = 4 then -1 else nI k
/-- a row of a kind -/
def flF (k n r : Nat) : Int32 := if k = 0 then bitI r else if k = 1 then lowM n else if k = 2 then (if r + 1 < n then bitI (r + 1) else 1) else lowM r
theorem flF_0 (n r : Nat) : flF 0 n r = bitI r := rfl
theorem flF_1 (n r : Nat) : flF 1 n r = lowM n := rfl
theorem flF_2 (n r : Nat) : flF 2 n r = if r + 1 < n then bitI (r + 1) else 1 := rfl
theorem flF_3 (n r : Nat) : flF 3 n r = lowM r := rfl
theorem sh_two : ∀ c, c < 31 → ((1 : Int64) <<< ((nI c).toInt64 &&& 63)) <<< ((1 : Int32).toInt64 &&& 63) = uL (bitI (c + 1)) := by decide +kernel
theorem khF_le (T : Nat → Int32) (b p : Nat) : khF T b p ≤ 4 := by
  unfold khF
  repeat' split
  all_goals omega
section
variable {l : Launch} {M : Mem} {s : RP} {len n : Nat} {T : Nat → Int32}
theorem r_kindHere {b : Nat} (hS : Shp M) (hT : txt M T len) (hL : len ≤ 600) (hp : s.1 ≤ len) (hb9 : s.2.1 = nI b) (hb : b ≤ s.1) : EvR l jX7_kindHere 5 140 0 0 [.ref 198] (psM M s) (.inl (some (.int (khV (khF T b s.1))))) (psM M s) := by
  have w0 : EvR l jX7_isWord 4 110 0 0 [.ref 198, .retAddr (2 * 17 + 2)] (psM M s) (.inl (some (.int (b1 (wdQ T b s.1 (strW 17)))))) (psM M s) := r_isWR 17 hS hT hL hp hb9 hb (by decide) (by decide)
  have w1 : EvR l jX7_isWord 4 110 0 0 [.ref 198, .retAddr (2 * 18 + 2)] (psM M s) (.inl (some (.int (b1 (wdQ T b s.1 (strW 18)))))) (psM M s) := r_isWR 18 hS hT hL hp hb9 hb (by decide) (by decide)
  have w2 : EvR l jX7_isWord 4 110 0 0 [.ref 198, .retAddr (2 * 19 + 2)] (psM M s) (.inl (some (.int (b1 (wdQ T b s.1 (strW 19)))))) (psM M s) := r_isWR 19 hS hT hL hp hb9 hb (by decide) (by decide)
  have w3 : EvR l jX7_isWord 4 110 0 0 [.ref 198, .retAddr (2 * 20 + 2)] (psM M s) (.inl (some (.int (b1 (wdQ T b s.1 (strW 20)))))) (psM M s) := r_isWR 20 hS hT hL hp hb9 hb (by decide) (by decide)
  have hS1 : Shp (psM M s) := hS
  unfold khF
  generalize psM M s = M1 at *
  generalize wdQ T b s.1 (strW 17) = c0 at *
  generalize wdQ T b s.1 (strW 18) = c1 at *
  generalize wdQ T b s.1 (strW 19) = c2 at *
  generalize wdQ T b s.1 (strW 20) = c3 at *
  refine ev_intro rfl (nb rfl) rfl ?_
  cases c0 with
  | true =>
    refine g_aload_n (pc := 0) dX7_kindHere_0 rfl trivial ?_
    refine g_ldcS (pc := 1) (kS := 17) dX7_kindHere_1 rfl ?_
    refine g_invV_r (pc := 3) (As := [_]) dX7_kindHere_3 rfl (w0) rfl rfl (shK hS1 rfl) rfl rfl lk_X7_136 rfl (nb rfl) ⟨nb rfl, nb rfl⟩ rfl ?_
    refine g_if_eq (pc := 6) (tgt := 13) dX7_kindHere_6 rfl (fun h6 => absurd h6 ((by decide))) (fun _ => ?_)
    refine g_iconst (pc := 9) (v := 0) dX7_kindHere_9 rfl ?_
    refine g_goto (pc := 10) (tgt := 53) dX7_kindHere_10 rfl ?_
    refine g_ireturn (pc := 53) dX7_kindHere_53 rfl rfl ?_
    exact ⟨rfl, rfl⟩
  | false =>
    cases c1 with
    | true =>
      refine g_aload_n (pc := 0) dX7_kindHere_0 rfl trivial ?_
      refine g_ldcS (pc := 1) (kS := 17) dX7_kindHere_1 rfl ?_
      refine g_invV_r (pc := 3) (As := [_]) dX7_kindHere_3 rfl (w0) rfl rfl (shK hS1 rfl) rfl rfl lk_X7_136 rfl (nb rfl) ⟨nb rfl, nb rfl⟩ rfl ?_
      refine g_if_eq (pc := 6) (tgt := 13) dX7_kindHere_6 rfl (fun _ => ?_) (fun h6 => absurd (rfl) h6)
      refine g_aload_n (pc := 13) dX7_kindHere_13 rfl trivial ?_
      refine g_ldcS (pc := 14) (kS := 18) dX7_kindHere_14 rfl ?_
      refine g_invV_r (pc := 16) (As := [_]) dX7_kindHere_16 rfl (w1) rfl rfl (shK hS1 rfl) rfl rfl lk_X7_136 rfl (nb rfl) ⟨nb rfl, nb rfl⟩ rfl ?_
      refine g_if_eq (pc := 19) (tgt := 26) dX7_kindHere_19 rfl (fun h19 => absurd h19 ((by decide))) (fun _ => ?_)
      refine g_iconst (pc := 22) (v := 1) dX7_kindHere_22 rfl ?_
      refine g_goto (pc := 23) (tgt := 53) dX7_kindHere_23 rfl ?_
      refine g_ireturn (pc := 53) dX7_kindHere_53 rfl rfl ?_
      exact ⟨rfl, rfl⟩
    | false =>
      cases c2 with
      | true =>
        refine g_aload_n (pc := 0) dX7_kindHere_0 rfl trivial ?_
        refine g_ldcS (pc := 1) (kS := 17) dX7_kindHere_1 rfl ?_
        refine g_invV_r (pc := 3) (As := [_]) dX7_kindHere_3 rfl (w0) rfl rfl (shK hS1 rfl) rfl rfl lk_X7_136 rfl (nb rfl) ⟨nb rfl, nb rfl⟩ rfl ?_
        refine g_if_eq (pc := 6) (tgt := 13) dX7_kindHere_6 rfl (fun _ => ?_) (fun h6 => absurd (rfl) h6)
        refine g_aload_n (pc := 13) dX7_kindHere_13 rfl trivial ?_
        refine g_ldcS (pc := 14) (kS := 18) dX7_kindHere_14 rfl ?_
        refine g_invV_r (pc := 16) (As := [_]) dX7_kindHere_16 rfl (w1) rfl rfl (shK hS1 rfl) rfl rfl lk_X7_136 rfl (nb rfl) ⟨nb rfl, nb rfl⟩ rfl ?_
        refine g_if_eq (pc := 19) (tgt := 26) dX7_kindHere_19 rfl (fun _ => ?_) (fun h19 => absurd (rfl) h19)
        refine g_aload_n (pc := 26) dX7_kindHere_26 rfl trivial ?_
        refine g_ldcS (pc := 27) (kS := 19) dX7_kindHere_27 rfl ?_
        refine g_invV_r (pc := 29) (As := [_]) dX7_kindHere_29 rfl (w2) rfl rfl (shK hS1 rfl) rfl rfl lk_X7_136 rfl (nb rfl) ⟨nb rfl, nb rfl⟩ rfl ?_
        refine g_if_eq (pc := 32) (tgt := 39) dX7_kindHere_32 rfl (fun h32 => absurd h32 ((by decide))) (fun _ => ?_)
        refine g_iconst (pc := 35) (v := 2) dX7_kindHere_35 rfl ?_
        refine g_goto (pc := 36) (tgt := 53) dX7_kindHere_36 rfl ?_
        refine g_ireturn (pc := 53) dX7_kindHere_53 rfl rfl ?_
        exact ⟨rfl, rfl⟩
      | false =>
        cases c3 with
        | true =>
          refine g_aload_n (pc := 0) dX7_kindHere_0 rfl trivial ?_
          refine g_ldcS (pc := 1) (kS := 17) dX7_kindHere_1 rfl ?_
          refine g_invV_r (pc := 3) (As := [_]) dX7_kindHere_3 rfl (w0) rfl rfl (shK hS1 rfl) rfl rfl lk_X7_136 rfl (nb rfl) ⟨nb rfl, nb rfl⟩ rfl ?_
          refine g_if_eq (pc := 6) (tgt := 13) dX7_kindHere_6 rfl (fun _ => ?_) (fun h6 => absurd (rfl) h6)
          refine g_aload_n (pc := 13) dX7_kindHere_13 rfl trivial ?_
          refine g_ldcS (pc := 14) (kS := 18) dX7_kindHere_14 rfl ?_
          refine g_invV_r (pc := 16) (As := [_]) dX7_kindHere_16 rfl (w1) rfl rfl (shK hS1 rfl) rfl rfl lk_X7_136 rfl (nb rfl) ⟨nb rfl, nb rfl⟩ rfl ?_
          refine g_if_eq (pc := 19) (tgt := 26) dX7_kindHere_19 rfl (fun _ => ?_) (fun h19 => absurd (rfl) h19)
          refine g_aload_n (pc := 26) dX7_kindHere_26 rfl trivial ?_
          refine g_ldcS (pc := 27) (kS := 19) dX7_kindHere_27 rfl ?_
          refine g_invV_r (pc := 29) (As := [_]) dX7_kindHere_29 rfl (w2) rfl rfl (shK hS1 rfl) rfl rfl lk_X7_136 rfl (nb rfl) ⟨nb rfl, nb rfl⟩ rfl ?_
          refine g_if_eq (pc := 32) (tgt := 39) dX7_kindHere_32 rfl (fun _ => ?_) (fun h32 => absurd (rfl) h32)
          refine g_aload_n (pc := 39) dX7_kindHere_39 rfl trivial ?_
          refine g_ldcS (pc := 40) (kS := 20) dX7_kindHere_40 rfl ?_
          refine g_invV_r (pc := 42) (As := [_]) dX7_kindHere_42 rfl (w3) rfl rfl (shK hS1 rfl) rfl rfl lk_X7_136 rfl (nb rfl) ⟨nb rfl, nb rfl⟩ rfl ?_
          refine g_if_eq (pc := 45) (tgt := 52) dX7_kindHere_45 rfl (fun h45 => absurd h45 ((by decide))) (fun _ => ?_)
          refine g_iconst (pc := 48) (v := 3) dX7_kindHere_48 rfl ?_
          refine g_goto (pc := 49) (tgt := 53) dX7_kindHere_49 rfl ?_
          refine g_ireturn (pc := 53) dX7_kindHere_53 rfl rfl ?_
          exact ⟨rfl, rfl⟩
        | false =>
          refine g_aload_n (pc := 0) dX7_kindHere_0 rfl trivial ?_
          refine g_ldcS (pc := 1) (kS := 17) dX7_kindHere_1 rfl ?_
          refine g_invV_r (pc := 3) (As := [_]) dX7_kindHere_3 rfl (w0) rfl rfl (shK hS1 rfl) rfl rfl lk_X7_136 rfl (nb rfl) ⟨nb rfl, nb rfl⟩ rfl ?_
          refine g_if_eq (pc := 6) (tgt := 13) dX7_kindHere_6 rfl (fun _ => ?_) (fun h6 => absurd (rfl) h6)
          refine g_aload_n (pc := 13) dX7_kindHere_13 rfl trivial ?_
          refine g_ldcS (pc := 14) (kS := 18) dX7_kindHere_14 rfl ?_
          refine g_invV_r (pc := 16) (As := [_]) dX7_kindHere_16 rfl (w1) rfl rfl (shK hS1 rfl) rfl rfl lk_X7_136 rfl (nb rfl) ⟨nb rfl, nb rfl⟩ rfl ?_
          refine g_if_eq (pc := 19) (tgt := 26) dX7_kindHere_19 rfl (fun _ => ?_) (fun h19 => absurd (rfl) h19)
          refine g_aload_n (pc := 26) dX7_kindHere_26 rfl trivial ?_
          refine g_ldcS (pc := 27) (kS := 19) dX7_kindHere_27 rfl ?_
          refine g_invV_r (pc := 29) (As := [_]) dX7_kindHere_29 rfl (w2) rfl rfl (shK hS1 rfl) rfl rfl lk_X7_136 rfl (nb rfl) ⟨nb rfl, nb rfl⟩ rfl ?_
          refine g_if_eq (pc := 32) (tgt := 39) dX7_kindHere_32 rfl (fun _ => ?_) (fun h32 => absurd (rfl) h32)
          refine g_aload_n (pc := 39) dX7_kindHere_39 rfl trivial ?_
          refine g_ldcS (pc := 40) (kS := 20) dX7_kindHere_40 rfl ?_
          refine g_invV_r (pc := 42) (As := [_]) dX7_kindHere_42 rfl (w3) rfl rfl (shK hS1 rfl) rfl rfl lk_X7_136 rfl (nb rfl) ⟨nb rfl, nb rfl⟩ rfl ?_
          refine g_if_eq (pc := 45) (tgt := 52) dX7_kindHere_45 rfl (fun _ => ?_) (fun h45 => absurd (rfl) h45)
          refine g_iconst (pc := 52) (v := (-1)) dX7_kindHere_52 rfl ?_
          refine g_ireturn (pc := 53) dX7_kindHere_53 rfl rfl ?_
          exact ⟨rfl, rfl⟩
theorem r_filled {k r : Nat} (hk : k < 4) (hr : r < n) (hn9 : n ≤ 32) : EvR l jX7_filled 0 0 0 0 [.int (nI k), .int (nI r), .int (nI n)] M (.inl (some (.long (uL (flF k n r))))) M := by
  refine ev_intro rfl (nb rfl) rfl ?_
  rcases (by omega : k = 0 ∨ k = 1 ∨ k = 2 ∨ k = 3) with rfl | rfl | rfl | rfl
  · rw [flF_0]
    refine g_lconst (pc := 0) (v := 1) dX7_filled_0 rfl ?_
    refine g_iload_n (pc := 1) dX7_filled_1 rfl ?_
    refine g_lshl (pc := 2) dX7_filled_2 rfl ?_
    rw [sh_bit r (by omega)]
    refine g_lstore_n (pc := 3) (lv' := [(0, _), (1, _), (2, _), (3, _)]) dX7_filled_3 (nl rfl) rfl ?_
    refine g_iload_n (pc := 4) dX7_filled_4 rfl ?_
    refine g_tableIn (pc := 5) (tgt := 32) (off := 27) dX7_filled_5 (by decide) (by decide) (by decide) (by decide) ?_
    refine g_lload_n (pc := 32) dX7_filled_32 rfl ?_
    refine g_lreturn (pc := 33) dX7_filled_33 rfl ?_
    exact ⟨rfl, rfl⟩
  · rw [flF_1]
    refine g_lconst (pc := 0) (v := 1) dX7_filled_0 rfl ?_
    refine g_iload_n (pc := 1) dX7_filled_1 rfl ?_
    refine g_lshl (pc := 2) dX7_filled_2 rfl ?_
    refine g_lstore_n (pc := 3) (lv' := [(0, _), (1, _), (2, _), (3, _)]) dX7_filled_3 (nl rfl) rfl ?_
    refine g_iload_n (pc := 4) dX7_filled_4 rfl ?_
    refine g_tableIn (pc := 5) (tgt := 34) (off := 29) dX7_filled_5 (by decide) (by decide) (by decide) (by decide) ?_
    refine g_lconst (pc := 34) (v := 1) dX7_filled_34 rfl ?_
    refine g_iload_n (pc := 35) dX7_filled_35 rfl ?_
    refine g_lshl (pc := 36) dX7_filled_36 rfl ?_
    refine g_lconst (pc := 37) (v := 1) dX7_filled_37 rfl ?_
    refine g_lsub (pc := 38) dX7_filled_38 ?_
    rw [sh_low n hn9]
    refine g_lreturn (pc := 39) dX7_filled_39 rfl ?_
    exact ⟨rfl, rfl⟩
  · rw [flF_2]
    by_cases h : r + 1 < n
    · rw [if_pos h]
      refine g_lconst (pc := 0) (v := 1) dX7_filled_0 rfl ?_
      refine g_iload_n (pc := 1) dX7_filled_1 rfl ?_
      refine g_lshl (pc := 2) dX7_filled_2 rfl ?_
      refine g_lstore_n (pc := 3) (lv' := [(0, _), (1, _), (2, _), (3, _)]) dX7_filled_3 (nl rfl) rfl ?_
      refine g_iload_n (pc := 4) dX7_filled_4 rfl ?_
      refine g_tableIn (pc := 5) (tgt := 40) (off := 35) dX7_filled_5 (by decide) (by decide) (by decide) (by decide) ?_
      refine g_iload_n (pc := 40) dX7_filled_40 rfl ?_
      refine g_iload_n (pc := 41) dX7_filled_41 rfl ?_
      refine g_iconst (pc := 42) (v := 1) dX7_filled_42 rfl ?_
      refine g_isub (pc := 43) dX7_filled_43 ?_
      rw [nI_m1 (by omega)]
      refine g_icmp_ne (pc := 44) (tgt := 51) dX7_filled_44 rfl (fun _ => ?_) (fun h44 => absurd ((fun z => absurd ((nI_eq (by omega) (by omega)).mp z) (by omega))) h44)
      refine g_lload_n (pc := 51) dX7_filled_51 rfl ?_
      refine g_iconst (pc := 52) (v := 1) dX7_filled_52 rfl ?_
      refine g_lshl (pc := 53) dX7_filled_53 rfl ?_
      rw [sh_two r (by omega)]
      refine g_lreturn (pc := 54) dX7_filled_54 rfl ?_
      exact ⟨rfl, rfl⟩
    · rw [if_neg h]
      refine g_lconst (pc := 0) (v := 1) dX7_filled_0 rfl ?_
      refine g_iload_n (pc := 1) dX7_filled_1 rfl ?_
      refine g_lshl (pc := 2) dX7_filled_2 rfl ?_
      refine g_lstore_n (pc := 3) (lv' := [(0, _), (1, _), (2, _), (3, _)]) dX7_filled_3 (nl rfl) rfl ?_
      refine g_iload_n (pc := 4) dX7_filled_4 rfl ?_
      refine g_tableIn (pc := 5) (tgt := 40) (off := 35) dX7_filled_5 (by decide) (by decide) (by decide) (by decide) ?_
      refine g_iload_n (pc := 40) dX7_filled_40 rfl ?_
      refine g_iload_n (pc := 41) dX7_filled_41 rfl ?_
      refine g_iconst (pc := 42) (v := 1) dX7_filled_42 rfl ?_
      refine g_isub (pc := 43) dX7_filled_43 ?_
      rw [nI_m1 (by omega)]
      refine g_icmp_ne (pc := 44) (tgt := 51) dX7_filled_44 rfl (fun h44 => absurd h44 ((fun z => z (by rw [show n - 1 = r by omega])))) (fun _ => ?_)
      refine g_lconst (pc := 47) (v := 1) dX7_filled_47 rfl ?_
      refine g_goto (pc := 48) (tgt := 54) dX7_filled_48 rfl ?_
      refine g_lreturn (pc := 54) dX7_filled_54 rfl ?_
      exact ⟨rfl, rfl⟩
  · rw [flF_3]
    refine g_lconst (pc := 0) (v := 1) dX7_filled_0 rfl ?_
    refine g_iload_n (pc := 1) dX7_filled_1 rfl ?_
    refine g_lshl (pc := 2) dX7_filled_2 rfl ?_
    refine g_lstore_n (pc := 3) (lv' := [(0, _), (1, _), (2, _), (3, _)]) dX7_filled_3 (nl rfl) rfl ?_
    refine g_iload_n (pc := 4) dX7_filled_4 rfl ?_
    refine g_tableOut (pc := 5) (tgt := 55) dX7_filled_5 (by decide) (by decide) ?_
    refine g_lload_n (pc := 55) dX7_filled_55 rfl ?_
    refine g_lconst (pc := 56) (v := 1) dX7_filled_56 rfl ?_
    refine g_lsub (pc := 57) dX7_filled_57 ?_
    rw [sh_low r (by omega)]
    refine g_lreturn (pc := 58) dX7_filled_58 rfl ?_
    exact ⟨rfl, rfl⟩
def gF (T : Nat → Int32) (len n : Nat) (u : Nat → Int64) (s : RP) : (Nat → Int64) × RP :=
  if khF T (skipP T len (nmS T len 0 (nI 5) s).1) (twd T len (nmS T len 0 (nI 5) s)).1 = 4 then (u, rFail 1 (nI (skipP T len (nmS T len 0 (nI 5) s).1)) (twd T len (nmS T len 0 (nI 5) s)))
  else if (twd T len (nmS T len 0 (nI 5) s)).2.2.2.1 = 0 then (lyF u (nmN T len 5 s) (flF (khF T (skipP T len (nmS T len 0 (nI 5) s).1) (twd T len (nmS T len 0 (nI 5) s)).1) n) n, twd T len (nmS T len 0 (nI 5) s))
  else (u, twd T len (nmS T len 0 (nI 5) s))
theorem r_fillPart (hS : Shp M) (hT : txt M T len) (hl : mI M 198 8 = nI len) (hL : len ≤ 600) (hp : s.1 ≤ len) (hz : mL M 200 0 = lN n) (hn : 1 ≤ n) (hn9 : n ≤ 32) : EvR l jX7_fillPart 6 160 0 0 [.ref 198] (psM M s) (.inl none) (psM (sL M 200 (gF T len n (mL M 200) s).1) (gF T len n (mL M 200) s).2) := by
  have q1 := r_readSlot (l := l) (s := s) hS hT hl hL hp
  have ha := (nmN_ok (T := T) (len := len) (s := s) (h := 5) (by decide)).2
  unfold gF
  generalize nmN T len 5 s = a at *
  have hp1 := nmS_le (T := T) (lo := 0) (hi := nI 5) hp
  generalize nmS T len 0 (nI 5) s = s1 at *
  have q2 := r_reads (l := l) (s := s1) hS hT hl hL hp1
  have hw := twd_le (T := T) hp1
  have hw2 : (twd T len s1).2.1 = nI (skipP T len s1.1) := rfl
  generalize twd T len s1 = s2 at *
  generalize skipP T len s1.1 = b at *
  have q3 := r_kindHere (l := l) (s := s2) hS hT hL hw.1 hw2 hw.2
  have hk4 := khF_le T b s2.1
  generalize khF T b s2.1 = k at *
  have hS0 : Shp (psM M s) := hS
  have hS1 : Shp (psM M s1) := hS
  have hS2 : Shp (psM M s2) := hS
  have h11 : mI (psM M s2) 198 11 = s2.2.2.2.1 := ps_11
  have eP : ∀ w t, psM (sL M 200 w) t = sL (psM M t) 200 w := fun w t => ps_sL.symm
  refine ev_intro rfl (nb rfl) rfl ?_
  by_cases h4 : k = 4
  · rw [if_pos h4]
    subst h4
    simp only
    rw [sL_id]
    have qf := r_fails (l := l) (M := M) (s := s2) (k := 1) hS
    rw [hw2] at qf
    have hS4 : Shp (psM M (rFail 1 (nI b) s2)) := hS
    have h5 : (rFail 1 (nI b) s2).2.2.2.1 ≠ 0 := by
      by_cases he : s2.2.2.2.1 = 0
      · rw [rFail_0 he]; exact (by decide : (1 : Int32) ≠ 0)
      · rw [rFail_e he]; exact he
    have h114 : mI (psM M (rFail 1 (nI b) s2)) 198 11 = (rFail 1 (nI b) s2).2.2.2.1 := ps_11
    generalize rFail 1 (nI b) s2 = s3 at *
    refine g_aload_n (pc := 0) dX7_fillPart_0 rfl trivial ?_
    refine g_invV_r (pc := 1) (As := []) dX7_fillPart_1 rfl (q1) rfl rfl (shK hS0 rfl) rfl rfl lk_X7_140 rfl (nb rfl) ⟨nb rfl, nb rfl⟩ rfl ?_
    refine g_istore_n (pc := 4) (lv' := [(0, _), (1, _)]) dX7_fillPart_4 (nl rfl) rfl ?_
    refine g_aload_n (pc := 5) dX7_fillPart_5 rfl trivial ?_
    refine g_invV_r (pc := 6) (As := []) dX7_fillPart_6 rfl (q2) rfl rfl (shK hS1 rfl) rfl rfl lk_X7_132 rfl (nb rfl) ⟨nb rfl, nb rfl⟩ rfl ?_
    refine g_aload_n (pc := 9) dX7_fillPart_9 rfl trivial ?_
    refine g_invV_r (pc := 10) (As := []) dX7_fillPart_10 rfl (q3) rfl rfl (shK hS2 rfl) rfl rfl lk_X7_154 rfl (nb rfl) ⟨nb rfl, nb rfl⟩ rfl ?_
    refine g_istore_n (pc := 13) (lv' := [(0, _), (1, _), (2, _)]) dX7_fillPart_13 (nl rfl) rfl ?_
    refine g_iload_n (pc := 14) dX7_fillPart_14 rfl ?_
    refine g_iconst (pc := 15) (v := (-1)) dX7_fillPart_15 rfl ?_
    refine g_icmp_ne (pc := 16) (tgt := 24) dX7_fillPart_16 rfl (fun h16 => absurd h16 ((fun z => z rfl))) (fun _ => ?_)
    refine g_aload_n (pc := 19) dX7_fillPart_19 rfl trivial ?_
    refine g_iconst (pc := 20) (v := 1) dX7_fillPart_20 rfl ?_
    refine g_invV_r (pc := 21) (As := [_]) dX7_fillPart_21 rfl (qf) rfl rfl (shK hS2 rfl) rfl rfl lk_X7_118 rfl (nb rfl) ⟨nb rfl, nb rfl⟩ rfl ?_
    refine g_aload_n (pc := 24) dX7_fillPart_24 rfl trivial ?_
    refine g_getf (pc := 25) (v := .int _) dX7_fillPart_25 fk_X7_93 (shK hS4 rfl) (fun _ => congrArg Value.int (h114)) ?_
    refine g_if_eq (pc := 28) (tgt := 32) dX7_fillPart_28 rfl (fun h28 => absurd h28 (h5)) (fun _ => ?_)
    refine g_return (pc := 31) dX7_fillPart_31 rfl ?_
    exact ⟨rfl, rfl⟩
  · rw [if_neg h4]
    have hv : khV k = nI k := by unfold khV; rw [if_neg h4]
    rw [hv] at q3
    have hne : ∀ k, k < 4 → nI k ≠ -1 := by decide
    by_cases he : s2.2.2.2.1 = 0
    · rw [if_pos he]
      simp only
      rw [eP, show mL M 200 = mL (psM M s2) 200 from rfl]
      have hz1 : mL (psM M s2) 200 0 = lN n := hz
      generalize psM M s2 = M2 at *
      generalize psM M s1 = M1 at *
      generalize psM M s = M0 at *
      refine g_aload_n (pc := 0) dX7_fillPart_0 rfl trivial ?_
      refine g_invV_r (pc := 1) (As := []) dX7_fillPart_1 rfl (q1) rfl rfl (shK hS0 rfl) rfl rfl lk_X7_140 rfl (nb rfl) ⟨nb rfl, nb rfl⟩ rfl ?_
      refine g_istore_n (pc := 4) (lv' := [(0, _), (1, _)]) dX7_fillPart_4 (nl rfl) rfl ?_
      refine g_aload_n (pc := 5) dX7_fillPart_5 rfl trivial ?_
      refine g_invV_r (pc := 6) (As := []) dX7_fillPart_6 rfl (q2) rfl rfl (shK hS1 rfl) rfl rfl lk_X7_132 rfl (nb rfl) ⟨nb rfl, nb rfl⟩ rfl ?_
      refine g_aload_n (pc := 9) dX7_fillPart_9 rfl trivial ?_
      refine g_invV_r (pc := 10) (As := []) dX7_fillPart_10 rfl (q3) rfl rfl (shK hS2 rfl) rfl rfl lk_X7_154 rfl (nb rfl) ⟨nb rfl, nb rfl⟩ rfl ?_
      refine g_istore_n (pc := 13) (lv' := [(0, _), (1, _), (2, _)]) dX7_fillPart_13 (nl rfl) rfl ?_
      refine g_iload_n (pc := 14) dX7_fillPart_14 rfl ?_
      refine g_iconst (pc := 15) (v := (-1)) dX7_fillPart_15 rfl ?_
      refine g_icmp_ne (pc := 16) (tgt := 24) dX7_fillPart_16 rfl (fun _ => ?_) (fun h16 => absurd ((hne k (by omega))) h16)
      refine g_aload_n (pc := 24) dX7_fillPart_24 rfl trivial ?_
      refine g_getf (pc := 25) (v := .int _) dX7_fillPart_25 fk_X7_93 (shK hS2 rfl) (fun _ => congrArg Value.int (h11)) ?_
      refine g_if_eq (pc := 28) (tgt := 32) dX7_fillPart_28 rfl (fun _ => ?_) (fun h28 => absurd (he) h28)
      refine g_aload_n (pc := 32) dX7_fillPart_32 rfl trivial ?_
      refine g_getf (pc := 33) dX7_fillPart_33 fk_X7_13 (shK hS2 rfl) (fv_arr (shR hS2 rfl)) ?_
      refine g_iconst (pc := 36) (v := 0) dX7_fillPart_36 rfl ?_
      refine g_laload (pc := 37) dX7_fillPart_37 (shK hS2 rfl) rfl (by decide) (nl rfl) ?_
      rw [hz1]
      refine g_l2i (pc := 38) dX7_fillPart_38 (lN_i n) ?_
      refine g_istore_n (pc := 39) (lv' := [(0, _), (1, _), (2, _), (3, _)]) dX7_fillPart_39 (nl rfl) rfl ?_
      refine g_iconst (pc := 40) (v := 0) dX7_fillPart_40 rfl ?_
      refine g_istore (pc := 41) (lv' := [(0, _), (1, _), (2, _), (3, _), (4, _)]) dX7_fillPart_41 (nl rfl) rfl ?_
      refine go_loop (pc := 43) n (fun i => [(0, .ref 198), (1, .int (nI a)), (2, .int (nI k)), (3, .int (nI n)), (4, .int (nI i))]) (fun i => sL M2 200 (lyF (mL M2 200) a (flF k n) i)) ⟨rfl, rfl, rfl, rfl, rfl, trivial⟩ (sL_eq (lyF_0 _ _ _)) ?_ ?_
      · intro i hi ih
        have e3 : pL (sL M2 200 (lyF (mL M2 200) a (flF k n) i)) 200 (28 + 32 * a + i) (uL (flF k n i)) = sL M2 200 (lyF (mL M2 200) a (flF k n) (i + 1)) := sL_st (lyF_s _ _ _ i)
        have hS3 : Shp (sL M2 200 (lyF (mL M2 200) a (flF k n) i)) := hS2
        generalize sL M2 200 (lyF (mL M2 200) a (flF k n) (i + 1)) = M4 at *
        generalize sL M2 200 (lyF (mL M2 200) a (flF k n) i) = M3 at *
        refine g_iload (pc := 43) dX7_fillPart_43 rfl ?_
        refine g_iload_n (pc := 45) dX7_fillPart_45 rfl ?_
        refine g_icmp_ge (pc := 46) (tgt := 77) dX7_fillPart_46 rfl (fun h46 => absurd h46 (nI_ge hi (by omega))) (fun _ => ?_)
        refine g_aload_n (pc := 49) dX7_fillPart_49 rfl trivial ?_
        refine g_getf (pc := 50) dX7_fillPart_50 fk_X7_13 (shK hS3 rfl) (fv_arr (shR hS3 rfl)) ?_
        refine g_bipush (pc := 53) (v := 28) dX7_fillPart_53 rfl ?_
        refine g_bipush (pc := 55) (v := 32) dX7_fillPart_55 rfl ?_
        refine g_iload_n (pc := 57) dX7_fillPart_57 rfl ?_
        refine g_imul (pc := 58) dX7_fillPart_58 ?_
        refine g_iadd (pc := 59) dX7_fillPart_59 ?_
        refine g_iload (pc := 60) dX7_fillPart_60 rfl ?_
        refine g_iadd (pc := 62) dX7_fillPart_62 ?_
        rw [ixR]
        refine g_iload_n (pc := 63) dX7_fillPart_63 rfl ?_
        refine g_iload (pc := 64) dX7_fillPart_64 rfl ?_
        refine g_iload_n (pc := 66) dX7_fillPart_66 rfl ?_
        refine g_invS_r (pc := 67) (As := [_, _, _]) dX7_fillPart_67 rfl (r_filled (by omega) hi hn9) rfl rfl lk_X7_157 rfl (nb rfl) ⟨nb rfl, nb rfl⟩ rfl ?_
        refine g_lastore (pc := 70) dX7_fillPart_70 (shK hS3 rfl) rfl (show 28 + 32 * a + i < 220 by omega) (nl rfl) ?_
        refine g_iinc (pc := 71) (lv' := [(0, _), (1, _), (2, _), (3, _), (4, _)]) dX7_fillPart_71 rfl (nI_1 _) (nl rfl) rfl ?_
        refine g_goto (pc := 74) (tgt := 43) dX7_fillPart_74 rfl ?_
        exact go_cast e3 ih
      · refine g_iload (pc := 43) dX7_fillPart_43 rfl ?_
        refine g_iload_n (pc := 45) dX7_fillPart_45 rfl ?_
        refine g_icmp_ge (pc := 46) (tgt := 77) dX7_fillPart_46 rfl (fun _ => ?_) (fun h46 => absurd (nI_le (Nat.le_refl _) (by omega)) h46)
        refine g_return (pc := 77) dX7_fillPart_77 rfl ?_
        exact ⟨rfl, rfl⟩
    · rw [if_neg he]
      simp only
      rw [sL_id]
      refine g_aload_n (pc := 0) dX7_fillPart_0 rfl trivial ?_
      refine g_invV_r (pc := 1) (As := []) dX7_fillPart_1 rfl (q1) rfl rfl (shK hS0 rfl) rfl rfl lk_X7_140 rfl (nb rfl) ⟨nb rfl, nb rfl⟩ rfl ?_
      refine g_istore_n (pc := 4) (lv' := [(0, _), (1, _)]) dX7_fillPart_4 (nl rfl) rfl ?_
      refine g_aload_n (pc := 5) dX7_fillPart_5 rfl trivial ?_
      refine g_invV_r (pc := 6) (As := []) dX7_fillPart_6 rfl (q2) rfl rfl (shK hS1 rfl) rfl rfl lk_X7_132 rfl (nb rfl) ⟨nb rfl, nb rfl⟩ rfl ?_
      refine g_aload_n (pc := 9) dX7_fillPart_9 rfl trivial ?_
      refine g_invV_r (pc := 10) (As := []) dX7_fillPart_10 rfl (q3) rfl rfl (shK hS2 rfl) rfl rfl lk_X7_154 rfl (nb rfl) ⟨nb rfl, nb rfl⟩ rfl ?_
      refine g_istore_n (pc := 13) (lv' := [(0, _), (1, _), (2, _)]) dX7_fillPart_13 (nl rfl) rfl ?_
      refine g_iload_n (pc := 14) dX7_fillPart_14 rfl ?_
      refine g_iconst (pc := 15) (v := (-1)) dX7_fillPart_15 rfl ?_
      refine g_icmp_ne (pc := 16) (tgt := 24) dX7_fillPart_16 rfl (fun _ => ?_) (fun h16 => absurd ((hne k (by omega))) h16)
      refine g_aload_n (pc := 24) dX7_fillPart_24 rfl trivial ?_
      refine g_getf (pc := 25) (v := .int _) dX7_fillPart_25 fk_X7_93 (shK hS2 rfl) (fun _ => congrArg Value.int (h11)) ?_
      refine g_if_eq (pc := 28) (tgt := 32) dX7_fillPart_28 rfl (fun h28 => absurd h28 (he)) (fun _ => ?_)
      refine g_return (pc := 31) dX7_fillPart_31 rfl ?_
      exact ⟨rfl, rfl⟩
end

