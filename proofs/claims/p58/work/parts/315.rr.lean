/-! the reference reads: a statement, more, the size -/
/-- a block read -/
def gBk (T : Nat → Int32) (len : Nat) (u : Nat → Int64) (s : RP) : (Nat → Int64) × RP := (fun_set u 1 (nmV T len 1 8 s).toInt64, nmS T len 1 8 s)
def gS (T : Nat → Int32) (len n : Nat) (u : Nat → Int64) (s : RP) : (Nat → Int64) × RP :=
  if wdQ T (skipP T len s.1) (twd T len s).1 (strW 14) = true then gE T len n u (twd T len s)
  else if wdQ T (skipP T len s.1) (twd T len s).1 (strW 15) = true then gR T len n u (twd T len s)
  else if wdQ T (skipP T len s.1) (twd T len s).1 (strW 16) = true then gF T len n u (twd T len s)
  else if wdQ T (skipP T len s.1) (twd T len s).1 (strW 21) = true then gK T len u (twd T len s)
  else if wdQ T (skipP T len s.1) (twd T len s).1 (strW 22) = true then gBk T len u (twd T len s)
  else (u, rFail 1 (nI (skipP T len s.1)) (twd T len s))
section
variable {l : Launch} {M : Mem} {s : RP} {len n : Nat} {T : Nat → Int32}
theorem r_statement (hS : Shp M) (hT : txt M T len) (hl : mI M 198 8 = nI len) (hL : len ≤ 600) (hp : s.1 ≤ len) (hz : mL M 200 0 = lN n) (hn : 1 ≤ n) (hn9 : n ≤ 32) : EvR l jX7_statement 7 190 0 0 [.ref 198] (psM M s) (.inl none) (psM (sL M 200 (gS T len n (mL M 200) s).1) (gS T len n (mL M 200) s).2) := by
  have q0 := r_reads (l := l) (s := s) hS hT hl hL hp
  have hw := twd_le (T := T) hp
  have hw2 : (twd T len s).2.1 = nI (skipP T len s.1) := rfl
  unfold gS
  generalize twd T len s = s1 at *
  generalize skipP T len s.1 = b at *
  have w0 : EvR l jX7_isWord 4 110 0 0 [.ref 198, .retAddr (2 * 14 + 2)] (psM M s1) (.inl (some (.int (b1 (wdQ T b s1.1 (strW 14)))))) (psM M s1) := r_isWR 14 hS hT hL hw.1 hw2 hw.2 (by decide) (by decide)
  have w1 : EvR l jX7_isWord 4 110 0 0 [.ref 198, .retAddr (2 * 15 + 2)] (psM M s1) (.inl (some (.int (b1 (wdQ T b s1.1 (strW 15)))))) (psM M s1) := r_isWR 15 hS hT hL hw.1 hw2 hw.2 (by decide) (by decide)
  have w2 : EvR l jX7_isWord 4 110 0 0 [.ref 198, .retAddr (2 * 16 + 2)] (psM M s1) (.inl (some (.int (b1 (wdQ T b s1.1 (strW 16)))))) (psM M s1) := r_isWR 16 hS hT hL hw.1 hw2 hw.2 (by decide) (by decide)
  have w3 : EvR l jX7_isWord 4 110 0 0 [.ref 198, .retAddr (2 * 21 + 2)] (psM M s1) (.inl (some (.int (b1 (wdQ T b s1.1 (strW 21)))))) (psM M s1) := r_isWR 21 hS hT hL hw.1 hw2 hw.2 (by decide) (by decide)
  have w4 : EvR l jX7_isWord 4 110 0 0 [.ref 198, .retAddr (2 * 22 + 2)] (psM M s1) (.inl (some (.int (b1 (wdQ T b s1.1 (strW 22)))))) (psM M s1) := r_isWR 22 hS hT hL hw.1 hw2 hw.2 (by decide) (by decide)
  have p0 := r_edgePart (l := l) (s := s1) hS hT hl hL hw.1 hz hn hn9
  have p1 := r_rowPart (l := l) (s := s1) hS hT hl hL hw.1 hz hn hn9
  have p2 := r_fillPart (l := l) (s := s1) hS hT hl hL hw.1 hz hn hn9
  have p3 := r_keepPart (l := l) (s := s1) hS hT hl hL hw.1
  have p4 := r_numR (l := l) (s := s1) (lo := 1) (hi := 8) hS hT hl hL hw.1 (by decide)
  have pf := r_fails (l := l) (M := M) (s := s1) (k := 1) hS
  rw [hw2] at pf
  have hS0 : Shp (psM M s) := hS
  have hS1 : Shp (psM M s1) := hS
  generalize wdQ T b s1.1 (strW 14) = c0 at *
  generalize wdQ T b s1.1 (strW 15) = c1 at *
  generalize wdQ T b s1.1 (strW 16) = c2 at *
  generalize wdQ T b s1.1 (strW 21) = c3 at *
  generalize wdQ T b s1.1 (strW 22) = c4 at *
  generalize gE T len n (mL M 200) s1 = r0 at *
  generalize gR T len n (mL M 200) s1 = r1 at *
  generalize gF T len n (mL M 200) s1 = r2 at *
  generalize gK T len (mL M 200) s1 = r3 at *
  refine ev_intro rfl (nb rfl) rfl ?_
  cases c0 with
  | true =>
    refine g_aload_n (pc := 0) dX7_statement_0 rfl trivial ?_
    refine g_invV_r (pc := 1) (As := []) dX7_statement_1 rfl (q0) rfl rfl (shK hS0 rfl) rfl rfl lk_X7_132 rfl (nb rfl) ⟨nb rfl, nb rfl⟩ rfl ?_
    refine g_aload_n (pc := 4) dX7_statement_4 rfl trivial ?_
    refine g_ldcS (pc := 5) (kS := 14) dX7_statement_5 rfl ?_
    refine g_invV_r (pc := 7) (As := [_]) dX7_statement_7 rfl (w0) rfl rfl (shK hS1 rfl) rfl rfl lk_X7_136 rfl (nb rfl) ⟨nb rfl, nb rfl⟩ rfl ?_
    refine g_if_eq (pc := 10) (tgt := 20) dX7_statement_10 rfl (fun h10 => absurd h10 ((by decide))) (fun _ => ?_)
    refine g_aload_n (pc := 13) dX7_statement_13 rfl trivial ?_
    refine g_invV_r (pc := 14) (As := []) dX7_statement_14 rfl (p0) rfl rfl (shK hS1 rfl) rfl rfl lk_X7_163 rfl (nb rfl) ⟨nb rfl, nb rfl⟩ rfl ?_
    refine g_goto (pc := 17) (tgt := 99) dX7_statement_17 rfl ?_
    refine g_return (pc := 99) dX7_statement_99 rfl ?_
    exact ⟨rfl, rfl⟩
  | false =>
    cases c1 with
    | true =>
      refine g_aload_n (pc := 0) dX7_statement_0 rfl trivial ?_
      refine g_invV_r (pc := 1) (As := []) dX7_statement_1 rfl (q0) rfl rfl (shK hS0 rfl) rfl rfl lk_X7_132 rfl (nb rfl) ⟨nb rfl, nb rfl⟩ rfl ?_
      refine g_aload_n (pc := 4) dX7_statement_4 rfl trivial ?_
      refine g_ldcS (pc := 5) (kS := 14) dX7_statement_5 rfl ?_
      refine g_invV_r (pc := 7) (As := [_]) dX7_statement_7 rfl (w0) rfl rfl (shK hS1 rfl) rfl rfl lk_X7_136 rfl (nb rfl) ⟨nb rfl, nb rfl⟩ rfl ?_
      refine g_if_eq (pc := 10) (tgt := 20) dX7_statement_10 rfl (fun _ => ?_) (fun h10 => absurd (rfl) h10)
      refine g_aload_n (pc := 20) dX7_statement_20 rfl trivial ?_
      refine g_ldcS (pc := 21) (kS := 15) dX7_statement_21 rfl ?_
      refine g_invV_r (pc := 23) (As := [_]) dX7_statement_23 rfl (w1) rfl rfl (shK hS1 rfl) rfl rfl lk_X7_136 rfl (nb rfl) ⟨nb rfl, nb rfl⟩ rfl ?_
      refine g_if_eq (pc := 26) (tgt := 36) dX7_statement_26 rfl (fun h26 => absurd h26 ((by decide))) (fun _ => ?_)
      refine g_aload_n (pc := 29) dX7_statement_29 rfl trivial ?_
      refine g_invV_r (pc := 30) (As := []) dX7_statement_30 rfl (p1) rfl rfl (shK hS1 rfl) rfl rfl lk_X7_168 rfl (nb rfl) ⟨nb rfl, nb rfl⟩ rfl ?_
      refine g_goto (pc := 33) (tgt := 99) dX7_statement_33 rfl ?_
      refine g_return (pc := 99) dX7_statement_99 rfl ?_
      exact ⟨rfl, rfl⟩
    | false =>
      cases c2 with
      | true =>
        refine g_aload_n (pc := 0) dX7_statement_0 rfl trivial ?_
        refine g_invV_r (pc := 1) (As := []) dX7_statement_1 rfl (q0) rfl rfl (shK hS0 rfl) rfl rfl lk_X7_132 rfl (nb rfl) ⟨nb rfl, nb rfl⟩ rfl ?_
        refine g_aload_n (pc := 4) dX7_statement_4 rfl trivial ?_
        refine g_ldcS (pc := 5) (kS := 14) dX7_statement_5 rfl ?_
        refine g_invV_r (pc := 7) (As := [_]) dX7_statement_7 rfl (w0) rfl rfl (shK hS1 rfl) rfl rfl lk_X7_136 rfl (nb rfl) ⟨nb rfl, nb rfl⟩ rfl ?_
        refine g_if_eq (pc := 10) (tgt := 20) dX7_statement_10 rfl (fun _ => ?_) (fun h10 => absurd (rfl) h10)
        refine g_aload_n (pc := 20) dX7_statement_20 rfl trivial ?_
        refine g_ldcS (pc := 21) (kS := 15) dX7_statement_21 rfl ?_
        refine g_invV_r (pc := 23) (As := [_]) dX7_statement_23 rfl (w1) rfl rfl (shK hS1 rfl) rfl rfl lk_X7_136 rfl (nb rfl) ⟨nb rfl, nb rfl⟩ rfl ?_
        refine g_if_eq (pc := 26) (tgt := 36) dX7_statement_26 rfl (fun _ => ?_) (fun h26 => absurd (rfl) h26)
        refine g_aload_n (pc := 36) dX7_statement_36 rfl trivial ?_
        refine g_ldcS (pc := 37) (kS := 16) dX7_statement_37 rfl ?_
        refine g_invV_r (pc := 39) (As := [_]) dX7_statement_39 rfl (w2) rfl rfl (shK hS1 rfl) rfl rfl lk_X7_136 rfl (nb rfl) ⟨nb rfl, nb rfl⟩ rfl ?_
        refine g_if_eq (pc := 42) (tgt := 52) dX7_statement_42 rfl (fun h42 => absurd h42 ((by decide))) (fun _ => ?_)
        refine g_aload_n (pc := 45) dX7_statement_45 rfl trivial ?_
        refine g_invV_r (pc := 46) (As := []) dX7_statement_46 rfl (p2) rfl rfl (shK hS1 rfl) rfl rfl lk_X7_173 rfl (nb rfl) ⟨nb rfl, nb rfl⟩ rfl ?_
        refine g_goto (pc := 49) (tgt := 99) dX7_statement_49 rfl ?_
        refine g_return (pc := 99) dX7_statement_99 rfl ?_
        exact ⟨rfl, rfl⟩
      | false =>
        cases c3 with
        | true =>
          refine g_aload_n (pc := 0) dX7_statement_0 rfl trivial ?_
          refine g_invV_r (pc := 1) (As := []) dX7_statement_1 rfl (q0) rfl rfl (shK hS0 rfl) rfl rfl lk_X7_132 rfl (nb rfl) ⟨nb rfl, nb rfl⟩ rfl ?_
          refine g_aload_n (pc := 4) dX7_statement_4 rfl trivial ?_
          refine g_ldcS (pc := 5) (kS := 14) dX7_statement_5 rfl ?_
          refine g_invV_r (pc := 7) (As := [_]) dX7_statement_7 rfl (w0) rfl rfl (shK hS1 rfl) rfl rfl lk_X7_136 rfl (nb rfl) ⟨nb rfl, nb rfl⟩ rfl ?_
          refine g_if_eq (pc := 10) (tgt := 20) dX7_statement_10 rfl (fun _ => ?_) (fun h10 => absurd (rfl) h10)
          refine g_aload_n (pc := 20) dX7_statement_20 rfl trivial ?_
          refine g_ldcS (pc := 21) (kS := 15) dX7_statement_21 rfl ?_
          refine g_invV_r (pc := 23) (As := [_]) dX7_statement_23 rfl (w1) rfl rfl (shK hS1 rfl) rfl rfl lk_X7_136 rfl (nb rfl) ⟨nb rfl, nb rfl⟩ rfl ?_
          refine g_if_eq (pc := 26) (tgt := 36) dX7_statement_26 rfl (fun _ => ?_) (fun h26 => absurd (rfl) h26)
          refine g_aload_n (pc := 36) dX7_statement_36 rfl trivial ?_
          refine g_ldcS (pc := 37) (kS := 16) dX7_statement_37 rfl ?_
          refine g_invV_r (pc := 39) (As := [_]) dX7_statement_39 rfl (w2) rfl rfl (shK hS1 rfl) rfl rfl lk_X7_136 rfl (nb rfl) ⟨nb rfl, nb rfl⟩ rfl ?_
          refine g_if_eq (pc := 42) (tgt := 52) dX7_statement_42 rfl (fun _ => ?_) (fun h42 => absurd (rfl) h42)
          refine g_aload_n (pc := 52) dX7_statement_52 rfl trivial ?_
          refine g_ldcS (pc := 53) (kS := 21) dX7_statement_53 rfl ?_
          refine g_invV_r (pc := 55) (As := [_]) dX7_statement_55 rfl (w3) rfl rfl (shK hS1 rfl) rfl rfl lk_X7_136 rfl (nb rfl) ⟨nb rfl, nb rfl⟩ rfl ?_
          refine g_if_eq (pc := 58) (tgt := 68) dX7_statement_58 rfl (fun h58 => absurd h58 ((by decide))) (fun _ => ?_)
          refine g_aload_n (pc := 61) dX7_statement_61 rfl trivial ?_
          refine g_invV_r (pc := 62) (As := []) dX7_statement_62 rfl (p3) rfl rfl (shK hS1 rfl) rfl rfl lk_X7_178 rfl (nb rfl) ⟨nb rfl, nb rfl⟩ rfl ?_
          refine g_goto (pc := 65) (tgt := 99) dX7_statement_65 rfl ?_
          refine g_return (pc := 99) dX7_statement_99 rfl ?_
          exact ⟨rfl, rfl⟩
        | false =>
          cases c4 with
          | true =>
            have e9 : pL (psM M (nmS T len 1 8 s1)) 200 1 (nmV T len 1 8 s1).toInt64 = psM (sL M 200 (fun_set (mL M 200) 1 (nmV T len 1 8 s1).toInt64)) (nmS T len 1 8 s1) := ps_sL
            have e9 : psM (sL M 200 (gBk T len (mL M 200) s1).1) (gBk T len (mL M 200) s1).2 = pL (psM M (nmS T len 1 8 s1)) 200 1 (nmV T len 1 8 s1).toInt64 := e9.symm
            simp only [if_true, if_false, Bool.false_eq_true]
            rw [e9]
            have hS2 : Shp (psM M (nmS T len 1 8 s1)) := hS
            generalize psM M (nmS T len 1 8 s1) = M2 at *
            generalize nmV T len 1 8 s1 = v at *
            refine g_aload_n (pc := 0) dX7_statement_0 rfl trivial ?_
            refine g_invV_r (pc := 1) (As := []) dX7_statement_1 rfl (q0) rfl rfl (shK hS0 rfl) rfl rfl lk_X7_132 rfl (nb rfl) ⟨nb rfl, nb rfl⟩ rfl ?_
            refine g_aload_n (pc := 4) dX7_statement_4 rfl trivial ?_
            refine g_ldcS (pc := 5) (kS := 14) dX7_statement_5 rfl ?_
            refine g_invV_r (pc := 7) (As := [_]) dX7_statement_7 rfl (w0) rfl rfl (shK hS1 rfl) rfl rfl lk_X7_136 rfl (nb rfl) ⟨nb rfl, nb rfl⟩ rfl ?_
            refine g_if_eq (pc := 10) (tgt := 20) dX7_statement_10 rfl (fun _ => ?_) (fun h10 => absurd (rfl) h10)
            refine g_aload_n (pc := 20) dX7_statement_20 rfl trivial ?_
            refine g_ldcS (pc := 21) (kS := 15) dX7_statement_21 rfl ?_
            refine g_invV_r (pc := 23) (As := [_]) dX7_statement_23 rfl (w1) rfl rfl (shK hS1 rfl) rfl rfl lk_X7_136 rfl (nb rfl) ⟨nb rfl, nb rfl⟩ rfl ?_
            refine g_if_eq (pc := 26) (tgt := 36) dX7_statement_26 rfl (fun _ => ?_) (fun h26 => absurd (rfl) h26)
            refine g_aload_n (pc := 36) dX7_statement_36 rfl trivial ?_
            refine g_ldcS (pc := 37) (kS := 16) dX7_statement_37 rfl ?_
            refine g_invV_r (pc := 39) (As := [_]) dX7_statement_39 rfl (w2) rfl rfl (shK hS1 rfl) rfl rfl lk_X7_136 rfl (nb rfl) ⟨nb rfl, nb rfl⟩ rfl ?_
            refine g_if_eq (pc := 42) (tgt := 52) dX7_statement_42 rfl (fun _ => ?_) (fun h42 => absurd (rfl) h42)
            refine g_aload_n (pc := 52) dX7_statement_52 rfl trivial ?_
            refine g_ldcS (pc := 53) (kS := 21) dX7_statement_53 rfl ?_
            refine g_invV_r (pc := 55) (As := [_]) dX7_statement_55 rfl (w3) rfl rfl (shK hS1 rfl) rfl rfl lk_X7_136 rfl (nb rfl) ⟨nb rfl, nb rfl⟩ rfl ?_
            refine g_if_eq (pc := 58) (tgt := 68) dX7_statement_58 rfl (fun _ => ?_) (fun h58 => absurd (rfl) h58)
            refine g_aload_n (pc := 68) dX7_statement_68 rfl trivial ?_
            refine g_ldcS (pc := 69) (kS := 22) dX7_statement_69 rfl ?_
            refine g_invV_r (pc := 71) (As := [_]) dX7_statement_71 rfl (w4) rfl rfl (shK hS1 rfl) rfl rfl lk_X7_136 rfl (nb rfl) ⟨nb rfl, nb rfl⟩ rfl ?_
            refine g_if_eq (pc := 74) (tgt := 94) dX7_statement_74 rfl (fun h74 => absurd h74 ((by decide))) (fun _ => ?_)
            refine g_aload_n (pc := 77) dX7_statement_77 rfl trivial ?_
            refine g_getf (pc := 78) dX7_statement_78 fk_X7_13 (shK hS1 rfl) (fv_arr (shR hS1 rfl)) ?_
            refine g_iconst (pc := 81) (v := 1) dX7_statement_81 rfl ?_
            refine g_aload_n (pc := 82) dX7_statement_82 rfl trivial ?_
            refine g_iconst (pc := 83) (v := 1) dX7_statement_83 rfl ?_
            refine g_bipush (pc := 84) (v := 8) dX7_statement_84 rfl ?_
            refine g_invV_r (pc := 86) (As := [_, _]) dX7_statement_86 rfl (p4) rfl rfl (shK hS1 rfl) rfl rfl lk_X7_129 rfl (nb rfl) ⟨nb rfl, nb rfl⟩ rfl ?_
            refine g_i2l (pc := 89) dX7_statement_89 rfl ?_
            refine g_lastore (pc := 90) dX7_statement_90 (shK hS2 rfl) rfl (by decide) (nl rfl) ?_
            refine g_goto (pc := 91) (tgt := 99) dX7_statement_91 rfl ?_
            refine g_return (pc := 99) dX7_statement_99 rfl ?_
            exact ⟨rfl, rfl⟩
          | false =>
            simp only [if_false, Bool.false_eq_true]
            rw [sL_id]
            refine g_aload_n (pc := 0) dX7_statement_0 rfl trivial ?_
            refine g_invV_r (pc := 1) (As := []) dX7_statement_1 rfl (q0) rfl rfl (shK hS0 rfl) rfl rfl lk_X7_132 rfl (nb rfl) ⟨nb rfl, nb rfl⟩ rfl ?_
            refine g_aload_n (pc := 4) dX7_statement_4 rfl trivial ?_
            refine g_ldcS (pc := 5) (kS := 14) dX7_statement_5 rfl ?_
            refine g_invV_r (pc := 7) (As := [_]) dX7_statement_7 rfl (w0) rfl rfl (shK hS1 rfl) rfl rfl lk_X7_136 rfl (nb rfl) ⟨nb rfl, nb rfl⟩ rfl ?_
            refine g_if_eq (pc := 10) (tgt := 20) dX7_statement_10 rfl (fun _ => ?_) (fun h10 => absurd (rfl) h10)
            refine g_aload_n (pc := 20) dX7_statement_20 rfl trivial ?_
            refine g_ldcS (pc := 21) (kS := 15) dX7_statement_21 rfl ?_
            refine g_invV_r (pc := 23) (As := [_]) dX7_statement_23 rfl (w1) rfl rfl (shK hS1 rfl) rfl rfl lk_X7_136 rfl (nb rfl) ⟨nb rfl, nb rfl⟩ rfl ?_
            refine g_if_eq (pc := 26) (tgt := 36) dX7_statement_26 rfl (fun _ => ?_) (fun h26 => absurd (rfl) h26)
            refine g_aload_n (pc := 36) dX7_statement_36 rfl trivial ?_
            refine g_ldcS (pc := 37) (kS := 16) dX7_statement_37 rfl ?_
            refine g_invV_r (pc := 39) (As := [_]) dX7_statement_39 rfl (w2) rfl rfl (shK hS1 rfl) rfl rfl lk_X7_136 rfl (nb rfl) ⟨nb rfl, nb rfl⟩ rfl ?_
            refine g_if_eq (pc := 42) (tgt := 52) dX7_statement_42 rfl (fun _ => ?_) (fun h42 => absurd (rfl) h42)
            refine g_aload_n (pc := 52) dX7_statement_52 rfl trivial ?_
            refine g_ldcS (pc := 53) (kS := 21) dX7_statement_53 rfl ?_
            refine g_invV_r (pc := 55) (As := [_]) dX7_statement_55 rfl (w3) rfl rfl (shK hS1 rfl) rfl rfl lk_X7_136 rfl (nb rfl) ⟨nb rfl, nb rfl⟩ rfl ?_
            refine g_if_eq (pc := 58) (tgt := 68) dX7_statement_58 rfl (fun _ => ?_) (fun h58 => absurd (rfl) h58)
            refine g_aload_n (pc := 68) dX7_statement_68 rfl trivial ?_
            refine g_ldcS (pc := 69) (kS := 22) dX7_statement_69 rfl ?_
            refine g_invV_r (pc := 71) (As := [_]) dX7_statement_71 rfl (w4) rfl rfl (shK hS1 rfl) rfl rfl lk_X7_136 rfl (nb rfl) ⟨nb rfl, nb rfl⟩ rfl ?_
            refine g_if_eq (pc := 74) (tgt := 94) dX7_statement_74 rfl (fun _ => ?_) (fun h74 => absurd (rfl) h74)
            refine g_aload_n (pc := 94) dX7_statement_94 rfl trivial ?_
            refine g_iconst (pc := 95) (v := 1) dX7_statement_95 rfl ?_
            refine g_invV_r (pc := 96) (As := [_]) dX7_statement_96 rfl (pf) rfl rfl (shK hS1 rfl) rfl rfl lk_X7_118 rfl (nb rfl) ⟨nb rfl, nb rfl⟩ rfl ?_
            refine g_return (pc := 99) dX7_statement_99 rfl ?_
            exact ⟨rfl, rfl⟩
def mvS (T : Nat → Int32) (len : Nat) (s : RP) : RP := if s.2.2.2.1 = 0 then (if skipP T len s.1 < len then (if T (skipP T len s.1) = 59 then (skipP T len s.1 + 1, nI (skipP T len s.1), s.2.2.1 + 1, s.2.2.2) else rFail 1 (nI (skipP T len s.1)) (nxS T len s)) else nxS T len s) else s
def mvB (T : Nat → Int32) (len : Nat) (s : RP) : Bool := decide (s.2.2.2.1 = 0) && decide (skipP T len s.1 < len) && decide (T (skipP T len s.1) = 59)
theorem r_isMore (hS : Shp M) (hT : txt M T len) (hl : mI M 198 8 = nI len) (hL : len ≤ 600) (hp : s.1 ≤ len) : EvR l jX7_isMore 2 60 0 0 [.ref 198] (psM M s) (.inl (some (.int (b1 (mvB T len s))))) (psM M (mvS T len s)) := by
  have q1 := r_next (l := l) (s := s) hS hT hl hL hp
  have hsk := skipP_le (T := T) hp
  unfold mvB mvS
  have h11 : mI (psM M s) 198 11 = s.2.2.2.1 := ps_11
  have hS0 : Shp (psM M s) := hS
  refine ev_intro rfl (nb rfl) rfl ?_
  by_cases he : s.2.2.2.1 = 0
  · rw [if_pos he]
    unfold nxS at *
    generalize skipP T len s.1 = p at *
    have q2 := r_here (l := l) (s := (p, nI p, s.2.2)) hS hT hl hL hsk.2
    simp only at q2
    have hS1 : Shp (psM M (p, nI p, s.2.2)) := hS
    by_cases h1 : p < len
    · rw [if_pos h1]
      obtain ⟨j, j1, j2, j3⟩ := hT p h1
      have hv : hvF T len p = T p := by unfold hvF; rw [if_pos h1]
      rw [hv] at q1 q2
      have hge : T p ≥ 0 := by rw [j2]; exact (by decide +kernel : ∀ j, j < 256 → nI j ≥ 0) j j1
      by_cases h2 : T p = 59
      · rw [if_pos h2]
        have h9 : mI (psM M (p, nI p, s.2.2)) 198 9 = nI p := ps_9
        have e9 : pI (psM M (p, nI p, s.2.2)) 198 9 (nI (p + 1)) = psM M (p + 1, nI p, s.2.2) := ps_p9 rfl
        have hS2 : Shp (psM M (p + 1, nI p, s.2.2)) := hS
        have h13 : mI (psM M (p + 1, nI p, s.2.2)) 198 13 = s.2.2.1 := ps_13
        have e13 : pI (psM M (p + 1, nI p, s.2.2)) 198 13 (s.2.2.1 + 1) = psM M (p + 1, nI p, s.2.2.1 + 1, s.2.2.2) := ps_p13
        have eb : (decide (s.2.2.2.1 = 0) && decide (p < len) && decide (T p = 59)) = true := by simp [he, h1, h2]
        rw [eb]
        generalize psM M (p + 1, nI p, s.2.2.1 + 1, s.2.2.2) = M3 at *
        generalize psM M (p + 1, nI p, s.2.2) = M2 at *
        generalize psM M (p, nI p, s.2.2) = M1 at *
        refine g_aload_n (pc := 0) dX7_isMore_0 rfl trivial ?_
        refine g_getf (pc := 1) (v := .int _) dX7_isMore_1 fk_X7_93 (shK hS0 rfl) (fun _ => congrArg Value.int (h11)) ?_
        refine g_if_ne (pc := 4) (tgt := 14) dX7_isMore_4 rfl (fun h4 => absurd h4 ((fun z => z he))) (fun _ => ?_)
        refine g_aload_n (pc := 7) dX7_isMore_7 rfl trivial ?_
        refine g_invV_r (pc := 8) (As := []) dX7_isMore_8 rfl (q1) rfl rfl (shK hS0 rfl) rfl rfl lk_X7_99 rfl (nb rfl) ⟨nb rfl, nb rfl⟩ rfl ?_
        refine g_if_ge (pc := 11) (tgt := 16) dX7_isMore_11 rfl (fun _ => ?_) (fun h11 => absurd (hge) h11)
        refine g_aload_n (pc := 16) dX7_isMore_16 rfl trivial ?_
        refine g_invV_r (pc := 17) (As := []) dX7_isMore_17 rfl (q2) rfl rfl (shK hS1 rfl) rfl rfl lk_X7_87 rfl (nb rfl) ⟨nb rfl, nb rfl⟩ rfl ?_
        refine g_bipush (pc := 20) (v := 59) dX7_isMore_20 rfl ?_
        refine g_icmp_eq (pc := 22) (tgt := 32) dX7_isMore_22 rfl (fun _ => ?_) (fun h22 => absurd (h2) h22)
        refine g_aload_n (pc := 32) dX7_isMore_32 rfl trivial ?_
        refine g_dup (pc := 33) dX7_isMore_33 rfl ?_
        refine g_getf (pc := 34) (v := .int _) dX7_isMore_34 fk_X7_84 (shK hS1 rfl) (fun _ => congrArg Value.int (h9)) ?_
        refine g_iconst (pc := 37) (v := 1) dX7_isMore_37 rfl ?_
        refine g_iadd (pc := 38) dX7_isMore_38 ?_
        rw [nI_1]
        refine g_putI (pc := 39) dX7_isMore_39 fp_X7_84 (shK hS1 rfl) ⟨rfl, rfl⟩ (fun _ _ _ _ => rfl) ?_
        refine go_cast e9 ?_
        refine g_aload_n (pc := 42) dX7_isMore_42 rfl trivial ?_
        refine g_dup (pc := 43) dX7_isMore_43 rfl ?_
        refine g_getf (pc := 44) (v := .int _) dX7_isMore_44 fk_X7_183 (shK hS2 rfl) (fun _ => congrArg Value.int (h13)) ?_
        refine g_iconst (pc := 47) (v := 1) dX7_isMore_47 rfl ?_
        refine g_iadd (pc := 48) dX7_isMore_48 ?_
        refine g_putI (pc := 49) dX7_isMore_49 fp_X7_183 (shK hS2 rfl) ⟨rfl, rfl⟩ (fun _ _ _ _ => rfl) ?_
        refine go_cast e13 ?_
        refine g_iconst (pc := 52) (v := 1) dX7_isMore_52 rfl ?_
        refine g_ireturn (pc := 53) dX7_isMore_53 rfl rfl ?_
        exact ⟨rfl, rfl⟩
      · rw [if_neg h2]
        have qf := r_fails (l := l) (M := M) (s := (p, nI p, s.2.2)) (k := 1) hS
        simp only at qf
        have eb : (decide (s.2.2.2.1 = 0) && decide (p < len) && decide (T p = 59)) = false := by simp [h2]
        rw [eb]
        generalize psM M (p, nI p, s.2.2) = M1 at *
        refine g_aload_n (pc := 0) dX7_isMore_0 rfl trivial ?_
        refine g_getf (pc := 1) (v := .int _) dX7_isMore_1 fk_X7_93 (shK hS0 rfl) (fun _ => congrArg Value.int (h11)) ?_
        refine g_if_ne (pc := 4) (tgt := 14) dX7_isMore_4 rfl (fun h4 => absurd h4 ((fun z => z he))) (fun _ => ?_)
        refine g_aload_n (pc := 7) dX7_isMore_7 rfl trivial ?_
        refine g_invV_r (pc := 8) (As := []) dX7_isMore_8 rfl (q1) rfl rfl (shK hS0 rfl) rfl rfl lk_X7_99 rfl (nb rfl) ⟨nb rfl, nb rfl⟩ rfl ?_
        refine g_if_ge (pc := 11) (tgt := 16) dX7_isMore_11 rfl (fun _ => ?_) (fun h11 => absurd (hge) h11)
        refine g_aload_n (pc := 16) dX7_isMore_16 rfl trivial ?_
        refine g_invV_r (pc := 17) (As := []) dX7_isMore_17 rfl (q2) rfl rfl (shK hS1 rfl) rfl rfl lk_X7_87 rfl (nb rfl) ⟨nb rfl, nb rfl⟩ rfl ?_
        refine g_bipush (pc := 20) (v := 59) dX7_isMore_20 rfl ?_
        refine g_icmp_eq (pc := 22) (tgt := 32) dX7_isMore_22 rfl (fun h22 => absurd h22 (h2)) (fun _ => ?_)
        refine g_aload_n (pc := 25) dX7_isMore_25 rfl trivial ?_
        refine g_iconst (pc := 26) (v := 1) dX7_isMore_26 rfl ?_
        refine g_invV_r (pc := 27) (As := [_]) dX7_isMore_27 rfl (qf) rfl rfl (shK hS1 rfl) rfl rfl lk_X7_118 rfl (nb rfl) ⟨nb rfl, nb rfl⟩ rfl ?_
        refine g_iconst (pc := 30) (v := 0) dX7_isMore_30 rfl ?_
        refine g_ireturn (pc := 31) dX7_isMore_31 rfl rfl ?_
        exact ⟨rfl, rfl⟩
    · rw [if_neg h1]
      have hv : hvF T len p = -1 := by unfold hvF; rw [if_neg h1]
      rw [hv] at q1
      have eb : (decide (s.2.2.2.1 = 0) && decide (p < len) && decide (T p = 59)) = false := by simp [h1]
      rw [eb]
      refine g_aload_n (pc := 0) dX7_isMore_0 rfl trivial ?_
      refine g_getf (pc := 1) (v := .int _) dX7_isMore_1 fk_X7_93 (shK hS0 rfl) (fun _ => congrArg Value.int (h11)) ?_
      refine g_if_ne (pc := 4) (tgt := 14) dX7_isMore_4 rfl (fun h4 => absurd h4 ((fun z => z he))) (fun _ => ?_)
      refine g_aload_n (pc := 7) dX7_isMore_7 rfl trivial ?_
      refine g_invV_r (pc := 8) (As := []) dX7_isMore_8 rfl (q1) rfl rfl (shK hS0 rfl) rfl rfl lk_X7_99 rfl (nb rfl) ⟨nb rfl, nb rfl⟩ rfl ?_
      refine g_if_ge (pc := 11) (tgt := 16) dX7_isMore_11 rfl (fun h11 => absurd h11 ((by decide))) (fun _ => ?_)
      refine g_iconst (pc := 14) (v := 0) dX7_isMore_14 rfl ?_
      refine g_ireturn (pc := 15) dX7_isMore_15 rfl rfl ?_
      exact ⟨rfl, rfl⟩
  · rw [if_neg he]
    have eb : (decide (s.2.2.2.1 = 0) && decide (skipP T len s.1 < len) && decide (T (skipP T len s.1) = 59)) = false := by simp [he]
    rw [eb]
    refine g_aload_n (pc := 0) dX7_isMore_0 rfl trivial ?_
    refine g_getf (pc := 1) (v := .int _) dX7_isMore_1 fk_X7_93 (shK hS0 rfl) (fun _ => congrArg Value.int (h11)) ?_
    refine g_if_ne (pc := 4) (tgt := 14) dX7_isMore_4 rfl (fun _ => ?_) (fun h4 => absurd (he) h4)
    refine g_iconst (pc := 14) (v := 0) dX7_isMore_14 rfl ?_
    refine g_ireturn (pc := 15) dX7_isMore_15 rfl rfl ?_
    exact ⟨rfl, rfl⟩
def clF (u : Nat → Int64) (k : Nat) : Nat → Int64 := fun i => if i < k then 0 else u i
theorem clF_0 (u : Nat → Int64) : clF u 0 = u := by funext i; unfold clF; rw [if_neg (by omega)]
theorem clF_s (u : Nat → Int64) (k : Nat) : fun_set (clF u k) k 0 = clF u (k + 1) := by
  funext i
  unfold clF fun_set
  dsimp only
  by_cases h1 : i = k
  · rw [if_pos h1, if_pos (by omega)]
  · rw [if_neg h1]
    by_cases h2 : i < k
    · rw [if_pos h2, if_pos (by omega)]
    · rw [if_neg h2, if_neg (by omega)]
/-- an empty state -/
def bgF (u : Nat → Int64) (n : Nat) : Nat → Int64 := fun_set (fun_set (clF u 220) 0 (lN n)) 1 4
theorem r_begins {x n : Nat} (hkx : (mK M)[x]? = some (kL 220)) (hn9 : n ≤ 32) : EvR l jX7_begins 0 0 0 0 [.ref x, .int (nI n)] M (.inl none) (sL M x (bgF (mL M x) n)) := by
  refine ev_intro rfl (nb rfl) rfl ?_
  refine g_iconst (pc := 0) (v := 0) dX7_begins_0 rfl ?_
  refine g_istore_n (pc := 1) (lv' := [(0, _), (1, _), (2, _)]) dX7_begins_1 (nl rfl) rfl ?_
  refine go_loop (pc := 2) 220 (fun i => [(0, .ref x), (1, .int (nI n)), (2, .int (nI i))]) (fun i => sL M x (clF (mL M x) i)) ⟨rfl, rfl, rfl, trivial⟩ (sL_eq (clF_0 _)) ?_ ?_
  · intro i hi ih
    have hkx2 : (mK (sL M x (clF (mL M x) i)))[x]? = some (kL 220) := hkx
    refine g_iload_n (pc := 2) dX7_begins_2 rfl ?_
    refine g_sipush (pc := 3) (v := 220) dX7_begins_3 rfl ?_
    refine g_icmp_ge (pc := 6) (tgt := 19) dX7_begins_6 rfl (fun h6 => absurd h6 (nI_ge (b := 220) hi (by decide))) (fun _ => ?_)
    refine g_aload_n (pc := 9) dX7_begins_9 rfl trivial ?_
    refine g_iload_n (pc := 10) dX7_begins_10 rfl ?_
    refine g_lconst (pc := 11) (v := 0) dX7_begins_11 rfl ?_
    refine g_lastore (pc := 12) dX7_begins_12 hkx2 rfl hi (nl rfl) ?_
    refine g_iinc (pc := 13) (lv' := [(0, _), (1, _), (2, _)]) dX7_begins_13 rfl (nI_1 _) (nl rfl) rfl ?_
    refine g_goto (pc := 16) (tgt := 2) dX7_begins_16 rfl ?_
    exact go_cast (sL_st (clF_s _ i)) ih
  · have hkx2 : (mK (sL M x (clF (mL M x) 220)))[x]? = some (kL 220) := hkx
    have e1 : pL (sL M x (clF (mL M x) 220)) x 0 (lN n) = sL M x (fun_set (clF (mL M x) 220) 0 (lN n)) := sL_st rfl
    have e2 : pL (sL M x (fun_set (clF (mL M x) 220) 0 (lN n))) x 1 4 = sL M x (bgF (mL M x) n) := sL_st rfl
    have hkx3 : (mK (sL M x (fun_set (clF (mL M x) 220) 0 (lN n))))[x]? = some (kL 220) := hkx
    generalize sL M x (bgF (mL M x) n) = M4 at *
    generalize sL M x (fun_set (clF (mL M x) 220) 0 (lN n)) = M3 at *
    generalize sL M x (clF (mL M x) 220) = M2 at *
    refine g_iload_n (pc := 2) dX7_begins_2 rfl ?_
    refine g_sipush (pc := 3) (v := 220) dX7_begins_3 rfl ?_
    refine g_icmp_ge (pc := 6) (tgt := 19) dX7_begins_6 rfl (fun _ => ?_) (fun h6 => absurd (nI_le (Nat.le_refl 220) (by decide)) h6)
    refine g_aload_n (pc := 19) dX7_begins_19 rfl trivial ?_
    refine g_iconst (pc := 20) (v := 0) dX7_begins_20 rfl ?_
    refine g_iload_n (pc := 21) dX7_begins_21 rfl ?_
    refine g_i2l (pc := 22) dX7_begins_22 rfl ?_
    rw [lN_nI (by omega)]
    refine g_lastore (pc := 23) dX7_begins_23 hkx2 rfl (by decide) (nl rfl) ?_
    refine go_cast e1 ?_
    refine g_aload_n (pc := 24) dX7_begins_24 rfl trivial ?_
    refine g_iconst (pc := 25) (v := 1) dX7_begins_25 rfl ?_
    refine g_ldc2 (pc := 26) dX7_begins_26 wd_1215 ?_
    refine g_lastore (pc := 29) dX7_begins_29 hkx3 rfl (by decide) (nl rfl) ?_
    refine go_cast e2 ?_
    refine g_return (pc := 30) dX7_begins_30 rfl ?_
    exact ⟨rfl, rfl⟩
/-- the size read -/
def szS0 (T : Nat → Int32) (len : Nat) (s : RP) : RP := if wdQ T (skipP T len s.1) (twd T len s).1 (strW 13) = true then twd T len s else rFail 1 (nI (skipP T len s.1)) (twd T len s)
def szN (T : Nat → Int32) (len : Nat) (s : RP) : Nat := (nmV T len 1 32 (szS0 T len s)).toNatClampNeg
def szS (T : Nat → Int32) (len : Nat) (s : RP) : RP := nmS T len 1 32 (szS0 T len s)
theorem szS0_le (hp : s.1 ≤ len) : (szS0 T len s).1 ≤ len := by
  unfold szS0; split
  · exact (twd_le hp).1
  · rw [(rFail_1 _ _ _).1]; exact (twd_le hp).1
theorem szN_ok (T : Nat → Int32) (len : Nat) (s : RP) : nmV T len 1 32 (szS0 T len s) = nI (szN T len s) ∧ 1 ≤ szN T len s ∧ szN T len s ≤ 32 := by
  have h : ¬ nmV T len 1 32 (szS0 T len s) < 1 ∧ ¬ 32 < nmV T len 1 32 (szS0 T len s) := by
    unfold nmV
    split
    · exact tnv_in T len 1 32 (szS0 T len s) (by decide)
    · exact ⟨by decide, by decide⟩
  unfold szN
  generalize nmV T len 1 32 (szS0 T len s) = v at *
  obtain ⟨j, h3, h4⟩ := nI_of2 (x := v) (M := 32) (n := 32) (by decide) (fun q => h.1 (Int32.lt_trans q (by decide))) (Int32.not_lt.mp h.2)
  subst h4
  rw [nI_clamp (by omega)]
  refine ⟨rfl, Nat.pos_of_ne_zero fun q => ?_, h3⟩
  subst q
  exact h.1 (by decide)
theorem r_sizePart (hS : Shp M) (hT : txt M T len) (hl : mI M 198 8 = nI len) (hL : len ≤ 600) (hp : s.1 ≤ len) : EvR l jX7_sizePart 5 140 0 0 [.ref 198] (psM M s) (.inl none) (psM (sL M 200 (bgF (mL M 200) (szN T len s))) (szS T len s)) := by
  have q0 := r_reads (l := l) (s := s) hS hT hl hL hp
  have hw := twd_le (T := T) hp
  have hw2 : (twd T len s).2.1 = nI (skipP T len s.1) := rfl
  have h0 := szS0_le (T := T) hp
  obtain ⟨n1, n2, n3⟩ := szN_ok T len s
  have p4 := r_numR (l := l) (s := szS0 T len s) (lo := 1) (hi := 32) hS hT hl hL h0 (by decide)
  rw [n1] at p4
  have q5 := r_begins (l := l) (M := psM M (szS T len s)) (x := 200) (n := szN T len s) (shK (M := psM M (szS T len s)) hS rfl) n3
  have e5 : sL (psM M (szS T len s)) 200 (bgF (mL (psM M (szS T len s)) 200) (szN T len s)) = psM (sL M 200 (bgF (mL M 200) (szN T len s))) (szS T len s) := ps_sL
  rw [e5] at q5
  have p4 : EvR l jX7_number 2 60 0 0 [.ref 198, .int 1, .int 32] (psM M (szS0 T len s)) (.inl (some (.int (nI (szN T len s))))) (psM M (szS T len s)) := p4
  have hSz : Shp (psM M (szS T len s)) := hS
  generalize szS T len s = s3 at *
  generalize szN T len s = n at *
  unfold szS0 at *
  generalize twd T len s = s1 at *
  generalize skipP T len s.1 = b at *
  have w0 : EvR l jX7_isWord 4 110 0 0 [.ref 198, .retAddr (2 * 13 + 2)] (psM M s1) (.inl (some (.int (b1 (wdQ T b s1.1 (strW 13)))))) (psM M s1) := r_isWR 13 hS hT hL hw.1 hw2 hw.2 (by decide) (by decide)
  have pf := r_fails (l := l) (M := M) (s := s1) (k := 1) hS
  rw [hw2] at pf
  have hS0 : Shp (psM M s) := hS
  have hS1 : Shp (psM M s1) := hS
  have hS2 : Shp (psM M (rFail 1 (nI b) s1)) := hS
  generalize wdQ T b s1.1 (strW 13) = c0 at *
  generalize psM (sL M 200 (bgF (mL M 200) n)) s3 = M9 at *
  refine ev_intro rfl (nb rfl) rfl ?_
  cases c0 with
  | true =>
    rw [if_pos rfl] at p4
    refine g_aload_n (pc := 0) dX7_sizePart_0 rfl trivial ?_
    refine g_invV_r (pc := 1) (As := []) dX7_sizePart_1 rfl (q0) rfl rfl (shK hS0 rfl) rfl rfl lk_X7_132 rfl (nb rfl) ⟨nb rfl, nb rfl⟩ rfl ?_
    refine g_aload_n (pc := 4) dX7_sizePart_4 rfl trivial ?_
    refine g_ldcS (pc := 5) (kS := 13) dX7_sizePart_5 rfl ?_
    refine g_invV_r (pc := 7) (As := [_]) dX7_sizePart_7 rfl (w0) rfl rfl (shK hS1 rfl) rfl rfl lk_X7_136 rfl (nb rfl) ⟨nb rfl, nb rfl⟩ rfl ?_
    refine g_if_ne (pc := 10) (tgt := 18) dX7_sizePart_10 rfl (fun _ => ?_) (fun h10 => absurd ((by decide)) h10)
    refine g_aload_n (pc := 18) dX7_sizePart_18 rfl trivial ?_
    refine g_getf (pc := 19) dX7_sizePart_19 fk_X7_13 (shK hS1 rfl) (fv_arr (shR hS1 rfl)) ?_
    refine g_aload_n (pc := 22) dX7_sizePart_22 rfl trivial ?_
    refine g_iconst (pc := 23) (v := 1) dX7_sizePart_23 rfl ?_
    refine g_bipush (pc := 24) (v := 32) dX7_sizePart_24 rfl ?_
    refine g_invV_r (pc := 26) (As := [_, _]) dX7_sizePart_26 rfl (p4) rfl rfl (shK hS1 rfl) rfl rfl lk_X7_129 rfl (nb rfl) ⟨nb rfl, nb rfl⟩ rfl ?_
    refine g_invS_r (pc := 29) (As := [_, _]) dX7_sizePart_29 rfl (q5) rfl rfl lk_X7_56 rfl (nb rfl) ⟨nb rfl, nb rfl⟩ rfl ?_
    refine g_return (pc := 32) dX7_sizePart_32 rfl ?_
    exact ⟨rfl, rfl⟩
  | false =>
    rw [if_neg (by decide)] at p4
    refine g_aload_n (pc := 0) dX7_sizePart_0 rfl trivial ?_
    refine g_invV_r (pc := 1) (As := []) dX7_sizePart_1 rfl (q0) rfl rfl (shK hS0 rfl) rfl rfl lk_X7_132 rfl (nb rfl) ⟨nb rfl, nb rfl⟩ rfl ?_
    refine g_aload_n (pc := 4) dX7_sizePart_4 rfl trivial ?_
    refine g_ldcS (pc := 5) (kS := 13) dX7_sizePart_5 rfl ?_
    refine g_invV_r (pc := 7) (As := [_]) dX7_sizePart_7 rfl (w0) rfl rfl (shK hS1 rfl) rfl rfl lk_X7_136 rfl (nb rfl) ⟨nb rfl, nb rfl⟩ rfl ?_
    refine g_if_ne (pc := 10) (tgt := 18) dX7_sizePart_10 rfl (fun h10 => absurd h10 ((fun z => z rfl))) (fun _ => ?_)
    refine g_aload_n (pc := 13) dX7_sizePart_13 rfl trivial ?_
    refine g_iconst (pc := 14) (v := 1) dX7_sizePart_14 rfl ?_
    refine g_invV_r (pc := 15) (As := [_]) dX7_sizePart_15 rfl (pf) rfl rfl (shK hS1 rfl) rfl rfl lk_X7_118 rfl (nb rfl) ⟨nb rfl, nb rfl⟩ rfl ?_
    refine g_aload_n (pc := 18) dX7_sizePart_18 rfl trivial ?_
    refine g_getf (pc := 19) dX7_sizePart_19 fk_X7_13 (shK hS2 rfl) (fv_arr (shR hS2 rfl)) ?_
    refine g_aload_n (pc := 22) dX7_sizePart_22 rfl trivial ?_
    refine g_iconst (pc := 23) (v := 1) dX7_sizePart_23 rfl ?_
    refine g_bipush (pc := 24) (v := 32) dX7_sizePart_24 rfl ?_
    refine g_invV_r (pc := 26) (As := [_, _]) dX7_sizePart_26 rfl (p4) rfl rfl (shK hS2 rfl) rfl rfl lk_X7_129 rfl (nb rfl) ⟨nb rfl, nb rfl⟩ rfl ?_
    refine g_invS_r (pc := 29) (As := [_, _]) dX7_sizePart_29 rfl (q5) rfl rfl lk_X7_56 rfl (nb rfl) ⟨nb rfl, nb rfl⟩ rfl ?_
    refine g_return (pc := 32) dX7_sizePart_32 rfl ?_
    exact ⟨rfl, rfl⟩
end

