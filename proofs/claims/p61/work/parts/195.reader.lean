section
variable {l : Launch} {M : Mem} {s : RP} {len : Nat}
/-- a statement read -/
def rsR (M : Mem) (len n : Nat) (s : RP) : Mem × RP :=
  if wdQ (mI M 2) (skipP (mI M 2) len s.1) (twd (mI M 2) len s).1 (strW 1) = true then (edM M len n (twd (mI M 2) len s), edS (mI M 2) len n (twd (mI M 2) len s))
  else if wdQ (mI M 2) (skipP (mI M 2) len s.1) (twd (mI M 2) len s).1 (strW 2) = true then (rrM M len n (twd (mI M 2) len s), rrS (mI M 2) len n (twd (mI M 2) len s))
  else if wdQ (mI M 2) (skipP (mI M 2) len s.1) (twd (mI M 2) len s).1 (strW 3) = true then (rfM M len n (twd (mI M 2) len s), rfS (mI M 2) len n (twd (mI M 2) len s))
  else if wdQ (mI M 2) (skipP (mI M 2) len s.1) (twd (mI M 2) len s).1 (strW 8) = true then (rkM M len (twd (mI M 2) len s), rkS M len (twd (mI M 2) len s))
  else if wdQ (mI M 2) (skipP (mI M 2) len s.1) (twd (mI M 2) len s).1 (strW 9) = true then (pI M 17 2 (tnv (mI M 2) len 1 8 (twd (mI M 2) len s)), tnm (mI M 2) len 1 8 (twd (mI M 2) len s))
  else (M, rFail 1 (nI (skipP (mI M 2) len s.1)) (twd (mI M 2) len s))
theorem r_readStatement {n : Nat} (hS : Shp M) (hl : mI M 1 1 = nI len) (hL : len ≤ 600) (hp : s.1 ≤ len) (hz : mI M 17 1 = nI n) (hn : 1 ≤ n) (hn9 : n ≤ 32) : EvR l jX4_readStatement 7 190 0 0 [.ref 1, .ref 17] (rdM M s) (.inl none) (rdM (rsR M len n s).1 (rsR M len n s).2) := by
  have hS1 : ∀ s, Shp (rdM M s) := fun s => rd_S hS
  have q0 := r_takeWord (l := l) hS hl hL hp
  have hw := twd_le (T := mI M 2) hp
  have hw2 : (twd (mI M 2) len s).2.1 = nI (skipP (mI M 2) len s.1) := rfl
  unfold rsR
  generalize twd (mI M 2) len s = s1 at *
  generalize skipP (mI M 2) len s.1 = b at *
  have w : ∀ k, k < strT.length → EvR l jX4_isWord 4 100 0 0 [.ref 1, .retAddr (2 * k + 2)] (rdM M s1) (.inl (some (.int (b1 (wdQ (mI M 2) b s1.1 (strW k)))))) (rdM M s1) := fun k hk => r_isW k hS (by omega) hw2 hw.2 hk
  have w1 := w 1 (by decide)
  have w2 := w 2 (by decide)
  have w3 := w 3 (by decide)
  have w8 := w 8 (by decide)
  have w9 := w 9 (by decide)
  have t1 := r_readEdge (l := l) (s := s1) hS hl hL hw.1 hz hn hn9
  have t2 := r_readRow (l := l) (s := s1) hS hl hL hw.1 hz hn hn9
  have t3 := r_readFill (l := l) (s := s1) hS hl hL hw.1 hz hn9
  have t8 := r_readKeep (l := l) (s := s1) hS hl hL hw.1
  have t9 := r_takeNumber (l := l) (s := s1) (lo := 1) (hi := 8) hS hl hL hw.1
  have hr3 : mI (rdM M s1) 1 3 = nI b := rd_3.trans hw2
  generalize wdQ (mI M 2) b s1.1 (strW 1) = c1 at *
  generalize wdQ (mI M 2) b s1.1 (strW 2) = c2 at *
  generalize wdQ (mI M 2) b s1.1 (strW 3) = c3 at *
  generalize wdQ (mI M 2) b s1.1 (strW 8) = c8 at *
  generalize wdQ (mI M 2) b s1.1 (strW 9) = c9 at *
  generalize edM M len n s1 = m1 at *
  generalize edS (mI M 2) len n s1 = e1 at *
  generalize rrM M len n s1 = m2 at *
  generalize rrS (mI M 2) len n s1 = e2 at *
  generalize rfM M len n s1 = m3 at *
  generalize rfS (mI M 2) len n s1 = e3 at *
  generalize rkM M len s1 = m8 at *
  generalize rkS M len s1 = e8 at *
  refine ev_intro rfl (nb rfl) rfl ?_
  refine g_aload_n (pc := 0) dX4_readStatement_0 rfl trivial ?_
  refine g_invV_r (pc := 1) (As := []) dX4_readStatement_1 rfl (q0) rfl rfl (shK (hS1 _) rfl) rfl rfl lk_X4_62 rfl (nb rfl) ⟨nb rfl, nb rfl⟩ rfl ?_
  skip
  cases c1 with
  | true =>
    refine g_aload_n (pc := 4) dX4_readStatement_4 rfl trivial ?_
    refine g_ldcS (pc := 5) (kS := 1) dX4_readStatement_5 rfl ?_
    refine g_invV_r (pc := 7) (As := [_]) dX4_readStatement_7 rfl (w1) rfl rfl (shK (hS1 _) rfl) rfl rfl lk_X4_66 rfl (nb rfl) ⟨nb rfl, nb rfl⟩ rfl ?_
    refine g_if_eq (pc := 10) (tgt := 21) dX4_readStatement_10 rfl (fun h10 => absurd h10 ((by decide))) (fun _ => ?_)
    refine g_aload_n (pc := 13) dX4_readStatement_13 rfl trivial ?_
    refine g_aload_n (pc := 14) dX4_readStatement_14 rfl trivial ?_
    refine g_invV_r (pc := 15) (As := [_]) dX4_readStatement_15 rfl (t1) rfl rfl (shK (hS1 _) rfl) rfl rfl lk_X4_86 rfl (nb rfl) ⟨nb rfl, nb rfl⟩ rfl ?_
    refine g_goto (pc := 18) (tgt := 104) dX4_readStatement_18 rfl ?_
    refine g_return (pc := 104) dX4_readStatement_104 rfl ?_
    exact ⟨rfl, rfl⟩
  | false =>
    refine g_aload_n (pc := 4) dX4_readStatement_4 rfl trivial ?_
    refine g_ldcS (pc := 5) (kS := 1) dX4_readStatement_5 rfl ?_
    refine g_invV_r (pc := 7) (As := [_]) dX4_readStatement_7 rfl (w1) rfl rfl (shK (hS1 _) rfl) rfl rfl lk_X4_66 rfl (nb rfl) ⟨nb rfl, nb rfl⟩ rfl ?_
    refine g_if_eq (pc := 10) (tgt := 21) dX4_readStatement_10 rfl (fun _ => ?_) (fun h10 => absurd (rfl) h10)
    skip
    cases c2 with
    | true =>
      refine g_aload_n (pc := 21) dX4_readStatement_21 rfl trivial ?_
      refine g_ldcS (pc := 22) (kS := 2) dX4_readStatement_22 rfl ?_
      refine g_invV_r (pc := 24) (As := [_]) dX4_readStatement_24 rfl (w2) rfl rfl (shK (hS1 _) rfl) rfl rfl lk_X4_66 rfl (nb rfl) ⟨nb rfl, nb rfl⟩ rfl ?_
      refine g_if_eq (pc := 27) (tgt := 38) dX4_readStatement_27 rfl (fun h27 => absurd h27 ((by decide))) (fun _ => ?_)
      refine g_aload_n (pc := 30) dX4_readStatement_30 rfl trivial ?_
      refine g_aload_n (pc := 31) dX4_readStatement_31 rfl trivial ?_
      refine g_invV_r (pc := 32) (As := [_]) dX4_readStatement_32 rfl (t2) rfl rfl (shK (hS1 _) rfl) rfl rfl lk_X4_91 rfl (nb rfl) ⟨nb rfl, nb rfl⟩ rfl ?_
      refine g_goto (pc := 35) (tgt := 104) dX4_readStatement_35 rfl ?_
      refine g_return (pc := 104) dX4_readStatement_104 rfl ?_
      exact ⟨rfl, rfl⟩
    | false =>
      refine g_aload_n (pc := 21) dX4_readStatement_21 rfl trivial ?_
      refine g_ldcS (pc := 22) (kS := 2) dX4_readStatement_22 rfl ?_
      refine g_invV_r (pc := 24) (As := [_]) dX4_readStatement_24 rfl (w2) rfl rfl (shK (hS1 _) rfl) rfl rfl lk_X4_66 rfl (nb rfl) ⟨nb rfl, nb rfl⟩ rfl ?_
      refine g_if_eq (pc := 27) (tgt := 38) dX4_readStatement_27 rfl (fun _ => ?_) (fun h27 => absurd (rfl) h27)
      skip
      cases c3 with
      | true =>
        refine g_aload_n (pc := 38) dX4_readStatement_38 rfl trivial ?_
        refine g_ldcS (pc := 39) (kS := 3) dX4_readStatement_39 rfl ?_
        refine g_invV_r (pc := 41) (As := [_]) dX4_readStatement_41 rfl (w3) rfl rfl (shK (hS1 _) rfl) rfl rfl lk_X4_66 rfl (nb rfl) ⟨nb rfl, nb rfl⟩ rfl ?_
        refine g_if_eq (pc := 44) (tgt := 55) dX4_readStatement_44 rfl (fun h44 => absurd h44 ((by decide))) (fun _ => ?_)
        refine g_aload_n (pc := 47) dX4_readStatement_47 rfl trivial ?_
        refine g_aload_n (pc := 48) dX4_readStatement_48 rfl trivial ?_
        refine g_invV_r (pc := 49) (As := [_]) dX4_readStatement_49 rfl (t3) rfl rfl (shK (hS1 _) rfl) rfl rfl lk_X4_96 rfl (nb rfl) ⟨nb rfl, nb rfl⟩ rfl ?_
        refine g_goto (pc := 52) (tgt := 104) dX4_readStatement_52 rfl ?_
        refine g_return (pc := 104) dX4_readStatement_104 rfl ?_
        exact ⟨rfl, rfl⟩
      | false =>
        refine g_aload_n (pc := 38) dX4_readStatement_38 rfl trivial ?_
        refine g_ldcS (pc := 39) (kS := 3) dX4_readStatement_39 rfl ?_
        refine g_invV_r (pc := 41) (As := [_]) dX4_readStatement_41 rfl (w3) rfl rfl (shK (hS1 _) rfl) rfl rfl lk_X4_66 rfl (nb rfl) ⟨nb rfl, nb rfl⟩ rfl ?_
        refine g_if_eq (pc := 44) (tgt := 55) dX4_readStatement_44 rfl (fun _ => ?_) (fun h44 => absurd (rfl) h44)
        skip
        cases c8 with
        | true =>
          refine g_aload_n (pc := 55) dX4_readStatement_55 rfl trivial ?_
          refine g_ldcS (pc := 56) (kS := 8) dX4_readStatement_56 rfl ?_
          refine g_invV_r (pc := 58) (As := [_]) dX4_readStatement_58 rfl (w8) rfl rfl (shK (hS1 _) rfl) rfl rfl lk_X4_66 rfl (nb rfl) ⟨nb rfl, nb rfl⟩ rfl ?_
          refine g_if_eq (pc := 61) (tgt := 72) dX4_readStatement_61 rfl (fun h61 => absurd h61 ((by decide))) (fun _ => ?_)
          refine g_aload_n (pc := 64) dX4_readStatement_64 rfl trivial ?_
          refine g_aload_n (pc := 65) dX4_readStatement_65 rfl trivial ?_
          refine g_invV_r (pc := 66) (As := [_]) dX4_readStatement_66 rfl (t8) rfl rfl (shK (hS1 _) rfl) rfl rfl lk_X4_101 rfl (nb rfl) ⟨nb rfl, nb rfl⟩ rfl ?_
          refine g_goto (pc := 69) (tgt := 104) dX4_readStatement_69 rfl ?_
          refine g_return (pc := 104) dX4_readStatement_104 rfl ?_
          exact ⟨rfl, rfl⟩
        | false =>
          cases c9 with
          | true =>
            refine g_aload_n (pc := 55) dX4_readStatement_55 rfl trivial ?_
            refine g_ldcS (pc := 56) (kS := 8) dX4_readStatement_56 rfl ?_
            refine g_invV_r (pc := 58) (As := [_]) dX4_readStatement_58 rfl (w8) rfl rfl (shK (hS1 _) rfl) rfl rfl lk_X4_66 rfl (nb rfl) ⟨nb rfl, nb rfl⟩ rfl ?_
            refine g_if_eq (pc := 61) (tgt := 72) dX4_readStatement_61 rfl (fun _ => ?_) (fun h61 => absurd (rfl) h61)
            refine g_aload_n (pc := 72) dX4_readStatement_72 rfl trivial ?_
            refine g_ldcS (pc := 73) (kS := 9) dX4_readStatement_73 rfl ?_
            refine g_invV_r (pc := 75) (As := [_]) dX4_readStatement_75 rfl (w9) rfl rfl (shK (hS1 _) rfl) rfl rfl lk_X4_66 rfl (nb rfl) ⟨nb rfl, nb rfl⟩ rfl ?_
            refine g_if_eq (pc := 78) (tgt := 95) dX4_readStatement_78 rfl (fun h78 => absurd h78 ((by decide))) (fun _ => ?_)
            refine g_aload_n (pc := 81) dX4_readStatement_81 rfl trivial ?_
            refine g_aload_n (pc := 82) dX4_readStatement_82 rfl trivial ?_
            refine g_iconst (pc := 83) (v := 1) dX4_readStatement_83 rfl ?_
            refine g_bipush (pc := 84) (v := 8) dX4_readStatement_84 rfl ?_
            refine g_invV_r (pc := 86) (As := [_, _]) dX4_readStatement_86 rfl (t9) rfl rfl (shK (hS1 _) rfl) rfl rfl lk_X4_77 rfl (nb rfl) ⟨nb rfl, nb rfl⟩ rfl ?_
            refine g_putI (pc := 89) dX4_readStatement_89 fp_X4_106 (shK (hS1 _) rfl) ⟨rfl, rfl⟩ (fun _ _ _ _ => rfl) ?_
            refine g_goto (pc := 92) (tgt := 104) dX4_readStatement_92 rfl ?_
            refine g_return (pc := 104) dX4_readStatement_104 rfl ?_
            exact ⟨rfl, rd_pI (by decide)⟩
          | false =>
            refine g_aload_n (pc := 55) dX4_readStatement_55 rfl trivial ?_
            refine g_ldcS (pc := 56) (kS := 8) dX4_readStatement_56 rfl ?_
            refine g_invV_r (pc := 58) (As := [_]) dX4_readStatement_58 rfl (w8) rfl rfl (shK (hS1 _) rfl) rfl rfl lk_X4_66 rfl (nb rfl) ⟨nb rfl, nb rfl⟩ rfl ?_
            refine g_if_eq (pc := 61) (tgt := 72) dX4_readStatement_61 rfl (fun _ => ?_) (fun h61 => absurd (rfl) h61)
            refine g_aload_n (pc := 72) dX4_readStatement_72 rfl trivial ?_
            refine g_ldcS (pc := 73) (kS := 9) dX4_readStatement_73 rfl ?_
            refine g_invV_r (pc := 75) (As := [_]) dX4_readStatement_75 rfl (w9) rfl rfl (shK (hS1 _) rfl) rfl rfl lk_X4_66 rfl (nb rfl) ⟨nb rfl, nb rfl⟩ rfl ?_
            refine g_if_eq (pc := 78) (tgt := 95) dX4_readStatement_78 rfl (fun _ => ?_) (fun h78 => absurd (rfl) h78)
            refine g_aload_n (pc := 95) dX4_readStatement_95 rfl trivial ?_
            refine g_iconst (pc := 96) (v := 1) dX4_readStatement_96 rfl ?_
            refine g_aload_n (pc := 97) dX4_readStatement_97 rfl trivial ?_
            refine g_getf (pc := 98) (v := .int _) dX4_readStatement_98 fk_X4_70 (shK (hS1 _) rfl) (fun _ => congrArg Value.int (hr3)) ?_
            refine g_invV_r (pc := 101) (As := [_, _]) dX4_readStatement_101 rfl (r_fail hS) rfl rfl (shK (hS1 _) rfl) rfl rfl lk_X4_73 rfl (nb rfl) ⟨nb rfl, nb rfl⟩ rfl ?_
            refine g_return (pc := 104) dX4_readStatement_104 rfl ?_
            exact ⟨rfl, rfl⟩
theorem sI_okA {a : Nat} {f : Nat → Int32} (hS : Shp M) (ha : a ≤ 5) : Shp (sI M (20 + 2 * a) f) ∧ (∀ i, i < 17 ∨ 31 ≤ i → mI (sI M (20 + 2 * a) f) i = mI M i) ∧ mI (sI M (20 + 2 * a) f) 17 1 = mI M 17 1 :=
  ⟨shp_sI hS, fun i h => sI_ne (by omega), congrFun (sI_ne (by omega)) 1⟩
theorem pI_okA {a : Nat} {v : Int32} (hS : Shp M) (ha : a ≤ 5) : Shp (pI M (19 + 2 * a) 1 v) ∧ (∀ i, i < 17 ∨ 31 ≤ i → mI (pI M (19 + 2 * a) 1 v) i = mI M i) ∧ mI (pI M (19 + 2 * a) 1 v) 17 1 = mI M 17 1 :=
  ⟨shp_pI hS, fun i h => pI_i (by omega), congrFun (pI_i (by omega)) 1⟩
theorem tn5 (T : Nat → Int32) (len : Nat) (s : RP) : tnN T len 5 s ≤ 5 := (tnN_ok T len (show 5 < 2147483648 by decide) s).2
theorem edM_ok {n : Nat} (hS : Shp M) : Shp (edM M len n s) ∧ (∀ i, i < 17 ∨ 31 ≤ i → mI (edM M len n s) i = mI M i) ∧ mI (edM M len n s) 17 1 = mI M 17 1 := by
  unfold edM; exact sI_okA hS (tn5 _ _ _)
theorem rrM_ok {n : Nat} (hS : Shp M) : Shp (rrM M len n s) ∧ (∀ i, i < 17 ∨ 31 ≤ i → mI (rrM M len n s) i = mI M i) ∧ mI (rrM M len n s) 17 1 = mI M 17 1 := by
  unfold rrM; exact sI_okA hS (tn5 _ _ _)
theorem rfM_ok {n : Nat} (hS : Shp M) : Shp (rfM M len n s) ∧ (∀ i, i < 17 ∨ 31 ≤ i → mI (rfM M len n s) i = mI M i) ∧ mI (rfM M len n s) 17 1 = mI M 17 1 := by
  unfold rfM; exact sI_okA hS (tn5 _ _ _)
theorem rkM_ok (hS : Shp M) : Shp (rkM M len s) ∧ (∀ i, i < 17 ∨ 31 ≤ i → mI (rkM M len s) i = mI M i) ∧ mI (rkM M len s) 17 1 = mI M 17 1 := by
  unfold rkM; exact pI_okA hS (tn5 _ _ _)
theorem edS_le {T : Nat → Int32} {n : Nat} (hp : s.1 ≤ len) : (edS T len n s).1 ≤ len := by unfold edS; exact tnm_le (tnm_le (tnm_le hp))
theorem rrS_le {T : Nat → Int32} {n : Nat} (hp : s.1 ≤ len) : (rrS T len n s).1 ≤ len := by unfold rrS; exact tbs_le (tnm_le (tnm_le hp))
theorem rfS_le {T : Nat → Int32} {n : Nat} (hp : s.1 ≤ len) : (rfS T len n s).1 ≤ len := by
  unfold rfS
  rw [(fiS_1 _ _ _ _ _ _).1]
  exact (twd_le (tnm_le hp)).1
theorem rkS_le (hp : s.1 ≤ len) : (rkS M len s).1 ≤ len := by
  unfold rkS
  split
  · exact tnm_le hp
  · rw [(rFail_1 _ _ _).1]; exact tnm_le hp
/-- what a statement leaves -/
theorem rsR_ok {n : Nat} (hS : Shp M) (hp : s.1 ≤ len) : (Shp (rsR M len n s).1 ∧ (∀ i, i < 17 ∨ 31 ≤ i → mI (rsR M len n s).1 i = mI M i) ∧ mI (rsR M len n s).1 17 1 = mI M 17 1) ∧ (rsR M len n s).2.1 ≤ len := by
  have hw := (twd_le (T := mI M 2) hp).1
  unfold rsR
  generalize twd (mI M 2) len s = s1 at *
  generalize skipP (mI M 2) len s.1 = b at *
  generalize wdQ (mI M 2) b s1.1 (strW 1) = c1
  generalize wdQ (mI M 2) b s1.1 (strW 2) = c2
  generalize wdQ (mI M 2) b s1.1 (strW 3) = c3
  generalize wdQ (mI M 2) b s1.1 (strW 8) = c8
  generalize wdQ (mI M 2) b s1.1 (strW 9) = c9
  have k1 := edM_ok (len := len) (n := n) (s := s1) hS
  have k2 := rrM_ok (len := len) (n := n) (s := s1) hS
  have k3 := rfM_ok (len := len) (n := n) (s := s1) hS
  have k8 := rkM_ok (len := len) (s := s1) hS
  have l1 := edS_le (T := mI M 2) (n := n) hw
  have l2 := rrS_le (T := mI M 2) (n := n) hw
  have l3 := rfS_le (T := mI M 2) (n := n) hw
  have l8 := rkS_le (M := M) hw
  have k9 : Shp (pI M 17 2 (tnv (mI M 2) len 1 8 s1)) ∧ (∀ i, i < 17 ∨ 31 ≤ i → mI (pI M 17 2 (tnv (mI M 2) len 1 8 s1)) i = mI M i) ∧ mI (pI M 17 2 (tnv (mI M 2) len 1 8 s1)) 17 1 = mI M 17 1 := ⟨shp_pI hS, fun i h => pI_i (by omega), pI_k (by decide)⟩
  have l9 := tnm_le (T := mI M 2) (lo := 1) (hi := 8) hw
  have k0 : Shp M ∧ (∀ i, i < 17 ∨ 31 ≤ i → mI M i = mI M i) ∧ mI M 17 1 = mI M 17 1 := ⟨hS, fun i h => rfl, rfl⟩
  have l0 : (rFail 1 (nI b) s1).1 ≤ len := by rw [(rFail_1 _ _ _).1]; exact hw
  generalize tnm (mI M 2) len 1 8 s1 = e9 at *
  generalize pI M 17 2 (tnv (mI M 2) len 1 8 s1) = m9 at *
  generalize rFail 1 (nI b) s1 = e0 at *
  generalize edM M len n s1 = m1 at *
  generalize edS (mI M 2) len n s1 = e1 at *
  generalize rrM M len n s1 = m2 at *
  generalize rrS (mI M 2) len n s1 = e2 at *
  generalize rfM M len n s1 = m3 at *
  generalize rfS (mI M 2) len n s1 = e3 at *
  generalize rkM M len s1 = m8 at *
  generalize rkS M len s1 = e8 at *
  cases c1 with
  | true => exact ⟨k1, l1⟩
  | false =>
  cases c2 with
  | true => exact ⟨k2, l2⟩
  | false =>
  cases c3 with
  | true => exact ⟨k3, l3⟩
  | false =>
  cases c8 with
  | true => exact ⟨k8, l8⟩
  | false =>
  cases c9 with
  | true => exact ⟨k9, l9⟩
  | false => exact ⟨k0, l0⟩
theorem mxEmpty_rd {m : Nat} (h : 1 < m) : mxEmpty (rdM M s) m = rdM (mxEmpty M m) s := by
  unfold mxEmpty
  rw [rd_ne (by omega), rd_sI (by omega), rd_pI (by omega), rd_pI (by omega), rd_pI (by omega), rd_pI (by omega)]
theorem stEmptyL_rd {b : Nat} (h : 1 < b) : ∀ k, stEmptyL (rdM M s) b k = rdM (stEmptyL M b k) s
  | 0 => by rw [stEmptyL.eq_1, stEmptyL.eq_1]
  | k + 1 => by rw [stEmptyL.eq_2, stEmptyL.eq_2, stEmptyL_rd h k, mxEmpty_rd (by omega)]
theorem stEmpty_rd {b : Nat} {n : Int32} (h : 1 < b) : stEmpty (rdM M s) b n = rdM (stEmpty M b n) s := by
  unfold stEmpty
  rw [stEmptyL_rd h, rd_pI (by omega), rd_pI (by omega), rd_pI (by omega), rd_pI (by omega)]
/-- the size read -/
def rzS0 (T : Nat → Int32) (len : Nat) (s : RP) : RP := if wdQ T (skipP T len s.1) (twd T len s).1 (strW 0) = true then twd T len s else rFail 1 (nI (skipP T len s.1)) (twd T len s)
def rzS (T : Nat → Int32) (len : Nat) (s : RP) : RP := tnm T len 1 32 (rzS0 T len s)
def rzV (T : Nat → Int32) (len : Nat) (s : RP) : Int32 := tnv T len 1 32 (rzS0 T len s)
theorem rzS0_le {T : Nat → Int32} (hp : s.1 ≤ len) : (rzS0 T len s).1 ≤ len := by
  unfold rzS0; split
  · exact (twd_le hp).1
  · rw [(rFail_1 _ _ _).1]; exact (twd_le hp).1
theorem r_readSize (hS : Shp M) (hl : mI M 1 1 = nI len) (hL : len ≤ 600) (hp : s.1 ≤ len) : EvR l jX4_readSize 5 130 0 0 [.ref 1, .ref 17] (rdM M s) (.inl none) (rdM (stEmpty M 17 (rzV (mI M 2) len s)) (rzS (mI M 2) len s)) := by
  have hS1 : ∀ s, Shp (rdM M s) := fun s => rd_S hS
  have q0 := r_takeWord (l := l) hS hl hL hp
  have hw := twd_le (T := mI M 2) hp
  have hw2 : (twd (mI M 2) len s).2.1 = nI (skipP (mI M 2) len s.1) := rfl
  have hz0 := rzS0_le (T := mI M 2) hp
  unfold rzV rzS
  unfold rzS0 at *
  generalize twd (mI M 2) len s = s1 at *
  generalize skipP (mI M 2) len s.1 = b at *
  have w0 : EvR l jX4_isWord 4 100 0 0 [.ref 1, .retAddr (2 * 0 + 2)] (rdM M s1) (.inl (some (.int (b1 (wdQ (mI M 2) b s1.1 (strW 0)))))) (rdM M s1) := r_isW 0 hS (by omega) hw2 hw.2 (by decide)
  have hr3 : mI (rdM M s1) 1 3 = nI b := rd_3.trans hw2
  have tN : ∀ s2 : RP, s2.1 ≤ len → EvR l jX4_takeNumber 2 60 0 0 [.ref 1, .int 1, .int 32] (rdM M s2) (.inl (some (.int (tnv (mI M 2) len 1 32 s2)))) (rdM M (tnm (mI M 2) len 1 32 s2)) := fun s2 h => r_takeNumber hS hl hL h
  have tE : ∀ (s2 : RP) (v : Int32), EvR l jX5_makeEmpty 1 40 0 0 [.ref 17, .int v] (rdM M s2) (.inl none) (rdM (stEmpty M 17 v) s2) := fun s2 v => by
    rw [← stEmpty_rd (by decide)]; exact s_stEmpty (hS1 s2) st17
  generalize wdQ (mI M 2) b s1.1 (strW 0) = w at *
  refine ev_intro rfl (nb rfl) rfl ?_
  cases w with
  | true =>
    refine g_aload_n (pc := 0) dX4_readSize_0 rfl trivial ?_
    refine g_invV_r (pc := 1) (As := []) dX4_readSize_1 rfl (q0) rfl rfl (shK (hS1 _) rfl) rfl rfl lk_X4_62 rfl (nb rfl) ⟨nb rfl, nb rfl⟩ rfl ?_
    refine g_aload_n (pc := 4) dX4_readSize_4 rfl trivial ?_
    refine g_ldcS (pc := 5) (kS := 0) dX4_readSize_5 rfl ?_
    refine g_invV_r (pc := 7) (As := [_]) dX4_readSize_7 rfl (w0) rfl rfl (shK (hS1 _) rfl) rfl rfl lk_X4_66 rfl (nb rfl) ⟨nb rfl, nb rfl⟩ rfl ?_
    refine g_if_ne (pc := 10) (tgt := 22) dX4_readSize_10 rfl (fun _ => ?_) (fun h10 => absurd ((by decide)) h10)
    refine g_aload_n (pc := 22) dX4_readSize_22 rfl trivial ?_
    refine g_aload_n (pc := 23) dX4_readSize_23 rfl trivial ?_
    refine g_iconst (pc := 24) (v := 1) dX4_readSize_24 rfl ?_
    refine g_bipush (pc := 25) (v := 32) dX4_readSize_25 rfl ?_
    refine g_invV_r (pc := 27) (As := [_, _]) dX4_readSize_27 rfl (tN _ hz0) rfl rfl (shK (hS1 _) rfl) rfl rfl lk_X4_77 rfl (nb rfl) ⟨nb rfl, nb rfl⟩ rfl ?_
    refine g_invV_r (pc := 30) (As := [_]) dX4_readSize_30 rfl (tE _ _) rfl rfl (shK (hS1 _) rfl) rfl rfl lk_X4_81 rfl (nb rfl) ⟨nb rfl, nb rfl⟩ rfl ?_
    refine g_return (pc := 33) dX4_readSize_33 rfl ?_
    exact ⟨rfl, rfl⟩
  | false =>
    refine g_aload_n (pc := 0) dX4_readSize_0 rfl trivial ?_
    refine g_invV_r (pc := 1) (As := []) dX4_readSize_1 rfl (q0) rfl rfl (shK (hS1 _) rfl) rfl rfl lk_X4_62 rfl (nb rfl) ⟨nb rfl, nb rfl⟩ rfl ?_
    refine g_aload_n (pc := 4) dX4_readSize_4 rfl trivial ?_
    refine g_ldcS (pc := 5) (kS := 0) dX4_readSize_5 rfl ?_
    refine g_invV_r (pc := 7) (As := [_]) dX4_readSize_7 rfl (w0) rfl rfl (shK (hS1 _) rfl) rfl rfl lk_X4_66 rfl (nb rfl) ⟨nb rfl, nb rfl⟩ rfl ?_
    refine g_if_ne (pc := 10) (tgt := 22) dX4_readSize_10 rfl (fun h10 => absurd h10 ((fun h => h rfl))) (fun _ => ?_)
    refine g_aload_n (pc := 13) dX4_readSize_13 rfl trivial ?_
    refine g_iconst (pc := 14) (v := 1) dX4_readSize_14 rfl ?_
    refine g_aload_n (pc := 15) dX4_readSize_15 rfl trivial ?_
    refine g_getf (pc := 16) (v := .int _) dX4_readSize_16 fk_X4_70 (shK (hS1 _) rfl) (fun _ => congrArg Value.int (hr3)) ?_
    refine g_invV_r (pc := 19) (As := [_, _]) dX4_readSize_19 rfl (r_fail hS) rfl rfl (shK (hS1 _) rfl) rfl rfl lk_X4_73 rfl (nb rfl) ⟨nb rfl, nb rfl⟩ rfl ?_
    refine g_aload_n (pc := 22) dX4_readSize_22 rfl trivial ?_
    refine g_aload_n (pc := 23) dX4_readSize_23 rfl trivial ?_
    refine g_iconst (pc := 24) (v := 1) dX4_readSize_24 rfl ?_
    refine g_bipush (pc := 25) (v := 32) dX4_readSize_25 rfl ?_
    refine g_invV_r (pc := 27) (As := [_, _]) dX4_readSize_27 rfl (tN _ hz0) rfl rfl (shK (hS1 _) rfl) rfl rfl lk_X4_77 rfl (nb rfl) ⟨nb rfl, nb rfl⟩ rfl ?_
    refine g_invV_r (pc := 30) (As := [_]) dX4_readSize_30 rfl (tE _ _) rfl rfl (shK (hS1 _) rfl) rfl rfl lk_X4_81 rfl (nb rfl) ⟨nb rfl, nb rfl⟩ rfl ?_
    refine g_return (pc := 33) dX4_readSize_33 rfl ?_
    exact ⟨rfl, rfl⟩
end
