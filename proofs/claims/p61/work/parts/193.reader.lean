/-- the letters of the String constant k -/
def strW (k : Nat) : List Int32 := (strT[k]?.getD ("", 0, "", [])).2.2.2
section
variable {l : Launch} {M : Mem} {s : RP} {len : Nat}
theorem r_isW {b : Nat} (k : Nat) (hS : Shp M) (hL : s.1 ≤ 600) (hb9 : s.2.1 = nI b) (hb : b ≤ s.1) (hk : k < strT.length) : EvR l jX4_isWord 4 100 0 0 [.ref 1, .retAddr (2 * k + 2)] (rdM M s) (.inl (some (.int (b1 (wdQ (mI M 2) b s.1 (strW k)))))) (rdM M s) := by
  have h : strT[k]? = some (strT[k]?.getD ("", 0, "", [])) := by rw [List.getElem?_eq_getElem hk]; rfl
  exact r_isWord hS hL hb9 hb h
/-- a row of a kind -/
def kdV (T : Nat → Int32) (b p n i : Nat) : Option Int32 :=
  if wdQ T b p (strW 4) = true then some (bitI i) else if wdQ T b p (strW 5) = true then some (lowM n) else if wdQ T b p (strW 6) = true then some (if i + 1 < n then bitI (i + 1) else 1) else if wdQ T b p (strW 7) = true then some (lowM i) else none
def kdS (T : Nat → Int32) (b p n i : Nat) (s : RP) : RP := if kdV T b p n i = none then rFail 1 (nI b) s else s
theorem kdS_1 (T : Nat → Int32) (b p n i : Nat) (s : RP) : (kdS T b p n i s).1 = s.1 ∧ (kdS T b p n i s).2.1 = s.2.1 := by
  unfold kdS; split
  · exact rFail_1 _ _ _
  · exact ⟨rfl, rfl⟩
theorem r_rowOfKind {b n i : Nat} (hS : Shp M) (hL : s.1 ≤ 600) (hb9 : s.2.1 = nI b) (hb : b ≤ s.1) (hn : n ≤ 32) (hi : i < n) : EvR l jX4_rowOfKind 5 130 0 0 [.ref 1, .int (nI i), .int (nI n)] (rdM M s) (.inl (some (.int ((kdV (mI M 2) b s.1 n i).getD 0)))) (rdM M (kdS (mI M 2) b s.1 n i s)) := by
  have hS1 : Shp (rdM M s) := rd_S hS
  have hr3 : mI (rdM M s) 1 3 = nI b := rd_3.trans hb9
  have q4 : EvR l jX4_isWord 4 100 0 0 [.ref 1, .retAddr (2 * 4 + 2)] (rdM M s) (.inl (some (.int (b1 (wdQ (mI M 2) b s.1 (strW 4)))))) (rdM M s) := r_isW 4 hS hL hb9 hb (by decide)
  have q5 : EvR l jX4_isWord 4 100 0 0 [.ref 1, .retAddr (2 * 5 + 2)] (rdM M s) (.inl (some (.int (b1 (wdQ (mI M 2) b s.1 (strW 5)))))) (rdM M s) := r_isW 5 hS hL hb9 hb (by decide)
  have q6 : EvR l jX4_isWord 4 100 0 0 [.ref 1, .retAddr (2 * 6 + 2)] (rdM M s) (.inl (some (.int (b1 (wdQ (mI M 2) b s.1 (strW 6)))))) (rdM M s) := r_isW 6 hS hL hb9 hb (by decide)
  have q7 : EvR l jX4_isWord 4 100 0 0 [.ref 1, .retAddr (2 * 7 + 2)] (rdM M s) (.inl (some (.int (b1 (wdQ (mI M 2) b s.1 (strW 7)))))) (rdM M s) := r_isW 7 hS hL hb9 hb (by decide)
  unfold kdS kdV
  generalize wdQ (mI M 2) b s.1 (strW 4) = w4 at *
  generalize wdQ (mI M 2) b s.1 (strW 5) = w5 at *
  generalize wdQ (mI M 2) b s.1 (strW 6) = w6 at *
  generalize wdQ (mI M 2) b s.1 (strW 7) = w7 at *
  refine ev_intro rfl (nb rfl) rfl ?_
  cases w4 with
  | true =>
    refine g_aload_n (pc := 0) dX4_rowOfKind_0 rfl trivial ?_
    refine g_ldcS (pc := 1) (kS := 4) dX4_rowOfKind_1 rfl ?_
    refine g_invV_r (pc := 3) (As := [_]) dX4_rowOfKind_3 rfl (q4) rfl rfl (shK hS1 rfl) rfl rfl lk_X4_66 rfl (nb rfl) ⟨nb rfl, nb rfl⟩ rfl ?_
    refine g_if_eq (pc := 6) (tgt := 13) dX4_rowOfKind_6 rfl (fun h6 => absurd h6 ((by decide))) (fun _ => ?_)
    refine g_iconst (pc := 9) (v := 1) dX4_rowOfKind_9 rfl ?_
    refine g_iload_n (pc := 10) dX4_rowOfKind_10 rfl ?_
    refine g_ishl (pc := 11) dX4_rowOfKind_11 ?_
    refine g_ireturn (pc := 12) dX4_rowOfKind_12 rfl rfl ?_
    exact ⟨rfl, rfl⟩
  | false =>
    cases w5 with
    | true =>
      refine g_aload_n (pc := 0) dX4_rowOfKind_0 rfl trivial ?_
      refine g_ldcS (pc := 1) (kS := 4) dX4_rowOfKind_1 rfl ?_
      refine g_invV_r (pc := 3) (As := [_]) dX4_rowOfKind_3 rfl (q4) rfl rfl (shK hS1 rfl) rfl rfl lk_X4_66 rfl (nb rfl) ⟨nb rfl, nb rfl⟩ rfl ?_
      refine g_if_eq (pc := 6) (tgt := 13) dX4_rowOfKind_6 rfl (fun _ => ?_) (fun h6 => absurd (rfl) h6)
      refine g_aload_n (pc := 13) dX4_rowOfKind_13 rfl trivial ?_
      refine g_ldcS (pc := 14) (kS := 5) dX4_rowOfKind_14 rfl ?_
      refine g_invV_r (pc := 16) (As := [_]) dX4_rowOfKind_16 rfl (q5) rfl rfl (shK hS1 rfl) rfl rfl lk_X4_66 rfl (nb rfl) ⟨nb rfl, nb rfl⟩ rfl ?_
      refine g_if_eq (pc := 19) (tgt := 27) dX4_rowOfKind_19 rfl (fun h19 => absurd h19 ((by decide))) (fun _ => ?_)
      refine g_iload_n (pc := 22) dX4_rowOfKind_22 rfl ?_
      refine g_invSN_r (pc := 23) (As := [_]) dX4_rowOfKind_23 rfl (s_lowest hn) rfl rfl lk_X4_126 rfl (nb rfl) ⟨nb rfl, nb rfl⟩ rfl ?_
      refine g_ireturn (pc := 26) dX4_rowOfKind_26 rfl rfl ?_
      exact ⟨rfl, rfl⟩
    | false =>
      cases w6 with
      | true =>
        refine g_aload_n (pc := 0) dX4_rowOfKind_0 rfl trivial ?_
        refine g_ldcS (pc := 1) (kS := 4) dX4_rowOfKind_1 rfl ?_
        refine g_invV_r (pc := 3) (As := [_]) dX4_rowOfKind_3 rfl (q4) rfl rfl (shK hS1 rfl) rfl rfl lk_X4_66 rfl (nb rfl) ⟨nb rfl, nb rfl⟩ rfl ?_
        refine g_if_eq (pc := 6) (tgt := 13) dX4_rowOfKind_6 rfl (fun _ => ?_) (fun h6 => absurd (rfl) h6)
        refine g_aload_n (pc := 13) dX4_rowOfKind_13 rfl trivial ?_
        refine g_ldcS (pc := 14) (kS := 5) dX4_rowOfKind_14 rfl ?_
        refine g_invV_r (pc := 16) (As := [_]) dX4_rowOfKind_16 rfl (q5) rfl rfl (shK hS1 rfl) rfl rfl lk_X4_66 rfl (nb rfl) ⟨nb rfl, nb rfl⟩ rfl ?_
        refine g_if_eq (pc := 19) (tgt := 27) dX4_rowOfKind_19 rfl (fun _ => ?_) (fun h19 => absurd (rfl) h19)
        refine g_aload_n (pc := 27) dX4_rowOfKind_27 rfl trivial ?_
        refine g_ldcS (pc := 28) (kS := 6) dX4_rowOfKind_28 rfl ?_
        refine g_invV_r (pc := 30) (As := [_]) dX4_rowOfKind_30 rfl (q6) rfl rfl (shK hS1 rfl) rfl rfl lk_X4_66 rfl (nb rfl) ⟨nb rfl, nb rfl⟩ rfl ?_
        refine g_if_eq (pc := 33) (tgt := 53) dX4_rowOfKind_33 rfl (fun h33 => absurd h33 ((by decide))) (fun _ => ?_)
        refine g_iload_n (pc := 36) dX4_rowOfKind_36 rfl ?_
        refine g_iconst (pc := 37) (v := 1) dX4_rowOfKind_37 rfl ?_
        refine g_iadd (pc := 38) dX4_rowOfKind_38 ?_
        rw [nI_1]
        refine g_iload_n (pc := 39) dX4_rowOfKind_39 rfl ?_
        refine g_icmp_ge (pc := 40) (tgt := 51) dX4_rowOfKind_40 rfl (fun h40 => ?_) (fun h40 => ?_)
        · refine g_iconst (pc := 51) (v := 1) dX4_rowOfKind_51 rfl ?_
          refine g_ireturn (pc := 52) dX4_rowOfKind_52 rfl rfl ?_
          exact ⟨by simp only [Bool.false_eq_true, if_true, if_false]; rw [if_neg (fun h => nI_ge h (by omega) h40)]; rfl, rfl⟩
        · refine g_iconst (pc := 43) (v := 1) dX4_rowOfKind_43 rfl ?_
          refine g_iload_n (pc := 44) dX4_rowOfKind_44 rfl ?_
          refine g_iconst (pc := 45) (v := 1) dX4_rowOfKind_45 rfl ?_
          refine g_iadd (pc := 46) dX4_rowOfKind_46 ?_
          rw [nI_1]
          refine g_ishl (pc := 47) dX4_rowOfKind_47 ?_
          refine g_goto (pc := 48) (tgt := 52) dX4_rowOfKind_48 rfl ?_
          refine g_ireturn (pc := 52) dX4_rowOfKind_52 rfl rfl ?_
          exact ⟨by simp only [Bool.false_eq_true, if_true, if_false]; rw [if_pos (Nat.lt_of_not_le fun h => h40 (nI_le h (by omega)))]; rfl, rfl⟩
      | false =>
        cases w7 with
        | true =>
          refine g_aload_n (pc := 0) dX4_rowOfKind_0 rfl trivial ?_
          refine g_ldcS (pc := 1) (kS := 4) dX4_rowOfKind_1 rfl ?_
          refine g_invV_r (pc := 3) (As := [_]) dX4_rowOfKind_3 rfl (q4) rfl rfl (shK hS1 rfl) rfl rfl lk_X4_66 rfl (nb rfl) ⟨nb rfl, nb rfl⟩ rfl ?_
          refine g_if_eq (pc := 6) (tgt := 13) dX4_rowOfKind_6 rfl (fun _ => ?_) (fun h6 => absurd (rfl) h6)
          refine g_aload_n (pc := 13) dX4_rowOfKind_13 rfl trivial ?_
          refine g_ldcS (pc := 14) (kS := 5) dX4_rowOfKind_14 rfl ?_
          refine g_invV_r (pc := 16) (As := [_]) dX4_rowOfKind_16 rfl (q5) rfl rfl (shK hS1 rfl) rfl rfl lk_X4_66 rfl (nb rfl) ⟨nb rfl, nb rfl⟩ rfl ?_
          refine g_if_eq (pc := 19) (tgt := 27) dX4_rowOfKind_19 rfl (fun _ => ?_) (fun h19 => absurd (rfl) h19)
          refine g_aload_n (pc := 27) dX4_rowOfKind_27 rfl trivial ?_
          refine g_ldcS (pc := 28) (kS := 6) dX4_rowOfKind_28 rfl ?_
          refine g_invV_r (pc := 30) (As := [_]) dX4_rowOfKind_30 rfl (q6) rfl rfl (shK hS1 rfl) rfl rfl lk_X4_66 rfl (nb rfl) ⟨nb rfl, nb rfl⟩ rfl ?_
          refine g_if_eq (pc := 33) (tgt := 53) dX4_rowOfKind_33 rfl (fun _ => ?_) (fun h33 => absurd (rfl) h33)
          refine g_aload_n (pc := 53) dX4_rowOfKind_53 rfl trivial ?_
          refine g_ldcS (pc := 54) (kS := 7) dX4_rowOfKind_54 rfl ?_
          refine g_invV_r (pc := 56) (As := [_]) dX4_rowOfKind_56 rfl (q7) rfl rfl (shK hS1 rfl) rfl rfl lk_X4_66 rfl (nb rfl) ⟨nb rfl, nb rfl⟩ rfl ?_
          refine g_if_eq (pc := 59) (tgt := 67) dX4_rowOfKind_59 rfl (fun h59 => absurd h59 ((by decide))) (fun _ => ?_)
          refine g_iload_n (pc := 62) dX4_rowOfKind_62 rfl ?_
          refine g_invSN_r (pc := 63) (As := [_]) dX4_rowOfKind_63 rfl (s_lowest (show i ≤ 32 by omega)) rfl rfl lk_X4_126 rfl (nb rfl) ⟨nb rfl, nb rfl⟩ rfl ?_
          refine g_ireturn (pc := 66) dX4_rowOfKind_66 rfl rfl ?_
          exact ⟨rfl, rfl⟩
        | false =>
          refine g_aload_n (pc := 0) dX4_rowOfKind_0 rfl trivial ?_
          refine g_ldcS (pc := 1) (kS := 4) dX4_rowOfKind_1 rfl ?_
          refine g_invV_r (pc := 3) (As := [_]) dX4_rowOfKind_3 rfl (q4) rfl rfl (shK hS1 rfl) rfl rfl lk_X4_66 rfl (nb rfl) ⟨nb rfl, nb rfl⟩ rfl ?_
          refine g_if_eq (pc := 6) (tgt := 13) dX4_rowOfKind_6 rfl (fun _ => ?_) (fun h6 => absurd (rfl) h6)
          refine g_aload_n (pc := 13) dX4_rowOfKind_13 rfl trivial ?_
          refine g_ldcS (pc := 14) (kS := 5) dX4_rowOfKind_14 rfl ?_
          refine g_invV_r (pc := 16) (As := [_]) dX4_rowOfKind_16 rfl (q5) rfl rfl (shK hS1 rfl) rfl rfl lk_X4_66 rfl (nb rfl) ⟨nb rfl, nb rfl⟩ rfl ?_
          refine g_if_eq (pc := 19) (tgt := 27) dX4_rowOfKind_19 rfl (fun _ => ?_) (fun h19 => absurd (rfl) h19)
          refine g_aload_n (pc := 27) dX4_rowOfKind_27 rfl trivial ?_
          refine g_ldcS (pc := 28) (kS := 6) dX4_rowOfKind_28 rfl ?_
          refine g_invV_r (pc := 30) (As := [_]) dX4_rowOfKind_30 rfl (q6) rfl rfl (shK hS1 rfl) rfl rfl lk_X4_66 rfl (nb rfl) ⟨nb rfl, nb rfl⟩ rfl ?_
          refine g_if_eq (pc := 33) (tgt := 53) dX4_rowOfKind_33 rfl (fun _ => ?_) (fun h33 => absurd (rfl) h33)
          refine g_aload_n (pc := 53) dX4_rowOfKind_53 rfl trivial ?_
          refine g_ldcS (pc := 54) (kS := 7) dX4_rowOfKind_54 rfl ?_
          refine g_invV_r (pc := 56) (As := [_]) dX4_rowOfKind_56 rfl (q7) rfl rfl (shK hS1 rfl) rfl rfl lk_X4_66 rfl (nb rfl) ⟨nb rfl, nb rfl⟩ rfl ?_
          refine g_if_eq (pc := 59) (tgt := 67) dX4_rowOfKind_59 rfl (fun _ => ?_) (fun h59 => absurd (rfl) h59)
          refine g_aload_n (pc := 67) dX4_rowOfKind_67 rfl trivial ?_
          refine g_iconst (pc := 68) (v := 1) dX4_rowOfKind_68 rfl ?_
          refine g_aload_n (pc := 69) dX4_rowOfKind_69 rfl trivial ?_
          refine g_getf (pc := 70) (v := .int _) dX4_rowOfKind_70 fk_X4_70 (shK hS1 rfl) (fun _ => congrArg Value.int (hr3)) ?_
          refine g_invV_r (pc := 73) (As := [_, _]) dX4_rowOfKind_73 rfl (r_fail hS) rfl rfl (shK hS1 rfl) rfl rfl lk_X4_73 rfl (nb rfl) ⟨nb rfl, nb rfl⟩ rfl ?_
          refine g_iconst (pc := 76) (v := 0) dX4_rowOfKind_76 rfl ?_
          refine g_ireturn (pc := 77) dX4_rowOfKind_77 rfl rfl ?_
          exact ⟨rfl, rfl⟩
/-- the number read, from 0 on -/
def tnN (T : Nat → Int32) (len h : Nat) (s : RP) : Nat := (tnv T len 0 (nI h) s).toNatClampNeg
theorem tnN_ok (T : Nat → Int32) (len : Nat) {h : Nat} (hh : h < 2147483648) (s : RP) : tnv T len 0 (nI h) s = nI (tnN T len h s) ∧ tnN T len h s ≤ h := by
  obtain ⟨h1, h2⟩ := tnv_in T len 0 (nI h) s (nI_pos hh)
  obtain ⟨j, h3, h4⟩ := nI_of2 (nI_toInt hh) h1 (Int32.not_lt.mp h2)
  unfold tnN
  rw [h4, nI_clamp (by omega)]
  exact ⟨rfl, h3⟩
theorem tnm_le {T : Nat → Int32} {lo hi : Int32} (hp : s.1 ≤ len) : (tnm T len lo hi s).1 ≤ len := by
  rw [(tnm_1 T len lo hi s).1]
  exact (digP_le (skipP_le hp).2).2
theorem tbs_le {T : Nat → Int32} {n : Nat} (hp : s.1 ≤ len) : (tbs T len n s).1.1 ≤ len := by
  rw [(tbs_1 T len n s).1]
  exact (digP_le (skipP_le hp).2).2
theorem r_takeN {h : Nat} (hS : Shp M) (hl : mI M 1 1 = nI len) (hL : len ≤ 600) (hp : s.1 ≤ len) (hh : h < 2147483648) : EvR l jX4_takeNumber 2 60 0 0 [.ref 1, .int 0, .int (nI h)] (rdM M s) (.inl (some (.int (nI (tnN (mI M 2) len h s))))) (rdM M (tnm (mI M 2) len 0 (nI h) s)) := by
  rw [← (tnN_ok (mI M 2) len hh s).1]
  exact r_takeNumber hS hl hL hp
theorem st17 : isSt 17 := st_of (by decide)
theorem mx19 (a : Nat) (h : a < 6) : isMx (19 + 2 * a) ∧ REFT 18 a = some (19 + 2 * a) ∧ LAY[20 + 2 * a]? = some (kI 32) ∧ REFT (19 + 2 * a) 0 = some (20 + 2 * a) := by
  obtain ⟨h1, h2⟩ := st17.2 a h
  rw [show 17 + 2 + 2 * a = 19 + 2 * a by omega] at h1 h2
  have h3 := h1.2.1
  have h4 := h1.2.2
  rw [show 19 + 2 * a + 1 = 20 + 2 * a by omega] at h3 h4
  exact ⟨h1, h2, h3, h4⟩
/-- what a reading leaves: the memory beside the reader's numbers, and these -/
def edS (T : Nat → Int32) (len n : Nat) (s : RP) : RP := tnm T len 0 (nI (n - 1)) (tnm T len 0 (nI (n - 1)) (tnm T len 0 (nI 5) s))
def edM (M : Mem) (len n : Nat) (s : RP) : Mem :=
  sI M (20 + 2 * tnN (mI M 2) len 5 s) (fun_set (mI M (20 + 2 * tnN (mI M 2) len 5 s)) (tnN (mI M 2) len (n - 1) (tnm (mI M 2) len 0 (nI 5) s)) (mI M (20 + 2 * tnN (mI M 2) len 5 s) (tnN (mI M 2) len (n - 1) (tnm (mI M 2) len 0 (nI 5) s)) ||| bitI (tnN (mI M 2) len (n - 1) (tnm (mI M 2) len 0 (nI (n - 1)) (tnm (mI M 2) len 0 (nI 5) s)))))
theorem r_readEdge {n : Nat} (hS : Shp M) (hl : mI M 1 1 = nI len) (hL : len ≤ 600) (hp : s.1 ≤ len) (hz : mI M 17 1 = nI n) (hn : 1 ≤ n) (hn9 : n ≤ 32) : EvR l jX4_readEdge 3 90 0 0 [.ref 1, .ref 17] (rdM M s) (.inl none) (rdM (edM M len n s) (edS (mI M 2) len n s)) := by
  have hS1 : ∀ s, Shp (rdM M s) := fun s => rd_S hS
  have hz1 : ∀ s, mI (rdM M s) 17 1 = nI n := fun s => (congrFun (rd_ne (by decide)) 1).trans hz
  have hp1 := tnm_le (T := mI M 2) (lo := 0) (hi := nI 5) hp
  have hp2 := tnm_le (T := mI M 2) (lo := 0) (hi := nI (n - 1)) hp1
  have ha := (tnN_ok (mI M 2) len (show 5 < 2147483648 by decide) s).2
  have hr := (tnN_ok (mI M 2) len (show n - 1 < 2147483648 by omega) (tnm (mI M 2) len 0 (nI 5) s)).2
  have q1 := r_takeN (l := l) (h := 5) hS hl hL hp (by decide)
  have q2 := r_takeN (l := l) (h := n - 1) hS hl hL hp1 (by omega)
  have q3 := r_takeN (l := l) (h := n - 1) hS hl hL hp2 (by omega)
  unfold edM edS
  refine ev_intro rfl (nb rfl) rfl ?_
  generalize tnm (mI M 2) len 0 (nI 5) s = s1 at *
  generalize tnN (mI M 2) len 5 s = a at *
  generalize tnm (mI M 2) len 0 (nI (n - 1)) s1 = s2 at *
  generalize tnN (mI M 2) len (n - 1) s1 = r at *
  generalize tnm (mI M 2) len 0 (nI (n - 1)) s2 = s3 at *
  generalize tnN (mI M 2) len (n - 1) s2 = c at *
  obtain ⟨m1, m2, m3, m4⟩ := mx19 a (by omega)
  have er : mI (rdM M s3) (20 + 2 * a) = mI M (20 + 2 * a) := rd_ne (by omega)
  refine g_aload_n (pc := 0) dX4_readEdge_0 rfl trivial ?_
  refine g_iconst (pc := 1) (v := 0) dX4_readEdge_1 rfl ?_
  refine g_iconst (pc := 2) (v := (nI 5)) dX4_readEdge_2 rfl ?_
  refine g_invV_r (pc := 3) (As := [_, _]) dX4_readEdge_3 rfl (q1) rfl rfl (shK (hS1 _) rfl) rfl rfl lk_X4_77 rfl (nb rfl) ⟨nb rfl, nb rfl⟩ rfl ?_
  refine g_istore_n (pc := 6) (lv' := [(0, _), (1, _), (2, _)]) dX4_readEdge_6 (nl rfl) rfl ?_
  refine g_aload_n (pc := 7) dX4_readEdge_7 rfl trivial ?_
  refine g_iconst (pc := 8) (v := 0) dX4_readEdge_8 rfl ?_
  refine g_aload_n (pc := 9) dX4_readEdge_9 rfl trivial ?_
  refine g_getf (pc := 10) (v := .int _) dX4_readEdge_10 fk_X4_53 (shK (hS1 _) rfl) (fun _ => congrArg Value.int ((hz1 _))) ?_
  refine g_iconst (pc := 13) (v := 1) dX4_readEdge_13 rfl ?_
  refine g_isub (pc := 14) dX4_readEdge_14 ?_
  rw [nI_m1 hn]
  refine g_invV_r (pc := 15) (As := [_, _]) dX4_readEdge_15 rfl (q2) rfl rfl (shK (hS1 _) rfl) rfl rfl lk_X4_77 rfl (nb rfl) ⟨nb rfl, nb rfl⟩ rfl ?_
  refine g_istore_n (pc := 18) (lv' := [(0, _), (1, _), (2, _), (3, _)]) dX4_readEdge_18 (nl rfl) rfl ?_
  refine g_aload_n (pc := 19) dX4_readEdge_19 rfl trivial ?_
  refine g_iconst (pc := 20) (v := 0) dX4_readEdge_20 rfl ?_
  refine g_aload_n (pc := 21) dX4_readEdge_21 rfl trivial ?_
  refine g_getf (pc := 22) (v := .int _) dX4_readEdge_22 fk_X4_53 (shK (hS1 _) rfl) (fun _ => congrArg Value.int ((hz1 _))) ?_
  refine g_iconst (pc := 25) (v := 1) dX4_readEdge_25 rfl ?_
  refine g_isub (pc := 26) dX4_readEdge_26 ?_
  rw [nI_m1 hn]
  refine g_invV_r (pc := 27) (As := [_, _]) dX4_readEdge_27 rfl (q3) rfl rfl (shK (hS1 _) rfl) rfl rfl lk_X4_77 rfl (nb rfl) ⟨nb rfl, nb rfl⟩ rfl ?_
  refine g_istore (pc := 30) (lv' := [(0, _), (1, _), (2, _), (3, _), (4, _)]) dX4_readEdge_30 (nl rfl) rfl ?_
  refine g_aload_n (pc := 32) dX4_readEdge_32 rfl trivial ?_
  refine g_getf (pc := 33) dX4_readEdge_33 fk_X4_47 (shK (hS1 _) rfl) (fv_arr (shR (hS1 _) rfl)) ?_
  refine g_iload_n (pc := 36) dX4_readEdge_36 rfl ?_
  refine g_aaload_Matrix (pc := 37) dX4_readEdge_37 (shK (hS1 _) rfl) rfl (show a < 6 by omega) (by decide) (shR (hS1 _) m2) ?_
  refine g_getf (pc := 38) dX4_readEdge_38 fk_X4_108 (shK (hS1 _) m1.1) (fv_arr (shR (hS1 _) m4)) ?_
  refine g_iload_n (pc := 41) dX4_readEdge_41 rfl ?_
  refine g_dup2_11 (pc := 42) dX4_readEdge_42 rfl rfl ?_
  refine g_iaload (pc := 43) dX4_readEdge_43 (shK (hS1 _) m3) rfl (show r < 32 by omega) (nl rfl) ?_
  refine g_iconst (pc := 44) (v := 1) dX4_readEdge_44 rfl ?_
  refine g_iload (pc := 45) dX4_readEdge_45 rfl ?_
  refine g_ishl (pc := 47) dX4_readEdge_47 ?_
  refine g_ior (pc := 48) dX4_readEdge_48 ?_
  refine g_iastore (pc := 49) dX4_readEdge_49 (shK (hS1 _) m3) rfl (show r < 32 by omega) (nl rfl) ?_
  refine g_return (pc := 50) dX4_readEdge_50 rfl ?_
  exact ⟨rfl, by rw [er]; exact rd_sI (by omega)⟩
end
