section
variable {l : Launch} {M : Mem} {s : RP} {len : Nat}
def rrS (T : Nat → Int32) (len n : Nat) (s : RP) : RP := (tbs T len n (tnm T len 0 (nI (n - 1)) (tnm T len 0 (nI 5) s))).1
def rrM (M : Mem) (len n : Nat) (s : RP) : Mem := sI M (20 + 2 * tnN (mI M 2) len 5 s) (fun_set (mI M (20 + 2 * tnN (mI M 2) len 5 s)) (tnN (mI M 2) len (n - 1) (tnm (mI M 2) len 0 (nI 5) s)) (tbs (mI M 2) len n (tnm (mI M 2) len 0 (nI (n - 1)) (tnm (mI M 2) len 0 (nI 5) s))).2)
theorem r_readRow {n : Nat} (hS : Shp M) (hl : mI M 1 1 = nI len) (hL : len ≤ 600) (hp : s.1 ≤ len) (hz : mI M 17 1 = nI n) (hn : 1 ≤ n) (hn9 : n ≤ 32) : EvR l jX4_readRow 3 90 0 0 [.ref 1, .ref 17] (rdM M s) (.inl none) (rdM (rrM M len n s) (rrS (mI M 2) len n s)) := by
  have hS1 : ∀ s, Shp (rdM M s) := fun s => rd_S hS
  have hz1 : ∀ s, mI (rdM M s) 17 1 = nI n := fun s => (congrFun (rd_ne (by decide)) 1).trans hz
  have hp1 := tnm_le (T := mI M 2) (lo := 0) (hi := nI 5) hp
  have hp2 := tnm_le (T := mI M 2) (lo := 0) (hi := nI (n - 1)) hp1
  have ha := (tnN_ok (mI M 2) len (show 5 < 2147483648 by decide) s).2
  have hr := (tnN_ok (mI M 2) len (show n - 1 < 2147483648 by omega) (tnm (mI M 2) len 0 (nI 5) s)).2
  have q1 := r_takeN (l := l) (h := 5) hS hl hL hp (by decide)
  have q2 := r_takeN (l := l) (h := n - 1) hS hl hL hp1 (by omega)
  have q3 := r_takeBits (l := l) (n := n) hS hl hL hp2 hn9
  unfold rrM rrS
  refine ev_intro rfl (nb rfl) rfl ?_
  generalize tnm (mI M 2) len 0 (nI 5) s = s1 at *
  generalize tnN (mI M 2) len 5 s = a at *
  generalize tnm (mI M 2) len 0 (nI (n - 1)) s1 = s2 at *
  generalize tnN (mI M 2) len (n - 1) s1 = r at *
  generalize tbs (mI M 2) len n s2 = s3 at *
  obtain ⟨m1, m2, m3, m4⟩ := mx19 a (by omega)
  have er : mI (rdM M s3.1) (20 + 2 * a) = mI M (20 + 2 * a) := rd_ne (by omega)
  refine g_aload_n (pc := 0) dX4_readRow_0 rfl trivial ?_
  refine g_iconst (pc := 1) (v := 0) dX4_readRow_1 rfl ?_
  refine g_iconst (pc := 2) (v := (nI 5)) dX4_readRow_2 rfl ?_
  refine g_invV_r (pc := 3) (As := [_, _]) dX4_readRow_3 rfl (q1) rfl rfl (shK (hS1 _) rfl) rfl rfl lk_X4_77 rfl (nb rfl) ⟨nb rfl, nb rfl⟩ rfl ?_
  refine g_istore_n (pc := 6) (lv' := [(0, _), (1, _), (2, _)]) dX4_readRow_6 (nl rfl) rfl ?_
  refine g_aload_n (pc := 7) dX4_readRow_7 rfl trivial ?_
  refine g_iconst (pc := 8) (v := 0) dX4_readRow_8 rfl ?_
  refine g_aload_n (pc := 9) dX4_readRow_9 rfl trivial ?_
  refine g_getf (pc := 10) (v := .int _) dX4_readRow_10 fk_X4_53 (shK (hS1 _) rfl) (fun _ => congrArg Value.int ((hz1 _))) ?_
  refine g_iconst (pc := 13) (v := 1) dX4_readRow_13 rfl ?_
  refine g_isub (pc := 14) dX4_readRow_14 ?_
  rw [nI_m1 hn]
  refine g_invV_r (pc := 15) (As := [_, _]) dX4_readRow_15 rfl (q2) rfl rfl (shK (hS1 _) rfl) rfl rfl lk_X4_77 rfl (nb rfl) ⟨nb rfl, nb rfl⟩ rfl ?_
  refine g_istore_n (pc := 18) (lv' := [(0, _), (1, _), (2, _), (3, _)]) dX4_readRow_18 (nl rfl) rfl ?_
  refine g_aload_n (pc := 19) dX4_readRow_19 rfl trivial ?_
  refine g_getf (pc := 20) dX4_readRow_20 fk_X4_47 (shK (hS1 _) rfl) (fv_arr (shR (hS1 _) rfl)) ?_
  refine g_iload_n (pc := 23) dX4_readRow_23 rfl ?_
  refine g_aaload_Matrix (pc := 24) dX4_readRow_24 (shK (hS1 _) rfl) rfl (show a < 6 by omega) (by decide) (shR (hS1 _) m2) ?_
  refine g_getf (pc := 25) dX4_readRow_25 fk_X4_108 (shK (hS1 _) m1.1) (fv_arr (shR (hS1 _) m4)) ?_
  refine g_iload_n (pc := 28) dX4_readRow_28 rfl ?_
  refine g_aload_n (pc := 29) dX4_readRow_29 rfl trivial ?_
  refine g_aload_n (pc := 30) dX4_readRow_30 rfl trivial ?_
  refine g_getf (pc := 31) (v := .int _) dX4_readRow_31 fk_X4_53 (shK (hS1 _) rfl) (fun _ => congrArg Value.int ((hz1 _))) ?_
  refine g_invV_r (pc := 34) (As := [_]) dX4_readRow_34 rfl (q3) rfl rfl (shK (hS1 _) rfl) rfl rfl lk_X4_111 rfl (nb rfl) ⟨nb rfl, nb rfl⟩ rfl ?_
  refine g_iastore (pc := 37) dX4_readRow_37 (shK (hS1 _) m3) rfl (show r < 32 by omega) (nl rfl) ?_
  refine g_return (pc := 38) dX4_readRow_38 rfl ?_
  exact ⟨rfl, by rw [er]; exact rd_sI (by omega)⟩
def rkS (M : Mem) (len : Nat) (s : RP) : RP := if mI M (19 + 2 * tnN (mI M 2) len 5 s) 1 = 0 then tnm (mI M 2) len 0 (nI 5) s else rFail 3 (tnm (mI M 2) len 0 (nI 5) s).2.1 (tnm (mI M 2) len 0 (nI 5) s)
def rkM (M : Mem) (len : Nat) (s : RP) : Mem := pI M (19 + 2 * tnN (mI M 2) len 5 s) 1 1
theorem r_readKeep (hS : Shp M) (hl : mI M 1 1 = nI len) (hL : len ≤ 600) (hp : s.1 ≤ len) : EvR l jX4_readKeep 3 90 0 0 [.ref 1, .ref 17] (rdM M s) (.inl none) (rdM (rkM M len s) (rkS M len s)) := by
  have hS1 : ∀ s, Shp (rdM M s) := fun s => rd_S hS
  have ha := (tnN_ok (mI M 2) len (show 5 < 2147483648 by decide) s).2
  have q1 := r_takeN (l := l) (h := 5) hS hl hL hp (by decide)
  unfold rkM rkS
  refine ev_intro rfl (nb rfl) rfl ?_
  generalize tnm (mI M 2) len 0 (nI 5) s = s1 at *
  generalize tnN (mI M 2) len 5 s = a at *
  obtain ⟨m1, m2, m3, m4⟩ := mx19 a (by omega)
  have er : ∀ s, mI (rdM M s) (19 + 2 * a) 1 = mI M (19 + 2 * a) 1 := fun s => congrFun (rd_ne (by omega)) 1
  have hr3 : mI (rdM M s1) 1 3 = s1.2.1 := rd_3
  refine g_aload_n (pc := 0) dX4_readKeep_0 rfl trivial ?_
  refine g_iconst (pc := 1) (v := 0) dX4_readKeep_1 rfl ?_
  refine g_iconst (pc := 2) (v := (nI 5)) dX4_readKeep_2 rfl ?_
  refine g_invV_r (pc := 3) (As := [_, _]) dX4_readKeep_3 rfl (q1) rfl rfl (shK (hS1 _) rfl) rfl rfl lk_X4_77 rfl (nb rfl) ⟨nb rfl, nb rfl⟩ rfl ?_
  refine g_istore_n (pc := 6) (lv' := [(0, _), (1, _), (2, _)]) dX4_readKeep_6 (nl rfl) rfl ?_
  refine g_aload_n (pc := 7) dX4_readKeep_7 rfl trivial ?_
  refine g_getf (pc := 8) dX4_readKeep_8 fk_X4_47 (shK (hS1 _) rfl) (fv_arr (shR (hS1 _) rfl)) ?_
  refine g_iload_n (pc := 11) dX4_readKeep_11 rfl ?_
  refine g_aaload_Matrix (pc := 12) dX4_readKeep_12 (shK (hS1 _) rfl) rfl (show a < 6 by omega) (by decide) (shR (hS1 _) m2) ?_
  refine g_getf (pc := 13) (v := .int _) dX4_readKeep_13 fk_X4_115 (shK (hS1 _) m1.1) (fun _ => congrArg Value.int ((er _))) ?_
  refine g_if_eq (pc := 16) (tgt := 28) dX4_readKeep_16 rfl (fun h16 => ?_) (fun h16 => ?_)
  · rw [if_pos h16]
    refine g_aload_n (pc := 28) dX4_readKeep_28 rfl trivial ?_
    refine g_getf (pc := 29) dX4_readKeep_29 fk_X4_47 (shK (hS1 _) rfl) (fv_arr (shR (hS1 _) rfl)) ?_
    refine g_iload_n (pc := 32) dX4_readKeep_32 rfl ?_
    refine g_aaload_Matrix (pc := 33) dX4_readKeep_33 (shK (hS1 _) rfl) rfl (show a < 6 by omega) (by decide) (shR (hS1 _) m2) ?_
    refine g_iconst (pc := 34) (v := 1) dX4_readKeep_34 rfl ?_
    refine g_putI (pc := 35) dX4_readKeep_35 fp_X4_115 (shK (hS1 _) m1.1) ⟨rfl, rfl⟩ (fun _ _ _ _ => rfl) ?_
    refine g_return (pc := 38) dX4_readKeep_38 rfl ?_
    exact ⟨rfl, rd_pI (by omega)⟩
  · rw [if_neg h16]
    refine g_aload_n (pc := 19) dX4_readKeep_19 rfl trivial ?_
    refine g_iconst (pc := 20) (v := 3) dX4_readKeep_20 rfl ?_
    refine g_aload_n (pc := 21) dX4_readKeep_21 rfl trivial ?_
    refine g_getf (pc := 22) (v := .int _) dX4_readKeep_22 fk_X4_70 (shK (hS1 _) rfl) (fun _ => congrArg Value.int (hr3)) ?_
    refine g_invV_r (pc := 25) (As := [_, _]) dX4_readKeep_25 rfl (r_fail hS) rfl rfl (shK (hS1 _) rfl) rfl rfl lk_X4_73 rfl (nb rfl) ⟨nb rfl, nb rfl⟩ rfl ?_
    refine g_aload_n (pc := 28) dX4_readKeep_28 rfl trivial ?_
    refine g_getf (pc := 29) dX4_readKeep_29 fk_X4_47 (shK (hS1 _) rfl) (fv_arr (shR (hS1 _) rfl)) ?_
    refine g_iload_n (pc := 32) dX4_readKeep_32 rfl ?_
    refine g_aaload_Matrix (pc := 33) dX4_readKeep_33 (shK (hS1 _) rfl) rfl (show a < 6 by omega) (by decide) (shR (hS1 _) m2) ?_
    refine g_iconst (pc := 34) (v := 1) dX4_readKeep_34 rfl ?_
    refine g_putI (pc := 35) dX4_readKeep_35 fp_X4_115 (shK (hS1 _) m1.1) ⟨rfl, rfl⟩ (fun _ _ _ _ => rfl) ?_
    refine g_return (pc := 38) dX4_readKeep_38 rfl ?_
    exact ⟨rfl, rd_pI (by omega)⟩
def fiS (T : Nat → Int32) (b p n : Nat) (s : RP) : Nat → RP
  | 0 => s
  | k + 1 => kdS T b p n k (fiS T b p n s k)
theorem fiS_1 (T : Nat → Int32) (b p n : Nat) (s : RP) : ∀ k, (fiS T b p n s k).1 = s.1 ∧ (fiS T b p n s k).2.1 = s.2.1
  | 0 => ⟨rfl, rfl⟩
  | k + 1 => by
    rw [fiS, (kdS_1 _ _ _ _ _ _).1, (kdS_1 _ _ _ _ _ _).2]
    exact fiS_1 T b p n s k
def kdG (T : Nat → Int32) (b p n : Nat) (i : Nat) : Int32 := (kdV T b p n i).getD 0
theorem twd_le {T : Nat → Int32} (hp : s.1 ≤ len) : (twd T len s).1 ≤ len ∧ skipP T len s.1 ≤ (twd T len s).1 := by
  have h1 := skipP_le (T := T) hp
  have h2 := wordP_le (T := T) h1.2
  exact ⟨h2.2, h2.1⟩
def rfS (T : Nat → Int32) (len n : Nat) (s : RP) : RP := fiS T (skipP T len (tnm T len 0 (nI 5) s).1) (twd T len (tnm T len 0 (nI 5) s)).1 n (twd T len (tnm T len 0 (nI 5) s)) n
def rfM (M : Mem) (len n : Nat) (s : RP) : Mem := sI M (20 + 2 * tnN (mI M 2) len 5 s) (wr (mI M (20 + 2 * tnN (mI M 2) len 5 s)) (kdG (mI M 2) (skipP (mI M 2) len (tnm (mI M 2) len 0 (nI 5) s).1) (twd (mI M 2) len (tnm (mI M 2) len 0 (nI 5) s)).1 n) n)
theorem r_readFill {n : Nat} (hS : Shp M) (hl : mI M 1 1 = nI len) (hL : len ≤ 600) (hp : s.1 ≤ len) (hz : mI M 17 1 = nI n) (hn9 : n ≤ 32) : EvR l jX4_readFill 6 160 0 0 [.ref 1, .ref 17] (rdM M s) (.inl none) (rdM (rfM M len n s) (rfS (mI M 2) len n s)) := by
  have hS1 : ∀ s, Shp (rdM M s) := fun s => rd_S hS
  have ha := (tnN_ok (mI M 2) len (show 5 < 2147483648 by decide) s).2
  have hp1 := tnm_le (T := mI M 2) (lo := 0) (hi := nI 5) hp
  have q1 := r_takeN (l := l) (h := 5) hS hl hL hp (by decide)
  have q2 := r_takeWord (l := l) hS hl hL hp1
  have hw := twd_le (T := mI M 2) hp1
  have hw2 : (twd (mI M 2) len (tnm (mI M 2) len 0 (nI 5) s)).2.1 = nI (skipP (mI M 2) len (tnm (mI M 2) len 0 (nI 5) s).1) := rfl
  unfold rfM rfS
  refine ev_intro rfl (nb rfl) rfl ?_
  generalize twd (mI M 2) len (tnm (mI M 2) len 0 (nI 5) s) = s2 at *
  generalize skipP (mI M 2) len (tnm (mI M 2) len 0 (nI 5) s).1 = b at *
  generalize tnm (mI M 2) len 0 (nI 5) s = s1 at *
  generalize tnN (mI M 2) len 5 s = a at *
  obtain ⟨m1, m2, m3, m4⟩ := mx19 a (by omega)
  refine g_aload_n (pc := 0) dX4_readFill_0 rfl trivial ?_
  refine g_iconst (pc := 1) (v := 0) dX4_readFill_1 rfl ?_
  refine g_iconst (pc := 2) (v := (nI 5)) dX4_readFill_2 rfl ?_
  refine g_invV_r (pc := 3) (As := [_, _]) dX4_readFill_3 rfl (q1) rfl rfl (shK (hS1 _) rfl) rfl rfl lk_X4_77 rfl (nb rfl) ⟨nb rfl, nb rfl⟩ rfl ?_
  refine g_istore_n (pc := 6) (lv' := [(0, _), (1, _), (2, _)]) dX4_readFill_6 (nl rfl) rfl ?_
  refine g_aload_n (pc := 7) dX4_readFill_7 rfl trivial ?_
  refine g_invV_r (pc := 8) (As := []) dX4_readFill_8 rfl (q2) rfl rfl (shK (hS1 _) rfl) rfl rfl lk_X4_62 rfl (nb rfl) ⟨nb rfl, nb rfl⟩ rfl ?_
  refine g_iconst (pc := 11) (v := 0) dX4_readFill_11 rfl ?_
  refine g_istore_n (pc := 12) (lv' := [(0, _), (1, _), (2, _), (3, _)]) dX4_readFill_12 (nl rfl) rfl ?_
  refine go_loop (pc := 13) n (fun i => [(0, .ref 1), (1, .ref 17), (2, .int (nI a)), (3, .int (nI i))]) (fun i => rdM (sI M (20 + 2 * a) (wr (mI M (20 + 2 * a)) (kdG (mI M 2) b s2.1 n) i)) (fiS (mI M 2) b s2.1 n s2 i)) ⟨rfl, rfl, rfl, rfl, trivial⟩ (by rw [wr_0, sI_id]; rfl) ?_ ?_
  · intro i hi ih
    have hS2 : Shp (sI M (20 + 2 * a) (wr (mI M (20 + 2 * a)) (kdG (mI M 2) b s2.1 n) i)) := shp_sI hS
    have hz2 : mI (sI M (20 + 2 * a) (wr (mI M (20 + 2 * a)) (kdG (mI M 2) b s2.1 n) i)) 17 1 = nI n := (congrFun (sI_ne (by omega)) 1).trans hz
    have eT : mI (sI M (20 + 2 * a) (wr (mI M (20 + 2 * a)) (kdG (mI M 2) b s2.1 n) i)) 2 = mI M 2 := sI_ne (by omega)
    obtain ⟨f1, f2⟩ := fiS_1 (mI M 2) b s2.1 n s2 i
    rw [fiS] at ih
    have eN : ∀ s, pI (rdM (sI M (20 + 2 * a) (wr (mI M (20 + 2 * a)) (kdG (mI M 2) b s2.1 n) i)) s) (20 + 2 * a) i (kdG (mI M 2) b s2.1 n i) = rdM (sI M (20 + 2 * a) (wr (mI M (20 + 2 * a)) (kdG (mI M 2) b s2.1 n) (i + 1))) s := fun s => by
      rw [rd_pI (by omega), sI_st (wr_s _ _ i)]
    have qk := r_rowOfKind (l := l) (s := fiS (mI M 2) b s2.1 n s2 i) (b := b) (n := n) (i := i) hS2 (by rw [f1]; omega) (by rw [f2]; exact hw2) (by rw [f1]; exact hw.2) hn9 hi
    rw [eT, f1] at qk
    generalize sI M (20 + 2 * a) (wr (mI M (20 + 2 * a)) (kdG (mI M 2) b s2.1 n) i) = M1 at *
    have hS3 : ∀ s, Shp (rdM M1 s) := fun s => rd_S hS2
    have hz3 : ∀ s, mI (rdM M1 s) 17 1 = nI n := fun s => (congrFun (rd_ne (by decide)) 1).trans hz2
    generalize fiS (mI M 2) b s2.1 n s2 i = s3 at *
    refine g_iload_n (pc := 13) dX4_readFill_13 rfl ?_
    refine g_aload_n (pc := 14) dX4_readFill_14 rfl trivial ?_
    refine g_getf (pc := 15) (v := .int _) dX4_readFill_15 fk_X4_53 (shK (hS3 _) rfl) (fun _ => congrArg Value.int ((hz3 _))) ?_
    refine g_icmp_ge (pc := 18) (tgt := 47) dX4_readFill_18 rfl (fun h18 => absurd h18 (nI_ge hi (by omega))) (fun _ => ?_)
    refine g_aload_n (pc := 21) dX4_readFill_21 rfl trivial ?_
    refine g_getf (pc := 22) dX4_readFill_22 fk_X4_47 (shK (hS3 _) rfl) (fv_arr (shR (hS3 _) rfl)) ?_
    refine g_iload_n (pc := 25) dX4_readFill_25 rfl ?_
    refine g_aaload_Matrix (pc := 26) dX4_readFill_26 (shK (hS3 _) rfl) rfl (show a < 6 by omega) (by decide) (shR (hS3 _) m2) ?_
    refine g_getf (pc := 27) dX4_readFill_27 fk_X4_108 (shK (hS3 _) m1.1) (fv_arr (shR (hS3 _) m4)) ?_
    refine g_iload_n (pc := 30) dX4_readFill_30 rfl ?_
    refine g_aload_n (pc := 31) dX4_readFill_31 rfl trivial ?_
    refine g_iload_n (pc := 32) dX4_readFill_32 rfl ?_
    refine g_aload_n (pc := 33) dX4_readFill_33 rfl trivial ?_
    refine g_getf (pc := 34) (v := .int _) dX4_readFill_34 fk_X4_53 (shK (hS3 _) rfl) (fun _ => congrArg Value.int ((hz3 _))) ?_
    refine g_invV_r (pc := 37) (As := [_, _]) dX4_readFill_37 rfl (qk) rfl rfl (shK (hS3 _) rfl) rfl rfl lk_X4_119 rfl (nb rfl) ⟨nb rfl, nb rfl⟩ rfl ?_
    refine g_iastore (pc := 40) dX4_readFill_40 (shK (hS3 _) m3) rfl (show i < 32 by omega) (nl rfl) ?_
    refine go_cast (eN _) ?_
    refine g_iinc (pc := 41) (lv' := [(0, _), (1, _), (2, _), (3, _)]) dX4_readFill_41 rfl (nI_1 _) (nl rfl) rfl ?_
    refine g_goto (pc := 44) (tgt := 13) dX4_readFill_44 rfl ?_
    exact ih
  · have hS2 : Shp (sI M (20 + 2 * a) (wr (mI M (20 + 2 * a)) (kdG (mI M 2) b s2.1 n) n)) := shp_sI hS
    have hz2 : mI (sI M (20 + 2 * a) (wr (mI M (20 + 2 * a)) (kdG (mI M 2) b s2.1 n) n)) 17 1 = nI n := (congrFun (sI_ne (by omega)) 1).trans hz
    generalize sI M (20 + 2 * a) (wr (mI M (20 + 2 * a)) (kdG (mI M 2) b s2.1 n) n) = M1 at *
    generalize fiS (mI M 2) b s2.1 n s2 n = s3 at *
    have hS3 : ∀ s, Shp (rdM M1 s) := fun s => rd_S hS2
    have hz3 : ∀ s, mI (rdM M1 s) 17 1 = nI n := fun s => (congrFun (rd_ne (by decide)) 1).trans hz2
    refine g_iload_n (pc := 13) dX4_readFill_13 rfl ?_
    refine g_aload_n (pc := 14) dX4_readFill_14 rfl trivial ?_
    refine g_getf (pc := 15) (v := .int _) dX4_readFill_15 fk_X4_53 (shK (hS3 _) rfl) (fun _ => congrArg Value.int ((hz3 _))) ?_
    refine g_icmp_ge (pc := 18) (tgt := 47) dX4_readFill_18 rfl (fun _ => ?_) (fun h18 => absurd (nI_le (Nat.le_refl _) (by omega)) h18)
    refine g_return (pc := 47) dX4_readFill_47 rfl ?_
    exact ⟨rfl, rfl⟩
end
