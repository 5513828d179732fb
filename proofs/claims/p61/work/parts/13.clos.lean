/-! closures -/
section
variable {l : Launch} {M : Mem}
def isCl (c : Nat) : Prop := LAY[c]? = some (.inr 0) ∧ LAY[c + 1]? = some (kI 32) ∧ REFT c 0 = some (c + 1)
theorem cl_ok : ∀ s, s < 6 → (LAY[175 + 2 * s]? = some (.inr 0) ∧ LAY[175 + 2 * s + 1]? = some (kI 32) ∧ REFT (175 + 2 * s) 0 = some (175 + 2 * s + 1)) ∧ REFT 174 s = some (175 + 2 * s) := by decide +kernel
theorem cl_of {s : Nat} (h : s < 6) : isCl (175 + 2 * s) := (cl_ok s h).1
def wIn (g : Nat → Int32) (m : Nat) : Nat → Nat → Int32
  | 0 => g
  | i + 1 => if hb (wIn g m i i) m = true then fun_set (wIn g m i) i (wIn g m i i ||| wIn g m i m) else wIn g m i
def wOut (g : Nat → Int32) (n : Nat) : Nat → Nat → Int32
  | 0 => g
  | m + 1 => wIn (wOut g n m) m n
def clMake (M : Mem) (c r n : Nat) : Mem := pI (sI M (c + 1) (wOut (wr (mI M (c + 1)) (mI M r) n) n n)) c 1 1
theorem s_makeFrom {c r n : Nat} (hS : Shp M) (hc : isCl c) (hk : (mK M)[r]? = some (kI 32)) (hn : n ≤ 32) : EvR l jX0_makeFrom 1 60 0 0 [.ref c, .ref r, .int (nI n)] M (.inl none) (clMake M c r n) := by
  refine ev_intro rfl (nb rfl) rfl ?_
  unfold clMake
  refine g_aload_n (pc := 0) dX0_makeFrom_0 rfl trivial ?_
  refine g_iconst (pc := 1) (v := 0) dX0_makeFrom_1 rfl ?_
  refine g_aload_n (pc := 2) dX0_makeFrom_2 rfl trivial ?_
  refine g_getf (pc := 3) dX0_makeFrom_3 fk_X0_9 (shK hS hc.1) (fv_arr (shR hS hc.2.2)) ?_
  refine g_iconst (pc := 6) (v := 0) dX0_makeFrom_6 rfl ?_
  refine g_iload_n (pc := 7) dX0_makeFrom_7 rfl ?_
  refine g_copyI (pc := 8) (sp := 0) (dp := 0) dX0_makeFrom_8 wd_790 wd_510 wd_509 wd_108 hk (shK hS hc.2.1) rfl rfl rfl (by omega) (by omega) ⟨by decide, by decide⟩ (nb rfl) (nb rfl) ?_
  rw [cpy_wr]
  generalize wr (mI M (c + 1)) (mI M r) n = g0
  refine g_iconst (pc := 11) (v := 0) dX0_makeFrom_11 rfl ?_
  refine g_istore_n (pc := 12) (lv' := [(0, _), (1, _), (2, _), (3, _)]) dX0_makeFrom_12 (nl rfl) rfl ?_
  refine go_loop (pc := 13) n (fun m => [(0, .ref c), (1, .ref r), (2, .int (nI n)), (3, .int (nI m))]) (fun m => sI M (c + 1) (wOut g0 n m)) ⟨rfl, rfl, rfl, rfl, trivial⟩ rfl ?_ ?_
  · intro m hm ihm
    refine g_iload_n (pc := 13) dX0_makeFrom_13 rfl ?_
    refine g_iload_n (pc := 14) dX0_makeFrom_14 rfl ?_
    refine g_icmp_ge (pc := 15) (tgt := 69) dX0_makeFrom_15 rfl (fun h15 => absurd h15 (nI_ge hm (by omega))) (fun _ => ?_)
    refine g_iconst (pc := 18) (v := 0) dX0_makeFrom_18 rfl ?_
    refine g_istore (pc := 19) (lv' := [(0, _), (1, _), (2, _), (3, _), (4, _)]) dX0_makeFrom_19 (nl rfl) rfl ?_
    refine go_loop (pc := 21) n (fun i => [(0, .ref c), (1, .ref r), (2, .int (nI n)), (3, .int (nI m)), (4, .int (nI i))]) (fun i => sI M (c + 1) (wIn (wOut g0 n m) m i)) ⟨rfl, rfl, rfl, rfl, rfl, trivial⟩ rfl ?_ ?_
    · intro i hi ih
      have hS1 : Shp (sI M (c + 1) (wIn (wOut g0 n m) m i)) := hS
      have e1 := sI_self M (c + 1) (wIn (wOut g0 n m) m i)
      refine g_iload (pc := 21) dX0_makeFrom_21 rfl ?_
      refine g_iload_n (pc := 23) dX0_makeFrom_23 rfl ?_
      refine g_icmp_ge (pc := 24) (tgt := 63) dX0_makeFrom_24 rfl (fun h24 => absurd h24 (nI_ge hi (by omega))) (fun _ => ?_)
      refine g_aload_n (pc := 27) dX0_makeFrom_27 rfl trivial ?_
      refine g_getf (pc := 28) dX0_makeFrom_28 fk_X0_9 (shK hS hc.1) (fv_arr (shR hS hc.2.2)) ?_
      refine g_iload (pc := 31) dX0_makeFrom_31 rfl ?_
      refine g_iaload (pc := 33) dX0_makeFrom_33 (shK hS hc.2.1) rfl (by omega) (nl rfl) ?_
      rw [e1]
      refine g_iload_n (pc := 34) dX0_makeFrom_34 rfl ?_
      refine g_invSN_r (pc := 35) (As := [_, _]) dX0_makeFrom_35 rfl (s_hasOne (by omega)) rfl rfl lk_X0_21 rfl (nb rfl) ⟨nb rfl, nb rfl⟩ rfl ?_
      refine g_if_eq (pc := 38) (tgt := 57) dX0_makeFrom_38 rfl (fun h38 => ?_) (fun h38 => ?_)
      · rw [b1_0] at h38
        refine g_iinc (pc := 57) (lv' := [(0, _), (1, _), (2, _), (3, _), (4, _)]) dX0_makeFrom_57 rfl (nI_1 _) (nl rfl) rfl ?_
        refine g_goto (pc := 60) (tgt := 21) dX0_makeFrom_60 rfl ?_
        exact go_cast (by rw [wIn, if_neg (by rw [h38]; decide)]) ih
      · rw [b1_0, Bool.not_eq_false] at h38
        refine g_aload_n (pc := 41) dX0_makeFrom_41 rfl trivial ?_
        refine g_getf (pc := 42) dX0_makeFrom_42 fk_X0_9 (shK hS hc.1) (fv_arr (shR hS hc.2.2)) ?_
        refine g_iload (pc := 45) dX0_makeFrom_45 rfl ?_
        refine g_dup2_11 (pc := 47) dX0_makeFrom_47 rfl rfl ?_
        refine g_iaload (pc := 48) dX0_makeFrom_48 (shK hS hc.2.1) rfl (by omega) (nl rfl) ?_
        refine g_aload_n (pc := 49) dX0_makeFrom_49 rfl trivial ?_
        refine g_getf (pc := 50) dX0_makeFrom_50 fk_X0_9 (shK hS hc.1) (fv_arr (shR hS hc.2.2)) ?_
        refine g_iload_n (pc := 53) dX0_makeFrom_53 rfl ?_
        refine g_iaload (pc := 54) dX0_makeFrom_54 (shK hS hc.2.1) rfl (by omega) (nl rfl) ?_
        rw [e1]
        refine g_ior (pc := 55) dX0_makeFrom_55 ?_
        refine g_iastore (pc := 56) dX0_makeFrom_56 (shK hS hc.2.1) rfl (by omega) (nl rfl) ?_
        refine g_iinc (pc := 57) (lv' := [(0, _), (1, _), (2, _), (3, _), (4, _)]) dX0_makeFrom_57 rfl (nI_1 _) (nl rfl) rfl ?_
        refine g_goto (pc := 60) (tgt := 21) dX0_makeFrom_60 rfl ?_
        exact go_cast (sI_st (by rw [wIn, if_pos h38])) ih
    · refine g_iload (pc := 21) dX0_makeFrom_21 rfl ?_
      refine g_iload_n (pc := 23) dX0_makeFrom_23 rfl ?_
      refine g_icmp_ge (pc := 24) (tgt := 63) dX0_makeFrom_24 rfl (fun _ => ?_) (fun h24 => absurd (nI_le (Nat.le_refl _) (by omega)) h24)
      refine g_iinc (pc := 63) (lv' := [(0, _), (1, _), (2, _), (3, _), (4, _)]) dX0_makeFrom_63 rfl (nI_1 _) (nl rfl) rfl ?_
      refine g_goto (pc := 66) (tgt := 13) dX0_makeFrom_66 rfl ?_
      exact g_sub (lv' := [(0, _), (1, _), (2, _), (3, _)]) ⟨rfl, rfl, rfl, rfl, trivial⟩ ihm
  · refine g_iload_n (pc := 13) dX0_makeFrom_13 rfl ?_
    refine g_iload_n (pc := 14) dX0_makeFrom_14 rfl ?_
    refine g_icmp_ge (pc := 15) (tgt := 69) dX0_makeFrom_15 rfl (fun _ => ?_) (fun h15 => absurd (nI_le (Nat.le_refl _) (by omega)) h15)
    refine g_aload_n (pc := 69) dX0_makeFrom_69 rfl trivial ?_
    refine g_iconst (pc := 70) (v := 1) dX0_makeFrom_70 rfl ?_
    refine g_putI (pc := 71) dX0_makeFrom_71 fp_X0_25 (shK hS hc.1) ⟨rfl, rfl⟩ (fun _ _ _ _ => rfl) ?_
    refine g_return (pc := 74) dX0_makeFrom_74 rfl ?_
    exact ⟨rfl, rfl⟩
def nodesTo (g : Nat → Int32) (a n : Nat) : Int32 := colOf g a n ||| bitI a
theorem s_nodesTo {c a n : Nat} (hS : Shp M) (hc : isCl c) (ha : a < 32) (hn : n ≤ 32) : EvR l jX0_nodesTo 1 40 0 0 [.ref c, .int (nI a), .int (nI n)] M (.inl (some (.int (nodesTo (mI M (c + 1)) a n)))) M := by
  refine ev_intro rfl (nb rfl) rfl ?_
  refine g_aload_n (pc := 0) dX0_nodesTo_0 rfl trivial ?_
  refine g_getf (pc := 1) dX0_nodesTo_1 fk_X0_9 (shK hS hc.1) (fv_arr (shR hS hc.2.2)) ?_
  refine g_iload_n (pc := 4) dX0_nodesTo_4 rfl ?_
  refine g_iload_n (pc := 5) dX0_nodesTo_5 rfl ?_
  refine g_invSN_r (pc := 6) (As := [_, _, _]) dX0_nodesTo_6 rfl (s_columnOf (shK hS hc.2.1) ha hn) rfl rfl lk_X0_29 rfl (nb rfl) ⟨nb rfl, nb rfl⟩ rfl ?_
  refine g_iconst (pc := 9) (v := 1) dX0_nodesTo_9 rfl ?_
  refine g_iload_n (pc := 10) dX0_nodesTo_10 rfl ?_
  refine g_ishl (pc := 11) dX0_nodesTo_11 ?_
  refine g_ior (pc := 12) dX0_nodesTo_12 ?_
  refine g_ireturn (pc := 13) dX0_nodesTo_13 rfl rfl ?_
  exact ⟨rfl, rfl⟩
def lowMut (g : Nat → Int32) (a n : Nat) : Nat := lowN (g a &&& colOf g a n ||| bitI a)
def gainF (g : Nat → Int32) (nodes tg : Int32) : Nat → Int32
  | 0 => 0
  | i + 1 => if hb nodes i = true then gainF g nodes tg i + bcJ (tg &&& (g i ^^^ -1)) else gainF g nodes tg i
def gainW (g : Nat → Int32) (nodes : Int32) (b n : Nat) : Int32 := gainF g nodes (g b ||| bitI b) n
theorem s_gainWith {c b n : Nat} {nodes : Int32} (hS : Shp M) (hc : isCl c) (hb9 : b < 32) (hn : n ≤ 32) : EvR l jX0_gainWith 1 40 0 0 [.ref c, .int nodes, .int (nI b), .int (nI n)] M (.inl (some (.int (gainW (mI M (c + 1)) nodes b n)))) M := by
  refine ev_intro rfl (nb rfl) rfl ?_
  unfold gainW
  refine g_aload_n (pc := 0) dX0_gainWith_0 rfl trivial ?_
  refine g_getf (pc := 1) dX0_gainWith_1 fk_X0_9 (shK hS hc.1) (fv_arr (shR hS hc.2.2)) ?_
  refine g_iload_n (pc := 4) dX0_gainWith_4 rfl ?_
  refine g_iaload (pc := 5) dX0_gainWith_5 (shK hS hc.2.1) rfl (by omega) (nl rfl) ?_
  refine g_iconst (pc := 6) (v := 1) dX0_gainWith_6 rfl ?_
  refine g_iload_n (pc := 7) dX0_gainWith_7 rfl ?_
  refine g_ishl (pc := 8) dX0_gainWith_8 ?_
  refine g_ior (pc := 9) dX0_gainWith_9 ?_
  refine g_istore (pc := 10) (lv' := [(0, _), (1, _), (2, _), (3, _), (4, _)]) dX0_gainWith_10 (nl rfl) rfl ?_
  refine g_iconst (pc := 12) (v := 0) dX0_gainWith_12 rfl ?_
  refine g_istore (pc := 13) (lv' := [(0, _), (1, _), (2, _), (3, _), (4, _), (5, _)]) dX0_gainWith_13 (nl rfl) rfl ?_
  refine g_iconst (pc := 15) (v := 0) dX0_gainWith_15 rfl ?_
  refine g_istore (pc := 16) (lv' := [(0, _), (1, _), (2, _), (3, _), (4, _), (5, _), (6, _)]) dX0_gainWith_16 (nl rfl) rfl ?_
  refine go_loop (pc := 18) n (fun i => [(0, .ref c), (1, .int nodes), (2, .int (nI b)), (3, .int (nI n)), (4, .int (mI M (c + 1) b ||| bitI b)), (5, .int (gainF (mI M (c + 1)) nodes (mI M (c + 1) b ||| bitI b) i)), (6, .int (nI i))]) (fun _ => M) ⟨rfl, rfl, rfl, rfl, rfl, rfl, rfl, trivial⟩ rfl ?_ ?_
  · intro i hi ih
    refine g_iload (pc := 18) dX0_gainWith_18 rfl ?_
    refine g_iload_n (pc := 20) dX0_gainWith_20 rfl ?_
    refine g_icmp_ge (pc := 21) (tgt := 59) dX0_gainWith_21 rfl (fun h21 => absurd h21 (nI_ge hi (by omega))) (fun _ => ?_)
    refine g_iload_n (pc := 24) dX0_gainWith_24 rfl ?_
    refine g_iload (pc := 25) dX0_gainWith_25 rfl ?_
    refine g_invSN_r (pc := 27) (As := [_, _]) dX0_gainWith_27 rfl (s_hasOne (by omega)) rfl rfl lk_X0_21 rfl (nb rfl) ⟨nb rfl, nb rfl⟩ rfl ?_
    refine g_if_eq (pc := 30) (tgt := 53) dX0_gainWith_30 rfl (fun h30 => ?_) (fun h30 => ?_)
    · rw [b1_0] at h30
      refine g_iinc (pc := 53) (lv' := [(0, _), (1, _), (2, _), (3, _), (4, _), (5, _), (6, _)]) dX0_gainWith_53 rfl (nI_1 _) (nl rfl) rfl ?_
      refine g_goto (pc := 56) (tgt := 18) dX0_gainWith_56 rfl ?_
      rw [gainF, if_neg (by rw [h30]; decide)] at ih
      exact ih
    · rw [b1_0, Bool.not_eq_false] at h30
      refine g_iload (pc := 33) dX0_gainWith_33 rfl ?_
      refine g_iload (pc := 35) dX0_gainWith_35 rfl ?_
      refine g_aload_n (pc := 37) dX0_gainWith_37 rfl trivial ?_
      refine g_getf (pc := 38) dX0_gainWith_38 fk_X0_9 (shK hS hc.1) (fv_arr (shR hS hc.2.2)) ?_
      refine g_iload (pc := 41) dX0_gainWith_41 rfl ?_
      refine g_iaload (pc := 43) dX0_gainWith_43 (shK hS hc.2.1) rfl (by omega) (nl rfl) ?_
      refine g_iconst (pc := 44) (v := (-1)) dX0_gainWith_44 rfl ?_
      refine g_ixor (pc := 45) dX0_gainWith_45 ?_
      refine g_iand (pc := 46) dX0_gainWith_46 ?_
      refine g_invS_r (pc := 47) (As := [_]) dX0_gainWith_47 rfl (s_bitCount) rfl rfl lk_X0_37 rfl (nb rfl) ⟨nb rfl, nb rfl⟩ rfl ?_
      refine g_iadd (pc := 50) dX0_gainWith_50 ?_
      refine g_istore (pc := 51) (lv' := [(0, _), (1, _), (2, _), (3, _), (4, _), (5, _), (6, _)]) dX0_gainWith_51 (nl rfl) rfl ?_
      refine g_iinc (pc := 53) (lv' := [(0, _), (1, _), (2, _), (3, _), (4, _), (5, _), (6, _)]) dX0_gainWith_53 rfl (nI_1 _) (nl rfl) rfl ?_
      refine g_goto (pc := 56) (tgt := 18) dX0_gainWith_56 rfl ?_
      rw [gainF, if_pos h30] at ih
      exact ih
  · refine g_iload (pc := 18) dX0_gainWith_18 rfl ?_
    refine g_iload_n (pc := 20) dX0_gainWith_20 rfl ?_
    refine g_icmp_ge (pc := 21) (tgt := 59) dX0_gainWith_21 rfl (fun _ => ?_) (fun h21 => absurd (nI_le (Nat.le_refl _) (by omega)) h21)
    refine g_iload (pc := 59) dX0_gainWith_59 rfl ?_
    refine g_ireturn (pc := 61) dX0_gainWith_61 rfl rfl ?_
    exact ⟨rfl, rfl⟩
def extF (g : Nat → Int32) (nodes tg : Int32) : Nat → Nat → Int32
  | 0 => g
  | i + 1 => if hb nodes i = true then fun_set (extF g nodes tg i) i (extF g nodes tg i i ||| tg) else extF g nodes tg i
theorem s_extend {c b n : Nat} {nodes : Int32} (hS : Shp M) (hc : isCl c) (hb9 : b < 32) (hn : n ≤ 32) : EvR l jX0_extend 2 70 0 0 [.ref c, .int nodes, .int (nI b), .int (nI n)] M (.inl (some (.int (gainW (mI M (c + 1)) nodes b n)))) (sI M (c + 1) (extF (mI M (c + 1)) nodes (mI M (c + 1) b ||| bitI b) n)) := by
  refine ev_intro rfl (nb rfl) rfl ?_
  refine g_aload_n (pc := 0) dX0_extend_0 rfl trivial ?_
  refine g_iload_n (pc := 1) dX0_extend_1 rfl ?_
  refine g_iload_n (pc := 2) dX0_extend_2 rfl ?_
  refine g_iload_n (pc := 3) dX0_extend_3 rfl ?_
  refine g_invV_r (pc := 4) (As := [_, _, _]) dX0_extend_4 rfl (s_gainWith hS hc hb9 hn) rfl rfl (shK hS hc.1) rfl rfl lk_X0_42 rfl (nb rfl) ⟨nb rfl, nb rfl⟩ rfl ?_
  refine g_istore (pc := 7) (lv' := [(0, _), (1, _), (2, _), (3, _), (4, _)]) dX0_extend_7 (nl rfl) rfl ?_
  refine g_aload_n (pc := 9) dX0_extend_9 rfl trivial ?_
  refine g_getf (pc := 10) dX0_extend_10 fk_X0_9 (shK hS hc.1) (fv_arr (shR hS hc.2.2)) ?_
  refine g_iload_n (pc := 13) dX0_extend_13 rfl ?_
  refine g_iaload (pc := 14) dX0_extend_14 (shK hS hc.2.1) rfl (by omega) (nl rfl) ?_
  refine g_iconst (pc := 15) (v := 1) dX0_extend_15 rfl ?_
  refine g_iload_n (pc := 16) dX0_extend_16 rfl ?_
  refine g_ishl (pc := 17) dX0_extend_17 ?_
  refine g_ior (pc := 18) dX0_extend_18 ?_
  refine g_istore (pc := 19) (lv' := [(0, _), (1, _), (2, _), (3, _), (4, _), (5, _)]) dX0_extend_19 (nl rfl) rfl ?_
  refine g_iconst (pc := 21) (v := 0) dX0_extend_21 rfl ?_
  refine g_istore (pc := 22) (lv' := [(0, _), (1, _), (2, _), (3, _), (4, _), (5, _), (6, _)]) dX0_extend_22 (nl rfl) rfl ?_
  generalize gainW (mI M (c + 1)) nodes b n = S
  refine go_loop (pc := 24) n (fun i => [(0, .ref c), (1, .int nodes), (2, .int (nI b)), (3, .int (nI n)), (4, .int S), (5, .int (mI M (c + 1) b ||| bitI b)), (6, .int (nI i))]) (fun i => sI M (c + 1) (extF (mI M (c + 1)) nodes (mI M (c + 1) b ||| bitI b) i)) ⟨rfl, rfl, rfl, rfl, rfl, rfl, rfl, trivial⟩ (sI_id M (c + 1)).symm ?_ ?_
  · intro i hi ih
    have e1 := sI_self M (c + 1) (extF (mI M (c + 1)) nodes (mI M (c + 1) b ||| bitI b) i)
    refine g_iload (pc := 24) dX0_extend_24 rfl ?_
    refine g_iload_n (pc := 26) dX0_extend_26 rfl ?_
    refine g_icmp_ge (pc := 27) (tgt := 57) dX0_extend_27 rfl (fun h27 => absurd h27 (nI_ge hi (by omega))) (fun _ => ?_)
    refine g_iload_n (pc := 30) dX0_extend_30 rfl ?_
    refine g_iload (pc := 31) dX0_extend_31 rfl ?_
    refine g_invSN_r (pc := 33) (As := [_, _]) dX0_extend_33 rfl (s_hasOne (by omega)) rfl rfl lk_X0_21 rfl (nb rfl) ⟨nb rfl, nb rfl⟩ rfl ?_
    refine g_if_eq (pc := 36) (tgt := 51) dX0_extend_36 rfl (fun h36 => ?_) (fun h36 => ?_)
    · rw [b1_0] at h36
      refine g_iinc (pc := 51) (lv' := [(0, _), (1, _), (2, _), (3, _), (4, _), (5, _), (6, _)]) dX0_extend_51 rfl (nI_1 _) (nl rfl) rfl ?_
      refine g_goto (pc := 54) (tgt := 24) dX0_extend_54 rfl ?_
      exact go_cast (by rw [extF, if_neg (by rw [h36]; decide)]) ih
    · rw [b1_0, Bool.not_eq_false] at h36
      refine g_aload_n (pc := 39) dX0_extend_39 rfl trivial ?_
      refine g_getf (pc := 40) dX0_extend_40 fk_X0_9 (shK hS hc.1) (fv_arr (shR hS hc.2.2)) ?_
      refine g_iload (pc := 43) dX0_extend_43 rfl ?_
      refine g_dup2_11 (pc := 45) dX0_extend_45 rfl rfl ?_
      refine g_iaload (pc := 46) dX0_extend_46 (shK hS hc.2.1) rfl (by omega) (nl rfl) ?_
      rw [e1]
      refine g_iload (pc := 47) dX0_extend_47 rfl ?_
      refine g_ior (pc := 49) dX0_extend_49 ?_
      refine g_iastore (pc := 50) dX0_extend_50 (shK hS hc.2.1) rfl (by omega) (nl rfl) ?_
      refine g_iinc (pc := 51) (lv' := [(0, _), (1, _), (2, _), (3, _), (4, _), (5, _), (6, _)]) dX0_extend_51 rfl (nI_1 _) (nl rfl) rfl ?_
      refine g_goto (pc := 54) (tgt := 24) dX0_extend_54 rfl ?_
      exact go_cast (sI_st (by rw [extF, if_pos h36])) ih
  · refine g_iload (pc := 24) dX0_extend_24 rfl ?_
    refine g_iload_n (pc := 26) dX0_extend_26 rfl ?_
    refine g_icmp_ge (pc := 27) (tgt := 57) dX0_extend_27 rfl (fun _ => ?_) (fun h27 => absurd (nI_le (Nat.le_refl _) (by omega)) h27)
    refine g_iload (pc := 57) dX0_extend_57 rfl ?_
    refine g_ireturn (pc := 59) dX0_extend_59 rfl rfl ?_
    exact ⟨rfl, rfl⟩
def mendG (g f : Nat → Int32) (nodes : Int32) (n : Nat) : Nat → Nat → Int32
  | 0 => g
  | i + 1 => if hb nodes i = true then fun_set (mendG g f nodes n i) i (reachL f n (f i) 0) else mendG g f nodes n i
def mendS (g f : Nat → Int32) (nodes : Int32) (n : Nat) : Nat → Int32
  | 0 => 0
  | i + 1 => if hb nodes i = true then mendS g f nodes n i + bcJ (mendG g f nodes n i i &&& (reachL f n (f i) 0 ^^^ -1)) else mendS g f nodes n i
theorem s_mend {c r n : Nat} {nodes : Int32} (hS : Shp M) (hc : isCl c) (hk : (mK M)[r]? = some (kI 32)) (hr : r ≠ c + 1) (hn : n ≤ 32) : EvR l jX0_mend 3 90 0 0 [.ref c, .int nodes, .ref r, .int (nI n)] M (.inl (some (.int (mendS (mI M (c + 1)) (mI M r) nodes n n)))) (sI M (c + 1) (mendG (mI M (c + 1)) (mI M r) nodes n n)) := by
  refine ev_intro rfl (nb rfl) rfl ?_
  refine g_iconst (pc := 0) (v := 0) dX0_mend_0 rfl ?_
  refine g_istore (pc := 1) (lv' := [(0, _), (1, _), (2, _), (3, _), (4, _)]) dX0_mend_1 (nl rfl) rfl ?_
  refine g_iconst (pc := 3) (v := 0) dX0_mend_3 rfl ?_
  refine g_istore (pc := 4) (lv' := [(0, _), (1, _), (2, _), (3, _), (4, _), (5, _)]) dX0_mend_4 (nl rfl) rfl ?_
  refine go_loop (pc := 6) n (fun i => [(0, .ref c), (1, .int nodes), (2, .ref r), (3, .int (nI n)), (4, .int (mendS (mI M (c + 1)) (mI M r) nodes n i)), (5, .int (nI i))]) (fun i => sI M (c + 1) (mendG (mI M (c + 1)) (mI M r) nodes n i)) ⟨rfl, rfl, rfl, rfl, rfl, rfl, trivial⟩ (sI_id M (c + 1)).symm ?_ ?_
  · intro i hi ih
    have e1 := sI_self M (c + 1) (mendG (mI M (c + 1)) (mI M r) nodes n i)
    have e2 : mI (sI M (c + 1) (mendG (mI M (c + 1)) (mI M r) nodes n i)) r = mI M r := sI_ne hr
    have hk2 : (mK (sI M (c + 1) (mendG (mI M (c + 1)) (mI M r) nodes n i)))[r]? = some (kI 32) := hk
    refine g_iload (pc := 6) dX0_mend_6 rfl ?_
    refine g_iload_n (pc := 8) dX0_mend_8 rfl ?_
    refine g_icmp_ge (pc := 9) (tgt := 65) dX0_mend_9 rfl (fun h9 => absurd h9 (nI_ge hi (by omega))) (fun _ => ?_)
    refine g_iload_n (pc := 12) dX0_mend_12 rfl ?_
    refine g_iload (pc := 13) dX0_mend_13 rfl ?_
    refine g_invSN_r (pc := 15) (As := [_, _]) dX0_mend_15 rfl (s_hasOne (by omega)) rfl rfl lk_X0_21 rfl (nb rfl) ⟨nb rfl, nb rfl⟩ rfl ?_
    refine g_if_eq (pc := 18) (tgt := 59) dX0_mend_18 rfl (fun h18 => ?_) (fun h18 => ?_)
    · rw [b1_0] at h18
      refine g_iinc (pc := 59) (lv' := [(0, _), (1, _), (2, _), (3, _), (4, _), (5, _)]) dX0_mend_59 rfl (nI_1 _) (nl rfl) rfl ?_
      refine g_goto (pc := 62) (tgt := 6) dX0_mend_62 rfl ?_
      rw [mendS, if_neg (by rw [h18]; decide), mendG, if_neg (by rw [h18]; decide)] at ih
      exact ih
    · rw [b1_0, Bool.not_eq_false] at h18
      refine g_aload_n (pc := 21) dX0_mend_21 rfl trivial ?_
      refine g_iload (pc := 22) dX0_mend_22 rfl ?_
      refine g_iload_n (pc := 24) dX0_mend_24 rfl ?_
      refine g_invSN_r (pc := 25) (As := [_, _, _]) dX0_mend_25 rfl (s_reachedFrom hk2 (by omega) hn) rfl rfl lk_X0_46 rfl (nb rfl) ⟨nb rfl, nb rfl⟩ rfl ?_
      rw [e2]
      refine g_istore (pc := 28) (lv' := [(0, _), (1, _), (2, _), (3, _), (4, _), (5, _), (6, _)]) dX0_mend_28 (nl rfl) rfl ?_
      refine g_iload (pc := 30) dX0_mend_30 rfl ?_
      refine g_aload_n (pc := 32) dX0_mend_32 rfl trivial ?_
      refine g_getf (pc := 33) dX0_mend_33 fk_X0_9 (shK hS hc.1) (fv_arr (shR hS hc.2.2)) ?_
      refine g_iload (pc := 36) dX0_mend_36 rfl ?_
      refine g_iaload (pc := 38) dX0_mend_38 (shK hS hc.2.1) rfl (by omega) (nl rfl) ?_
      rw [e1]
      refine g_iload (pc := 39) dX0_mend_39 rfl ?_
      refine g_iconst (pc := 41) (v := (-1)) dX0_mend_41 rfl ?_
      refine g_ixor (pc := 42) dX0_mend_42 ?_
      refine g_iand (pc := 43) dX0_mend_43 ?_
      refine g_invS_r (pc := 44) (As := [_]) dX0_mend_44 rfl (s_bitCount) rfl rfl lk_X0_37 rfl (nb rfl) ⟨nb rfl, nb rfl⟩ rfl ?_
      refine g_iadd (pc := 47) dX0_mend_47 ?_
      refine g_istore (pc := 48) (lv' := [(0, _), (1, _), (2, _), (3, _), (4, _), (5, _), (6, _)]) dX0_mend_48 (nl rfl) rfl ?_
      refine g_aload_n (pc := 50) dX0_mend_50 rfl trivial ?_
      refine g_getf (pc := 51) dX0_mend_51 fk_X0_9 (shK hS hc.1) (fv_arr (shR hS hc.2.2)) ?_
      refine g_iload (pc := 54) dX0_mend_54 rfl ?_
      refine g_iload (pc := 56) dX0_mend_56 rfl ?_
      refine g_iastore (pc := 58) dX0_mend_58 (shK hS hc.2.1) rfl (by omega) (nl rfl) ?_
      refine g_iinc (pc := 59) (lv' := [(0, _), (1, _), (2, _), (3, _), (4, _), (5, _), (6, _)]) dX0_mend_59 rfl (nI_1 _) (nl rfl) rfl ?_
      refine g_goto (pc := 62) (tgt := 6) dX0_mend_62 rfl ?_
      rw [mendS, if_pos h18] at ih
      exact go_cast (sI_st (by rw [mendG, if_pos h18])) (g_sub (lv' := [(0, _), (1, _), (2, _), (3, _), (4, _), (5, _)]) ⟨rfl, rfl, rfl, rfl, rfl, rfl, trivial⟩ ih)
  · refine g_iload (pc := 6) dX0_mend_6 rfl ?_
    refine g_iload_n (pc := 8) dX0_mend_8 rfl ?_
    refine g_icmp_ge (pc := 9) (tgt := 65) dX0_mend_9 rfl (fun _ => ?_) (fun h9 => absurd (nI_le (Nat.le_refl _) (by omega)) h9)
    refine g_iload (pc := 65) dX0_mend_65 rfl ?_
    refine g_ireturn (pc := 67) dX0_mend_67 rfl rfl ?_
    exact ⟨rfl, rfl⟩
def lossF (g f : Nat → Int32) (nodes : Int32) (n : Nat) : Nat → Int32
  | 0 => 0
  | i + 1 => if hb nodes i = true then lossF g f nodes n i + bcJ (g i &&& (reachL f n (f i) 0 ^^^ -1)) else lossF g f nodes n i
def lossB (g f : Nat → Int32) (a b n : Nat) : Int32 := if hb (reachL f n (f a) 0) b = true then 0 else lossF g f (nodesTo g a n) n n
end
