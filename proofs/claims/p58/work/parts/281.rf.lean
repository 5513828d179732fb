/-! the reference: what an edge more or less would change; triangles -/
section
variable {l : Launch} {M : Mem} {n : Nat} {A : Nat → Nat → Int32}
/-- rows with a bit turned -/
def tnF (f : Nat → Int32) (a b : Nat) : Nat → Int32 := fun_set f a (f a ^^^ bitI b)
def pTv (f : Nat → Int32) (n a b : Nat) : Int32 := onesF (wOut (tnF f a b) n n) n
def pOv (f : Nat → Int32) (n : Nat) : Int32 := onesF (wOut f n n) n
theorem r_pairsTurned {s a b : Nat} (h : Rr M n A) (hs : s < 6) (ha : a < n) (hb9 : b < n) : EvR l jX7_pairsTurned 3 90 0 0 [.ref 198, .int (nI s), .int (nI a), .int (nI b)] M (.inl (some (.int (pTv (A s) n a b)))) (hdM M 205 n (wOut (tnF (A s) a b) n n)) := by
  have hn := h.2.2.2.1
  have hS := h.1
  have h1 : Rr (hdM M 205 n (A s)) n A := h.hd (Or.inl rfl)
  have e1 := hdM_at (M := M) (x := 205) (f := A s) ha
  have est := hdM_st (M := M) (x := 205) (f := A s) (v := A s a ^^^ bitI b) ha
  have h2 : Rr (hdM M 205 n (tnF (A s) a b)) n A := h.hd (Or.inl rfl)
  have q2 := r_closes (l := l) (x := 205) (f := tnF (A s) a b) h2 (Or.inl rfl) (fun i hi => hdM_at hi)
  rw [hdM_2] at q2
  have h3 : Rr (hdM M 205 n (wOut (tnF (A s) a b) n n)) n A := h.hd (Or.inl rfl)
  have q3 := r_sumOf (l := l) (x := 205) (f := wOut (tnF (A s) a b) n n) h3 (Or.inl rfl) (fun i hi => hdM_at hi)
  have q1 := r_takes (l := l) (x := 205) h hs (Or.inl rfl)
  have est : pL (hdM M 205 n (A s)) 205 a (uL (A s a ^^^ bitI b)) = hdM M 205 n (tnF (A s) a b) := est
  unfold pTv
  generalize hdM M 205 n (wOut (tnF (A s) a b) n n) = M3 at *
  generalize wOut (tnF (A s) a b) n n = W at *
  generalize hdM M 205 n (tnF (A s) a b) = M2 at *
  generalize hdM M 205 n (A s) = M1 at *
  refine ev_intro rfl (nb rfl) rfl ?_
  refine g_aload_n (pc := 0) dX7_pairsTurned_0 rfl trivial ?_
  refine g_iload_n (pc := 1) dX7_pairsTurned_1 rfl ?_
  refine g_aload_n (pc := 2) dX7_pairsTurned_2 rfl trivial ?_
  refine g_getf (pc := 3) dX7_pairsTurned_3 fk_X7_34 (shK hS rfl) (fv_arr (shR hS rfl)) ?_
  refine g_invV_r (pc := 6) (As := [_, _]) dX7_pairsTurned_6 rfl (q1) rfl rfl (shK hS rfl) rfl rfl lk_X7_252 rfl (nb rfl) ⟨nb rfl, nb rfl⟩ rfl ?_
  refine g_aload_n (pc := 9) dX7_pairsTurned_9 rfl trivial ?_
  refine g_getf (pc := 10) dX7_pairsTurned_10 fk_X7_34 (shK h1.1 rfl) (fv_arr (shR h1.1 rfl)) ?_
  refine g_iload_n (pc := 13) dX7_pairsTurned_13 rfl ?_
  refine g_dup2_11 (pc := 14) dX7_pairsTurned_14 rfl rfl ?_
  refine g_laload (pc := 15) dX7_pairsTurned_15 (shK h1.1 rfl) rfl (by omega) (nl rfl) ?_
  rw [e1]
  refine g_lconst (pc := 16) (v := 1) dX7_pairsTurned_16 rfl ?_
  refine g_iload_n (pc := 17) dX7_pairsTurned_17 rfl ?_
  refine g_lshl (pc := 18) dX7_pairsTurned_18 rfl ?_
  rw [sh_bit b (by omega)]
  refine g_lxor (pc := 19) dX7_pairsTurned_19 ?_
  rw [uL_xor]
  refine g_lastore (pc := 20) dX7_pairsTurned_20 (shK h1.1 rfl) rfl (by omega) (nl rfl) ?_
  refine go_cast est ?_
  refine g_aload_n (pc := 21) dX7_pairsTurned_21 rfl trivial ?_
  refine g_aload_n (pc := 22) dX7_pairsTurned_22 rfl trivial ?_
  refine g_getf (pc := 23) dX7_pairsTurned_23 fk_X7_34 (shK h2.1 rfl) (fv_arr (shR h2.1 rfl)) ?_
  refine g_invV_r (pc := 26) (As := [_]) dX7_pairsTurned_26 rfl (q2) rfl rfl (shK h2.1 rfl) rfl rfl lk_X7_256 rfl (nb rfl) ⟨nb rfl, nb rfl⟩ rfl ?_
  refine g_aload_n (pc := 29) dX7_pairsTurned_29 rfl trivial ?_
  refine g_aload_n (pc := 30) dX7_pairsTurned_30 rfl trivial ?_
  refine g_getf (pc := 31) dX7_pairsTurned_31 fk_X7_34 (shK h3.1 rfl) (fv_arr (shR h3.1 rfl)) ?_
  refine g_invV_r (pc := 34) (As := [_]) dX7_pairsTurned_34 rfl (q3) rfl rfl (shK h3.1 rfl) rfl rfl lk_X7_263 rfl (nb rfl) ⟨nb rfl, nb rfl⟩ rfl ?_
  refine g_ireturn (pc := 37) dX7_pairsTurned_37 rfl rfl ?_
  exact ⟨rfl, rfl⟩
theorem n_gained {s a b : Nat} (h : Rr M n A) (hs : s < 6) (ha : a < n) (hb9 : b < n) : EvR l jX7_gained 4 160 0 0 [.ref 198, .int (nI s), .int (nI a), .int (nI b)] M (.inl (some (.int (if hb (A s a) b = true then 0 else pTv (A s) n a b - pOv (A s) n)))) (if hb (A s a) b = true then thr M 0 else hdM (thr M 0) 205 n (wOut (A s) n n)) := by
  have hn := h.2.2.2.1
  have hS := h.1
  have h' := h.thr (x := 0)
  have h2 : Rr (hdM (thr M 0) 205 n (wOut (tnF (A s) a b) n n)) n A := h'.hd (Or.inl rfl)
  have q2 := r_pairsOf (l := l) h2 hs
  rw [hdM_2] at q2
  have q2 : EvR l jX7_pairsOf 3 90 0 0 [.ref 198, .int (nI s)] (hdM (thr M 0) 205 n (wOut (tnF (A s) a b) n n)) (.inl (some (.int (pOv (A s) n)))) (hdM (thr M 0) 205 n (wOut (A s) n n)) := q2
  have q1 := r_pairsTurned (l := l) h' hs ha hb9
  generalize hdM (thr M 0) 205 n (wOut (tnF (A s) a b) n n) = M1 at *
  generalize hdM (thr M 0) 205 n (wOut (A s) n n) = M2 at *
  generalize pOv (A s) n = P2 at *
  generalize pTv (A s) n a b = P1 at *
  refine ev_intro rfl (nb rfl) rfl ?_
  cases h9 : hb (A s a) b with
  | true =>
    rw [if_pos rfl, if_pos rfl]
    refine g_aload_n (pc := 0) dX7_gained_0 rfl trivial ?_
    refine g_aload_n (pc := 1) dX7_gained_1 rfl trivial ?_
    refine g_iload_n (pc := 2) dX7_gained_2 rfl ?_
    refine g_iload_n (pc := 3) dX7_gained_3 rfl ?_
    refine g_invV_r (pc := 4) (As := [_, _]) dX7_gained_4 rfl (r_areIn_t h (in6 hs) (inR_nI ha (by omega))) rfl rfl (shK hS rfl) rfl rfl lk_X7_223 rfl (nb rfl) ⟨nb rfl, nb rfl⟩ rfl ?_
    refine g_if_eq (pc := 7) (tgt := 22) dX7_gained_7 rfl (fun h7 => absurd h7 ((by decide))) (fun _ => ?_)
    refine g_aload_n (pc := 10) dX7_gained_10 rfl trivial ?_
    refine g_iload_n (pc := 11) dX7_gained_11 rfl ?_
    refine g_invV_r (pc := 12) (As := [_]) dX7_gained_12 rfl (r_isNode_t h (inR_nI hb9 (by omega))) rfl rfl (shK hS rfl) rfl rfl lk_X7_220 rfl (nb rfl) ⟨nb rfl, nb rfl⟩ rfl ?_
    refine g_if_eq (pc := 15) (tgt := 22) dX7_gained_15 rfl (fun h15 => absurd h15 ((by decide))) (fun _ => ?_)
    refine g_iconst (pc := 18) (v := 1) dX7_gained_18 rfl ?_
    refine g_goto (pc := 19) (tgt := 23) dX7_gained_19 rfl ?_
    refine g_iconst (pc := 23) (v := 1) dX7_gained_23 rfl ?_
    refine g_invV_r (pc := 24) (As := [_, _]) dX7_gained_24 rfl (r_isThrown_0 hS) rfl rfl (shK hS rfl) rfl rfl lk_X7_209 rfl (nb rfl) ⟨nb rfl, nb rfl⟩ rfl ?_
    refine g_if_eq (pc := 27) (tgt := 32) dX7_gained_27 rfl (fun _ => ?_) (fun h27 => absurd (rfl) h27)
    refine g_aload_n (pc := 32) dX7_gained_32 rfl trivial ?_
    refine g_iload_n (pc := 33) dX7_gained_33 rfl ?_
    refine g_iload_n (pc := 34) dX7_gained_34 rfl ?_
    refine g_invV_r (pc := 35) (As := [_, _]) dX7_gained_35 rfl (r_rowOf h' hs ha) rfl rfl (shK h'.1 rfl) rfl rfl lk_X7_227 rfl (nb rfl) ⟨nb rfl, nb rfl⟩ rfl ?_
    refine g_iload_n (pc := 38) dX7_gained_38 rfl ?_
    refine g_invS_r (pc := 39) (As := [_, _]) dX7_gained_39 rfl (r_one (by omega)) rfl rfl lk_X7_231 rfl (nb rfl) ⟨nb rfl, nb rfl⟩ rfl ?_
    rw [h9]
    refine g_iconst (pc := 42) (v := 1) dX7_gained_42 rfl ?_
    refine g_icmp_ne (pc := 43) (tgt := 50) dX7_gained_43 rfl (fun h43 => absurd h43 ((fun z => z rfl))) (fun _ => ?_)
    refine g_iconst (pc := 46) (v := 0) dX7_gained_46 rfl ?_
    refine g_goto (pc := 47) (tgt := 63) dX7_gained_47 rfl ?_
    refine g_ireturn (pc := 63) dX7_gained_63 rfl rfl ?_
    exact ⟨rfl, rfl⟩
  | false =>
    rw [if_neg (by decide), if_neg (by decide)]
    refine g_aload_n (pc := 0) dX7_gained_0 rfl trivial ?_
    refine g_aload_n (pc := 1) dX7_gained_1 rfl trivial ?_
    refine g_iload_n (pc := 2) dX7_gained_2 rfl ?_
    refine g_iload_n (pc := 3) dX7_gained_3 rfl ?_
    refine g_invV_r (pc := 4) (As := [_, _]) dX7_gained_4 rfl (r_areIn_t h (in6 hs) (inR_nI ha (by omega))) rfl rfl (shK hS rfl) rfl rfl lk_X7_223 rfl (nb rfl) ⟨nb rfl, nb rfl⟩ rfl ?_
    refine g_if_eq (pc := 7) (tgt := 22) dX7_gained_7 rfl (fun h7 => absurd h7 ((by decide))) (fun _ => ?_)
    refine g_aload_n (pc := 10) dX7_gained_10 rfl trivial ?_
    refine g_iload_n (pc := 11) dX7_gained_11 rfl ?_
    refine g_invV_r (pc := 12) (As := [_]) dX7_gained_12 rfl (r_isNode_t h (inR_nI hb9 (by omega))) rfl rfl (shK hS rfl) rfl rfl lk_X7_220 rfl (nb rfl) ⟨nb rfl, nb rfl⟩ rfl ?_
    refine g_if_eq (pc := 15) (tgt := 22) dX7_gained_15 rfl (fun h15 => absurd h15 ((by decide))) (fun _ => ?_)
    refine g_iconst (pc := 18) (v := 1) dX7_gained_18 rfl ?_
    refine g_goto (pc := 19) (tgt := 23) dX7_gained_19 rfl ?_
    refine g_iconst (pc := 23) (v := 1) dX7_gained_23 rfl ?_
    refine g_invV_r (pc := 24) (As := [_, _]) dX7_gained_24 rfl (r_isThrown_0 hS) rfl rfl (shK hS rfl) rfl rfl lk_X7_209 rfl (nb rfl) ⟨nb rfl, nb rfl⟩ rfl ?_
    refine g_if_eq (pc := 27) (tgt := 32) dX7_gained_27 rfl (fun _ => ?_) (fun h27 => absurd (rfl) h27)
    refine g_aload_n (pc := 32) dX7_gained_32 rfl trivial ?_
    refine g_iload_n (pc := 33) dX7_gained_33 rfl ?_
    refine g_iload_n (pc := 34) dX7_gained_34 rfl ?_
    refine g_invV_r (pc := 35) (As := [_, _]) dX7_gained_35 rfl (r_rowOf h' hs ha) rfl rfl (shK h'.1 rfl) rfl rfl lk_X7_227 rfl (nb rfl) ⟨nb rfl, nb rfl⟩ rfl ?_
    refine g_iload_n (pc := 38) dX7_gained_38 rfl ?_
    refine g_invS_r (pc := 39) (As := [_, _]) dX7_gained_39 rfl (r_one (by omega)) rfl rfl lk_X7_231 rfl (nb rfl) ⟨nb rfl, nb rfl⟩ rfl ?_
    rw [h9]
    refine g_iconst (pc := 42) (v := 1) dX7_gained_42 rfl ?_
    refine g_icmp_ne (pc := 43) (tgt := 50) dX7_gained_43 rfl (fun _ => ?_) (fun h43 => absurd ((by decide)) h43)
    refine g_aload_n (pc := 50) dX7_gained_50 rfl trivial ?_
    refine g_iload_n (pc := 51) dX7_gained_51 rfl ?_
    refine g_iload_n (pc := 52) dX7_gained_52 rfl ?_
    refine g_iload_n (pc := 53) dX7_gained_53 rfl ?_
    refine g_invV_r (pc := 54) (As := [_, _, _]) dX7_gained_54 rfl (q1) rfl rfl (shK h'.1 rfl) rfl rfl lk_X7_284 rfl (nb rfl) ⟨nb rfl, nb rfl⟩ rfl ?_
    refine g_aload_n (pc := 57) dX7_gained_57 rfl trivial ?_
    refine g_iload_n (pc := 58) dX7_gained_58 rfl ?_
    refine g_invV_r (pc := 59) (As := [_]) dX7_gained_59 rfl (q2) rfl rfl (shK h2.1 rfl) rfl rfl lk_X7_267 rfl (nb rfl) ⟨nb rfl, nb rfl⟩ rfl ?_
    refine g_isub (pc := 62) dX7_gained_62 ?_
    refine g_ireturn (pc := 63) dX7_gained_63 rfl rfl ?_
    exact ⟨rfl, rfl⟩
theorem t_gained {v w u : Int32} (h : Rr M n A) (hx : ¬ (inR v 6 ∧ inR w n ∧ inR u n)) : EvR l jX7_gained 4 160 0 0 [.ref 198, .int v, .int w, .int u] M (.inl (some (.int 0))) (thr M 1) := by
  have hS := h.1
  refine ev_intro rfl (nb rfl) rfl ?_
  by_cases h1 : inR v 6 ∧ inR w n
  · refine g_aload_n (pc := 0) dX7_gained_0 rfl trivial ?_
    refine g_aload_n (pc := 1) dX7_gained_1 rfl trivial ?_
    refine g_iload_n (pc := 2) dX7_gained_2 rfl ?_
    refine g_iload_n (pc := 3) dX7_gained_3 rfl ?_
    refine g_invV_r (pc := 4) (As := [_, _]) dX7_gained_4 rfl (r_areIn_t h h1.1 h1.2) rfl rfl (shK hS rfl) rfl rfl lk_X7_223 rfl (nb rfl) ⟨nb rfl, nb rfl⟩ rfl ?_
    refine g_if_eq (pc := 7) (tgt := 22) dX7_gained_7 rfl (fun h7 => absurd h7 ((by decide))) (fun _ => ?_)
    refine g_aload_n (pc := 10) dX7_gained_10 rfl trivial ?_
    refine g_iload_n (pc := 11) dX7_gained_11 rfl ?_
    refine g_invV_r (pc := 12) (As := [_]) dX7_gained_12 rfl (r_isNode_f h (fun q => hx ⟨h1.1, h1.2, q⟩)) rfl rfl (shK hS rfl) rfl rfl lk_X7_220 rfl (nb rfl) ⟨nb rfl, nb rfl⟩ rfl ?_
    refine g_if_eq (pc := 15) (tgt := 22) dX7_gained_15 rfl (fun _ => ?_) (fun h15 => absurd (rfl) h15)
    refine g_iconst (pc := 22) (v := 0) dX7_gained_22 rfl ?_
    refine g_iconst (pc := 23) (v := 1) dX7_gained_23 rfl ?_
    refine g_invV_r (pc := 24) (As := [_, _]) dX7_gained_24 rfl (r_isThrown_1 hS) rfl rfl (shK hS rfl) rfl rfl lk_X7_209 rfl (nb rfl) ⟨nb rfl, nb rfl⟩ rfl ?_
    refine g_if_eq (pc := 27) (tgt := 32) dX7_gained_27 rfl (fun h27 => absurd h27 ((by decide))) (fun _ => ?_)
    refine g_iconst (pc := 30) (v := 0) dX7_gained_30 rfl ?_
    refine g_ireturn (pc := 31) dX7_gained_31 rfl rfl ?_
    exact ⟨rfl, rfl⟩
  · refine g_aload_n (pc := 0) dX7_gained_0 rfl trivial ?_
    refine g_aload_n (pc := 1) dX7_gained_1 rfl trivial ?_
    refine g_iload_n (pc := 2) dX7_gained_2 rfl ?_
    refine g_iload_n (pc := 3) dX7_gained_3 rfl ?_
    refine g_invV_r (pc := 4) (As := [_, _]) dX7_gained_4 rfl (r_areIn_f h h1) rfl rfl (shK hS rfl) rfl rfl lk_X7_223 rfl (nb rfl) ⟨nb rfl, nb rfl⟩ rfl ?_
    refine g_if_eq (pc := 7) (tgt := 22) dX7_gained_7 rfl (fun _ => ?_) (fun h7 => absurd (rfl) h7)
    refine g_iconst (pc := 22) (v := 0) dX7_gained_22 rfl ?_
    refine g_iconst (pc := 23) (v := 1) dX7_gained_23 rfl ?_
    refine g_invV_r (pc := 24) (As := [_, _]) dX7_gained_24 rfl (r_isThrown_1 hS) rfl rfl (shK hS rfl) rfl rfl lk_X7_209 rfl (nb rfl) ⟨nb rfl, nb rfl⟩ rfl ?_
    refine g_if_eq (pc := 27) (tgt := 32) dX7_gained_27 rfl (fun h27 => absurd h27 ((by decide))) (fun _ => ?_)
    refine g_iconst (pc := 30) (v := 0) dX7_gained_30 rfl ?_
    refine g_ireturn (pc := 31) dX7_gained_31 rfl rfl ?_
    exact ⟨rfl, rfl⟩
theorem n_lost {s a b : Nat} (h : Rr M n A) (hs : s < 6) (ha : a < n) (hb9 : b < n) : EvR l jX7_lost 4 160 0 0 [.ref 198, .int (nI s), .int (nI a), .int (nI b)] M (.inl (some (.int (if hb (A s a) b = true then pOv (A s) n - pTv (A s) n a b else -1)))) (if hb (A s a) b = true then hdM (thr M 0) 205 n (wOut (tnF (A s) a b) n n) else thr M 0) := by
  have hn := h.2.2.2.1
  have hS := h.1
  have h' := h.thr (x := 0)
  have h2 : Rr (hdM (thr M 0) 205 n (wOut (A s) n n)) n A := h'.hd (Or.inl rfl)
  have q2 := r_pairsTurned (l := l) h2 hs ha hb9
  rw [hdM_2] at q2
  have q1 : EvR l jX7_pairsOf 3 90 0 0 [.ref 198, .int (nI s)] (thr M 0) (.inl (some (.int (pOv (A s) n)))) (hdM (thr M 0) 205 n (wOut (A s) n n)) := r_pairsOf h' hs
  generalize hdM (thr M 0) 205 n (wOut (tnF (A s) a b) n n) = M2 at *
  generalize hdM (thr M 0) 205 n (wOut (A s) n n) = M1 at *
  generalize pOv (A s) n = P1 at *
  generalize pTv (A s) n a b = P2 at *
  refine ev_intro rfl (nb rfl) rfl ?_
  cases h9 : hb (A s a) b with
  | true =>
    rw [if_pos rfl, if_pos rfl]
    refine g_aload_n (pc := 0) dX7_lost_0 rfl trivial ?_
    refine g_aload_n (pc := 1) dX7_lost_1 rfl trivial ?_
    refine g_iload_n (pc := 2) dX7_lost_2 rfl ?_
    refine g_iload_n (pc := 3) dX7_lost_3 rfl ?_
    refine g_invV_r (pc := 4) (As := [_, _]) dX7_lost_4 rfl (r_areIn_t h (in6 hs) (inR_nI ha (by omega))) rfl rfl (shK hS rfl) rfl rfl lk_X7_223 rfl (nb rfl) ⟨nb rfl, nb rfl⟩ rfl ?_
    refine g_if_eq (pc := 7) (tgt := 22) dX7_lost_7 rfl (fun h7 => absurd h7 ((by decide))) (fun _ => ?_)
    refine g_aload_n (pc := 10) dX7_lost_10 rfl trivial ?_
    refine g_iload_n (pc := 11) dX7_lost_11 rfl ?_
    refine g_invV_r (pc := 12) (As := [_]) dX7_lost_12 rfl (r_isNode_t h (inR_nI hb9 (by omega))) rfl rfl (shK hS rfl) rfl rfl lk_X7_220 rfl (nb rfl) ⟨nb rfl, nb rfl⟩ rfl ?_
    refine g_if_eq (pc := 15) (tgt := 22) dX7_lost_15 rfl (fun h15 => absurd h15 ((by decide))) (fun _ => ?_)
    refine g_iconst (pc := 18) (v := 1) dX7_lost_18 rfl ?_
    refine g_goto (pc := 19) (tgt := 23) dX7_lost_19 rfl ?_
    refine g_iconst (pc := 23) (v := 1) dX7_lost_23 rfl ?_
    refine g_invV_r (pc := 24) (As := [_, _]) dX7_lost_24 rfl (r_isThrown_0 hS) rfl rfl (shK hS rfl) rfl rfl lk_X7_209 rfl (nb rfl) ⟨nb rfl, nb rfl⟩ rfl ?_
    refine g_if_eq (pc := 27) (tgt := 32) dX7_lost_27 rfl (fun _ => ?_) (fun h27 => absurd (rfl) h27)
    refine g_aload_n (pc := 32) dX7_lost_32 rfl trivial ?_
    refine g_iload_n (pc := 33) dX7_lost_33 rfl ?_
    refine g_iload_n (pc := 34) dX7_lost_34 rfl ?_
    refine g_invV_r (pc := 35) (As := [_, _]) dX7_lost_35 rfl (r_rowOf h' hs ha) rfl rfl (shK h'.1 rfl) rfl rfl lk_X7_227 rfl (nb rfl) ⟨nb rfl, nb rfl⟩ rfl ?_
    refine g_iload_n (pc := 38) dX7_lost_38 rfl ?_
    refine g_invS_r (pc := 39) (As := [_, _]) dX7_lost_39 rfl (r_one (by omega)) rfl rfl lk_X7_231 rfl (nb rfl) ⟨nb rfl, nb rfl⟩ rfl ?_
    rw [h9]
    refine g_if_ne (pc := 42) (tgt := 49) dX7_lost_42 rfl (fun _ => ?_) (fun h42 => absurd ((by decide)) h42)
    refine g_aload_n (pc := 49) dX7_lost_49 rfl trivial ?_
    refine g_iload_n (pc := 50) dX7_lost_50 rfl ?_
    refine g_invV_r (pc := 51) (As := [_]) dX7_lost_51 rfl (q1) rfl rfl (shK h'.1 rfl) rfl rfl lk_X7_267 rfl (nb rfl) ⟨nb rfl, nb rfl⟩ rfl ?_
    refine g_aload_n (pc := 54) dX7_lost_54 rfl trivial ?_
    refine g_iload_n (pc := 55) dX7_lost_55 rfl ?_
    refine g_iload_n (pc := 56) dX7_lost_56 rfl ?_
    refine g_iload_n (pc := 57) dX7_lost_57 rfl ?_
    refine g_invV_r (pc := 58) (As := [_, _, _]) dX7_lost_58 rfl (q2) rfl rfl (shK h2.1 rfl) rfl rfl lk_X7_284 rfl (nb rfl) ⟨nb rfl, nb rfl⟩ rfl ?_
    refine g_isub (pc := 61) dX7_lost_61 ?_
    refine g_ireturn (pc := 62) dX7_lost_62 rfl rfl ?_
    exact ⟨rfl, rfl⟩
  | false =>
    rw [if_neg (by decide), if_neg (by decide)]
    refine g_aload_n (pc := 0) dX7_lost_0 rfl trivial ?_
    refine g_aload_n (pc := 1) dX7_lost_1 rfl trivial ?_
    refine g_iload_n (pc := 2) dX7_lost_2 rfl ?_
    refine g_iload_n (pc := 3) dX7_lost_3 rfl ?_
    refine g_invV_r (pc := 4) (As := [_, _]) dX7_lost_4 rfl (r_areIn_t h (in6 hs) (inR_nI ha (by omega))) rfl rfl (shK hS rfl) rfl rfl lk_X7_223 rfl (nb rfl) ⟨nb rfl, nb rfl⟩ rfl ?_
    refine g_if_eq (pc := 7) (tgt := 22) dX7_lost_7 rfl (fun h7 => absurd h7 ((by decide))) (fun _ => ?_)
    refine g_aload_n (pc := 10) dX7_lost_10 rfl trivial ?_
    refine g_iload_n (pc := 11) dX7_lost_11 rfl ?_
    refine g_invV_r (pc := 12) (As := [_]) dX7_lost_12 rfl (r_isNode_t h (inR_nI hb9 (by omega))) rfl rfl (shK hS rfl) rfl rfl lk_X7_220 rfl (nb rfl) ⟨nb rfl, nb rfl⟩ rfl ?_
    refine g_if_eq (pc := 15) (tgt := 22) dX7_lost_15 rfl (fun h15 => absurd h15 ((by decide))) (fun _ => ?_)
    refine g_iconst (pc := 18) (v := 1) dX7_lost_18 rfl ?_
    refine g_goto (pc := 19) (tgt := 23) dX7_lost_19 rfl ?_
    refine g_iconst (pc := 23) (v := 1) dX7_lost_23 rfl ?_
    refine g_invV_r (pc := 24) (As := [_, _]) dX7_lost_24 rfl (r_isThrown_0 hS) rfl rfl (shK hS rfl) rfl rfl lk_X7_209 rfl (nb rfl) ⟨nb rfl, nb rfl⟩ rfl ?_
    refine g_if_eq (pc := 27) (tgt := 32) dX7_lost_27 rfl (fun _ => ?_) (fun h27 => absurd (rfl) h27)
    refine g_aload_n (pc := 32) dX7_lost_32 rfl trivial ?_
    refine g_iload_n (pc := 33) dX7_lost_33 rfl ?_
    refine g_iload_n (pc := 34) dX7_lost_34 rfl ?_
    refine g_invV_r (pc := 35) (As := [_, _]) dX7_lost_35 rfl (r_rowOf h' hs ha) rfl rfl (shK h'.1 rfl) rfl rfl lk_X7_227 rfl (nb rfl) ⟨nb rfl, nb rfl⟩ rfl ?_
    refine g_iload_n (pc := 38) dX7_lost_38 rfl ?_
    refine g_invS_r (pc := 39) (As := [_, _]) dX7_lost_39 rfl (r_one (by omega)) rfl rfl lk_X7_231 rfl (nb rfl) ⟨nb rfl, nb rfl⟩ rfl ?_
    rw [h9]
    refine g_if_ne (pc := 42) (tgt := 49) dX7_lost_42 rfl (fun h42 => absurd h42 ((fun z => z rfl))) (fun _ => ?_)
    refine g_iconst (pc := 45) (v := (-1)) dX7_lost_45 rfl ?_
    refine g_goto (pc := 46) (tgt := 62) dX7_lost_46 rfl ?_
    refine g_ireturn (pc := 62) dX7_lost_62 rfl rfl ?_
    exact ⟨rfl, rfl⟩
theorem t_lost {v w u : Int32} (h : Rr M n A) (hx : ¬ (inR v 6 ∧ inR w n ∧ inR u n)) : EvR l jX7_lost 4 160 0 0 [.ref 198, .int v, .int w, .int u] M (.inl (some (.int 0))) (thr M 1) := by
  have hS := h.1
  refine ev_intro rfl (nb rfl) rfl ?_
  by_cases h1 : inR v 6 ∧ inR w n
  · refine g_aload_n (pc := 0) dX7_lost_0 rfl trivial ?_
    refine g_aload_n (pc := 1) dX7_lost_1 rfl trivial ?_
    refine g_iload_n (pc := 2) dX7_lost_2 rfl ?_
    refine g_iload_n (pc := 3) dX7_lost_3 rfl ?_
    refine g_invV_r (pc := 4) (As := [_, _]) dX7_lost_4 rfl (r_areIn_t h h1.1 h1.2) rfl rfl (shK hS rfl) rfl rfl lk_X7_223 rfl (nb rfl) ⟨nb rfl, nb rfl⟩ rfl ?_
    refine g_if_eq (pc := 7) (tgt := 22) dX7_lost_7 rfl (fun h7 => absurd h7 ((by decide))) (fun _ => ?_)
    refine g_aload_n (pc := 10) dX7_lost_10 rfl trivial ?_
    refine g_iload_n (pc := 11) dX7_lost_11 rfl ?_
    refine g_invV_r (pc := 12) (As := [_]) dX7_lost_12 rfl (r_isNode_f h (fun q => hx ⟨h1.1, h1.2, q⟩)) rfl rfl (shK hS rfl) rfl rfl lk_X7_220 rfl (nb rfl) ⟨nb rfl, nb rfl⟩ rfl ?_
    refine g_if_eq (pc := 15) (tgt := 22) dX7_lost_15 rfl (fun _ => ?_) (fun h15 => absurd (rfl) h15)
    refine g_iconst (pc := 22) (v := 0) dX7_lost_22 rfl ?_
    refine g_iconst (pc := 23) (v := 1) dX7_lost_23 rfl ?_
    refine g_invV_r (pc := 24) (As := [_, _]) dX7_lost_24 rfl (r_isThrown_1 hS) rfl rfl (shK hS rfl) rfl rfl lk_X7_209 rfl (nb rfl) ⟨nb rfl, nb rfl⟩ rfl ?_
    refine g_if_eq (pc := 27) (tgt := 32) dX7_lost_27 rfl (fun h27 => absurd h27 ((by decide))) (fun _ => ?_)
    refine g_iconst (pc := 30) (v := 0) dX7_lost_30 rfl ?_
    refine g_ireturn (pc := 31) dX7_lost_31 rfl rfl ?_
    exact ⟨rfl, rfl⟩
  · refine g_aload_n (pc := 0) dX7_lost_0 rfl trivial ?_
    refine g_aload_n (pc := 1) dX7_lost_1 rfl trivial ?_
    refine g_iload_n (pc := 2) dX7_lost_2 rfl ?_
    refine g_iload_n (pc := 3) dX7_lost_3 rfl ?_
    refine g_invV_r (pc := 4) (As := [_, _]) dX7_lost_4 rfl (r_areIn_f h h1) rfl rfl (shK hS rfl) rfl rfl lk_X7_223 rfl (nb rfl) ⟨nb rfl, nb rfl⟩ rfl ?_
    refine g_if_eq (pc := 7) (tgt := 22) dX7_lost_7 rfl (fun _ => ?_) (fun h7 => absurd (rfl) h7)
    refine g_iconst (pc := 22) (v := 0) dX7_lost_22 rfl ?_
    refine g_iconst (pc := 23) (v := 1) dX7_lost_23 rfl ?_
    refine g_invV_r (pc := 24) (As := [_, _]) dX7_lost_24 rfl (r_isThrown_1 hS) rfl rfl (shK hS rfl) rfl rfl lk_X7_209 rfl (nb rfl) ⟨nb rfl, nb rfl⟩ rfl ?_
    refine g_if_eq (pc := 27) (tgt := 32) dX7_lost_27 rfl (fun h27 => absurd h27 ((by decide))) (fun _ => ?_)
    refine g_iconst (pc := 30) (v := 0) dX7_lost_30 rfl ?_
    refine g_ireturn (pc := 31) dX7_lost_31 rfl rfl ?_
    exact ⟨rfl, rfl⟩
/-- the turned bit that makes the most: is it asked for, what it makes -/
def mtC (f : Nat → Int32) (n : Nat) (bit : Bool) (k : Nat) : Bool := decide (k % 32 < n) && (hb (f (k / 32)) (k % 32) == bit)
def mtA (x : Int32) : Int32 := if 0 ≤ x then x else 0 - x
def mtV (f : Nat → Int32) (n k : Nat) : Int32 := mtA (pTv f n (k / 32) (k % 32) - pOv f n)
def mtS (f : Nat → Int32) (n : Nat) (bit : Bool) : Nat → Int32 × Int32
  | 0 => (-1, -1)
  | k + 1 => if mtC f n bit k = true then (if (mtS f n bit k).2 < mtV f n k then nI k else (mtS f n bit k).1, if (mtS f n bit k).2 < mtV f n k then mtV f n k else (mtS f n bit k).2) else mtS f n bit k
def mtH (f : Nat → Int32) (n : Nat) (bit : Bool) : Nat → Nat → Int32
  | 0 => wOut f n n
  | k + 1 => if mtC f n bit k = true then wOut (tnF f (k / 32) (k % 32)) n n else mtH f n bit k
theorem dv32 : ∀ k, k < 1024 → nI k / 32 = nI (k / 32) ∧ nI k - nI k / 32 * 32 = nI (k % 32) := fun k hk => by
  have e : nI k / 32 = nI (k / 32) := (Int32.ofNat_div (a := k) (b := 32) (by omega) (by omega)).symm
  refine ⟨e, ?_⟩
  rw [e, show (32 : Int32) = nI 32 from rfl, nI_mul, nI_sub' (by omega)]
  congr 1
  omega
theorem r_mostTurned {s : Nat} {bit : Bool} (h : Rr M n A) (hs : s < 6) : EvR l jX7_mostTurned 4 130 0 0 [.ref 198, .int (nI s), .int (b1 bit)] M (.inl (some (.int (mtS (A s) n bit (32 * n)).1))) (hdM M 205 n (mtH (A s) n bit (32 * n))) := by
  have hn := h.2.2.2.1
  have hS := h.1
  have q1 : EvR l jX7_pairsOf 3 90 0 0 [.ref 198, .int (nI s)] M (.inl (some (.int (pOv (A s) n)))) (hdM M 205 n (wOut (A s) n n)) := r_pairsOf h hs
  refine ev_intro rfl (nb rfl) rfl ?_
  refine g_aload_n (pc := 0) dX7_mostTurned_0 rfl trivial ?_
  refine g_iload_n (pc := 1) dX7_mostTurned_1 rfl ?_
  refine g_invV_r (pc := 2) (As := [_]) dX7_mostTurned_2 rfl (q1) rfl rfl (shK hS rfl) rfl rfl lk_X7_267 rfl (nb rfl) ⟨nb rfl, nb rfl⟩ rfl ?_
  refine g_istore_n (pc := 5) (lv' := [(0, _), (1, _), (2, _), (3, _)]) dX7_mostTurned_5 (nl rfl) rfl ?_
  refine g_iconst (pc := 6) (v := (-1)) dX7_mostTurned_6 rfl ?_
  refine g_istore (pc := 7) (lv' := [(0, _), (1, _), (2, _), (3, _), (4, _)]) dX7_mostTurned_7 (nl rfl) rfl ?_
  refine g_iconst (pc := 9) (v := (-1)) dX7_mostTurned_9 rfl ?_
  refine g_istore (pc := 10) (lv' := [(0, _), (1, _), (2, _), (3, _), (4, _), (5, _)]) dX7_mostTurned_10 (nl rfl) rfl ?_
  refine g_iconst (pc := 12) (v := 0) dX7_mostTurned_12 rfl ?_
  refine g_istore (pc := 13) (lv' := [(0, _), (1, _), (2, _), (3, _), (4, _), (5, _), (6, _)]) dX7_mostTurned_13 (nl rfl) rfl ?_
  refine go_loop (pc := 15) (32 * n) (fun k => [(0, .ref 198), (1, .int (nI s)), (2, .int (b1 bit)), (3, .int (pOv (A s) n)), (4, .int (mtS (A s) n bit k).1), (5, .int (mtS (A s) n bit k).2), (6, .int (nI k))]) (fun k => hdM M 205 n (mtH (A s) n bit k)) ⟨rfl, rfl, rfl, rfl, rfl, rfl, rfl, trivial⟩ rfl ?_ ?_
  · intro k hk ih
    have h1 : Rr (hdM M 205 n (mtH (A s) n bit k)) n A := h.hd (Or.inl rfl)
    obtain ⟨d1, d2⟩ := dv32 k (by omega)
    rw [mtS, mtH] at ih
    have hlt : k / 32 < n := by omega
    by_cases hm : k % 32 < n
    · have q2 := r_pairsTurned (l := l) h1 hs hlt hm
      rw [hdM_2] at q2
      cases hb9 : hb (A s (k / 32)) (k % 32) == bit with
      | true =>
        have hc : mtC (A s) n bit k = true := by unfold mtC; rw [hb9]; simp [hm]
        rw [if_pos hc, if_pos hc] at ih
        have hbb : hb (A s (k / 32)) (k % 32) = bit := by simpa using hb9
        unfold mtV at ih
        generalize mtS (A s) n bit (32 * n) = X9 at *
        generalize hdM M 205 n (mtH (A s) n bit (32 * n)) = M9 at *
        generalize hdM M 205 n (wOut (tnF (A s) (k / 32) (k % 32)) n n) = M2 at *
        generalize hdM M 205 n (mtH (A s) n bit k) = M1 at *
        generalize mtS (A s) n bit k = x at *
        generalize pTv (A s) n (k / 32) (k % 32) = y at *
        generalize pOv (A s) n = P at *
        refine g_iload (pc := 15) dX7_mostTurned_15 rfl ?_
        refine g_bipush (pc := 17) (v := 32) dX7_mostTurned_17 rfl ?_
        refine g_aload_n (pc := 19) dX7_mostTurned_19 rfl trivial ?_
        refine g_invV_r (pc := 20) (As := []) dX7_mostTurned_20 rfl (r_size h1) rfl rfl (shK h1.1 rfl) rfl rfl lk_X7_71 rfl (nb rfl) ⟨nb rfl, nb rfl⟩ rfl ?_
        refine g_imul (pc := 23) dX7_mostTurned_23 ?_
        rw [show (32 : Int32) = nI 32 from rfl, nI_mul]
        refine g_icmp_ge (pc := 24) (tgt := 117) dX7_mostTurned_24 rfl (fun h24 => absurd h24 (nI_ge hk (by omega))) (fun _ => ?_)
        refine g_iload (pc := 27) dX7_mostTurned_27 rfl ?_
        refine g_bipush (pc := 29) (v := 32) dX7_mostTurned_29 rfl ?_
        refine g_irem (pc := 31) dX7_mostTurned_31 (by decide) ?_
        rw [d2]
        refine g_aload_n (pc := 32) dX7_mostTurned_32 rfl trivial ?_
        refine g_invV_r (pc := 33) (As := []) dX7_mostTurned_33 rfl (r_size h1) rfl rfl (shK h1.1 rfl) rfl rfl lk_X7_71 rfl (nb rfl) ⟨nb rfl, nb rfl⟩ rfl ?_
        refine g_icmp_ge (pc := 36) (tgt := 111) dX7_mostTurned_36 rfl (fun h36 => absurd h36 (nI_ge hm (by omega))) (fun _ => ?_)
        refine g_aload_n (pc := 39) dX7_mostTurned_39 rfl trivial ?_
        refine g_iload_n (pc := 40) dX7_mostTurned_40 rfl ?_
        refine g_iload (pc := 41) dX7_mostTurned_41 rfl ?_
        refine g_bipush (pc := 43) (v := 32) dX7_mostTurned_43 rfl ?_
        refine g_idiv (pc := 45) dX7_mostTurned_45 (by decide) ?_
        rw [d1]
        refine g_invV_r (pc := 46) (As := [_, _]) dX7_mostTurned_46 rfl (r_rowOf h1 hs hlt) rfl rfl (shK h1.1 rfl) rfl rfl lk_X7_227 rfl (nb rfl) ⟨nb rfl, nb rfl⟩ rfl ?_
        refine g_iload (pc := 49) dX7_mostTurned_49 rfl ?_
        refine g_bipush (pc := 51) (v := 32) dX7_mostTurned_51 rfl ?_
        refine g_irem (pc := 53) dX7_mostTurned_53 (by decide) ?_
        rw [d2]
        refine g_invS_r (pc := 54) (As := [_, _]) dX7_mostTurned_54 rfl (r_one (show k % 32 < 32 by omega)) rfl rfl lk_X7_231 rfl (nb rfl) ⟨nb rfl, nb rfl⟩ rfl ?_
        rw [hbb]
        refine g_iload_n (pc := 57) dX7_mostTurned_57 rfl ?_
        refine g_icmp_eq (pc := 58) (tgt := 64) dX7_mostTurned_58 rfl (fun _ => ?_) (fun h58 => absurd (rfl) h58)
        refine g_aload_n (pc := 64) dX7_mostTurned_64 rfl trivial ?_
        refine g_iload_n (pc := 65) dX7_mostTurned_65 rfl ?_
        refine g_iload (pc := 66) dX7_mostTurned_66 rfl ?_
        refine g_bipush (pc := 68) (v := 32) dX7_mostTurned_68 rfl ?_
        refine g_idiv (pc := 70) dX7_mostTurned_70 (by decide) ?_
        rw [d1]
        refine g_iload (pc := 71) dX7_mostTurned_71 rfl ?_
        refine g_bipush (pc := 73) (v := 32) dX7_mostTurned_73 rfl ?_
        refine g_irem (pc := 75) dX7_mostTurned_75 (by decide) ?_
        rw [d2]
        refine g_invV_r (pc := 76) (As := [_, _, _]) dX7_mostTurned_76 rfl (q2) rfl rfl (shK h1.1 rfl) rfl rfl lk_X7_284 rfl (nb rfl) ⟨nb rfl, nb rfl⟩ rfl ?_
        refine g_iload_n (pc := 79) dX7_mostTurned_79 rfl ?_
        refine g_isub (pc := 80) dX7_mostTurned_80 ?_
        refine g_mabs (pc := 81) (y := 0) dX7_mostTurned_81 wd_1623 wd_1624 wd_107 wd_1625 (nb rfl) (nb rfl) ?_
        refine g_istore (pc := 84) (lv' := [(0, _), (1, _), (2, _), (3, _), (4, _), (5, _), (6, _), (7, _)]) dX7_mostTurned_84 (nl rfl) rfl ?_
        refine g_iload (pc := 86) dX7_mostTurned_86 rfl ?_
        refine g_iload (pc := 88) dX7_mostTurned_88 rfl ?_
        refine g_icmp_le (pc := 90) (tgt := 98) dX7_mostTurned_90 rfl (fun h90 => ?_) (fun h90 => ?_)
        · unfold mtA at ih
          rw [if_neg (Int32.not_lt.mpr h90)] at ih
          refine g_iload (pc := 98) dX7_mostTurned_98 rfl ?_
          refine g_istore (pc := 100) (lv' := [(0, _), (1, _), (2, _), (3, _), (4, _), (5, _), (6, _), (7, _)]) dX7_mostTurned_100 (nl rfl) rfl ?_
          refine g_iload (pc := 102) dX7_mostTurned_102 rfl ?_
          refine g_iload (pc := 104) dX7_mostTurned_104 rfl ?_
          refine g_mmax (pc := 106) dX7_mostTurned_106 wd_1626 wd_1627 wd_107 wd_1628 (nb rfl) (nb rfl) ?_
          refine g_istore (pc := 109) (lv' := [(0, _), (1, _), (2, _), (3, _), (4, _), (5, _), (6, _), (7, _)]) dX7_mostTurned_109 (nl rfl) rfl ?_
          refine g_iinc (pc := 111) (lv' := [(0, _), (1, _), (2, _), (3, _), (4, _), (5, _), (6, _), (7, _)]) dX7_mostTurned_111 rfl (nI_1 _) (nl rfl) rfl ?_
          refine g_goto (pc := 114) (tgt := 15) dX7_mostTurned_114 rfl ?_
          exact g_sub (lv' := [(0, _), (1, _), (2, _), (3, _), (4, _), (5, _), (6, _)]) ⟨rfl, rfl, rfl, rfl, rfl, rfl, rfl, trivial⟩ ih
        · unfold mtA at ih
          rw [if_pos (Int32.not_le.mp h90)] at ih
          refine g_iload (pc := 93) dX7_mostTurned_93 rfl ?_
          refine g_goto (pc := 95) (tgt := 100) dX7_mostTurned_95 rfl ?_
          refine g_istore (pc := 100) (lv' := [(0, _), (1, _), (2, _), (3, _), (4, _), (5, _), (6, _), (7, _)]) dX7_mostTurned_100 (nl rfl) rfl ?_
          refine g_iload (pc := 102) dX7_mostTurned_102 rfl ?_
          refine g_iload (pc := 104) dX7_mostTurned_104 rfl ?_
          refine g_mmax (pc := 106) dX7_mostTurned_106 wd_1626 wd_1627 wd_107 wd_1628 (nb rfl) (nb rfl) ?_
          refine g_istore (pc := 109) (lv' := [(0, _), (1, _), (2, _), (3, _), (4, _), (5, _), (6, _), (7, _)]) dX7_mostTurned_109 (nl rfl) rfl ?_
          refine g_iinc (pc := 111) (lv' := [(0, _), (1, _), (2, _), (3, _), (4, _), (5, _), (6, _), (7, _)]) dX7_mostTurned_111 rfl (nI_1 _) (nl rfl) rfl ?_
          refine g_goto (pc := 114) (tgt := 15) dX7_mostTurned_114 rfl ?_
          exact g_sub (lv' := [(0, _), (1, _), (2, _), (3, _), (4, _), (5, _), (6, _)]) ⟨rfl, rfl, rfl, rfl, rfl, rfl, rfl, trivial⟩ ih
      | false =>
        have hc : ¬ mtC (A s) n bit k = true := by unfold mtC; rw [hb9]; simp
        rw [if_neg hc, if_neg hc] at ih
        have hbb : hb (A s (k / 32)) (k % 32) ≠ bit := by simpa using hb9
        generalize mtS (A s) n bit (32 * n) = X9 at *
        generalize hdM M 205 n (mtH (A s) n bit (32 * n)) = M9 at *
        generalize hdM M 205 n (mtH (A s) n bit k) = M1 at *
        generalize mtS (A s) n bit k = x at *
        refine g_iload (pc := 15) dX7_mostTurned_15 rfl ?_
        refine g_bipush (pc := 17) (v := 32) dX7_mostTurned_17 rfl ?_
        refine g_aload_n (pc := 19) dX7_mostTurned_19 rfl trivial ?_
        refine g_invV_r (pc := 20) (As := []) dX7_mostTurned_20 rfl (r_size h1) rfl rfl (shK h1.1 rfl) rfl rfl lk_X7_71 rfl (nb rfl) ⟨nb rfl, nb rfl⟩ rfl ?_
        refine g_imul (pc := 23) dX7_mostTurned_23 ?_
        rw [show (32 : Int32) = nI 32 from rfl, nI_mul]
        refine g_icmp_ge (pc := 24) (tgt := 117) dX7_mostTurned_24 rfl (fun h24 => absurd h24 (nI_ge hk (by omega))) (fun _ => ?_)
        refine g_iload (pc := 27) dX7_mostTurned_27 rfl ?_
        refine g_bipush (pc := 29) (v := 32) dX7_mostTurned_29 rfl ?_
        refine g_irem (pc := 31) dX7_mostTurned_31 (by decide) ?_
        rw [d2]
        refine g_aload_n (pc := 32) dX7_mostTurned_32 rfl trivial ?_
        refine g_invV_r (pc := 33) (As := []) dX7_mostTurned_33 rfl (r_size h1) rfl rfl (shK h1.1 rfl) rfl rfl lk_X7_71 rfl (nb rfl) ⟨nb rfl, nb rfl⟩ rfl ?_
        refine g_icmp_ge (pc := 36) (tgt := 111) dX7_mostTurned_36 rfl (fun h36 => absurd h36 (nI_ge hm (by omega))) (fun _ => ?_)
        refine g_aload_n (pc := 39) dX7_mostTurned_39 rfl trivial ?_
        refine g_iload_n (pc := 40) dX7_mostTurned_40 rfl ?_
        refine g_iload (pc := 41) dX7_mostTurned_41 rfl ?_
        refine g_bipush (pc := 43) (v := 32) dX7_mostTurned_43 rfl ?_
        refine g_idiv (pc := 45) dX7_mostTurned_45 (by decide) ?_
        rw [d1]
        refine g_invV_r (pc := 46) (As := [_, _]) dX7_mostTurned_46 rfl (r_rowOf h1 hs hlt) rfl rfl (shK h1.1 rfl) rfl rfl lk_X7_227 rfl (nb rfl) ⟨nb rfl, nb rfl⟩ rfl ?_
        refine g_iload (pc := 49) dX7_mostTurned_49 rfl ?_
        refine g_bipush (pc := 51) (v := 32) dX7_mostTurned_51 rfl ?_
        refine g_irem (pc := 53) dX7_mostTurned_53 (by decide) ?_
        rw [d2]
        refine g_invS_r (pc := 54) (As := [_, _]) dX7_mostTurned_54 rfl (r_one (show k % 32 < 32 by omega)) rfl rfl lk_X7_231 rfl (nb rfl) ⟨nb rfl, nb rfl⟩ rfl ?_
        refine g_iload_n (pc := 57) dX7_mostTurned_57 rfl ?_
        refine g_icmp_eq (pc := 58) (tgt := 64) dX7_mostTurned_58 rfl (fun h58 => absurd h58 ((fun z => hbb (b1_inj.mp z)))) (fun _ => ?_)
        refine g_goto (pc := 61) (tgt := 111) dX7_mostTurned_61 rfl ?_
        refine g_iinc (pc := 111) (lv' := [(0, _), (1, _), (2, _), (3, _), (4, _), (5, _), (6, _)]) dX7_mostTurned_111 rfl (nI_1 _) (nl rfl) rfl ?_
        refine g_goto (pc := 114) (tgt := 15) dX7_mostTurned_114 rfl ?_
        exact ih
    · have hc : ¬ mtC (A s) n bit k = true := by unfold mtC; simp [hm]
      rw [if_neg hc, if_neg hc] at ih
      generalize mtS (A s) n bit (32 * n) = X9 at *
      generalize hdM M 205 n (mtH (A s) n bit (32 * n)) = M9 at *
      generalize hdM M 205 n (mtH (A s) n bit k) = M1 at *
      generalize mtS (A s) n bit k = x at *
      refine g_iload (pc := 15) dX7_mostTurned_15 rfl ?_
      refine g_bipush (pc := 17) (v := 32) dX7_mostTurned_17 rfl ?_
      refine g_aload_n (pc := 19) dX7_mostTurned_19 rfl trivial ?_
      refine g_invV_r (pc := 20) (As := []) dX7_mostTurned_20 rfl (r_size h1) rfl rfl (shK h1.1 rfl) rfl rfl lk_X7_71 rfl (nb rfl) ⟨nb rfl, nb rfl⟩ rfl ?_
      refine g_imul (pc := 23) dX7_mostTurned_23 ?_
      rw [show (32 : Int32) = nI 32 from rfl, nI_mul]
      refine g_icmp_ge (pc := 24) (tgt := 117) dX7_mostTurned_24 rfl (fun h24 => absurd h24 (nI_ge hk (by omega))) (fun _ => ?_)
      refine g_iload (pc := 27) dX7_mostTurned_27 rfl ?_
      refine g_bipush (pc := 29) (v := 32) dX7_mostTurned_29 rfl ?_
      refine g_irem (pc := 31) dX7_mostTurned_31 (by decide) ?_
      rw [d2]
      refine g_aload_n (pc := 32) dX7_mostTurned_32 rfl trivial ?_
      refine g_invV_r (pc := 33) (As := []) dX7_mostTurned_33 rfl (r_size h1) rfl rfl (shK h1.1 rfl) rfl rfl lk_X7_71 rfl (nb rfl) ⟨nb rfl, nb rfl⟩ rfl ?_
      refine g_icmp_ge (pc := 36) (tgt := 111) dX7_mostTurned_36 rfl (fun _ => ?_) (fun h36 => absurd (nI_le (by omega) (by omega)) h36)
      refine g_iinc (pc := 111) (lv' := [(0, _), (1, _), (2, _), (3, _), (4, _), (5, _), (6, _)]) dX7_mostTurned_111 rfl (nI_1 _) (nl rfl) rfl ?_
      refine g_goto (pc := 114) (tgt := 15) dX7_mostTurned_114 rfl ?_
      exact ih
  · have h1 : Rr (hdM M 205 n (mtH (A s) n bit (32 * n))) n A := h.hd (Or.inl rfl)
    generalize mtS (A s) n bit (32 * n) = X9 at *
    generalize hdM M 205 n (mtH (A s) n bit (32 * n)) = M9 at *
    refine g_iload (pc := 15) dX7_mostTurned_15 rfl ?_
    refine g_bipush (pc := 17) (v := 32) dX7_mostTurned_17 rfl ?_
    refine g_aload_n (pc := 19) dX7_mostTurned_19 rfl trivial ?_
    refine g_invV_r (pc := 20) (As := []) dX7_mostTurned_20 rfl (r_size h1) rfl rfl (shK h1.1 rfl) rfl rfl lk_X7_71 rfl (nb rfl) ⟨nb rfl, nb rfl⟩ rfl ?_
    refine g_imul (pc := 23) dX7_mostTurned_23 ?_
    rw [show (32 : Int32) = nI 32 from rfl, nI_mul]
    refine g_icmp_ge (pc := 24) (tgt := 117) dX7_mostTurned_24 rfl (fun _ => ?_) (fun h24 => absurd (nI_le (Nat.le_refl _) (by omega)) h24)
    refine g_iload (pc := 117) dX7_mostTurned_117 rfl ?_
    refine g_ireturn (pc := 119) dX7_mostTurned_119 rfl rfl ?_
    exact ⟨rfl, rfl⟩
theorem n_bestEdge {s : Nat} (h : Rr M n A) (hs : s < 6) : EvR l jX7_bestEdge 5 160 0 0 [.ref 198, .int (nI s)] M (.inl (some (.int (mtS (A s) n false (32 * n)).1))) (hdM (thr M 0) 205 n (mtH (A s) n false (32 * n))) := by
  have hS := h.1
  have q1 := r_mostTurned (l := l) (bit := false) (h.thr (x := 0)) hs
  refine ev_intro rfl (nb rfl) rfl ?_
  refine g_aload_n (pc := 0) dX7_bestEdge_0 rfl trivial ?_
  refine g_iload_n (pc := 1) dX7_bestEdge_1 rfl ?_
  refine g_invS_r (pc := 2) (As := [_]) dX7_bestEdge_2 rfl (r_isSlot_t (in6 hs)) rfl rfl lk_X7_216 rfl (nb rfl) ⟨nb rfl, nb rfl⟩ rfl ?_
  refine g_iconst (pc := 5) (v := 1) dX7_bestEdge_5 rfl ?_
  refine g_invV_r (pc := 6) (As := [_, _]) dX7_bestEdge_6 rfl (r_isThrown_0 hS) rfl rfl (shK hS rfl) rfl rfl lk_X7_209 rfl (nb rfl) ⟨nb rfl, nb rfl⟩ rfl ?_
  refine g_if_eq (pc := 9) (tgt := 16) dX7_bestEdge_9 rfl (fun _ => ?_) (fun h9 => absurd (rfl) h9)
  refine g_aload_n (pc := 16) dX7_bestEdge_16 rfl trivial ?_
  refine g_iload_n (pc := 17) dX7_bestEdge_17 rfl ?_
  refine g_iconst (pc := 18) (v := 0) dX7_bestEdge_18 rfl ?_
  refine g_invV_r (pc := 19) (As := [_, _]) dX7_bestEdge_19 rfl (q1) rfl rfl (shK (h.thr (x := 0)).1 rfl) rfl rfl lk_X7_294 rfl (nb rfl) ⟨nb rfl, nb rfl⟩ rfl ?_
  refine g_ireturn (pc := 22) dX7_bestEdge_22 rfl rfl ?_
  exact ⟨rfl, rfl⟩
theorem t_bestEdge {v : Int32} (h : Rr M n A) (hx : ¬ inR v 6) : EvR l jX7_bestEdge 5 160 0 0 [.ref 198, .int v] M (.inl (some (.int 0))) (thr M 1) := by
  have hS := h.1
  refine ev_intro rfl (nb rfl) rfl ?_
  refine g_aload_n (pc := 0) dX7_bestEdge_0 rfl trivial ?_
  refine g_iload_n (pc := 1) dX7_bestEdge_1 rfl ?_
  refine g_invS_r (pc := 2) (As := [_]) dX7_bestEdge_2 rfl (r_isSlot_f hx) rfl rfl lk_X7_216 rfl (nb rfl) ⟨nb rfl, nb rfl⟩ rfl ?_
  refine g_iconst (pc := 5) (v := 1) dX7_bestEdge_5 rfl ?_
  refine g_invV_r (pc := 6) (As := [_, _]) dX7_bestEdge_6 rfl (r_isThrown_1 hS) rfl rfl (shK hS rfl) rfl rfl lk_X7_209 rfl (nb rfl) ⟨nb rfl, nb rfl⟩ rfl ?_
  refine g_if_eq (pc := 9) (tgt := 16) dX7_bestEdge_9 rfl (fun h9 => absurd h9 ((by decide))) (fun _ => ?_)
  refine g_iconst (pc := 12) (v := 0) dX7_bestEdge_12 rfl ?_
  refine g_goto (pc := 13) (tgt := 22) dX7_bestEdge_13 rfl ?_
  refine g_ireturn (pc := 22) dX7_bestEdge_22 rfl rfl ?_
  exact ⟨rfl, rfl⟩
theorem n_weakest {s : Nat} (h : Rr M n A) (hs : s < 6) : EvR l jX7_weakest 5 160 0 0 [.ref 198, .int (nI s)] M (.inl (some (.int (mtS (A s) n true (32 * n)).1))) (hdM (thr M 0) 205 n (mtH (A s) n true (32 * n))) := by
  have hS := h.1
  have q1 := r_mostTurned (l := l) (bit := true) (h.thr (x := 0)) hs
  refine ev_intro rfl (nb rfl) rfl ?_
  refine g_aload_n (pc := 0) dX7_weakest_0 rfl trivial ?_
  refine g_iload_n (pc := 1) dX7_weakest_1 rfl ?_
  refine g_invS_r (pc := 2) (As := [_]) dX7_weakest_2 rfl (r_isSlot_t (in6 hs)) rfl rfl lk_X7_216 rfl (nb rfl) ⟨nb rfl, nb rfl⟩ rfl ?_
  refine g_iconst (pc := 5) (v := 1) dX7_weakest_5 rfl ?_
  refine g_invV_r (pc := 6) (As := [_, _]) dX7_weakest_6 rfl (r_isThrown_0 hS) rfl rfl (shK hS rfl) rfl rfl lk_X7_209 rfl (nb rfl) ⟨nb rfl, nb rfl⟩ rfl ?_
  refine g_if_eq (pc := 9) (tgt := 16) dX7_weakest_9 rfl (fun _ => ?_) (fun h9 => absurd (rfl) h9)
  refine g_aload_n (pc := 16) dX7_weakest_16 rfl trivial ?_
  refine g_iload_n (pc := 17) dX7_weakest_17 rfl ?_
  refine g_iconst (pc := 18) (v := 1) dX7_weakest_18 rfl ?_
  refine g_invV_r (pc := 19) (As := [_, _]) dX7_weakest_19 rfl (q1) rfl rfl (shK (h.thr (x := 0)).1 rfl) rfl rfl lk_X7_294 rfl (nb rfl) ⟨nb rfl, nb rfl⟩ rfl ?_
  refine g_ireturn (pc := 22) dX7_weakest_22 rfl rfl ?_
  exact ⟨rfl, rfl⟩
theorem t_weakest {v : Int32} (h : Rr M n A) (hx : ¬ inR v 6) : EvR l jX7_weakest 5 160 0 0 [.ref 198, .int v] M (.inl (some (.int 0))) (thr M 1) := by
  have hS := h.1
  refine ev_intro rfl (nb rfl) rfl ?_
  refine g_aload_n (pc := 0) dX7_weakest_0 rfl trivial ?_
  refine g_iload_n (pc := 1) dX7_weakest_1 rfl ?_
  refine g_invS_r (pc := 2) (As := [_]) dX7_weakest_2 rfl (r_isSlot_f hx) rfl rfl lk_X7_216 rfl (nb rfl) ⟨nb rfl, nb rfl⟩ rfl ?_
  refine g_iconst (pc := 5) (v := 1) dX7_weakest_5 rfl ?_
  refine g_invV_r (pc := 6) (As := [_, _]) dX7_weakest_6 rfl (r_isThrown_1 hS) rfl rfl (shK hS rfl) rfl rfl lk_X7_209 rfl (nb rfl) ⟨nb rfl, nb rfl⟩ rfl ?_
  refine g_if_eq (pc := 9) (tgt := 16) dX7_weakest_9 rfl (fun h9 => absurd h9 ((by decide))) (fun _ => ?_)
  refine g_iconst (pc := 12) (v := 0) dX7_weakest_12 rfl ?_
  refine g_goto (pc := 13) (tgt := 22) dX7_weakest_13 rfl ?_
  refine g_ireturn (pc := 22) dX7_weakest_22 rfl rfl ?_
  exact ⟨rfl, rfl⟩
end

