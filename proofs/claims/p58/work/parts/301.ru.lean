/-! the reference: rows set, copied, turned, combined -/
section
variable {l : Launch} {M : Mem} {n c : Nat} {A : Nat → Nat → Int32}
/-- behind the keeping: what an action begins with -/
def k0M (M : Mem) (c : Nat) : Mem := kepM (thr M 0) c
theorem k0M_R (h : Rr M n A) : Rr (k0M M c) n A := kepM_R h.thr
theorem r_k0 (h : Rr M n A) (hc : mI M 198 5 = nI c) (hc8 : c ≤ 8) : EvR l jX7_keeps 1 30 0 0 [.ref 198] (thr M 0) (.inl none) (k0M M c) := r_keeps h.thr ((pI_k (by decide)).trans hc) hc8
/-- one row -/
def srM (M : Mem) (s r : Nat) (v : Int32) : Mem := pL M 199 (28 + 32 * s + r) (uL v)
theorem srM_R {s r : Nat} {v : Int32} (h : Rr M n A) (hs : s < 6) (hr : r < n) : Rr (srM M s r v) n (fun_set A s (fun_set (A s) r v)) := by
  have hn := h.2.2.2.1
  refine ⟨h.1, ?_, h.2.2.1, hn, fun s' r' hs' hr' => ?_⟩
  · unfold srM; rw [pL_k (by omega)]; exact h.2.1
  · unfold srM fun_set
    by_cases h1 : s' = s
    · subst h1
      by_cases h2 : r' = r
      · subst h2; rw [pL_self, if_pos rfl, if_pos rfl]
      · rw [pL_k (by omega), if_pos rfl, if_neg h2]; exact h.2.2.2.2 s' r' hs' hr'
    · rw [pL_k (by omega), if_neg h1]; exact h.2.2.2.2 s' r' hs' hr'
theorem n_setRow {s r : Nat} {x : Int64} (h : Rr M n A) (hc : mI M 198 5 = nI c) (hc8 : c ≤ 8) (hs : s < 6) (hr : r < n) : EvR l jX7_setRow 4 160 0 0 [.ref 198, .int (nI s), .int (nI r), .long x] M (.inl (some (.int (bcJ (A s r ^^^ (x.toInt32 &&& lowM n)))))) (anM (srM (k0M M c) s r (x.toInt32 &&& lowM n)) s (nI n)) := by
  have hn := h.2.2.2.1
  have hS := h.1
  have q1 := r_k0 (l := l) h hc hc8
  have h1 : Rr (k0M M c) n A := k0M_R h
  have q2 := r_setsRow (l := l) (x := uL (x.toInt32 &&& lowM n)) (r := r) h1.1 hs (by omega)
  have q2 : EvR l jX7_setsRow 0 0 0 0 [.ref 198, .int (nI s), .int (nI r), .long (uL (x.toInt32 &&& lowM n))] (k0M M c) (.inl none) (srM (k0M M c) s r (x.toInt32 &&& lowM n)) := q2
  have h2 := srM_R (v := x.toInt32 &&& lowM n) h1 hs hr
  have q3 := r_madeAnew (l := l) h2 hs
  generalize anM (srM (k0M M c) s r (x.toInt32 &&& lowM n)) s (nI n) = M3 at *
  generalize srM (k0M M c) s r (x.toInt32 &&& lowM n) = M2 at *
  generalize k0M M c = M1 at *
  refine ev_intro rfl (nb rfl) rfl ?_
  refine g_aload_n (pc := 0) dX7_setRow_0 rfl trivial ?_
  refine g_aload_n (pc := 1) dX7_setRow_1 rfl trivial ?_
  refine g_iload_n (pc := 2) dX7_setRow_2 rfl ?_
  refine g_iload_n (pc := 3) dX7_setRow_3 rfl ?_
  refine g_invV_r (pc := 4) (As := [_, _]) dX7_setRow_4 rfl (r_areIn_t h (in6 hs) (inR_nI hr (by omega))) rfl rfl (shK hS rfl) rfl rfl lk_X7_223 rfl (nb rfl) ⟨nb rfl, nb rfl⟩ rfl ?_
  refine g_iconst (pc := 7) (v := 1) dX7_setRow_7 rfl ?_
  refine g_invV_r (pc := 8) (As := [_, _]) dX7_setRow_8 rfl (r_isThrown_0 hS) rfl rfl (shK hS rfl) rfl rfl lk_X7_209 rfl (nb rfl) ⟨nb rfl, nb rfl⟩ rfl ?_
  refine g_if_eq (pc := 11) (tgt := 16) dX7_setRow_11 rfl (fun _ => ?_) (fun h11 => absurd (rfl) h11)
  refine g_aload_n (pc := 16) dX7_setRow_16 rfl trivial ?_
  refine g_invV_r (pc := 17) (As := []) dX7_setRow_17 rfl (q1) rfl rfl (shK (h.thr (x := 0)).1 rfl) rfl rfl lk_X7_315 rfl (nb rfl) ⟨nb rfl, nb rfl⟩ rfl ?_
  refine g_aload_n (pc := 20) dX7_setRow_20 rfl trivial ?_
  refine g_iload_n (pc := 21) dX7_setRow_21 rfl ?_
  refine g_iload_n (pc := 22) dX7_setRow_22 rfl ?_
  refine g_invV_r (pc := 23) (As := [_, _]) dX7_setRow_23 rfl (r_rowOf h1 hs hr) rfl rfl (shK h1.1 rfl) rfl rfl lk_X7_227 rfl (nb rfl) ⟨nb rfl, nb rfl⟩ rfl ?_
  refine g_lload_n (pc := 26) dX7_setRow_26 rfl ?_
  refine g_aload_n (pc := 27) dX7_setRow_27 rfl trivial ?_
  refine g_invV_r (pc := 28) (As := []) dX7_setRow_28 rfl (r_all h1) rfl rfl (shK h1.1 rfl) rfl rfl lk_X7_245 rfl (nb rfl) ⟨nb rfl, nb rfl⟩ rfl ?_
  refine g_land (pc := 31) dX7_setRow_31 ?_
  rw [uL_low]
  refine g_lxor (pc := 32) dX7_setRow_32 ?_
  rw [uL_xor]
  refine g_invS_r (pc := 33) (As := [_]) dX7_setRow_33 rfl (r_bitsOf) rfl rfl lk_X7_234 rfl (nb rfl) ⟨nb rfl, nb rfl⟩ rfl ?_
  refine g_istore (pc := 36) (lv' := [(0, _), (1, _), (2, _), (3, _), (5, _)]) dX7_setRow_36 (nl rfl) rfl ?_
  refine g_aload_n (pc := 38) dX7_setRow_38 rfl trivial ?_
  refine g_iload_n (pc := 39) dX7_setRow_39 rfl ?_
  refine g_iload_n (pc := 40) dX7_setRow_40 rfl ?_
  refine g_lload_n (pc := 41) dX7_setRow_41 rfl ?_
  refine g_aload_n (pc := 42) dX7_setRow_42 rfl trivial ?_
  refine g_invV_r (pc := 43) (As := []) dX7_setRow_43 rfl (r_all h1) rfl rfl (shK h1.1 rfl) rfl rfl lk_X7_245 rfl (nb rfl) ⟨nb rfl, nb rfl⟩ rfl ?_
  refine g_land (pc := 46) dX7_setRow_46 ?_
  rw [uL_low]
  refine g_invV_r (pc := 47) (As := [_, _, _]) dX7_setRow_47 rfl (q2) rfl rfl (shK h1.1 rfl) rfl rfl lk_X7_318 rfl (nb rfl) ⟨nb rfl, nb rfl⟩ rfl ?_
  refine g_aload_n (pc := 50) dX7_setRow_50 rfl trivial ?_
  refine g_iload_n (pc := 51) dX7_setRow_51 rfl ?_
  refine g_invV_r (pc := 52) (As := [_]) dX7_setRow_52 rfl (q3) rfl rfl (shK h2.1 rfl) rfl rfl lk_X7_204 rfl (nb rfl) ⟨nb rfl, nb rfl⟩ rfl ?_
  refine g_iload (pc := 55) dX7_setRow_55 rfl ?_
  refine g_ireturn (pc := 57) dX7_setRow_57 rfl rfl ?_
  exact ⟨rfl, rfl⟩
theorem t_setRow {v w : Int32} {x : Int64} (h : Rr M n A) (hx : ¬ (inR v 6 ∧ inR w n)) : EvR l jX7_setRow 4 160 0 0 [.ref 198, .int v, .int w, .long x] M (.inl (some (.int 0))) (thr M 1) := by
  have hS := h.1
  refine ev_intro rfl (nb rfl) rfl ?_
  refine g_aload_n (pc := 0) dX7_setRow_0 rfl trivial ?_
  refine g_aload_n (pc := 1) dX7_setRow_1 rfl trivial ?_
  refine g_iload_n (pc := 2) dX7_setRow_2 rfl ?_
  refine g_iload_n (pc := 3) dX7_setRow_3 rfl ?_
  refine g_invV_r (pc := 4) (As := [_, _]) dX7_setRow_4 rfl (r_areIn_f h hx) rfl rfl (shK hS rfl) rfl rfl lk_X7_223 rfl (nb rfl) ⟨nb rfl, nb rfl⟩ rfl ?_
  refine g_iconst (pc := 7) (v := 1) dX7_setRow_7 rfl ?_
  refine g_invV_r (pc := 8) (As := [_, _]) dX7_setRow_8 rfl (r_isThrown_1 hS) rfl rfl (shK hS rfl) rfl rfl lk_X7_209 rfl (nb rfl) ⟨nb rfl, nb rfl⟩ rfl ?_
  refine g_if_eq (pc := 11) (tgt := 16) dX7_setRow_11 rfl (fun h11 => absurd h11 ((by decide))) (fun _ => ?_)
  refine g_iconst (pc := 14) (v := 0) dX7_setRow_14 rfl ?_
  refine g_ireturn (pc := 15) dX7_setRow_15 rfl rfl ?_
  exact ⟨rfl, rfl⟩
theorem n_copy {s t : Nat} (h : Rr M n A) (hc : mI M 198 5 = nI c) (hc8 : c ≤ 8) (hs : s < 6) (ht : t < 6) : EvR l jX7_copy 4 160 0 0 [.ref 198, .int (nI s), .int (nI t)] M (.inl (some (.int (onesF (A s) n)))) (lsM (hdM (k0M M c) 205 n (A s)) t n (A s)) := by
  have hn := h.2.2.2.1
  have hS := h.1
  have q1 := r_k0 (l := l) h hc hc8
  have h1 : Rr (k0M M c) n A := k0M_R h
  have q2 := r_takes (l := l) (x := 205) h1 hs (Or.inl rfl)
  have h2 : Rr (hdM (k0M M c) 205 n (A s)) n A := h1.hd (Or.inl rfl)
  have q3 := r_lays (l := l) (x := 205) (f := A s) h2 ht (shK h2.1 rfl) (by decide) (fun i hi => hdM_at hi)
  generalize lsM (hdM (k0M M c) 205 n (A s)) t n (A s) = M3 at *
  generalize hdM (k0M M c) 205 n (A s) = M2 at *
  generalize k0M M c = M1 at *
  refine ev_intro rfl (nb rfl) rfl ?_
  refine g_aload_n (pc := 0) dX7_copy_0 rfl trivial ?_
  refine g_iload_n (pc := 1) dX7_copy_1 rfl ?_
  refine g_invS_r (pc := 2) (As := [_]) dX7_copy_2 rfl (r_isSlot_t (in6 hs)) rfl rfl lk_X7_216 rfl (nb rfl) ⟨nb rfl, nb rfl⟩ rfl ?_
  refine g_if_eq (pc := 5) (tgt := 19) dX7_copy_5 rfl (fun h5 => absurd h5 ((by decide))) (fun _ => ?_)
  refine g_iload_n (pc := 8) dX7_copy_8 rfl ?_
  refine g_invS_r (pc := 9) (As := [_]) dX7_copy_9 rfl (r_isSlot_t (in6 ht)) rfl rfl lk_X7_216 rfl (nb rfl) ⟨nb rfl, nb rfl⟩ rfl ?_
  refine g_if_eq (pc := 12) (tgt := 19) dX7_copy_12 rfl (fun h12 => absurd h12 ((by decide))) (fun _ => ?_)
  refine g_iconst (pc := 15) (v := 1) dX7_copy_15 rfl ?_
  refine g_goto (pc := 16) (tgt := 20) dX7_copy_16 rfl ?_
  refine g_iconst (pc := 20) (v := 1) dX7_copy_20 rfl ?_
  refine g_invV_r (pc := 21) (As := [_, _]) dX7_copy_21 rfl (r_isThrown_0 hS) rfl rfl (shK hS rfl) rfl rfl lk_X7_209 rfl (nb rfl) ⟨nb rfl, nb rfl⟩ rfl ?_
  refine g_if_eq (pc := 24) (tgt := 29) dX7_copy_24 rfl (fun _ => ?_) (fun h24 => absurd (rfl) h24)
  refine g_aload_n (pc := 29) dX7_copy_29 rfl trivial ?_
  refine g_invV_r (pc := 30) (As := []) dX7_copy_30 rfl (q1) rfl rfl (shK (h.thr (x := 0)).1 rfl) rfl rfl lk_X7_315 rfl (nb rfl) ⟨nb rfl, nb rfl⟩ rfl ?_
  refine g_aload_n (pc := 33) dX7_copy_33 rfl trivial ?_
  refine g_iload_n (pc := 34) dX7_copy_34 rfl ?_
  refine g_aload_n (pc := 35) dX7_copy_35 rfl trivial ?_
  refine g_getf (pc := 36) dX7_copy_36 fk_X7_34 (shK h1.1 rfl) (fv_arr (shR h1.1 rfl)) ?_
  refine g_invV_r (pc := 39) (As := [_, _]) dX7_copy_39 rfl (q2) rfl rfl (shK h1.1 rfl) rfl rfl lk_X7_252 rfl (nb rfl) ⟨nb rfl, nb rfl⟩ rfl ?_
  refine g_aload_n (pc := 42) dX7_copy_42 rfl trivial ?_
  refine g_aload_n (pc := 43) dX7_copy_43 rfl trivial ?_
  refine g_getf (pc := 44) dX7_copy_44 fk_X7_34 (shK h2.1 rfl) (fv_arr (shR h2.1 rfl)) ?_
  refine g_iload_n (pc := 47) dX7_copy_47 rfl ?_
  refine g_invV_r (pc := 48) (As := [_, _]) dX7_copy_48 rfl (q3) rfl rfl (shK h2.1 rfl) rfl rfl lk_X7_322 rfl (nb rfl) ⟨nb rfl, nb rfl⟩ rfl ?_
  refine g_ireturn (pc := 51) dX7_copy_51 rfl rfl ?_
  exact ⟨rfl, rfl⟩
theorem t_copy {v w : Int32} (h : Rr M n A) (hx : ¬ (inR v 6 ∧ inR w 6)) : EvR l jX7_copy 4 160 0 0 [.ref 198, .int v, .int w] M (.inl (some (.int 0))) (thr M 1) := by
  have hS := h.1
  refine ev_intro rfl (nb rfl) rfl ?_
  by_cases h1 : inR v 6
  · refine g_aload_n (pc := 0) dX7_copy_0 rfl trivial ?_
    refine g_iload_n (pc := 1) dX7_copy_1 rfl ?_
    refine g_invS_r (pc := 2) (As := [_]) dX7_copy_2 rfl (r_isSlot_t h1) rfl rfl lk_X7_216 rfl (nb rfl) ⟨nb rfl, nb rfl⟩ rfl ?_
    refine g_if_eq (pc := 5) (tgt := 19) dX7_copy_5 rfl (fun h5 => absurd h5 ((by decide))) (fun _ => ?_)
    refine g_iload_n (pc := 8) dX7_copy_8 rfl ?_
    refine g_invS_r (pc := 9) (As := [_]) dX7_copy_9 rfl (r_isSlot_f (fun q => hx ⟨h1, q⟩)) rfl rfl lk_X7_216 rfl (nb rfl) ⟨nb rfl, nb rfl⟩ rfl ?_
    refine g_if_eq (pc := 12) (tgt := 19) dX7_copy_12 rfl (fun _ => ?_) (fun h12 => absurd (rfl) h12)
    refine g_iconst (pc := 19) (v := 0) dX7_copy_19 rfl ?_
    refine g_iconst (pc := 20) (v := 1) dX7_copy_20 rfl ?_
    refine g_invV_r (pc := 21) (As := [_, _]) dX7_copy_21 rfl (r_isThrown_1 hS) rfl rfl (shK hS rfl) rfl rfl lk_X7_209 rfl (nb rfl) ⟨nb rfl, nb rfl⟩ rfl ?_
    refine g_if_eq (pc := 24) (tgt := 29) dX7_copy_24 rfl (fun h24 => absurd h24 ((by decide))) (fun _ => ?_)
    refine g_iconst (pc := 27) (v := 0) dX7_copy_27 rfl ?_
    refine g_ireturn (pc := 28) dX7_copy_28 rfl rfl ?_
    exact ⟨rfl, rfl⟩
  · refine g_aload_n (pc := 0) dX7_copy_0 rfl trivial ?_
    refine g_iload_n (pc := 1) dX7_copy_1 rfl ?_
    refine g_invS_r (pc := 2) (As := [_]) dX7_copy_2 rfl (r_isSlot_f h1) rfl rfl lk_X7_216 rfl (nb rfl) ⟨nb rfl, nb rfl⟩ rfl ?_
    refine g_if_eq (pc := 5) (tgt := 19) dX7_copy_5 rfl (fun _ => ?_) (fun h5 => absurd (rfl) h5)
    refine g_iconst (pc := 19) (v := 0) dX7_copy_19 rfl ?_
    refine g_iconst (pc := 20) (v := 1) dX7_copy_20 rfl ?_
    refine g_invV_r (pc := 21) (As := [_, _]) dX7_copy_21 rfl (r_isThrown_1 hS) rfl rfl (shK hS rfl) rfl rfl lk_X7_209 rfl (nb rfl) ⟨nb rfl, nb rfl⟩ rfl ?_
    refine g_if_eq (pc := 24) (tgt := 29) dX7_copy_24 rfl (fun h24 => absurd h24 ((by decide))) (fun _ => ?_)
    refine g_iconst (pc := 27) (v := 0) dX7_copy_27 rfl ?_
    refine g_ireturn (pc := 28) dX7_copy_28 rfl rfl ?_
    exact ⟨rfl, rfl⟩
theorem sh_b1i : ∀ b : Bool, ∀ c, c < 32 → (b1 b).toInt64 <<< ((nI c).toInt64 &&& 63) = uL (b1 b <<< (nI c &&& 31)) := by decide +kernel
def trF (f : Nat → Int32) (n : Nat) : Nat → Int32 := fun r => colOf f r n
theorem n_transpose {s t : Nat} (h : Rr M n A) (hc : mI M 198 5 = nI c) (hc8 : c ≤ 8) (hs : s < 6) (ht : t < 6) : EvR l jX7_transpose 4 160 0 0 [.ref 198, .int (nI s), .int (nI t)] M (.inl (some (.int (onesF (trF (A s) n) n)))) (lsM (hdM (k0M M c) 205 n (trF (A s) n)) t n (trF (A s) n)) := by
  have hn := h.2.2.2.1
  have hS := h.1
  have q1 := r_k0 (l := l) h hc hc8
  have h1 : Rr (k0M M c) n A := k0M_R h
  have h2 : Rr (hdM (k0M M c) 205 n (trF (A s) n)) n A := h1.hd (Or.inl rfl)
  have q3 := r_lays (l := l) (x := 205) (f := trF (A s) n) h2 ht (shK h2.1 rfl) (by decide) (fun i hi => hdM_at hi)
  generalize lsM (hdM (k0M M c) 205 n (trF (A s) n)) t n (trF (A s) n) = M3 at *
  generalize k0M M c = M1 at *
  refine ev_intro rfl (nb rfl) rfl ?_
  refine g_aload_n (pc := 0) dX7_transpose_0 rfl trivial ?_
  refine g_iload_n (pc := 1) dX7_transpose_1 rfl ?_
  refine g_invS_r (pc := 2) (As := [_]) dX7_transpose_2 rfl (r_isSlot_t (in6 hs)) rfl rfl lk_X7_216 rfl (nb rfl) ⟨nb rfl, nb rfl⟩ rfl ?_
  refine g_if_eq (pc := 5) (tgt := 19) dX7_transpose_5 rfl (fun h5 => absurd h5 ((by decide))) (fun _ => ?_)
  refine g_iload_n (pc := 8) dX7_transpose_8 rfl ?_
  refine g_invS_r (pc := 9) (As := [_]) dX7_transpose_9 rfl (r_isSlot_t (in6 ht)) rfl rfl lk_X7_216 rfl (nb rfl) ⟨nb rfl, nb rfl⟩ rfl ?_
  refine g_if_eq (pc := 12) (tgt := 19) dX7_transpose_12 rfl (fun h12 => absurd h12 ((by decide))) (fun _ => ?_)
  refine g_iconst (pc := 15) (v := 1) dX7_transpose_15 rfl ?_
  refine g_goto (pc := 16) (tgt := 20) dX7_transpose_16 rfl ?_
  refine g_iconst (pc := 20) (v := 1) dX7_transpose_20 rfl ?_
  refine g_invV_r (pc := 21) (As := [_, _]) dX7_transpose_21 rfl (r_isThrown_0 hS) rfl rfl (shK hS rfl) rfl rfl lk_X7_209 rfl (nb rfl) ⟨nb rfl, nb rfl⟩ rfl ?_
  refine g_if_eq (pc := 24) (tgt := 29) dX7_transpose_24 rfl (fun _ => ?_) (fun h24 => absurd (rfl) h24)
  refine g_aload_n (pc := 29) dX7_transpose_29 rfl trivial ?_
  refine g_invV_r (pc := 30) (As := []) dX7_transpose_30 rfl (q1) rfl rfl (shK (h.thr (x := 0)).1 rfl) rfl rfl lk_X7_315 rfl (nb rfl) ⟨nb rfl, nb rfl⟩ rfl ?_
  refine g_iconst (pc := 33) (v := 0) dX7_transpose_33 rfl ?_
  refine g_istore_n (pc := 34) (lv' := [(0, _), (1, _), (2, _), (3, _)]) dX7_transpose_34 (nl rfl) rfl ?_
  refine go_loop (pc := 35) n (fun i => [(0, .ref 198), (1, .int (nI s)), (2, .int (nI t)), (3, .int (nI i))]) (fun i => sL M1 205 (wr (mL M1 205) (uR (trF (A s) n)) i)) ⟨rfl, rfl, rfl, rfl, trivial⟩ (sL_eq (wr_0 _ _)) ?_ ?_
  · intro r hr ih
    have h4 : Rr (sL M1 205 (wr (mL M1 205) (uR (trF (A s) n)) r)) n A := h1.sL (by decide)
    have ew : wr (mL M1 205) (uR (trF (A s) n)) (r + 1) = fun_set (wr (mL M1 205) (uR (trF (A s) n)) r) r (uL (colOf (A s) r n)) := (wr_s _ _ _).symm
    rw [ew] at ih
    generalize wr (mL M1 205) (uR (trF (A s) n)) r = g at *
    refine g_iload_n (pc := 35) dX7_transpose_35 rfl ?_
    refine g_aload_n (pc := 36) dX7_transpose_36 rfl trivial ?_
    refine g_invV_r (pc := 37) (As := []) dX7_transpose_37 rfl (r_size h4) rfl rfl (shK h4.1 rfl) rfl rfl lk_X7_71 rfl (nb rfl) ⟨nb rfl, nb rfl⟩ rfl ?_
    refine g_icmp_ge (pc := 40) (tgt := 98) dX7_transpose_40 rfl (fun h40 => absurd h40 (nI_ge hr (by omega))) (fun _ => ?_)
    refine g_aload_n (pc := 43) dX7_transpose_43 rfl trivial ?_
    refine g_getf (pc := 44) dX7_transpose_44 fk_X7_34 (shK h4.1 rfl) (fv_arr (shR h4.1 rfl)) ?_
    refine g_iload_n (pc := 47) dX7_transpose_47 rfl ?_
    refine g_lconst (pc := 48) (v := 0) dX7_transpose_48 rfl ?_
    refine g_lastore (pc := 49) dX7_transpose_49 (shK h4.1 rfl) rfl (by omega) (nl rfl) ?_
    refine g_iconst (pc := 50) (v := 0) dX7_transpose_50 rfl ?_
    refine g_istore (pc := 51) (lv' := [(0, _), (1, _), (2, _), (3, _), (4, _)]) dX7_transpose_51 (nl rfl) rfl ?_
    refine go_loop (pc := 53) n (fun i => [(0, .ref 198), (1, .int (nI s)), (2, .int (nI t)), (3, .int (nI r)), (4, .int (nI i))]) (fun i => sL M1 205 (fun_set g r (uL (colOf (A s) r i)))) ⟨rfl, rfl, rfl, rfl, rfl, trivial⟩ (sL_st (by rw [colOf, uL_0])) ?_ ?_
    · intro i hi ih2
      have h5 : Rr (sL M1 205 (fun_set g r (uL (colOf (A s) r i)))) n A := h1.sL (by decide)
      have e5 : mL (sL M1 205 (fun_set g r (uL (colOf (A s) r i)))) 205 r = uL (colOf (A s) r i) := by rw [sL_self, fs_self]
      rw [colOf] at ih2
      generalize colOf (A s) r i = x at *
      refine g_iload (pc := 53) dX7_transpose_53 rfl ?_
      refine g_aload_n (pc := 55) dX7_transpose_55 rfl trivial ?_
      refine g_invV_r (pc := 56) (As := []) dX7_transpose_56 rfl (r_size h5) rfl rfl (shK h5.1 rfl) rfl rfl lk_X7_71 rfl (nb rfl) ⟨nb rfl, nb rfl⟩ rfl ?_
      refine g_icmp_ge (pc := 59) (tgt := 92) dX7_transpose_59 rfl (fun h59 => absurd h59 (nI_ge hi (by omega))) (fun _ => ?_)
      refine g_aload_n (pc := 62) dX7_transpose_62 rfl trivial ?_
      refine g_getf (pc := 63) dX7_transpose_63 fk_X7_34 (shK h5.1 rfl) (fv_arr (shR h5.1 rfl)) ?_
      refine g_iload_n (pc := 66) dX7_transpose_66 rfl ?_
      refine g_dup2_11 (pc := 67) dX7_transpose_67 rfl rfl ?_
      refine g_laload (pc := 68) dX7_transpose_68 (shK h5.1 rfl) rfl (by omega) (nl rfl) ?_
      rw [e5]
      refine g_aload_n (pc := 69) dX7_transpose_69 rfl trivial ?_
      refine g_iload_n (pc := 70) dX7_transpose_70 rfl ?_
      refine g_iload (pc := 71) dX7_transpose_71 rfl ?_
      refine g_invV_r (pc := 73) (As := [_, _]) dX7_transpose_73 rfl (r_rowOf h5 hs hi) rfl rfl (shK h5.1 rfl) rfl rfl lk_X7_227 rfl (nb rfl) ⟨nb rfl, nb rfl⟩ rfl ?_
      refine g_iload_n (pc := 76) dX7_transpose_76 rfl ?_
      refine g_invS_r (pc := 77) (As := [_, _]) dX7_transpose_77 rfl (r_one (show r < 32 by omega)) rfl rfl lk_X7_231 rfl (nb rfl) ⟨nb rfl, nb rfl⟩ rfl ?_
      refine g_i2l (pc := 80) dX7_transpose_80 rfl ?_
      refine g_iload (pc := 81) dX7_transpose_81 rfl ?_
      refine g_lshl (pc := 83) dX7_transpose_83 rfl ?_
      rw [sh_b1i _ i (by omega)]
      refine g_lor (pc := 84) dX7_transpose_84 ?_
      rw [uL_or]
      refine g_lastore (pc := 85) dX7_transpose_85 (shK h5.1 rfl) rfl (by omega) (nl rfl) ?_
      refine g_iinc (pc := 86) (lv' := [(0, _), (1, _), (2, _), (3, _), (4, _)]) dX7_transpose_86 rfl (nI_1 _) (nl rfl) rfl ?_
      refine g_goto (pc := 89) (tgt := 53) dX7_transpose_89 rfl ?_
      exact go_cast (sL_st (by rw [fs_twice])) ih2
    · have h5 : Rr (sL M1 205 (fun_set g r (uL (colOf (A s) r n)))) n A := h1.sL (by decide)
      refine g_iload (pc := 53) dX7_transpose_53 rfl ?_
      refine g_aload_n (pc := 55) dX7_transpose_55 rfl trivial ?_
      refine g_invV_r (pc := 56) (As := []) dX7_transpose_56 rfl (r_size h5) rfl rfl (shK h5.1 rfl) rfl rfl lk_X7_71 rfl (nb rfl) ⟨nb rfl, nb rfl⟩ rfl ?_
      refine g_icmp_ge (pc := 59) (tgt := 92) dX7_transpose_59 rfl (fun _ => ?_) (fun h59 => absurd (nI_le (Nat.le_refl _) (by omega)) h59)
      refine g_iinc (pc := 92) (lv' := [(0, _), (1, _), (2, _), (3, _), (4, _)]) dX7_transpose_92 rfl (nI_1 _) (nl rfl) rfl ?_
      refine g_goto (pc := 95) (tgt := 35) dX7_transpose_95 rfl ?_
      exact g_sub (lv' := [(0, _), (1, _), (2, _), (3, _)]) ⟨rfl, rfl, rfl, rfl, trivial⟩ ih
  · have h2 : Rr (sL M1 205 (wr (mL M1 205) (uR (trF (A s) n)) n)) n A := h2
    have q3 : EvR l jX7_lays 2 60 0 0 [.ref 198, .ref 205, .int (nI t)] (sL M1 205 (wr (mL M1 205) (uR (trF (A s) n)) n)) (.inl (some (.int (onesF (trF (A s) n) n)))) M3 := q3
    generalize sL M1 205 (wr (mL M1 205) (uR (trF (A s) n)) n) = M2 at *
    refine g_iload_n (pc := 35) dX7_transpose_35 rfl ?_
    refine g_aload_n (pc := 36) dX7_transpose_36 rfl trivial ?_
    refine g_invV_r (pc := 37) (As := []) dX7_transpose_37 rfl (r_size h2) rfl rfl (shK h2.1 rfl) rfl rfl lk_X7_71 rfl (nb rfl) ⟨nb rfl, nb rfl⟩ rfl ?_
    refine g_icmp_ge (pc := 40) (tgt := 98) dX7_transpose_40 rfl (fun _ => ?_) (fun h40 => absurd (nI_le (Nat.le_refl _) (by omega)) h40)
    refine g_aload_n (pc := 98) dX7_transpose_98 rfl trivial ?_
    refine g_aload_n (pc := 99) dX7_transpose_99 rfl trivial ?_
    refine g_getf (pc := 100) dX7_transpose_100 fk_X7_34 (shK h2.1 rfl) (fv_arr (shR h2.1 rfl)) ?_
    refine g_iload_n (pc := 103) dX7_transpose_103 rfl ?_
    refine g_invV_r (pc := 104) (As := [_, _]) dX7_transpose_104 rfl (q3) rfl rfl (shK h2.1 rfl) rfl rfl lk_X7_322 rfl (nb rfl) ⟨nb rfl, nb rfl⟩ rfl ?_
    refine g_ireturn (pc := 107) dX7_transpose_107 rfl rfl ?_
    exact ⟨rfl, rfl⟩
theorem t_transpose {v w : Int32} (h : Rr M n A) (hx : ¬ (inR v 6 ∧ inR w 6)) : EvR l jX7_transpose 4 160 0 0 [.ref 198, .int v, .int w] M (.inl (some (.int 0))) (thr M 1) := by
  have hS := h.1
  refine ev_intro rfl (nb rfl) rfl ?_
  by_cases h1 : inR v 6
  · refine g_aload_n (pc := 0) dX7_transpose_0 rfl trivial ?_
    refine g_iload_n (pc := 1) dX7_transpose_1 rfl ?_
    refine g_invS_r (pc := 2) (As := [_]) dX7_transpose_2 rfl (r_isSlot_t h1) rfl rfl lk_X7_216 rfl (nb rfl) ⟨nb rfl, nb rfl⟩ rfl ?_
    refine g_if_eq (pc := 5) (tgt := 19) dX7_transpose_5 rfl (fun h5 => absurd h5 ((by decide))) (fun _ => ?_)
    refine g_iload_n (pc := 8) dX7_transpose_8 rfl ?_
    refine g_invS_r (pc := 9) (As := [_]) dX7_transpose_9 rfl (r_isSlot_f (fun q => hx ⟨h1, q⟩)) rfl rfl lk_X7_216 rfl (nb rfl) ⟨nb rfl, nb rfl⟩ rfl ?_
    refine g_if_eq (pc := 12) (tgt := 19) dX7_transpose_12 rfl (fun _ => ?_) (fun h12 => absurd (rfl) h12)
    refine g_iconst (pc := 19) (v := 0) dX7_transpose_19 rfl ?_
    refine g_iconst (pc := 20) (v := 1) dX7_transpose_20 rfl ?_
    refine g_invV_r (pc := 21) (As := [_, _]) dX7_transpose_21 rfl (r_isThrown_1 hS) rfl rfl (shK hS rfl) rfl rfl lk_X7_209 rfl (nb rfl) ⟨nb rfl, nb rfl⟩ rfl ?_
    refine g_if_eq (pc := 24) (tgt := 29) dX7_transpose_24 rfl (fun h24 => absurd h24 ((by decide))) (fun _ => ?_)
    refine g_iconst (pc := 27) (v := 0) dX7_transpose_27 rfl ?_
    refine g_ireturn (pc := 28) dX7_transpose_28 rfl rfl ?_
    exact ⟨rfl, rfl⟩
  · refine g_aload_n (pc := 0) dX7_transpose_0 rfl trivial ?_
    refine g_iload_n (pc := 1) dX7_transpose_1 rfl ?_
    refine g_invS_r (pc := 2) (As := [_]) dX7_transpose_2 rfl (r_isSlot_f h1) rfl rfl lk_X7_216 rfl (nb rfl) ⟨nb rfl, nb rfl⟩ rfl ?_
    refine g_if_eq (pc := 5) (tgt := 19) dX7_transpose_5 rfl (fun _ => ?_) (fun h5 => absurd (rfl) h5)
    refine g_iconst (pc := 19) (v := 0) dX7_transpose_19 rfl ?_
    refine g_iconst (pc := 20) (v := 1) dX7_transpose_20 rfl ?_
    refine g_invV_r (pc := 21) (As := [_, _]) dX7_transpose_21 rfl (r_isThrown_1 hS) rfl rfl (shK hS rfl) rfl rfl lk_X7_209 rfl (nb rfl) ⟨nb rfl, nb rfl⟩ rfl ?_
    refine g_if_eq (pc := 24) (tgt := 29) dX7_transpose_24 rfl (fun h24 => absurd h24 ((by decide))) (fun _ => ?_)
    refine g_iconst (pc := 27) (v := 0) dX7_transpose_27 rfl ?_
    refine g_ireturn (pc := 28) dX7_transpose_28 rfl rfl ?_
    exact ⟨rfl, rfl⟩
theorem n_close {s t : Nat} (h : Rr M n A) (hc : mI M 198 5 = nI c) (hc8 : c ≤ 8) (hs : s < 6) (ht : t < 6) : EvR l jX7_close 4 160 0 0 [.ref 198, .int (nI s), .int (nI t)] M (.inl (some (.int (onesF (wOut (A s) n n) n)))) (lsM (hdM (k0M M c) 205 n (wOut (A s) n n)) t n (wOut (A s) n n)) := by
  have hn := h.2.2.2.1
  have hS := h.1
  have q1 := r_k0 (l := l) h hc hc8
  have h1 : Rr (k0M M c) n A := k0M_R h
  have q2 := r_closure (l := l) h1 hs
  have h2 : Rr (hdM (k0M M c) 205 n (wOut (A s) n n)) n A := h1.hd (Or.inl rfl)
  have q3 := r_lays (l := l) (x := 205) (f := wOut (A s) n n) h2 ht (shK h2.1 rfl) (by decide) (fun i hi => hdM_at hi)
  generalize lsM (hdM (k0M M c) 205 n (wOut (A s) n n)) t n (wOut (A s) n n) = M3 at *
  generalize hdM (k0M M c) 205 n (wOut (A s) n n) = M2 at *
  generalize k0M M c = M1 at *
  refine ev_intro rfl (nb rfl) rfl ?_
  refine g_aload_n (pc := 0) dX7_close_0 rfl trivial ?_
  refine g_iload_n (pc := 1) dX7_close_1 rfl ?_
  refine g_invS_r (pc := 2) (As := [_]) dX7_close_2 rfl (r_isSlot_t (in6 hs)) rfl rfl lk_X7_216 rfl (nb rfl) ⟨nb rfl, nb rfl⟩ rfl ?_
  refine g_if_eq (pc := 5) (tgt := 19) dX7_close_5 rfl (fun h5 => absurd h5 ((by decide))) (fun _ => ?_)
  refine g_iload_n (pc := 8) dX7_close_8 rfl ?_
  refine g_invS_r (pc := 9) (As := [_]) dX7_close_9 rfl (r_isSlot_t (in6 ht)) rfl rfl lk_X7_216 rfl (nb rfl) ⟨nb rfl, nb rfl⟩ rfl ?_
  refine g_if_eq (pc := 12) (tgt := 19) dX7_close_12 rfl (fun h12 => absurd h12 ((by decide))) (fun _ => ?_)
  refine g_iconst (pc := 15) (v := 1) dX7_close_15 rfl ?_
  refine g_goto (pc := 16) (tgt := 20) dX7_close_16 rfl ?_
  refine g_iconst (pc := 20) (v := 1) dX7_close_20 rfl ?_
  refine g_invV_r (pc := 21) (As := [_, _]) dX7_close_21 rfl (r_isThrown_0 hS) rfl rfl (shK hS rfl) rfl rfl lk_X7_209 rfl (nb rfl) ⟨nb rfl, nb rfl⟩ rfl ?_
  refine g_if_eq (pc := 24) (tgt := 29) dX7_close_24 rfl (fun _ => ?_) (fun h24 => absurd (rfl) h24)
  refine g_aload_n (pc := 29) dX7_close_29 rfl trivial ?_
  refine g_invV_r (pc := 30) (As := []) dX7_close_30 rfl (q1) rfl rfl (shK (h.thr (x := 0)).1 rfl) rfl rfl lk_X7_315 rfl (nb rfl) ⟨nb rfl, nb rfl⟩ rfl ?_
  refine g_aload_n (pc := 33) dX7_close_33 rfl trivial ?_
  refine g_iload_n (pc := 34) dX7_close_34 rfl ?_
  refine g_invV_r (pc := 35) (As := [_]) dX7_close_35 rfl (q2) rfl rfl (shK h1.1 rfl) rfl rfl lk_X7_260 rfl (nb rfl) ⟨nb rfl, nb rfl⟩ rfl ?_
  refine g_aload_n (pc := 38) dX7_close_38 rfl trivial ?_
  refine g_aload_n (pc := 39) dX7_close_39 rfl trivial ?_
  refine g_getf (pc := 40) dX7_close_40 fk_X7_34 (shK h2.1 rfl) (fv_arr (shR h2.1 rfl)) ?_
  refine g_iload_n (pc := 43) dX7_close_43 rfl ?_
  refine g_invV_r (pc := 44) (As := [_, _]) dX7_close_44 rfl (q3) rfl rfl (shK h2.1 rfl) rfl rfl lk_X7_322 rfl (nb rfl) ⟨nb rfl, nb rfl⟩ rfl ?_
  refine g_ireturn (pc := 47) dX7_close_47 rfl rfl ?_
  exact ⟨rfl, rfl⟩
theorem t_close {v w : Int32} (h : Rr M n A) (hx : ¬ (inR v 6 ∧ inR w 6)) : EvR l jX7_close 4 160 0 0 [.ref 198, .int v, .int w] M (.inl (some (.int 0))) (thr M 1) := by
  have hS := h.1
  refine ev_intro rfl (nb rfl) rfl ?_
  by_cases h1 : inR v 6
  · refine g_aload_n (pc := 0) dX7_close_0 rfl trivial ?_
    refine g_iload_n (pc := 1) dX7_close_1 rfl ?_
    refine g_invS_r (pc := 2) (As := [_]) dX7_close_2 rfl (r_isSlot_t h1) rfl rfl lk_X7_216 rfl (nb rfl) ⟨nb rfl, nb rfl⟩ rfl ?_
    refine g_if_eq (pc := 5) (tgt := 19) dX7_close_5 rfl (fun h5 => absurd h5 ((by decide))) (fun _ => ?_)
    refine g_iload_n (pc := 8) dX7_close_8 rfl ?_
    refine g_invS_r (pc := 9) (As := [_]) dX7_close_9 rfl (r_isSlot_f (fun q => hx ⟨h1, q⟩)) rfl rfl lk_X7_216 rfl (nb rfl) ⟨nb rfl, nb rfl⟩ rfl ?_
    refine g_if_eq (pc := 12) (tgt := 19) dX7_close_12 rfl (fun _ => ?_) (fun h12 => absurd (rfl) h12)
    refine g_iconst (pc := 19) (v := 0) dX7_close_19 rfl ?_
    refine g_iconst (pc := 20) (v := 1) dX7_close_20 rfl ?_
    refine g_invV_r (pc := 21) (As := [_, _]) dX7_close_21 rfl (r_isThrown_1 hS) rfl rfl (shK hS rfl) rfl rfl lk_X7_209 rfl (nb rfl) ⟨nb rfl, nb rfl⟩ rfl ?_
    refine g_if_eq (pc := 24) (tgt := 29) dX7_close_24 rfl (fun h24 => absurd h24 ((by decide))) (fun _ => ?_)
    refine g_iconst (pc := 27) (v := 0) dX7_close_27 rfl ?_
    refine g_ireturn (pc := 28) dX7_close_28 rfl rfl ?_
    exact ⟨rfl, rfl⟩
  · refine g_aload_n (pc := 0) dX7_close_0 rfl trivial ?_
    refine g_iload_n (pc := 1) dX7_close_1 rfl ?_
    refine g_invS_r (pc := 2) (As := [_]) dX7_close_2 rfl (r_isSlot_f h1) rfl rfl lk_X7_216 rfl (nb rfl) ⟨nb rfl, nb rfl⟩ rfl ?_
    refine g_if_eq (pc := 5) (tgt := 19) dX7_close_5 rfl (fun _ => ?_) (fun h5 => absurd (rfl) h5)
    refine g_iconst (pc := 19) (v := 0) dX7_close_19 rfl ?_
    refine g_iconst (pc := 20) (v := 1) dX7_close_20 rfl ?_
    refine g_invV_r (pc := 21) (As := [_, _]) dX7_close_21 rfl (r_isThrown_1 hS) rfl rfl (shK hS rfl) rfl rfl lk_X7_209 rfl (nb rfl) ⟨nb rfl, nb rfl⟩ rfl ?_
    refine g_if_eq (pc := 24) (tgt := 29) dX7_close_24 rfl (fun h24 => absurd h24 ((by decide))) (fun _ => ?_)
    refine g_iconst (pc := 27) (v := 0) dX7_close_27 rfl ?_
    refine g_ireturn (pc := 28) dX7_close_28 rfl rfl ?_
    exact ⟨rfl, rfl⟩
theorem r_combined {x y : Int32} {how : Nat} (hh : how < 4) : EvR l jX7_combined 0 0 0 0 [.long (uL x), .long (uL y), .int (nI how)] M (.inl (some (.long (uL (comb x y how))))) M := by
  refine ev_intro rfl (nb rfl) rfl ?_
  rcases (by omega : how = 0 ∨ how = 1 ∨ how = 2 ∨ how = 3) with rfl | rfl | rfl | rfl
  · refine g_iload (pc := 0) dX7_combined_0 rfl ?_
    refine g_tableIn (pc := 2) (tgt := 28) (off := 26) dX7_combined_2 (by decide) (by decide) (by decide) (by decide) ?_
    refine g_lload_n (pc := 28) dX7_combined_28 rfl ?_
    refine g_lload_n (pc := 29) dX7_combined_29 rfl ?_
    refine g_land (pc := 30) dX7_combined_30 ?_
    rw [uL_and]
    refine g_lreturn (pc := 31) dX7_combined_31 rfl ?_
    exact ⟨rfl, rfl⟩
  · refine g_iload (pc := 0) dX7_combined_0 rfl ?_
    refine g_tableIn (pc := 2) (tgt := 32) (off := 30) dX7_combined_2 (by decide) (by decide) (by decide) (by decide) ?_
    refine g_lload_n (pc := 32) dX7_combined_32 rfl ?_
    refine g_lload_n (pc := 33) dX7_combined_33 rfl ?_
    refine g_lor (pc := 34) dX7_combined_34 ?_
    rw [uL_or]
    refine g_lreturn (pc := 35) dX7_combined_35 rfl ?_
    exact ⟨rfl, rfl⟩
  · refine g_iload (pc := 0) dX7_combined_0 rfl ?_
    refine g_tableIn (pc := 2) (tgt := 36) (off := 34) dX7_combined_2 (by decide) (by decide) (by decide) (by decide) ?_
    refine g_lload_n (pc := 36) dX7_combined_36 rfl ?_
    refine g_lload_n (pc := 37) dX7_combined_37 rfl ?_
    refine g_lxor (pc := 38) dX7_combined_38 ?_
    rw [uL_xor]
    refine g_lreturn (pc := 39) dX7_combined_39 rfl ?_
    exact ⟨rfl, rfl⟩
  · refine g_iload (pc := 0) dX7_combined_0 rfl ?_
    refine g_tableOut (pc := 2) (tgt := 40) dX7_combined_2 (by decide) (by decide) ?_
    refine g_lload_n (pc := 40) dX7_combined_40 rfl ?_
    refine g_lload_n (pc := 41) dX7_combined_41 rfl ?_
    refine g_ldc2 (pc := 42) dX7_combined_42 wd_1657 ?_
    refine g_lxor (pc := 45) dX7_combined_45 ?_
    refine g_land (pc := 46) dX7_combined_46 ?_
    rw [uL_not]
    refine g_lreturn (pc := 47) dX7_combined_47 rfl ?_
    exact ⟨rfl, rfl⟩
def cbF (f g : Nat → Int32) (how : Nat) : Nat → Int32 := fun r => comb (f r) (g r) how
theorem n_combine {a b t how : Nat} (h : Rr M n A) (hc : mI M 198 5 = nI c) (hc8 : c ≤ 8) (ha : a < 6) (hb9 : b < 6) (ht : t < 6) (hh : how < 4) : EvR l jX7_combine 4 160 0 0 [.ref 198, .int (nI a), .int (nI b), .int (nI t), .int (nI how)] M (.inl (some (.int (onesF (cbF (A a) (A b) how) n)))) (lsM (hdM (k0M M c) 205 n (cbF (A a) (A b) how)) t n (cbF (A a) (A b) how)) := by
  have hn := h.2.2.2.1
  have hS := h.1
  have h' := h.thr (x := 0)
  have hhow : (0 : Int64) ≤ (nI how).toInt64 ∧ (nI how).toInt64 ≤ lN 3 := (inR_long (k := 3) (by decide)).mpr (inR_nI (by omega) (by decide))
  have q1 : EvR l jX7_keeps 1 30 0 0 [.ref 198] (thr M 0) (.inl none) (k0M M c) := r_k0 (l := l) h hc hc8
  have e2 : thr (thr M 0) 0 = thr M 0 := thr_2
  have h1 : Rr (k0M M c) n A := k0M_R h
  have h2 : Rr (hdM (k0M M c) 205 n (cbF (A a) (A b) how)) n A := h1.hd (Or.inl rfl)
  have q3 := r_lays (l := l) (x := 205) (f := cbF (A a) (A b) how) h2 ht (shK h2.1 rfl) (by decide) (fun i hi => hdM_at hi)
  generalize lsM (hdM (k0M M c) 205 n (cbF (A a) (A b) how)) t n (cbF (A a) (A b) how) = M3 at *
  generalize k0M M c = M1 at *
  refine ev_intro rfl (nb rfl) rfl ?_
  refine g_aload_n (pc := 0) dX7_combine_0 rfl trivial ?_
  refine g_iload_n (pc := 1) dX7_combine_1 rfl ?_
  refine g_invS_r (pc := 2) (As := [_]) dX7_combine_2 rfl (r_isSlot_t (in6 ha)) rfl rfl lk_X7_216 rfl (nb rfl) ⟨nb rfl, nb rfl⟩ rfl ?_
  refine g_if_eq (pc := 5) (tgt := 26) dX7_combine_5 rfl (fun h5 => absurd h5 ((by decide))) (fun _ => ?_)
  refine g_iload_n (pc := 8) dX7_combine_8 rfl ?_
  refine g_invS_r (pc := 9) (As := [_]) dX7_combine_9 rfl (r_isSlot_t (in6 hb9)) rfl rfl lk_X7_216 rfl (nb rfl) ⟨nb rfl, nb rfl⟩ rfl ?_
  refine g_if_eq (pc := 12) (tgt := 26) dX7_combine_12 rfl (fun h12 => absurd h12 ((by decide))) (fun _ => ?_)
  refine g_iload_n (pc := 15) dX7_combine_15 rfl ?_
  refine g_invS_r (pc := 16) (As := [_]) dX7_combine_16 rfl (r_isSlot_t (in6 ht)) rfl rfl lk_X7_216 rfl (nb rfl) ⟨nb rfl, nb rfl⟩ rfl ?_
  refine g_if_eq (pc := 19) (tgt := 26) dX7_combine_19 rfl (fun h19 => absurd h19 ((by decide))) (fun _ => ?_)
  refine g_iconst (pc := 22) (v := 1) dX7_combine_22 rfl ?_
  refine g_goto (pc := 23) (tgt := 27) dX7_combine_23 rfl ?_
  refine g_iconst (pc := 27) (v := 1) dX7_combine_27 rfl ?_
  refine g_invV_r (pc := 28) (As := [_, _]) dX7_combine_28 rfl (r_isThrown_0 hS) rfl rfl (shK hS rfl) rfl rfl lk_X7_209 rfl (nb rfl) ⟨nb rfl, nb rfl⟩ rfl ?_
  refine g_if_ne (pc := 31) (tgt := 52) dX7_combine_31 rfl (fun h31 => absurd h31 ((fun z => z rfl))) (fun _ => ?_)
  refine g_aload_n (pc := 34) dX7_combine_34 rfl trivial ?_
  refine g_iload (pc := 35) dX7_combine_35 rfl ?_
  refine g_i2l (pc := 37) dX7_combine_37 rfl ?_
  refine g_lconst (pc := 38) (v := 0) dX7_combine_38 rfl ?_
  refine g_ldc2 (pc := 39) dX7_combine_39 wd_1424 ?_
  refine g_invS_r (pc := 42) (As := [_, _, _]) dX7_combine_42 rfl (r_in_t hhow.1 hhow.2) rfl rfl lk_X7_67 rfl (nb rfl) ⟨nb rfl, nb rfl⟩ rfl ?_
  refine g_iconst (pc := 45) (v := 2) dX7_combine_45 rfl ?_
  refine g_invV_r (pc := 46) (As := [_, _]) dX7_combine_46 rfl (r_isThrown_0 h'.1) rfl rfl (shK hS rfl) rfl rfl lk_X7_209 rfl (nb rfl) ⟨nb rfl, nb rfl⟩ rfl ?_
  refine go_cast e2 ?_
  refine g_if_eq (pc := 49) (tgt := 54) dX7_combine_49 rfl (fun _ => ?_) (fun h49 => absurd (rfl) h49)
  refine g_aload_n (pc := 54) dX7_combine_54 rfl trivial ?_
  refine g_invV_r (pc := 55) (As := []) dX7_combine_55 rfl (q1) rfl rfl (shK (h.thr (x := 0)).1 rfl) rfl rfl lk_X7_315 rfl (nb rfl) ⟨nb rfl, nb rfl⟩ rfl ?_
  refine g_iconst (pc := 58) (v := 0) dX7_combine_58 rfl ?_
  refine g_istore (pc := 59) (lv' := [(0, _), (1, _), (2, _), (3, _), (4, _), (5, _)]) dX7_combine_59 (nl rfl) rfl ?_
  refine go_loop (pc := 61) n (fun i => [(0, .ref 198), (1, .int (nI a)), (2, .int (nI b)), (3, .int (nI t)), (4, .int (nI how)), (5, .int (nI i))]) (fun i => sL M1 205 (wr (mL M1 205) (uR (cbF (A a) (A b) how)) i)) ⟨rfl, rfl, rfl, rfl, rfl, rfl, trivial⟩ (sL_eq (wr_0 _ _)) ?_ ?_
  · intro i hi ih
    have h4 : Rr (sL M1 205 (wr (mL M1 205) (uR (cbF (A a) (A b) how)) i)) n A := h1.sL (by decide)
    refine g_iload (pc := 61) dX7_combine_61 rfl ?_
    refine g_aload_n (pc := 63) dX7_combine_63 rfl trivial ?_
    refine g_invV_r (pc := 64) (As := []) dX7_combine_64 rfl (r_size h4) rfl rfl (shK h4.1 rfl) rfl rfl lk_X7_71 rfl (nb rfl) ⟨nb rfl, nb rfl⟩ rfl ?_
    refine g_icmp_ge (pc := 67) (tgt := 102) dX7_combine_67 rfl (fun h67 => absurd h67 (nI_ge hi (by omega))) (fun _ => ?_)
    refine g_aload_n (pc := 70) dX7_combine_70 rfl trivial ?_
    refine g_getf (pc := 71) dX7_combine_71 fk_X7_34 (shK h4.1 rfl) (fv_arr (shR h4.1 rfl)) ?_
    refine g_iload (pc := 74) dX7_combine_74 rfl ?_
    refine g_aload_n (pc := 76) dX7_combine_76 rfl trivial ?_
    refine g_iload_n (pc := 77) dX7_combine_77 rfl ?_
    refine g_iload (pc := 78) dX7_combine_78 rfl ?_
    refine g_invV_r (pc := 80) (As := [_, _]) dX7_combine_80 rfl (r_rowOf h4 ha hi) rfl rfl (shK h4.1 rfl) rfl rfl lk_X7_227 rfl (nb rfl) ⟨nb rfl, nb rfl⟩ rfl ?_
    refine g_aload_n (pc := 83) dX7_combine_83 rfl trivial ?_
    refine g_iload_n (pc := 84) dX7_combine_84 rfl ?_
    refine g_iload (pc := 85) dX7_combine_85 rfl ?_
    refine g_invV_r (pc := 87) (As := [_, _]) dX7_combine_87 rfl (r_rowOf h4 hb9 hi) rfl rfl (shK h4.1 rfl) rfl rfl lk_X7_227 rfl (nb rfl) ⟨nb rfl, nb rfl⟩ rfl ?_
    refine g_iload (pc := 90) dX7_combine_90 rfl ?_
    refine g_invS_r (pc := 92) (As := [_, _, _]) dX7_combine_92 rfl (r_combined hh) rfl rfl lk_X7_326 rfl (nb rfl) ⟨nb rfl, nb rfl⟩ rfl ?_
    refine g_lastore (pc := 95) dX7_combine_95 (shK h4.1 rfl) rfl (by omega) (nl rfl) ?_
    refine g_iinc (pc := 96) (lv' := [(0, _), (1, _), (2, _), (3, _), (4, _), (5, _)]) dX7_combine_96 rfl (nI_1 _) (nl rfl) rfl ?_
    refine g_goto (pc := 99) (tgt := 61) dX7_combine_99 rfl ?_
    exact go_cast (sL_st (wr_s _ (uR (cbF (A a) (A b) how)) i)) ih
  · have h2 : Rr (sL M1 205 (wr (mL M1 205) (uR (cbF (A a) (A b) how)) n)) n A := h2
    have q3 : EvR l jX7_lays 2 60 0 0 [.ref 198, .ref 205, .int (nI t)] (sL M1 205 (wr (mL M1 205) (uR (cbF (A a) (A b) how)) n)) (.inl (some (.int (onesF (cbF (A a) (A b) how) n)))) M3 := q3
    generalize sL M1 205 (wr (mL M1 205) (uR (cbF (A a) (A b) how)) n) = M2 at *
    refine g_iload (pc := 61) dX7_combine_61 rfl ?_
    refine g_aload_n (pc := 63) dX7_combine_63 rfl trivial ?_
    refine g_invV_r (pc := 64) (As := []) dX7_combine_64 rfl (r_size h2) rfl rfl (shK h2.1 rfl) rfl rfl lk_X7_71 rfl (nb rfl) ⟨nb rfl, nb rfl⟩ rfl ?_
    refine g_icmp_ge (pc := 67) (tgt := 102) dX7_combine_67 rfl (fun _ => ?_) (fun h67 => absurd (nI_le (Nat.le_refl _) (by omega)) h67)
    refine g_aload_n (pc := 102) dX7_combine_102 rfl trivial ?_
    refine g_aload_n (pc := 103) dX7_combine_103 rfl trivial ?_
    refine g_getf (pc := 104) dX7_combine_104 fk_X7_34 (shK h2.1 rfl) (fv_arr (shR h2.1 rfl)) ?_
    refine g_iload_n (pc := 107) dX7_combine_107 rfl ?_
    refine g_invV_r (pc := 108) (As := [_, _]) dX7_combine_108 rfl (q3) rfl rfl (shK h2.1 rfl) rfl rfl lk_X7_322 rfl (nb rfl) ⟨nb rfl, nb rfl⟩ rfl ?_
    refine g_ireturn (pc := 111) dX7_combine_111 rfl rfl ?_
    exact ⟨rfl, rfl⟩
theorem t_combine {v w u x : Int32} (h : Rr M n A) (hx : ¬ (inR v 6 ∧ inR w 6 ∧ inR u 6)) : EvR l jX7_combine 4 160 0 0 [.ref 198, .int v, .int w, .int u, .int x] M (.inl (some (.int 0))) (thr M 1) := by
  have hS := h.1
  refine ev_intro rfl (nb rfl) rfl ?_
  by_cases h1 : inR v 6
  · by_cases h2 : inR w 6
    · refine g_aload_n (pc := 0) dX7_combine_0 rfl trivial ?_
      refine g_iload_n (pc := 1) dX7_combine_1 rfl ?_
      refine g_invS_r (pc := 2) (As := [_]) dX7_combine_2 rfl (r_isSlot_t h1) rfl rfl lk_X7_216 rfl (nb rfl) ⟨nb rfl, nb rfl⟩ rfl ?_
      refine g_if_eq (pc := 5) (tgt := 26) dX7_combine_5 rfl (fun h5 => absurd h5 ((by decide))) (fun _ => ?_)
      refine g_iload_n (pc := 8) dX7_combine_8 rfl ?_
      refine g_invS_r (pc := 9) (As := [_]) dX7_combine_9 rfl (r_isSlot_t h2) rfl rfl lk_X7_216 rfl (nb rfl) ⟨nb rfl, nb rfl⟩ rfl ?_
      refine g_if_eq (pc := 12) (tgt := 26) dX7_combine_12 rfl (fun h12 => absurd h12 ((by decide))) (fun _ => ?_)
      refine g_iload_n (pc := 15) dX7_combine_15 rfl ?_
      refine g_invS_r (pc := 16) (As := [_]) dX7_combine_16 rfl (r_isSlot_f (fun q => hx ⟨h1, h2, q⟩)) rfl rfl lk_X7_216 rfl (nb rfl) ⟨nb rfl, nb rfl⟩ rfl ?_
      refine g_if_eq (pc := 19) (tgt := 26) dX7_combine_19 rfl (fun _ => ?_) (fun h19 => absurd (rfl) h19)
      refine g_iconst (pc := 26) (v := 0) dX7_combine_26 rfl ?_
      refine g_iconst (pc := 27) (v := 1) dX7_combine_27 rfl ?_
      refine g_invV_r (pc := 28) (As := [_, _]) dX7_combine_28 rfl (r_isThrown_1 hS) rfl rfl (shK hS rfl) rfl rfl lk_X7_209 rfl (nb rfl) ⟨nb rfl, nb rfl⟩ rfl ?_
      refine g_if_ne (pc := 31) (tgt := 52) dX7_combine_31 rfl (fun _ => ?_) (fun h31 => absurd ((by decide)) h31)
      refine g_iconst (pc := 52) (v := 0) dX7_combine_52 rfl ?_
      refine g_ireturn (pc := 53) dX7_combine_53 rfl rfl ?_
      exact ⟨rfl, rfl⟩
    · refine g_aload_n (pc := 0) dX7_combine_0 rfl trivial ?_
      refine g_iload_n (pc := 1) dX7_combine_1 rfl ?_
      refine g_invS_r (pc := 2) (As := [_]) dX7_combine_2 rfl (r_isSlot_t h1) rfl rfl lk_X7_216 rfl (nb rfl) ⟨nb rfl, nb rfl⟩ rfl ?_
      refine g_if_eq (pc := 5) (tgt := 26) dX7_combine_5 rfl (fun h5 => absurd h5 ((by decide))) (fun _ => ?_)
      refine g_iload_n (pc := 8) dX7_combine_8 rfl ?_
      refine g_invS_r (pc := 9) (As := [_]) dX7_combine_9 rfl (r_isSlot_f h2) rfl rfl lk_X7_216 rfl (nb rfl) ⟨nb rfl, nb rfl⟩ rfl ?_
      refine g_if_eq (pc := 12) (tgt := 26) dX7_combine_12 rfl (fun _ => ?_) (fun h12 => absurd (rfl) h12)
      refine g_iconst (pc := 26) (v := 0) dX7_combine_26 rfl ?_
      refine g_iconst (pc := 27) (v := 1) dX7_combine_27 rfl ?_
      refine g_invV_r (pc := 28) (As := [_, _]) dX7_combine_28 rfl (r_isThrown_1 hS) rfl rfl (shK hS rfl) rfl rfl lk_X7_209 rfl (nb rfl) ⟨nb rfl, nb rfl⟩ rfl ?_
      refine g_if_ne (pc := 31) (tgt := 52) dX7_combine_31 rfl (fun _ => ?_) (fun h31 => absurd ((by decide)) h31)
      refine g_iconst (pc := 52) (v := 0) dX7_combine_52 rfl ?_
      refine g_ireturn (pc := 53) dX7_combine_53 rfl rfl ?_
      exact ⟨rfl, rfl⟩
  · refine g_aload_n (pc := 0) dX7_combine_0 rfl trivial ?_
    refine g_iload_n (pc := 1) dX7_combine_1 rfl ?_
    refine g_invS_r (pc := 2) (As := [_]) dX7_combine_2 rfl (r_isSlot_f h1) rfl rfl lk_X7_216 rfl (nb rfl) ⟨nb rfl, nb rfl⟩ rfl ?_
    refine g_if_eq (pc := 5) (tgt := 26) dX7_combine_5 rfl (fun _ => ?_) (fun h5 => absurd (rfl) h5)
    refine g_iconst (pc := 26) (v := 0) dX7_combine_26 rfl ?_
    refine g_iconst (pc := 27) (v := 1) dX7_combine_27 rfl ?_
    refine g_invV_r (pc := 28) (As := [_, _]) dX7_combine_28 rfl (r_isThrown_1 hS) rfl rfl (shK hS rfl) rfl rfl lk_X7_209 rfl (nb rfl) ⟨nb rfl, nb rfl⟩ rfl ?_
    refine g_if_ne (pc := 31) (tgt := 52) dX7_combine_31 rfl (fun _ => ?_) (fun h31 => absurd ((by decide)) h31)
    refine g_iconst (pc := 52) (v := 0) dX7_combine_52 rfl ?_
    refine g_ireturn (pc := 53) dX7_combine_53 rfl rfl ?_
    exact ⟨rfl, rfl⟩
theorem u_combine' {v w u x : Int32} (h : Rr M n A) (h1 : inR v 6) (h2 : inR w 6) (h3 : inR u 6) (hx : ¬ (¬ x < 0 ∧ x ≤ 3)) : EvR l jX7_combine 4 160 0 0 [.ref 198, .int v, .int w, .int u, .int x] M (.inl (some (.int 0))) (thr M 2) := by
  have hS := h.1
  have h' := h.thr (x := 0)
  have h4 : ¬ ((0 : Int64) ≤ x.toInt64 ∧ x.toInt64 ≤ lN 3) := fun q => hx ((inR_le (k := 3) (by decide)).mpr ((inR_long (k := 3) (by decide)).mp q))
  refine ev_intro rfl (nb rfl) rfl ?_
  refine g_aload_n (pc := 0) dX7_combine_0 rfl trivial ?_
  refine g_iload_n (pc := 1) dX7_combine_1 rfl ?_
  refine g_invS_r (pc := 2) (As := [_]) dX7_combine_2 rfl (r_isSlot_t h1) rfl rfl lk_X7_216 rfl (nb rfl) ⟨nb rfl, nb rfl⟩ rfl ?_
  refine g_if_eq (pc := 5) (tgt := 26) dX7_combine_5 rfl (fun h5 => absurd h5 ((by decide))) (fun _ => ?_)
  refine g_iload_n (pc := 8) dX7_combine_8 rfl ?_
  refine g_invS_r (pc := 9) (As := [_]) dX7_combine_9 rfl (r_isSlot_t h2) rfl rfl lk_X7_216 rfl (nb rfl) ⟨nb rfl, nb rfl⟩ rfl ?_
  refine g_if_eq (pc := 12) (tgt := 26) dX7_combine_12 rfl (fun h12 => absurd h12 ((by decide))) (fun _ => ?_)
  refine g_iload_n (pc := 15) dX7_combine_15 rfl ?_
  refine g_invS_r (pc := 16) (As := [_]) dX7_combine_16 rfl (r_isSlot_t h3) rfl rfl lk_X7_216 rfl (nb rfl) ⟨nb rfl, nb rfl⟩ rfl ?_
  refine g_if_eq (pc := 19) (tgt := 26) dX7_combine_19 rfl (fun h19 => absurd h19 ((by decide))) (fun _ => ?_)
  refine g_iconst (pc := 22) (v := 1) dX7_combine_22 rfl ?_
  refine g_goto (pc := 23) (tgt := 27) dX7_combine_23 rfl ?_
  refine g_iconst (pc := 27) (v := 1) dX7_combine_27 rfl ?_
  refine g_invV_r (pc := 28) (As := [_, _]) dX7_combine_28 rfl (r_isThrown_0 hS) rfl rfl (shK hS rfl) rfl rfl lk_X7_209 rfl (nb rfl) ⟨nb rfl, nb rfl⟩ rfl ?_
  refine g_if_ne (pc := 31) (tgt := 52) dX7_combine_31 rfl (fun h31 => absurd h31 ((fun z => z rfl))) (fun _ => ?_)
  refine g_aload_n (pc := 34) dX7_combine_34 rfl trivial ?_
  refine g_iload (pc := 35) dX7_combine_35 rfl ?_
  refine g_i2l (pc := 37) dX7_combine_37 rfl ?_
  refine g_lconst (pc := 38) (v := 0) dX7_combine_38 rfl ?_
  refine g_ldc2 (pc := 39) dX7_combine_39 wd_1424 ?_
  refine g_invS_r (pc := 42) (As := [_, _, _]) dX7_combine_42 rfl (r_in_f h4) rfl rfl lk_X7_67 rfl (nb rfl) ⟨nb rfl, nb rfl⟩ rfl ?_
  refine g_iconst (pc := 45) (v := 2) dX7_combine_45 rfl ?_
  refine g_invV_r (pc := 46) (As := [_, _]) dX7_combine_46 rfl (r_isThrown_1 h'.1) rfl rfl (shK hS rfl) rfl rfl lk_X7_209 rfl (nb rfl) ⟨nb rfl, nb rfl⟩ rfl ?_
  refine g_if_eq (pc := 49) (tgt := 54) dX7_combine_49 rfl (fun h49 => absurd h49 ((by decide))) (fun _ => ?_)
  refine g_iconst (pc := 52) (v := 0) dX7_combine_52 rfl ?_
  refine g_ireturn (pc := 53) dX7_combine_53 rfl rfl ?_
  exact ⟨rfl, thr_2⟩
end

