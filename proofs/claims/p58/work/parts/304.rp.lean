/-! the reference: put -/
section
variable {l : Launch} {M : Mem} {n c : Nat} {A : Nat → Nat → Int32}
/-- how many rows are looked at -/
def prR (f : Nat → Int32) (a : Nat) : Nat → Int32
  | 0 => 0
  | k + 1 => if k = a ∨ hb (f k) a = true then prR f a k + 1 else prR f a k
def dfF (f g : Nat → Int32) : Nat → Int32
  | 0 => 0
  | k + 1 => dfF f g k + bcJ (f k ^^^ g k)
theorem o_put {s r q : Nat} {b : Bool} (h : Rr M n A) (hc : mI M 198 5 = nI c) (hc8 : c ≤ 8) (hs : s < 6) (hr : r < n) (hq : q < n) (hb9 : hb (A s r) q = b) : EvR l jX7_put 4 160 0 0 [.ref 198, .int (nI s), .int (nI r), .int (nI q), .int (b1 b)] M (.inl (some (.int 0))) (lkM (k0M M c) s 0) := by
  have hn := h.2.2.2.1
  have hS := h.1
  have q1 := r_k0 (l := l) h hc hc8
  have h1 : Rr (k0M M c) n A := k0M_R h
  have q2 := r_looks (l := l) (x := 0) h1 hs
  generalize lkM (k0M M c) s 0 = M2 at *
  generalize k0M M c = M1 at *
  refine ev_intro rfl (nb rfl) rfl ?_
  cases b with
  | true =>
    refine g_aload_n (pc := 0) dX7_put_0 rfl trivial ?_
    refine g_aload_n (pc := 1) dX7_put_1 rfl trivial ?_
    refine g_iload_n (pc := 2) dX7_put_2 rfl ?_
    refine g_iload_n (pc := 3) dX7_put_3 rfl ?_
    refine g_invV_r (pc := 4) (As := [_, _]) dX7_put_4 rfl (r_areIn_t h (in6 hs) (inR_nI hr (by omega))) rfl rfl (shK hS rfl) rfl rfl lk_X7_223 rfl (nb rfl) ⟨nb rfl, nb rfl⟩ rfl ?_
    refine g_if_eq (pc := 7) (tgt := 22) dX7_put_7 rfl (fun h7 => absurd h7 ((by decide))) (fun _ => ?_)
    refine g_aload_n (pc := 10) dX7_put_10 rfl trivial ?_
    refine g_iload_n (pc := 11) dX7_put_11 rfl ?_
    refine g_invV_r (pc := 12) (As := [_]) dX7_put_12 rfl (r_isNode_t h (inR_nI hq (by omega))) rfl rfl (shK hS rfl) rfl rfl lk_X7_220 rfl (nb rfl) ⟨nb rfl, nb rfl⟩ rfl ?_
    refine g_if_eq (pc := 15) (tgt := 22) dX7_put_15 rfl (fun h15 => absurd h15 ((by decide))) (fun _ => ?_)
    refine g_iconst (pc := 18) (v := 1) dX7_put_18 rfl ?_
    refine g_goto (pc := 19) (tgt := 23) dX7_put_19 rfl ?_
    refine g_iconst (pc := 23) (v := 1) dX7_put_23 rfl ?_
    refine g_invV_r (pc := 24) (As := [_, _]) dX7_put_24 rfl (r_isThrown_0 hS) rfl rfl (shK hS rfl) rfl rfl lk_X7_209 rfl (nb rfl) ⟨nb rfl, nb rfl⟩ rfl ?_
    refine g_if_eq (pc := 27) (tgt := 32) dX7_put_27 rfl (fun _ => ?_) (fun h27 => absurd (rfl) h27)
    refine g_aload_n (pc := 32) dX7_put_32 rfl trivial ?_
    refine g_invV_r (pc := 33) (As := []) dX7_put_33 rfl (q1) rfl rfl (shK (h.thr (x := 0)).1 rfl) rfl rfl lk_X7_315 rfl (nb rfl) ⟨nb rfl, nb rfl⟩ rfl ?_
    refine g_aload_n (pc := 36) dX7_put_36 rfl trivial ?_
    refine g_iload_n (pc := 37) dX7_put_37 rfl ?_
    refine g_iload_n (pc := 38) dX7_put_38 rfl ?_
    refine g_invV_r (pc := 39) (As := [_, _]) dX7_put_39 rfl (r_rowOf h1 hs hr) rfl rfl (shK h1.1 rfl) rfl rfl lk_X7_227 rfl (nb rfl) ⟨nb rfl, nb rfl⟩ rfl ?_
    refine g_iload_n (pc := 42) dX7_put_42 rfl ?_
    refine g_invS_r (pc := 43) (As := [_, _]) dX7_put_43 rfl (r_one (show q < 32 by omega)) rfl rfl lk_X7_231 rfl (nb rfl) ⟨nb rfl, nb rfl⟩ rfl ?_
    rw [hb9]
    refine g_iload (pc := 46) dX7_put_46 rfl ?_
    refine g_if_eq (pc := 48) (tgt := 55) dX7_put_48 rfl (fun h48 => absurd h48 ((by decide))) (fun _ => ?_)
    refine g_iconst (pc := 51) (v := 1) dX7_put_51 rfl ?_
    refine g_goto (pc := 52) (tgt := 56) dX7_put_52 rfl ?_
    refine g_icmp_ne (pc := 56) (tgt := 67) dX7_put_56 rfl (fun h56 => absurd h56 ((fun z => z rfl))) (fun _ => ?_)
    refine g_aload_n (pc := 59) dX7_put_59 rfl trivial ?_
    refine g_iload_n (pc := 60) dX7_put_60 rfl ?_
    refine g_iconst (pc := 61) (v := 0) dX7_put_61 rfl ?_
    refine g_invV_r (pc := 62) (As := [_, _]) dX7_put_62 rfl (q2) rfl rfl (shK h1.1 rfl) rfl rfl lk_X7_312 rfl (nb rfl) ⟨nb rfl, nb rfl⟩ rfl ?_
    refine g_iconst (pc := 65) (v := 0) dX7_put_65 rfl ?_
    refine g_ireturn (pc := 66) dX7_put_66 rfl rfl ?_
    exact ⟨rfl, rfl⟩
  | false =>
    refine g_aload_n (pc := 0) dX7_put_0 rfl trivial ?_
    refine g_aload_n (pc := 1) dX7_put_1 rfl trivial ?_
    refine g_iload_n (pc := 2) dX7_put_2 rfl ?_
    refine g_iload_n (pc := 3) dX7_put_3 rfl ?_
    refine g_invV_r (pc := 4) (As := [_, _]) dX7_put_4 rfl (r_areIn_t h (in6 hs) (inR_nI hr (by omega))) rfl rfl (shK hS rfl) rfl rfl lk_X7_223 rfl (nb rfl) ⟨nb rfl, nb rfl⟩ rfl ?_
    refine g_if_eq (pc := 7) (tgt := 22) dX7_put_7 rfl (fun h7 => absurd h7 ((by decide))) (fun _ => ?_)
    refine g_aload_n (pc := 10) dX7_put_10 rfl trivial ?_
    refine g_iload_n (pc := 11) dX7_put_11 rfl ?_
    refine g_invV_r (pc := 12) (As := [_]) dX7_put_12 rfl (r_isNode_t h (inR_nI hq (by omega))) rfl rfl (shK hS rfl) rfl rfl lk_X7_220 rfl (nb rfl) ⟨nb rfl, nb rfl⟩ rfl ?_
    refine g_if_eq (pc := 15) (tgt := 22) dX7_put_15 rfl (fun h15 => absurd h15 ((by decide))) (fun _ => ?_)
    refine g_iconst (pc := 18) (v := 1) dX7_put_18 rfl ?_
    refine g_goto (pc := 19) (tgt := 23) dX7_put_19 rfl ?_
    refine g_iconst (pc := 23) (v := 1) dX7_put_23 rfl ?_
    refine g_invV_r (pc := 24) (As := [_, _]) dX7_put_24 rfl (r_isThrown_0 hS) rfl rfl (shK hS rfl) rfl rfl lk_X7_209 rfl (nb rfl) ⟨nb rfl, nb rfl⟩ rfl ?_
    refine g_if_eq (pc := 27) (tgt := 32) dX7_put_27 rfl (fun _ => ?_) (fun h27 => absurd (rfl) h27)
    refine g_aload_n (pc := 32) dX7_put_32 rfl trivial ?_
    refine g_invV_r (pc := 33) (As := []) dX7_put_33 rfl (q1) rfl rfl (shK (h.thr (x := 0)).1 rfl) rfl rfl lk_X7_315 rfl (nb rfl) ⟨nb rfl, nb rfl⟩ rfl ?_
    refine g_aload_n (pc := 36) dX7_put_36 rfl trivial ?_
    refine g_iload_n (pc := 37) dX7_put_37 rfl ?_
    refine g_iload_n (pc := 38) dX7_put_38 rfl ?_
    refine g_invV_r (pc := 39) (As := [_, _]) dX7_put_39 rfl (r_rowOf h1 hs hr) rfl rfl (shK h1.1 rfl) rfl rfl lk_X7_227 rfl (nb rfl) ⟨nb rfl, nb rfl⟩ rfl ?_
    refine g_iload_n (pc := 42) dX7_put_42 rfl ?_
    refine g_invS_r (pc := 43) (As := [_, _]) dX7_put_43 rfl (r_one (show q < 32 by omega)) rfl rfl lk_X7_231 rfl (nb rfl) ⟨nb rfl, nb rfl⟩ rfl ?_
    rw [hb9]
    refine g_iload (pc := 46) dX7_put_46 rfl ?_
    refine g_if_eq (pc := 48) (tgt := 55) dX7_put_48 rfl (fun _ => ?_) (fun h48 => absurd (rfl) h48)
    refine g_iconst (pc := 55) (v := 0) dX7_put_55 rfl ?_
    refine g_icmp_ne (pc := 56) (tgt := 67) dX7_put_56 rfl (fun h56 => absurd h56 ((fun z => z rfl))) (fun _ => ?_)
    refine g_aload_n (pc := 59) dX7_put_59 rfl trivial ?_
    refine g_iload_n (pc := 60) dX7_put_60 rfl ?_
    refine g_iconst (pc := 61) (v := 0) dX7_put_61 rfl ?_
    refine g_invV_r (pc := 62) (As := [_, _]) dX7_put_62 rfl (q2) rfl rfl (shK h1.1 rfl) rfl rfl lk_X7_312 rfl (nb rfl) ⟨nb rfl, nb rfl⟩ rfl ?_
    refine g_iconst (pc := 65) (v := 0) dX7_put_65 rfl ?_
    refine g_ireturn (pc := 66) dX7_put_66 rfl rfl ?_
    exact ⟨rfl, rfl⟩
/-- the memory behind a put that changes a bit -/
def rpM1 (M : Mem) (n s r : Nat) (f : Nat → Int32) (c : Nat) : Mem := lkM (hdM (hdM (k0M M c) 205 n (wOut f n n)) 206 n (wOut f n n)) s (prR (wOut f n n) r n)
def rpM (M : Mem) (n s r q : Nat) (f : Nat → Int32) (c : Nat) : Mem := hdM (srM (rpM1 M n s r f c) s r (f r ^^^ bitI q)) 205 n (wOut (tnF f r q) n n)
theorem lkM_ne {s x : Nat} {y : Int32} (hx : x ≠ 199) : mL (lkM M s y) x = mL M x := by
  unfold lkM
  split
  · rw [pL_i hx, pL_i hx]
  · rfl
theorem n_put {s r q : Nat} {b : Bool} (h : Rr M n A) (hc : mI M 198 5 = nI c) (hc8 : c ≤ 8) (hs : s < 6) (hr : r < n) (hq : q < n) (hb9 : hb (A s r) q ≠ b) : EvR l jX7_put 4 160 0 0 [.ref 198, .int (nI s), .int (nI r), .int (nI q), .int (b1 b)] M (.inl (some (.int (dfF (wOut (tnF (A s) r q) n n) (wOut (A s) n n) n)))) (rpM M n s r q (A s) c) := by
  have hn := h.2.2.2.1
  have hS := h.1
  have q1 := r_k0 (l := l) h hc hc8
  have h1 : Rr (k0M M c) n A := k0M_R h
  have q2 := r_closure (l := l) h1 hs
  have hAr : A s r = A s r := rfl
  unfold rpM rpM1
  have h2 : Rr (hdM (k0M M c) 205 n (wOut (A s) n n)) n A := h1.hd (Or.inl rfl)
  have h3 : Rr (hdM (hdM (k0M M c) 205 n (wOut (A s) n n)) 206 n (wOut (A s) n n)) n A := h2.hd (Or.inr (Or.inl rfl))
  have q3 := r_looks (l := l) (x := prR (wOut (A s) n n) r n) h3 hs
  have h4 := lkM_R (x := prR (wOut (A s) n n) r n) h3 hs
  have q4 := r_setsRow (l := l) (s := s) (r := r) (x := uL (A s r ^^^ bitI q)) h4.1 hs (by omega)
  have h5 := srM_R (v := A s r ^^^ bitI q) h4 hs hr
  have q5 := r_closure (l := l) h5 hs
  have e5 : fun_set A s (fun_set (A s) r (A s r ^^^ bitI q)) s = tnF (A s) r q := fs_self _ _ _
  rw [e5] at q5
  have h6 : Rr (hdM (srM (lkM (hdM (hdM (k0M M c) 205 n (wOut (A s) n n)) 206 n (wOut (A s) n n)) s (prR (wOut (A s) n n) r n)) s r (A s r ^^^ bitI q)) 205 n (wOut (tnF (A s) r q) n n)) n (fun_set A s (fun_set (A s) r (A s r ^^^ bitI q))) := h5.hd (Or.inl rfl)
  have e6 : ∀ i, i < n → mL (hdM (srM (lkM (hdM (hdM (k0M M c) 205 n (wOut (A s) n n)) 206 n (wOut (A s) n n)) s (prR (wOut (A s) n n) r n)) s r (A s r ^^^ bitI q)) 205 n (wOut (tnF (A s) r q) n n)) 205 i = uL (wOut (tnF (A s) r q) n n i) := fun i hi => hdM_at hi
  have e7 : ∀ i, i < n → mL (hdM (srM (lkM (hdM (hdM (k0M M c) 205 n (wOut (A s) n n)) 206 n (wOut (A s) n n)) s (prR (wOut (A s) n n) r n)) s r (A s r ^^^ bitI q)) 205 n (wOut (tnF (A s) r q) n n)) 206 i = uL (wOut (A s) n n i) := fun i hi => by
    rw [hdM_ne (by decide), show ∀ X : Mem, mL (srM X s r (A s r ^^^ bitI q)) 206 = mL X 206 from fun X => pL_i (by decide), lkM_ne (by decide)]
    exact hdM_at hi
  have e4 : pL (lkM (hdM (hdM (k0M M c) 205 n (wOut (A s) n n)) 206 n (wOut (A s) n n)) s (prR (wOut (A s) n n) r n)) 199 (28 + 32 * s + r) (uL (A s r ^^^ bitI q)) = srM (lkM (hdM (hdM (k0M M c) 205 n (wOut (A s) n n)) 206 n (wOut (A s) n n)) s (prR (wOut (A s) n n) r n)) s r (A s r ^^^ bitI q) := rfl
  rw [e4] at q4
  have hrow := fun (M' : Mem) (h' : Rr M' n A) => r_rowOf (l := l) h' hs hr
  have hu : ∀ i, i < n → mL (hdM (k0M M c) 205 n (wOut (A s) n n)) 205 i = uL (wOut (A s) n n i) := fun i hi => hdM_at hi
  generalize hdM (srM (lkM (hdM (hdM (k0M M c) 205 n (wOut (A s) n n)) 206 n (wOut (A s) n n)) s (prR (wOut (A s) n n) r n)) s r (A s r ^^^ bitI q)) 205 n (wOut (tnF (A s) r q) n n) = M6 at *
  generalize srM (lkM (hdM (hdM (k0M M c) 205 n (wOut (A s) n n)) 206 n (wOut (A s) n n)) s (prR (wOut (A s) n n) r n)) s r (A s r ^^^ bitI q) = M5 at *
  generalize lkM (hdM (hdM (k0M M c) 205 n (wOut (A s) n n)) 206 n (wOut (A s) n n)) s (prR (wOut (A s) n n) r n) = M4 at *
  generalize hdM (k0M M c) 205 n (wOut (A s) n n) = M2 at *
  generalize k0M M c = M1 at *
  generalize wOut (tnF (A s) r q) n n = W2 at *
  generalize wOut (A s) n n = W at *
  generalize hAB : fun_set A s (fun_set (A s) r (A s r ^^^ bitI q)) = A2 at *
  refine ev_intro rfl (nb rfl) rfl ?_
  have hmain : Go l jX7_put 4 160 0 0 (fun r' M' => r' = .inl (some (.int (dfF W2 W n))) ∧ M' = M6) 67 [(0, .ref 198), (1, .int (nI s)), (2, .int (nI r)), (3, .int (nI q))] [] 0 0 M1 := by
    refine g_aload_n (pc := 67) dX7_put_67 rfl trivial ?_
    refine g_iload_n (pc := 68) dX7_put_68 rfl ?_
    refine g_invV_r (pc := 69) (As := [_]) dX7_put_69 rfl (q2) rfl rfl (shK h1.1 rfl) rfl rfl lk_X7_260 rfl (nb rfl) ⟨nb rfl, nb rfl⟩ rfl ?_
    refine g_iconst (pc := 72) (v := 0) dX7_put_72 rfl ?_
    refine g_istore (pc := 73) (lv' := [(0, _), (1, _), (2, _), (3, _), (5, _)]) dX7_put_73 (nl rfl) rfl ?_
    refine g_iconst (pc := 75) (v := 0) dX7_put_75 rfl ?_
    refine g_istore (pc := 76) (lv' := [(0, _), (1, _), (2, _), (3, _), (5, _), (6, _)]) dX7_put_76 (nl rfl) rfl ?_
    refine go_loop (pc := 78) n (fun i => [(0, .ref 198), (1, .int (nI s)), (2, .int (nI r)), (3, .int (nI q)), (5, .int (prR W r i)), (6, .int (nI i))]) (fun i => sL M2 206 (wr (mL M2 206) (uR W) i)) ⟨rfl, rfl, rfl, rfl, rfl, rfl, trivial⟩ (sL_eq (wr_0 _ _)) ?_ ?_
    · intro i hi ih
      have h9 : Rr (sL M2 206 (wr (mL M2 206) (uR W) i)) n A := h2.sL (by decide)
      have e9 : mL (sL M2 206 (wr (mL M2 206) (uR W) i)) 205 i = uL (W i) := by rw [sL_ne (by decide)]; exact hu i hi
      have h10 : Rr (sL M2 206 (wr (mL M2 206) (uR W) (i + 1))) n A := h2.sL (by decide)
      have e10 : mL (sL M2 206 (wr (mL M2 206) (uR W) (i + 1))) 205 i = uL (W i) := by rw [sL_ne (by decide)]; exact hu i hi
      have est : pL (sL M2 206 (wr (mL M2 206) (uR W) i)) 206 i (uL (W i)) = sL M2 206 (wr (mL M2 206) (uR W) (i + 1)) := sL_st (wr_s _ (uR W) i)
      rw [prR] at ih
      generalize sL M2 206 (wr (mL M2 206) (uR W) (i + 1)) = M10 at *
      generalize sL M2 206 (wr (mL M2 206) (uR W) i) = M9 at *
      generalize prR W r i = x at *
      by_cases hir : i = r
      · rw [if_pos (Or.inl hir)] at ih
        refine g_iload (pc := 78) dX7_put_78 rfl ?_
        refine g_aload_n (pc := 80) dX7_put_80 rfl trivial ?_
        refine g_invV_r (pc := 81) (As := []) dX7_put_81 rfl (r_size h9) rfl rfl (shK h9.1 rfl) rfl rfl lk_X7_71 rfl (nb rfl) ⟨nb rfl, nb rfl⟩ rfl ?_
        refine g_icmp_ge (pc := 84) (tgt := 138) dX7_put_84 rfl (fun h84 => absurd h84 (nI_ge hi (by omega))) (fun _ => ?_)
        refine g_aload_n (pc := 87) dX7_put_87 rfl trivial ?_
        refine g_getf (pc := 88) dX7_put_88 fk_X7_37 (shK h9.1 rfl) (fv_arr (shR h9.1 rfl)) ?_
        refine g_iload (pc := 91) dX7_put_91 rfl ?_
        refine g_aload_n (pc := 93) dX7_put_93 rfl trivial ?_
        refine g_getf (pc := 94) dX7_put_94 fk_X7_34 (shK h9.1 rfl) (fv_arr (shR h9.1 rfl)) ?_
        refine g_iload (pc := 97) dX7_put_97 rfl ?_
        refine g_laload (pc := 99) dX7_put_99 (shK h9.1 rfl) rfl (by omega) (nl rfl) ?_
        rw [e9]
        refine g_lastore (pc := 100) dX7_put_100 (shK h9.1 rfl) rfl (by omega) (nl rfl) ?_
        refine go_cast est ?_
        refine g_iload (pc := 101) dX7_put_101 rfl ?_
        refine g_iload (pc := 103) dX7_put_103 rfl ?_
        refine g_iload_n (pc := 105) dX7_put_105 rfl ?_
        refine g_icmp_eq (pc := 106) (tgt := 124) dX7_put_106 rfl (fun _ => ?_) (fun h106 => absurd ((by rw [hir])) h106)
        refine g_iconst (pc := 124) (v := 1) dX7_put_124 rfl ?_
        refine g_goto (pc := 125) (tgt := 129) dX7_put_125 rfl ?_
        refine g_iadd (pc := 129) dX7_put_129 ?_
        refine g_istore (pc := 130) (lv' := [(0, _), (1, _), (2, _), (3, _), (5, _), (6, _)]) dX7_put_130 (nl rfl) rfl ?_
        refine g_iinc (pc := 132) (lv' := [(0, _), (1, _), (2, _), (3, _), (5, _), (6, _)]) dX7_put_132 rfl (nI_1 _) (nl rfl) rfl ?_
        refine g_goto (pc := 135) (tgt := 78) dX7_put_135 rfl ?_
        exact ih
      · have hne : ¬ nI i = nI r := fun z => hir ((nI_eq (by omega) (by omega)).mp z)
        cases h11 : hb (W i) r with
        | true =>
          rw [if_pos (Or.inr h11)] at ih
          refine g_iload (pc := 78) dX7_put_78 rfl ?_
          refine g_aload_n (pc := 80) dX7_put_80 rfl trivial ?_
          refine g_invV_r (pc := 81) (As := []) dX7_put_81 rfl (r_size h9) rfl rfl (shK h9.1 rfl) rfl rfl lk_X7_71 rfl (nb rfl) ⟨nb rfl, nb rfl⟩ rfl ?_
          refine g_icmp_ge (pc := 84) (tgt := 138) dX7_put_84 rfl (fun h84 => absurd h84 (nI_ge hi (by omega))) (fun _ => ?_)
          refine g_aload_n (pc := 87) dX7_put_87 rfl trivial ?_
          refine g_getf (pc := 88) dX7_put_88 fk_X7_37 (shK h9.1 rfl) (fv_arr (shR h9.1 rfl)) ?_
          refine g_iload (pc := 91) dX7_put_91 rfl ?_
          refine g_aload_n (pc := 93) dX7_put_93 rfl trivial ?_
          refine g_getf (pc := 94) dX7_put_94 fk_X7_34 (shK h9.1 rfl) (fv_arr (shR h9.1 rfl)) ?_
          refine g_iload (pc := 97) dX7_put_97 rfl ?_
          refine g_laload (pc := 99) dX7_put_99 (shK h9.1 rfl) rfl (by omega) (nl rfl) ?_
          rw [e9]
          refine g_lastore (pc := 100) dX7_put_100 (shK h9.1 rfl) rfl (by omega) (nl rfl) ?_
          refine go_cast est ?_
          refine g_iload (pc := 101) dX7_put_101 rfl ?_
          refine g_iload (pc := 103) dX7_put_103 rfl ?_
          refine g_iload_n (pc := 105) dX7_put_105 rfl ?_
          refine g_icmp_eq (pc := 106) (tgt := 124) dX7_put_106 rfl (fun h106 => absurd h106 (hne)) (fun _ => ?_)
          refine g_aload_n (pc := 109) dX7_put_109 rfl trivial ?_
          refine g_getf (pc := 110) dX7_put_110 fk_X7_34 (shK h10.1 rfl) (fv_arr (shR h10.1 rfl)) ?_
          refine g_iload (pc := 113) dX7_put_113 rfl ?_
          refine g_laload (pc := 115) dX7_put_115 (shK h10.1 rfl) rfl (by omega) (nl rfl) ?_
          rw [e10]
          refine g_iload_n (pc := 116) dX7_put_116 rfl ?_
          refine g_invS_r (pc := 117) (As := [_, _]) dX7_put_117 rfl (r_one (show r < 32 by omega)) rfl rfl lk_X7_231 rfl (nb rfl) ⟨nb rfl, nb rfl⟩ rfl ?_
          rw [h11]
          refine g_iconst (pc := 120) (v := 1) dX7_put_120 rfl ?_
          refine g_icmp_ne (pc := 121) (tgt := 128) dX7_put_121 rfl (fun h121 => absurd h121 ((fun z => z rfl))) (fun _ => ?_)
          refine g_iconst (pc := 124) (v := 1) dX7_put_124 rfl ?_
          refine g_goto (pc := 125) (tgt := 129) dX7_put_125 rfl ?_
          refine g_iadd (pc := 129) dX7_put_129 ?_
          refine g_istore (pc := 130) (lv' := [(0, _), (1, _), (2, _), (3, _), (5, _), (6, _)]) dX7_put_130 (nl rfl) rfl ?_
          refine g_iinc (pc := 132) (lv' := [(0, _), (1, _), (2, _), (3, _), (5, _), (6, _)]) dX7_put_132 rfl (nI_1 _) (nl rfl) rfl ?_
          refine g_goto (pc := 135) (tgt := 78) dX7_put_135 rfl ?_
          exact ih
        | false =>
          rw [if_neg (fun z => z.elim hir (fun y => by rw [h11] at y; cases y))] at ih
          refine g_iload (pc := 78) dX7_put_78 rfl ?_
          refine g_aload_n (pc := 80) dX7_put_80 rfl trivial ?_
          refine g_invV_r (pc := 81) (As := []) dX7_put_81 rfl (r_size h9) rfl rfl (shK h9.1 rfl) rfl rfl lk_X7_71 rfl (nb rfl) ⟨nb rfl, nb rfl⟩ rfl ?_
          refine g_icmp_ge (pc := 84) (tgt := 138) dX7_put_84 rfl (fun h84 => absurd h84 (nI_ge hi (by omega))) (fun _ => ?_)
          refine g_aload_n (pc := 87) dX7_put_87 rfl trivial ?_
          refine g_getf (pc := 88) dX7_put_88 fk_X7_37 (shK h9.1 rfl) (fv_arr (shR h9.1 rfl)) ?_
          refine g_iload (pc := 91) dX7_put_91 rfl ?_
          refine g_aload_n (pc := 93) dX7_put_93 rfl trivial ?_
          refine g_getf (pc := 94) dX7_put_94 fk_X7_34 (shK h9.1 rfl) (fv_arr (shR h9.1 rfl)) ?_
          refine g_iload (pc := 97) dX7_put_97 rfl ?_
          refine g_laload (pc := 99) dX7_put_99 (shK h9.1 rfl) rfl (by omega) (nl rfl) ?_
          rw [e9]
          refine g_lastore (pc := 100) dX7_put_100 (shK h9.1 rfl) rfl (by omega) (nl rfl) ?_
          refine go_cast est ?_
          refine g_iload (pc := 101) dX7_put_101 rfl ?_
          refine g_iload (pc := 103) dX7_put_103 rfl ?_
          refine g_iload_n (pc := 105) dX7_put_105 rfl ?_
          refine g_icmp_eq (pc := 106) (tgt := 124) dX7_put_106 rfl (fun h106 => absurd h106 (hne)) (fun _ => ?_)
          refine g_aload_n (pc := 109) dX7_put_109 rfl trivial ?_
          refine g_getf (pc := 110) dX7_put_110 fk_X7_34 (shK h10.1 rfl) (fv_arr (shR h10.1 rfl)) ?_
          refine g_iload (pc := 113) dX7_put_113 rfl ?_
          refine g_laload (pc := 115) dX7_put_115 (shK h10.1 rfl) rfl (by omega) (nl rfl) ?_
          rw [e10]
          refine g_iload_n (pc := 116) dX7_put_116 rfl ?_
          refine g_invS_r (pc := 117) (As := [_, _]) dX7_put_117 rfl (r_one (show r < 32 by omega)) rfl rfl lk_X7_231 rfl (nb rfl) ⟨nb rfl, nb rfl⟩ rfl ?_
          rw [h11]
          refine g_iconst (pc := 120) (v := 1) dX7_put_120 rfl ?_
          refine g_icmp_ne (pc := 121) (tgt := 128) dX7_put_121 rfl (fun _ => ?_) (fun h121 => absurd ((by decide)) h121)
          refine g_iconst (pc := 128) (v := 0) dX7_put_128 rfl ?_
          refine g_iadd (pc := 129) dX7_put_129 ?_
          rw [Int32.add_zero]
          refine g_istore (pc := 130) (lv' := [(0, _), (1, _), (2, _), (3, _), (5, _), (6, _)]) dX7_put_130 (nl rfl) rfl ?_
          refine g_iinc (pc := 132) (lv' := [(0, _), (1, _), (2, _), (3, _), (5, _), (6, _)]) dX7_put_132 rfl (nI_1 _) (nl rfl) rfl ?_
          refine g_goto (pc := 135) (tgt := 78) dX7_put_135 rfl ?_
          exact ih
    · have h3 : Rr (sL M2 206 (wr (mL M2 206) (uR W) n)) n A := h3
      have q3 : EvR l jX7_looks 0 0 0 0 [.ref 198, .int (nI s), .int (prR W r n)] (sL M2 206 (wr (mL M2 206) (uR W) n)) (.inl none) M4 := q3
      generalize sL M2 206 (wr (mL M2 206) (uR W) n) = M3 at *
      refine g_iload (pc := 78) dX7_put_78 rfl ?_
      refine g_aload_n (pc := 80) dX7_put_80 rfl trivial ?_
      refine g_invV_r (pc := 81) (As := []) dX7_put_81 rfl (r_size h3) rfl rfl (shK h3.1 rfl) rfl rfl lk_X7_71 rfl (nb rfl) ⟨nb rfl, nb rfl⟩ rfl ?_
      refine g_icmp_ge (pc := 84) (tgt := 138) dX7_put_84 rfl (fun _ => ?_) (fun h84 => absurd (nI_le (Nat.le_refl _) (by omega)) h84)
      refine g_aload_n (pc := 138) dX7_put_138 rfl trivial ?_
      refine g_iload_n (pc := 139) dX7_put_139 rfl ?_
      refine g_iload (pc := 140) dX7_put_140 rfl ?_
      refine g_invV_r (pc := 142) (As := [_, _]) dX7_put_142 rfl (q3) rfl rfl (shK h3.1 rfl) rfl rfl lk_X7_312 rfl (nb rfl) ⟨nb rfl, nb rfl⟩ rfl ?_
      refine g_aload_n (pc := 145) dX7_put_145 rfl trivial ?_
      refine g_iload_n (pc := 146) dX7_put_146 rfl ?_
      refine g_iload_n (pc := 147) dX7_put_147 rfl ?_
      refine g_aload_n (pc := 148) dX7_put_148 rfl trivial ?_
      refine g_iload_n (pc := 149) dX7_put_149 rfl ?_
      refine g_iload_n (pc := 150) dX7_put_150 rfl ?_
      refine g_invV_r (pc := 151) (As := [_, _]) dX7_put_151 rfl ((hrow M4 h4)) rfl rfl (shK h4.1 rfl) rfl rfl lk_X7_227 rfl (nb rfl) ⟨nb rfl, nb rfl⟩ rfl ?_
      refine g_lconst (pc := 154) (v := 1) dX7_put_154 rfl ?_
      refine g_iload_n (pc := 155) dX7_put_155 rfl ?_
      refine g_lshl (pc := 156) dX7_put_156 rfl ?_
      rw [sh_bit q (by omega)]
      refine g_lxor (pc := 157) dX7_put_157 ?_
      rw [uL_xor]
      refine g_invV_r (pc := 158) (As := [_, _, _]) dX7_put_158 rfl (q4) rfl rfl (shK h4.1 rfl) rfl rfl lk_X7_318 rfl (nb rfl) ⟨nb rfl, nb rfl⟩ rfl ?_
      refine g_aload_n (pc := 161) dX7_put_161 rfl trivial ?_
      refine g_iload_n (pc := 162) dX7_put_162 rfl ?_
      refine g_invV_r (pc := 163) (As := [_]) dX7_put_163 rfl (q5) rfl rfl (shK h5.1 rfl) rfl rfl lk_X7_260 rfl (nb rfl) ⟨nb rfl, nb rfl⟩ rfl ?_
      refine g_iconst (pc := 166) (v := 0) dX7_put_166 rfl ?_
      refine g_istore (pc := 167) (lv' := [(0, _), (1, _), (2, _), (3, _), (5, _), (6, _)]) dX7_put_167 (nl rfl) rfl ?_
      refine g_iconst (pc := 169) (v := 0) dX7_put_169 rfl ?_
      refine g_istore (pc := 170) (lv' := [(0, _), (1, _), (2, _), (3, _), (5, _), (6, _), (7, _)]) dX7_put_170 (nl rfl) rfl ?_
      refine go_loop (pc := 172) n (fun i => [(0, .ref 198), (6, .int (dfF W2 W i)), (7, .int (nI i))]) (fun i => M6) ⟨rfl, rfl, rfl, trivial⟩ rfl ?_ ?_
      · intro i hi ih
        refine g_iload (pc := 172) dX7_put_172 rfl ?_
        refine g_aload_n (pc := 174) dX7_put_174 rfl trivial ?_
        refine g_invV_r (pc := 175) (As := []) dX7_put_175 rfl (r_size h6) rfl rfl (shK h6.1 rfl) rfl rfl lk_X7_71 rfl (nb rfl) ⟨nb rfl, nb rfl⟩ rfl ?_
        refine g_icmp_ge (pc := 178) (tgt := 210) dX7_put_178 rfl (fun h178 => absurd h178 (nI_ge hi (by omega))) (fun _ => ?_)
        refine g_iload (pc := 181) dX7_put_181 rfl ?_
        refine g_aload_n (pc := 183) dX7_put_183 rfl trivial ?_
        refine g_getf (pc := 184) dX7_put_184 fk_X7_34 (shK h6.1 rfl) (fv_arr (shR h6.1 rfl)) ?_
        refine g_iload (pc := 187) dX7_put_187 rfl ?_
        refine g_laload (pc := 189) dX7_put_189 (shK h6.1 rfl) rfl (by omega) (nl rfl) ?_
        rw [e6 i hi]
        refine g_aload_n (pc := 190) dX7_put_190 rfl trivial ?_
        refine g_getf (pc := 191) dX7_put_191 fk_X7_37 (shK h6.1 rfl) (fv_arr (shR h6.1 rfl)) ?_
        refine g_iload (pc := 194) dX7_put_194 rfl ?_
        refine g_laload (pc := 196) dX7_put_196 (shK h6.1 rfl) rfl (by omega) (nl rfl) ?_
        rw [e7 i hi]
        refine g_lxor (pc := 197) dX7_put_197 ?_
        rw [uL_xor]
        refine g_invS_r (pc := 198) (As := [_]) dX7_put_198 rfl (r_bitsOf) rfl rfl lk_X7_234 rfl (nb rfl) ⟨nb rfl, nb rfl⟩ rfl ?_
        refine g_iadd (pc := 201) dX7_put_201 ?_
        refine g_istore (pc := 202) (lv' := [(0, _), (6, _), (7, _)]) dX7_put_202 (nl rfl) rfl ?_
        refine g_iinc (pc := 204) (lv' := [(0, _), (6, _), (7, _)]) dX7_put_204 rfl (nI_1 _) (nl rfl) rfl ?_
        refine g_goto (pc := 207) (tgt := 172) dX7_put_207 rfl ?_
        exact ih
      · refine g_iload (pc := 172) dX7_put_172 rfl ?_
        refine g_aload_n (pc := 174) dX7_put_174 rfl trivial ?_
        refine g_invV_r (pc := 175) (As := []) dX7_put_175 rfl (r_size h6) rfl rfl (shK h6.1 rfl) rfl rfl lk_X7_71 rfl (nb rfl) ⟨nb rfl, nb rfl⟩ rfl ?_
        refine g_icmp_ge (pc := 178) (tgt := 210) dX7_put_178 rfl (fun _ => ?_) (fun h178 => absurd (nI_le (Nat.le_refl _) (by omega)) h178)
        refine g_iload (pc := 210) dX7_put_210 rfl ?_
        refine g_ireturn (pc := 212) dX7_put_212 rfl rfl ?_
        exact ⟨rfl, rfl⟩
  cases b with
  | true =>
    have hb0 : hb (A s r) q = false := by cases hz : hb (A s r) q with
      | false => rfl
      | true => exact absurd hz hb9
    refine g_aload_n (pc := 0) dX7_put_0 rfl trivial ?_
    refine g_aload_n (pc := 1) dX7_put_1 rfl trivial ?_
    refine g_iload_n (pc := 2) dX7_put_2 rfl ?_
    refine g_iload_n (pc := 3) dX7_put_3 rfl ?_
    refine g_invV_r (pc := 4) (As := [_, _]) dX7_put_4 rfl (r_areIn_t h (in6 hs) (inR_nI hr (by omega))) rfl rfl (shK hS rfl) rfl rfl lk_X7_223 rfl (nb rfl) ⟨nb rfl, nb rfl⟩ rfl ?_
    refine g_if_eq (pc := 7) (tgt := 22) dX7_put_7 rfl (fun h7 => absurd h7 ((by decide))) (fun _ => ?_)
    refine g_aload_n (pc := 10) dX7_put_10 rfl trivial ?_
    refine g_iload_n (pc := 11) dX7_put_11 rfl ?_
    refine g_invV_r (pc := 12) (As := [_]) dX7_put_12 rfl (r_isNode_t h (inR_nI hq (by omega))) rfl rfl (shK hS rfl) rfl rfl lk_X7_220 rfl (nb rfl) ⟨nb rfl, nb rfl⟩ rfl ?_
    refine g_if_eq (pc := 15) (tgt := 22) dX7_put_15 rfl (fun h15 => absurd h15 ((by decide))) (fun _ => ?_)
    refine g_iconst (pc := 18) (v := 1) dX7_put_18 rfl ?_
    refine g_goto (pc := 19) (tgt := 23) dX7_put_19 rfl ?_
    refine g_iconst (pc := 23) (v := 1) dX7_put_23 rfl ?_
    refine g_invV_r (pc := 24) (As := [_, _]) dX7_put_24 rfl (r_isThrown_0 hS) rfl rfl (shK hS rfl) rfl rfl lk_X7_209 rfl (nb rfl) ⟨nb rfl, nb rfl⟩ rfl ?_
    refine g_if_eq (pc := 27) (tgt := 32) dX7_put_27 rfl (fun _ => ?_) (fun h27 => absurd (rfl) h27)
    refine g_aload_n (pc := 32) dX7_put_32 rfl trivial ?_
    refine g_invV_r (pc := 33) (As := []) dX7_put_33 rfl (q1) rfl rfl (shK (h.thr (x := 0)).1 rfl) rfl rfl lk_X7_315 rfl (nb rfl) ⟨nb rfl, nb rfl⟩ rfl ?_
    refine g_aload_n (pc := 36) dX7_put_36 rfl trivial ?_
    refine g_iload_n (pc := 37) dX7_put_37 rfl ?_
    refine g_iload_n (pc := 38) dX7_put_38 rfl ?_
    refine g_invV_r (pc := 39) (As := [_, _]) dX7_put_39 rfl ((hrow M1 h1)) rfl rfl (shK h1.1 rfl) rfl rfl lk_X7_227 rfl (nb rfl) ⟨nb rfl, nb rfl⟩ rfl ?_
    refine g_iload_n (pc := 42) dX7_put_42 rfl ?_
    refine g_invS_r (pc := 43) (As := [_, _]) dX7_put_43 rfl (r_one (show q < 32 by omega)) rfl rfl lk_X7_231 rfl (nb rfl) ⟨nb rfl, nb rfl⟩ rfl ?_
    rw [hb0]
    refine g_iload (pc := 46) dX7_put_46 rfl ?_
    refine g_if_eq (pc := 48) (tgt := 55) dX7_put_48 rfl (fun h48 => absurd h48 ((by decide))) (fun _ => ?_)
    refine g_iconst (pc := 51) (v := 1) dX7_put_51 rfl ?_
    refine g_goto (pc := 52) (tgt := 56) dX7_put_52 rfl ?_
    refine g_icmp_ne (pc := 56) (tgt := 67) dX7_put_56 rfl (fun _ => ?_) (fun h56 => absurd ((by decide)) h56)
    exact g_sub (lv' := [(0, _), (1, _), (2, _), (3, _)]) ⟨rfl, rfl, rfl, rfl, trivial⟩ hmain
  | false =>
    have hb0 : hb (A s r) q = true := by cases hz : hb (A s r) q with
      | true => rfl
      | false => exact absurd hz hb9
    refine g_aload_n (pc := 0) dX7_put_0 rfl trivial ?_
    refine g_aload_n (pc := 1) dX7_put_1 rfl trivial ?_
    refine g_iload_n (pc := 2) dX7_put_2 rfl ?_
    refine g_iload_n (pc := 3) dX7_put_3 rfl ?_
    refine g_invV_r (pc := 4) (As := [_, _]) dX7_put_4 rfl (r_areIn_t h (in6 hs) (inR_nI hr (by omega))) rfl rfl (shK hS rfl) rfl rfl lk_X7_223 rfl (nb rfl) ⟨nb rfl, nb rfl⟩ rfl ?_
    refine g_if_eq (pc := 7) (tgt := 22) dX7_put_7 rfl (fun h7 => absurd h7 ((by decide))) (fun _ => ?_)
    refine g_aload_n (pc := 10) dX7_put_10 rfl trivial ?_
    refine g_iload_n (pc := 11) dX7_put_11 rfl ?_
    refine g_invV_r (pc := 12) (As := [_]) dX7_put_12 rfl (r_isNode_t h (inR_nI hq (by omega))) rfl rfl (shK hS rfl) rfl rfl lk_X7_220 rfl (nb rfl) ⟨nb rfl, nb rfl⟩ rfl ?_
    refine g_if_eq (pc := 15) (tgt := 22) dX7_put_15 rfl (fun h15 => absurd h15 ((by decide))) (fun _ => ?_)
    refine g_iconst (pc := 18) (v := 1) dX7_put_18 rfl ?_
    refine g_goto (pc := 19) (tgt := 23) dX7_put_19 rfl ?_
    refine g_iconst (pc := 23) (v := 1) dX7_put_23 rfl ?_
    refine g_invV_r (pc := 24) (As := [_, _]) dX7_put_24 rfl (r_isThrown_0 hS) rfl rfl (shK hS rfl) rfl rfl lk_X7_209 rfl (nb rfl) ⟨nb rfl, nb rfl⟩ rfl ?_
    refine g_if_eq (pc := 27) (tgt := 32) dX7_put_27 rfl (fun _ => ?_) (fun h27 => absurd (rfl) h27)
    refine g_aload_n (pc := 32) dX7_put_32 rfl trivial ?_
    refine g_invV_r (pc := 33) (As := []) dX7_put_33 rfl (q1) rfl rfl (shK (h.thr (x := 0)).1 rfl) rfl rfl lk_X7_315 rfl (nb rfl) ⟨nb rfl, nb rfl⟩ rfl ?_
    refine g_aload_n (pc := 36) dX7_put_36 rfl trivial ?_
    refine g_iload_n (pc := 37) dX7_put_37 rfl ?_
    refine g_iload_n (pc := 38) dX7_put_38 rfl ?_
    refine g_invV_r (pc := 39) (As := [_, _]) dX7_put_39 rfl ((hrow M1 h1)) rfl rfl (shK h1.1 rfl) rfl rfl lk_X7_227 rfl (nb rfl) ⟨nb rfl, nb rfl⟩ rfl ?_
    refine g_iload_n (pc := 42) dX7_put_42 rfl ?_
    refine g_invS_r (pc := 43) (As := [_, _]) dX7_put_43 rfl (r_one (show q < 32 by omega)) rfl rfl lk_X7_231 rfl (nb rfl) ⟨nb rfl, nb rfl⟩ rfl ?_
    rw [hb0]
    refine g_iload (pc := 46) dX7_put_46 rfl ?_
    refine g_if_eq (pc := 48) (tgt := 55) dX7_put_48 rfl (fun _ => ?_) (fun h48 => absurd (rfl) h48)
    refine g_iconst (pc := 55) (v := 0) dX7_put_55 rfl ?_
    refine g_icmp_ne (pc := 56) (tgt := 67) dX7_put_56 rfl (fun _ => ?_) (fun h56 => absurd ((by decide)) h56)
    exact g_sub (lv' := [(0, _), (1, _), (2, _), (3, _)]) ⟨rfl, rfl, rfl, rfl, trivial⟩ hmain
theorem t_put {v w u x : Int32} (h : Rr M n A) (hx : ¬ (inR v 6 ∧ inR w n ∧ inR u n)) : EvR l jX7_put 4 160 0 0 [.ref 198, .int v, .int w, .int u, .int x] M (.inl (some (.int 0))) (thr M 1) := by
  have hS := h.1
  refine ev_intro rfl (nb rfl) rfl ?_
  by_cases h1 : inR v 6 ∧ inR w n
  · refine g_aload_n (pc := 0) dX7_put_0 rfl trivial ?_
    refine g_aload_n (pc := 1) dX7_put_1 rfl trivial ?_
    refine g_iload_n (pc := 2) dX7_put_2 rfl ?_
    refine g_iload_n (pc := 3) dX7_put_3 rfl ?_
    refine g_invV_r (pc := 4) (As := [_, _]) dX7_put_4 rfl (r_areIn_t h h1.1 h1.2) rfl rfl (shK hS rfl) rfl rfl lk_X7_223 rfl (nb rfl) ⟨nb rfl, nb rfl⟩ rfl ?_
    refine g_if_eq (pc := 7) (tgt := 22) dX7_put_7 rfl (fun h7 => absurd h7 ((by decide))) (fun _ => ?_)
    refine g_aload_n (pc := 10) dX7_put_10 rfl trivial ?_
    refine g_iload_n (pc := 11) dX7_put_11 rfl ?_
    refine g_invV_r (pc := 12) (As := [_]) dX7_put_12 rfl (r_isNode_f h (fun q => hx ⟨h1.1, h1.2, q⟩)) rfl rfl (shK hS rfl) rfl rfl lk_X7_220 rfl (nb rfl) ⟨nb rfl, nb rfl⟩ rfl ?_
    refine g_if_eq (pc := 15) (tgt := 22) dX7_put_15 rfl (fun _ => ?_) (fun h15 => absurd (rfl) h15)
    refine g_iconst (pc := 22) (v := 0) dX7_put_22 rfl ?_
    refine g_iconst (pc := 23) (v := 1) dX7_put_23 rfl ?_
    refine g_invV_r (pc := 24) (As := [_, _]) dX7_put_24 rfl (r_isThrown_1 hS) rfl rfl (shK hS rfl) rfl rfl lk_X7_209 rfl (nb rfl) ⟨nb rfl, nb rfl⟩ rfl ?_
    refine g_if_eq (pc := 27) (tgt := 32) dX7_put_27 rfl (fun h27 => absurd h27 ((by decide))) (fun _ => ?_)
    refine g_iconst (pc := 30) (v := 0) dX7_put_30 rfl ?_
    refine g_ireturn (pc := 31) dX7_put_31 rfl rfl ?_
    exact ⟨rfl, rfl⟩
  · refine g_aload_n (pc := 0) dX7_put_0 rfl trivial ?_
    refine g_aload_n (pc := 1) dX7_put_1 rfl trivial ?_
    refine g_iload_n (pc := 2) dX7_put_2 rfl ?_
    refine g_iload_n (pc := 3) dX7_put_3 rfl ?_
    refine g_invV_r (pc := 4) (As := [_, _]) dX7_put_4 rfl (r_areIn_f h h1) rfl rfl (shK hS rfl) rfl rfl lk_X7_223 rfl (nb rfl) ⟨nb rfl, nb rfl⟩ rfl ?_
    refine g_if_eq (pc := 7) (tgt := 22) dX7_put_7 rfl (fun _ => ?_) (fun h7 => absurd (rfl) h7)
    refine g_iconst (pc := 22) (v := 0) dX7_put_22 rfl ?_
    refine g_iconst (pc := 23) (v := 1) dX7_put_23 rfl ?_
    refine g_invV_r (pc := 24) (As := [_, _]) dX7_put_24 rfl (r_isThrown_1 hS) rfl rfl (shK hS rfl) rfl rfl lk_X7_209 rfl (nb rfl) ⟨nb rfl, nb rfl⟩ rfl ?_
    refine g_if_eq (pc := 27) (tgt := 32) dX7_put_27 rfl (fun h27 => absurd h27 ((by decide))) (fun _ => ?_)
    refine g_iconst (pc := 30) (v := 0) dX7_put_30 rfl ?_
    refine g_ireturn (pc := 31) dX7_put_31 rfl rfl ?_
    exact ⟨rfl, rfl⟩
end

