-- 307.ri
section
/-! the reference: inverses; edges that are not needed -/
section
variable {l : Launch} {M : Mem} {n c : Nat} {A : Nat → Nat → Int32}
/-- elimination beside the unit -/
def ivR (M : Mem) (n : Nat) (f : Nat → Int32) : ES := elIt n (f, bitI, mI M 210, 0) n
theorem ivR_c (M : Mem) (n : Nat) (f : Nat → Int32) : (ivR M n f).2.2.2 ≤ n := by
  have := elIt_c n (f, bitI, mI M 210, 0) n
  unfold ivR; simp only at this; omega
theorem r_unitBeside {s t : Nat} {Q : Res → Mem → Prop} (h : Rr M n A) (hs : s < 6) (ht : t < 6) (kk : Go l jX7_invert 4 160 0 0 Q 54 [(0, .ref 198), (1, .int (nI s)), (2, .int (nI t))] [] 0 0 (sL (thr M 0) 209 (wr (mL (thr M 0) 209) (uR bitI) n))) : Go l jX7_invert 4 160 0 0 Q 0 [(0, .ref 198), (1, .int (nI s)), (2, .int (nI t))] [] 0 0 M := by
  have hn := h.2.2.2.1
  have hS := h.1
  have h1 : Rr (thr M 0) n A := h.thr
  have e0 : pI M 198 6 0 = thr M 0 := rfl
  have q0 := r_isThrown_0 (l := l) (x := 1) hS
  generalize thr M 0 = M1 at *
  refine g_aload_n (pc := 0) dX7_invert_0 rfl trivial ?_
  refine g_iload_n (pc := 1) dX7_invert_1 rfl ?_
  refine g_invS_r (pc := 2) (As := [_]) dX7_invert_2 rfl (r_isSlot_t (in6 hs)) rfl rfl lk_X7_216 rfl (nb rfl) ⟨nb rfl, nb rfl⟩ rfl ?_
  refine g_if_eq (pc := 5) (tgt := 19) dX7_invert_5 rfl (fun h5 => absurd h5 ((by decide))) (fun _ => ?_)
  refine g_iload_n (pc := 8) dX7_invert_8 rfl ?_
  refine g_invS_r (pc := 9) (As := [_]) dX7_invert_9 rfl (r_isSlot_t (in6 ht)) rfl rfl lk_X7_216 rfl (nb rfl) ⟨nb rfl, nb rfl⟩ rfl ?_
  refine g_if_eq (pc := 12) (tgt := 19) dX7_invert_12 rfl (fun h12 => absurd h12 ((by decide))) (fun _ => ?_)
  refine g_iconst (pc := 15) (v := 1) dX7_invert_15 rfl ?_
  refine g_goto (pc := 16) (tgt := 20) dX7_invert_16 rfl ?_
  refine g_iconst (pc := 20) (v := 1) dX7_invert_20 rfl ?_
  refine g_invV_r (pc := 21) (As := [_, _]) dX7_invert_21 rfl (q0) rfl rfl (shK hS rfl) rfl rfl lk_X7_209 rfl (nb rfl) ⟨nb rfl, nb rfl⟩ rfl ?_
  refine g_if_eq (pc := 24) (tgt := 29) dX7_invert_24 rfl (fun _ => ?_) (fun h24 => absurd (rfl) h24)
  refine g_iconst (pc := 29) (v := 0) dX7_invert_29 rfl ?_
  refine g_istore_n (pc := 30) (lv' := [(0, _), (1, _), (2, _), (3, _)]) dX7_invert_30 (nl rfl) rfl ?_
  refine go_loop (pc := 31) n (fun i => [(0, .ref 198), (1, .int (nI s)), (2, .int (nI t)), (3, .int (nI i))]) (fun i => sL M1 209 (wr (mL M1 209) (uR bitI) i)) ⟨rfl, rfl, rfl, rfl, trivial⟩ (sL_eq (wr_0 _ _)) ?_ ?_
  · intro i hi ih
    have h3 : Rr (sL M1 209 (wr (mL M1 209) (uR bitI) i)) n A := h1.sL (by decide)
    refine g_iload_n (pc := 31) dX7_invert_31 rfl ?_
    refine g_aload_n (pc := 32) dX7_invert_32 rfl trivial ?_
    refine g_invV_r (pc := 33) (As := []) dX7_invert_33 rfl (r_size h3) rfl rfl (shK h3.1 rfl) rfl rfl lk_X7_71 rfl (nb rfl) ⟨nb rfl, nb rfl⟩ rfl ?_
    refine g_icmp_ge (pc := 36) (tgt := 54) dX7_invert_36 rfl (fun h36 => absurd h36 (nI_ge hi (by omega))) (fun _ => ?_)
    refine g_aload_n (pc := 39) dX7_invert_39 rfl trivial ?_
    refine g_getf (pc := 40) dX7_invert_40 fk_X7_47 (shK h3.1 rfl) (fv_arr (shR h3.1 rfl)) ?_
    refine g_iload_n (pc := 43) dX7_invert_43 rfl ?_
    refine g_lconst (pc := 44) (v := 1) dX7_invert_44 rfl ?_
    refine g_iload_n (pc := 45) dX7_invert_45 rfl ?_
    refine g_lshl (pc := 46) dX7_invert_46 rfl ?_
    rw [sh_bit i (by omega)]
    refine g_lastore (pc := 47) dX7_invert_47 (shK h3.1 rfl) rfl (by omega) (nl rfl) ?_
    refine g_iinc (pc := 48) (lv' := [(0, _), (1, _), (2, _), (3, _)]) dX7_invert_48 rfl (nI_1 _) (nl rfl) rfl ?_
    refine g_goto (pc := 51) (tgt := 31) dX7_invert_51 rfl ?_
    exact go_cast (sL_st (wr_s _ (uR bitI) i)) ih
  · have h3 : Rr (sL M1 209 (wr (mL M1 209) (uR bitI) n)) n A := h1.sL (by decide)
    refine g_iload_n (pc := 31) dX7_invert_31 rfl ?_
    refine g_aload_n (pc := 32) dX7_invert_32 rfl trivial ?_
    refine g_invV_r (pc := 33) (As := []) dX7_invert_33 rfl (r_size h3) rfl rfl (shK h3.1 rfl) rfl rfl lk_X7_71 rfl (nb rfl) ⟨nb rfl, nb rfl⟩ rfl ?_
    refine g_icmp_ge (pc := 36) (tgt := 54) dX7_invert_36 rfl (fun _ => ?_) (fun h36 => absurd (nI_le (Nat.le_refl _) (by omega)) h36)
    exact g_sub (lv' := [(0, _), (1, _), (2, _)]) ⟨rfl, rfl, rfl, trivial⟩ kk
theorem o_invert {s t : Nat} (h : Rr M n A) (hs : s < 6) (ht : t < 6) (hsi : (ivR (thr M 0) n (A s)).2.2.2 < n) : EvR l jX7_invert 4 160 0 0 [.ref 198, .int (nI s), .int (nI t)] M (.inl (some (.int (-3)))) (rbM (thr M 0) n (ivR (thr M 0) n (A s))) := by
  have hn := h.2.2.2.1
  have h1 : Rr (thr M 0) n A := h.thr
  have h2 : Rr (sL (thr M 0) 209 (wr (mL (thr M 0) 209) (uR bitI) n)) n A := h1.sL (by decide)
  have q1 := r_reduces (l := l) (R := bitI) h2 hs (fun i hi => by rw [sL_self, wr_lt hi]; rfl)
  rw [rb_sL] at q1
  have q1 : EvR l jX7_reduces 2 60 0 0 [.ref 198, .int (nI s)] (sL (thr M 0) 209 (wr (mL (thr M 0) 209) (uR bitI) n)) (.inl none) (rbM (thr M 0) n (ivR (thr M 0) n (A s))) := q1
  have h3 := rb_R h1 (ivR (thr M 0) n (A s))
  have ec := rb_c (M := thr M 0) (n := n) (ivR (thr M 0) n (A s))
  generalize ivR (thr M 0) n (A s) = E at *
  generalize rbM (thr M 0) n E = M3 at *
  refine ev_intro rfl (nb rfl) rfl ?_
  refine r_unitBeside h hs ht ?_
  generalize sL (thr M 0) 209 (wr (mL (thr M 0) 209) (uR bitI) n) = M2 at *
  refine g_aload_n (pc := 54) dX7_invert_54 rfl trivial ?_
  refine g_iload_n (pc := 55) dX7_invert_55 rfl ?_
  refine g_invV_r (pc := 56) (As := [_]) dX7_invert_56 rfl (q1) rfl rfl (shK h2.1 rfl) rfl rfl lk_X7_303 rfl (nb rfl) ⟨nb rfl, nb rfl⟩ rfl ?_
  refine g_aload_n (pc := 59) dX7_invert_59 rfl trivial ?_
  refine g_getf (pc := 60) (v := .int _) dX7_invert_60 fk_X7_297 (shK h3.1 rfl) (fun _ => congrArg Value.int (ec)) ?_
  refine g_aload_n (pc := 63) dX7_invert_63 rfl trivial ?_
  refine g_invV_r (pc := 64) (As := []) dX7_invert_64 rfl (r_size h3) rfl rfl (shK h3.1 rfl) rfl rfl lk_X7_71 rfl (nb rfl) ⟨nb rfl, nb rfl⟩ rfl ?_
  refine g_icmp_ge (pc := 67) (tgt := 73) dX7_invert_67 rfl (fun h67 => absurd h67 (nI_ge hsi (by omega))) (fun _ => ?_)
  refine g_bipush (pc := 70) (v := (-3)) dX7_invert_70 rfl ?_
  refine g_ireturn (pc := 72) dX7_invert_72 rfl rfl ?_
  exact ⟨rfl, rfl⟩
/-- the memory behind an inverse -/
def inM (M : Mem) (n t : Nat) (f : Nat → Int32) (c : Nat) : Mem := lsM (kepM (rbM (thr M 0) n (ivR (thr M 0) n f)) c) t n (ivR (thr M 0) n f).2.1
theorem n_invert {s t : Nat} (h : Rr M n A) (hc : mI M 198 5 = nI c) (hc8 : c ≤ 8) (hs : s < 6) (ht : t < 6) (hsi : ¬ (ivR (thr M 0) n (A s)).2.2.2 < n) : EvR l jX7_invert 4 160 0 0 [.ref 198, .int (nI s), .int (nI t)] M (.inl (some (.int (onesF (ivR (thr M 0) n (A s)).2.1 n)))) (inM M n t (A s) c) := by
  have hn := h.2.2.2.1
  have h1 : Rr (thr M 0) n A := h.thr
  have h2 : Rr (sL (thr M 0) 209 (wr (mL (thr M 0) 209) (uR bitI) n)) n A := h1.sL (by decide)
  have q1 := r_reduces (l := l) (R := bitI) h2 hs (fun i hi => by rw [sL_self, wr_lt hi]; rfl)
  rw [rb_sL] at q1
  have q1 : EvR l jX7_reduces 2 60 0 0 [.ref 198, .int (nI s)] (sL (thr M 0) 209 (wr (mL (thr M 0) 209) (uR bitI) n)) (.inl none) (rbM (thr M 0) n (ivR (thr M 0) n (A s))) := q1
  have h3 := rb_R h1 (ivR (thr M 0) n (A s))
  have ec := rb_c (M := thr M 0) (n := n) (ivR (thr M 0) n (A s))
  have er := fun i (hi : i < n) => rb_r (M := thr M 0) (s := ivR (thr M 0) n (A s)) hi
  have ec5 : mI (rbM (thr M 0) n (ivR (thr M 0) n (A s))) 198 5 = nI c := by rw [rb_c0, fs_ne _ _ (by decide)]; exact (pI_k (by decide)).trans hc
  have hcn := ivR_c (thr M 0) n (A s)
  unfold inM
  generalize ivR (thr M 0) n (A s) = E at *
  generalize rbM (thr M 0) n E = M3 at *
  have q2 := r_keeps (l := l) h3 ec5 hc8
  have h4 : Rr (kepM M3 c) n A := kepM_R h3
  have q3 := r_lays (l := l) (x := 209) (f := E.2.1) h4 ht (shK h4.1 rfl) (by decide) (fun i hi => by rw [show mL (kepM M3 c) 209 = mL M3 209 from sL_ne (by decide)]; exact er i hi)
  generalize lsM (kepM M3 c) t n E.2.1 = M5 at *
  generalize kepM M3 c = M4 at *
  refine ev_intro rfl (nb rfl) rfl ?_
  refine r_unitBeside h hs ht ?_
  generalize sL (thr M 0) 209 (wr (mL (thr M 0) 209) (uR bitI) n) = M2 at *
  refine g_aload_n (pc := 54) dX7_invert_54 rfl trivial ?_
  refine g_iload_n (pc := 55) dX7_invert_55 rfl ?_
  refine g_invV_r (pc := 56) (As := [_]) dX7_invert_56 rfl (q1) rfl rfl (shK h2.1 rfl) rfl rfl lk_X7_303 rfl (nb rfl) ⟨nb rfl, nb rfl⟩ rfl ?_
  refine g_aload_n (pc := 59) dX7_invert_59 rfl trivial ?_
  refine g_getf (pc := 60) (v := .int _) dX7_invert_60 fk_X7_297 (shK h3.1 rfl) (fun _ => congrArg Value.int (ec)) ?_
  refine g_aload_n (pc := 63) dX7_invert_63 rfl trivial ?_
  refine g_invV_r (pc := 64) (As := []) dX7_invert_64 rfl (r_size h3) rfl rfl (shK h3.1 rfl) rfl rfl lk_X7_71 rfl (nb rfl) ⟨nb rfl, nb rfl⟩ rfl ?_
  refine g_icmp_ge (pc := 67) (tgt := 73) dX7_invert_67 rfl (fun _ => ?_) (fun h67 => absurd (nI_le (Nat.not_lt.mp hsi) (by omega)) h67)
  refine g_aload_n (pc := 73) dX7_invert_73 rfl trivial ?_
  refine g_invV_r (pc := 74) (As := []) dX7_invert_74 rfl (q2) rfl rfl (shK h3.1 rfl) rfl rfl lk_X7_315 rfl (nb rfl) ⟨nb rfl, nb rfl⟩ rfl ?_
  refine g_aload_n (pc := 77) dX7_invert_77 rfl trivial ?_
  refine g_aload_n (pc := 78) dX7_invert_78 rfl trivial ?_
  refine g_getf (pc := 79) dX7_invert_79 fk_X7_47 (shK h4.1 rfl) (fv_arr (shR h4.1 rfl)) ?_
  refine g_iload_n (pc := 82) dX7_invert_82 rfl ?_
  refine g_invV_r (pc := 83) (As := [_, _]) dX7_invert_83 rfl (q3) rfl rfl (shK h4.1 rfl) rfl rfl lk_X7_322 rfl (nb rfl) ⟨nb rfl, nb rfl⟩ rfl ?_
  refine g_ireturn (pc := 86) dX7_invert_86 rfl rfl ?_
  exact ⟨rfl, rfl⟩
theorem t_invert {v w : Int32} (h : Rr M n A) (hx : ¬ (inR v 6 ∧ inR w 6)) : EvR l jX7_invert 4 160 0 0 [.ref 198, .int v, .int w] M (.inl (some (.int 0))) (thr M 1) := by
  have hS := h.1
  refine ev_intro rfl (nb rfl) rfl ?_
  by_cases h1 : inR v 6
  · refine g_aload_n (pc := 0) dX7_invert_0 rfl trivial ?_
    refine g_iload_n (pc := 1) dX7_invert_1 rfl ?_
    refine g_invS_r (pc := 2) (As := [_]) dX7_invert_2 rfl (r_isSlot_t h1) rfl rfl lk_X7_216 rfl (nb rfl) ⟨nb rfl, nb rfl⟩ rfl ?_
    refine g_if_eq (pc := 5) (tgt := 19) dX7_invert_5 rfl (fun h5 => absurd h5 ((by decide))) (fun _ => ?_)
    refine g_iload_n (pc := 8) dX7_invert_8 rfl ?_
    refine g_invS_r (pc := 9) (As := [_]) dX7_invert_9 rfl (r_isSlot_f (fun q => hx ⟨h1, q⟩)) rfl rfl lk_X7_216 rfl (nb rfl) ⟨nb rfl, nb rfl⟩ rfl ?_
    refine g_if_eq (pc := 12) (tgt := 19) dX7_invert_12 rfl (fun _ => ?_) (fun h12 => absurd (rfl) h12)
    refine g_iconst (pc := 19) (v := 0) dX7_invert_19 rfl ?_
    refine g_iconst (pc := 20) (v := 1) dX7_invert_20 rfl ?_
    refine g_invV_r (pc := 21) (As := [_, _]) dX7_invert_21 rfl (r_isThrown_1 hS) rfl rfl (shK hS rfl) rfl rfl lk_X7_209 rfl (nb rfl) ⟨nb rfl, nb rfl⟩ rfl ?_
    refine g_if_eq (pc := 24) (tgt := 29) dX7_invert_24 rfl (fun h24 => absurd h24 ((by decide))) (fun _ => ?_)
    refine g_iconst (pc := 27) (v := 0) dX7_invert_27 rfl ?_
    refine g_ireturn (pc := 28) dX7_invert_28 rfl rfl ?_
    exact ⟨rfl, rfl⟩
  · refine g_aload_n (pc := 0) dX7_invert_0 rfl trivial ?_
    refine g_iload_n (pc := 1) dX7_invert_1 rfl ?_
    refine g_invS_r (pc := 2) (As := [_]) dX7_invert_2 rfl (r_isSlot_f h1) rfl rfl lk_X7_216 rfl (nb rfl) ⟨nb rfl, nb rfl⟩ rfl ?_
    refine g_if_eq (pc := 5) (tgt := 19) dX7_invert_5 rfl (fun _ => ?_) (fun h5 => absurd (rfl) h5)
    refine g_iconst (pc := 19) (v := 0) dX7_invert_19 rfl ?_
    refine g_iconst (pc := 20) (v := 1) dX7_invert_20 rfl ?_
    refine g_invV_r (pc := 21) (As := [_, _]) dX7_invert_21 rfl (r_isThrown_1 hS) rfl rfl (shK hS rfl) rfl rfl lk_X7_209 rfl (nb rfl) ⟨nb rfl, nb rfl⟩ rfl ?_
    refine g_if_eq (pc := 24) (tgt := 29) dX7_invert_24 rfl (fun h24 => absurd h24 ((by decide))) (fun _ => ?_)
    refine g_iconst (pc := 27) (v := 0) dX7_invert_27 rfl ?_
    refine g_ireturn (pc := 28) dX7_invert_28 rfl rfl ?_
    exact ⟨rfl, rfl⟩
def eqR (f g : Nat → Int32) (n : Nat) : Prop := ∀ i, i < n → f i = g i
theorem r_isSame_t {x y : Nat} {f g : Nat → Int32} (h : Rr M n A) (hx : isH x) (hy : isH y) (hf : ∀ i, i < n → mL M x i = uL (f i)) (hg : ∀ i, i < n → mL M y i = uL (g i)) (he : eqR f g n) : EvR l jX7_isSame 1 30 0 0 [.ref 198, .ref x, .ref y] M (.inl (some (.int 1))) M := by
  have hn := h.2.2.2.1
  have hS := h.1
  refine ev_intro rfl (nb rfl) rfl ?_
  refine g_iconst (pc := 0) (v := 0) dX7_isSame_0 rfl ?_
  refine g_istore_n (pc := 1) (lv' := [(0, _), (1, _), (2, _), (3, _)]) dX7_isSame_1 (nl rfl) rfl ?_
  refine go_loop (pc := 2) n (fun i => [(0, .ref 198), (1, .ref x), (2, .ref y), (3, .int (nI i))]) (fun i => M) ⟨rfl, rfl, rfl, rfl, trivial⟩ rfl ?_ ?_
  · intro i hi ih
    refine g_iload_n (pc := 2) dX7_isSame_2 rfl ?_
    refine g_aload_n (pc := 3) dX7_isSame_3 rfl trivial ?_
    refine g_invV_r (pc := 4) (As := []) dX7_isSame_4 rfl (r_size h) rfl rfl (shK hS rfl) rfl rfl lk_X7_71 rfl (nb rfl) ⟨nb rfl, nb rfl⟩ rfl ?_
    refine g_icmp_ge (pc := 7) (tgt := 28) dX7_isSame_7 rfl (fun h7 => absurd h7 (nI_ge hi (by omega))) (fun _ => ?_)
    refine g_aload_n (pc := 10) dX7_isSame_10 rfl trivial ?_
    refine g_iload_n (pc := 11) dX7_isSame_11 rfl ?_
    refine g_laload (pc := 12) dX7_isSame_12 (shK hS hx.k) rfl (by omega) (nl rfl) ?_
    rw [hf i hi]
    refine g_aload_n (pc := 13) dX7_isSame_13 rfl trivial ?_
    refine g_iload_n (pc := 14) dX7_isSame_14 rfl ?_
    refine g_laload (pc := 15) dX7_isSame_15 (shK hS hy.k) rfl (by omega) (nl rfl) ?_
    rw [hg i hi]
    refine g_lcmp (pc := 16) dX7_isSame_16 ?_
    refine g_if_eq (pc := 17) (tgt := 22) dX7_isSame_17 rfl (fun _ => ?_) (fun h17 => absurd ((lg_cmp_eq _ _).mpr (by rw [he i hi])) h17)
    refine g_iinc (pc := 22) (lv' := [(0, _), (1, _), (2, _), (3, _)]) dX7_isSame_22 rfl (nI_1 _) (nl rfl) rfl ?_
    refine g_goto (pc := 25) (tgt := 2) dX7_isSame_25 rfl ?_
    exact ih
  · refine g_iload_n (pc := 2) dX7_isSame_2 rfl ?_
    refine g_aload_n (pc := 3) dX7_isSame_3 rfl trivial ?_
    refine g_invV_r (pc := 4) (As := []) dX7_isSame_4 rfl (r_size h) rfl rfl (shK hS rfl) rfl rfl lk_X7_71 rfl (nb rfl) ⟨nb rfl, nb rfl⟩ rfl ?_
    refine g_icmp_ge (pc := 7) (tgt := 28) dX7_isSame_7 rfl (fun _ => ?_) (fun h7 => absurd (nI_le (Nat.le_refl _) (by omega)) h7)
    refine g_iconst (pc := 28) (v := 1) dX7_isSame_28 rfl ?_
    refine g_ireturn (pc := 29) dX7_isSame_29 rfl rfl ?_
    exact ⟨rfl, rfl⟩
theorem r_isSame_f {x y : Nat} {f g : Nat → Int32} (h : Rr M n A) (hx : isH x) (hy : isH y) (hf : ∀ i, i < n → mL M x i = uL (f i)) (hg : ∀ i, i < n → mL M y i = uL (g i)) (he : ¬ eqR f g n) : EvR l jX7_isSame 1 30 0 0 [.ref 198, .ref x, .ref y] M (.inl (some (.int 0))) M := by
  have hn := h.2.2.2.1
  have hS := h.1
  refine ev_intro rfl (nb rfl) rfl ?_
  refine g_iconst (pc := 0) (v := 0) dX7_isSame_0 rfl ?_
  refine g_istore_n (pc := 1) (lv' := [(0, _), (1, _), (2, _), (3, _)]) dX7_isSame_1 (nl rfl) rfl ?_
  refine go_while (pc := 2) (σ := Nat) (fun q => q ≤ n ∧ ∀ i, i < q → f i = g i) (fun q => n - q) (fun i => [(0, .ref 198), (1, .ref x), (2, .ref y), (3, .int (nI i))]) (fun i => M) 0 ⟨rfl, rfl, rfl, rfl, trivial⟩ rfl ⟨by omega, fun i hi => by omega⟩ ?_
  rintro i ⟨h1, h2⟩ ih
  by_cases hi : i < n
  · by_cases h9 : f i = g i
    · refine g_iload_n (pc := 2) dX7_isSame_2 rfl ?_
      refine g_aload_n (pc := 3) dX7_isSame_3 rfl trivial ?_
      refine g_invV_r (pc := 4) (As := []) dX7_isSame_4 rfl (r_size h) rfl rfl (shK hS rfl) rfl rfl lk_X7_71 rfl (nb rfl) ⟨nb rfl, nb rfl⟩ rfl ?_
      refine g_icmp_ge (pc := 7) (tgt := 28) dX7_isSame_7 rfl (fun h7 => absurd h7 (nI_ge hi (by omega))) (fun _ => ?_)
      refine g_aload_n (pc := 10) dX7_isSame_10 rfl trivial ?_
      refine g_iload_n (pc := 11) dX7_isSame_11 rfl ?_
      refine g_laload (pc := 12) dX7_isSame_12 (shK hS hx.k) rfl (by omega) (nl rfl) ?_
      rw [hf i hi]
      refine g_aload_n (pc := 13) dX7_isSame_13 rfl trivial ?_
      refine g_iload_n (pc := 14) dX7_isSame_14 rfl ?_
      refine g_laload (pc := 15) dX7_isSame_15 (shK hS hy.k) rfl (by omega) (nl rfl) ?_
      rw [hg i hi]
      refine g_lcmp (pc := 16) dX7_isSame_16 ?_
      refine g_if_eq (pc := 17) (tgt := 22) dX7_isSame_17 rfl (fun _ => ?_) (fun h17 => absurd ((lg_cmp_eq _ _).mpr (by rw [h9])) h17)
      refine g_iinc (pc := 22) (lv' := [(0, _), (1, _), (2, _), (3, _)]) dX7_isSame_22 rfl (nI_1 _) (nl rfl) rfl ?_
      refine g_goto (pc := 25) (tgt := 2) dX7_isSame_25 rfl ?_
      exact ih (i + 1) ⟨hi, fun j hj => (by omega : j < i ∨ j = i).elim (h2 j) (fun e => e ▸ h9)⟩ (by omega)
    · refine g_iload_n (pc := 2) dX7_isSame_2 rfl ?_
      refine g_aload_n (pc := 3) dX7_isSame_3 rfl trivial ?_
      refine g_invV_r (pc := 4) (As := []) dX7_isSame_4 rfl (r_size h) rfl rfl (shK hS rfl) rfl rfl lk_X7_71 rfl (nb rfl) ⟨nb rfl, nb rfl⟩ rfl ?_
      refine g_icmp_ge (pc := 7) (tgt := 28) dX7_isSame_7 rfl (fun h7 => absurd h7 (nI_ge hi (by omega))) (fun _ => ?_)
      refine g_aload_n (pc := 10) dX7_isSame_10 rfl trivial ?_
      refine g_iload_n (pc := 11) dX7_isSame_11 rfl ?_
      refine g_laload (pc := 12) dX7_isSame_12 (shK hS hx.k) rfl (by omega) (nl rfl) ?_
      rw [hf i hi]
      refine g_aload_n (pc := 13) dX7_isSame_13 rfl trivial ?_
      refine g_iload_n (pc := 14) dX7_isSame_14 rfl ?_
      refine g_laload (pc := 15) dX7_isSame_15 (shK hS hy.k) rfl (by omega) (nl rfl) ?_
      rw [hg i hi]
      refine g_lcmp (pc := 16) dX7_isSame_16 ?_
      refine g_if_eq (pc := 17) (tgt := 22) dX7_isSame_17 rfl (fun h17 => absurd h17 ((fun z => h9 (uL_inj.mp ((lg_cmp_eq _ _).mp z))))) (fun _ => ?_)
      refine g_iconst (pc := 20) (v := 0) dX7_isSame_20 rfl ?_
      refine g_ireturn (pc := 21) dX7_isSame_21 rfl rfl ?_
      exact ⟨rfl, rfl⟩
  · have : i = n := by omega
    subst this
    exact absurd h2 he
def eqB (f g : Nat → Int32) : Nat → Bool
  | 0 => true
  | k + 1 => eqB f g k && decide (f k = g k)
theorem eqB_iff (f g : Nat → Int32) : ∀ k, eqB f g k = true ↔ eqR f g k
  | 0 => ⟨fun _ i hi => by omega, fun _ => rfl⟩
  | k + 1 => by
    rw [eqB, Bool.and_eq_true, eqB_iff f g k, decide_eq_true_iff]
    constructor
    · rintro ⟨h1, h2⟩ i hi
      by_cases e : i = k
      · rw [e]; exact h2
      · exact h1 i (by omega)
    · intro h; exact ⟨fun i hi => h i (by omega), h k (by omega)⟩
/-- is an edge there that is not needed -/
def rcB (f : Nat → Int32) (n a b : Nat) (g : Nat → Int32) : Bool := hb (g a) b && eqB (wOut (tnF g a b) n n) (wOut f n n) n
/-- what is left of the edges behind k places -/
def rcF (f : Nat → Int32) (n : Nat) : Nat → Nat → Int32
  | 0 => f
  | k + 1 => if rcB f n (k / n) (k % n) (rcF f n k) = true then tnF (rcF f n k) (k / n) (k % n) else rcF f n k
/-- the second array by then -/
def rcO (w : Nat → Int64) (n : Nat) (F : Nat → Nat → Int32) : Nat → Nat → Int64
  | 0 => w
  | k + 1 => if hb (F k (k / n)) (k % n) = true then wr (rcO w n F k) (uR (wOut (tnF (F k) (k / n) (k % n)) n n)) n else rcO w n F k
theorem dvn : ∀ n, n < 33 → ∀ k, k < n * n → nI k / nI n = nI (k / n) ∧ nI k - nI k / nI n * nI n = nI (k % n) := fun n hn k hk => by
  have hk2 : k < 33 * 33 := Nat.lt_of_lt_of_le hk (Nat.mul_le_mul (show n ≤ 33 by omega) (show n ≤ 33 by omega))
  have e : nI k / nI n = nI (k / n) := (Int32.ofNat_div (a := k) (b := n) (by omega) (by omega)).symm
  have h1 := Nat.div_add_mod k n
  rw [Nat.mul_comm] at h1
  refine ⟨e, ?_⟩
  rw [e, nI_mul, nI_sub' (Nat.div_mul_le_self k n)]
  congr 1
  generalize k / n * n = a at *
  generalize k % n = b at *
  omega
/-- the memory behind k places -/
def rcM (M : Mem) (n : Nat) (f : Nat → Int32) (k : Nat) : Mem := sL (hdM (hdM M 207 n (rcF f n k)) 205 n (wOut f n n)) 206 (rcO (mL M 206) n (rcF f n) k)
theorem rcM_R {f : Nat → Int32} {k : Nat} (h : Rr M n A) : Rr (rcM M n f k) n A := Rr.sL ((h.hd (Or.inr (Or.inr rfl))).hd (Or.inl rfl)) (by decide)
theorem rcM_7 {f : Nat → Int32} {k i : Nat} (hi : i < n) : mL (rcM M n f k) 207 i = uL (rcF f n k i) := by unfold rcM; rw [sL_ne (by decide), hdM_ne (by decide)]; exact hdM_at hi
theorem rcM_5 {f : Nat → Int32} {k i : Nat} (hi : i < n) : mL (rcM M n f k) 205 i = uL (wOut f n n i) := by unfold rcM; rw [sL_ne (by decide)]; exact hdM_at hi
theorem hdM_comm {x y : Nat} {f g : Nat → Int32} (h : x ≠ y) : hdM (hdM M x n f) y n g = hdM (hdM M y n g) x n f := by
  unfold hdM
  rw [sL_ne (Ne.symm h), sL_ne h, sL_comm h]
theorem rd_st {f g : Nat → Int32} {w : Nat → Int64} {X : Mem} : hdM (sL X 206 w) 206 n g = sL X 206 (wr w (uR g) n) := by unfold hdM; rw [sL_self, sL_2]
theorem rd_207 {f g W : Nat → Int32} {w : Nat → Int64} {i : Nat} {v : Int32} (hi : i < n) : pL (sL (hdM (hdM M 207 n f) 205 n W) 206 w) 207 i (uL v) = sL (hdM (hdM M 207 n (fun_set f i v)) 205 n W) 206 w := by
  show sL (sL (hdM (hdM M 207 n f) 205 n W) 206 w) 207 (fun_set (mL (sL (hdM (hdM M 207 n f) 205 n W) 206 w) 207) i (uL v)) = _
  rw [sL_ne (by decide), hdM_ne (by decide), hdM_0, wr_set hi, sL_comm (show 206 ≠ 207 by decide)]
  congr 1
  unfold hdM
  rw [sL_comm (show 205 ≠ 207 by decide), sL_2, sL_ne (show 205 ≠ 207 by decide), sL_ne (show 205 ≠ 207 by decide)]
theorem n_reduce {s t : Nat} (h : Rr M n A) (hc : mI M 198 5 = nI c) (hc8 : c ≤ 8) (hs : s < 6) (ht : t < 6) : EvR l jX7_reduce 4 160 0 0 [.ref 198, .int (nI s), .int (nI t)] M (.inl (some (.int (onesF (rcF (A s) n (n * n)) n)))) (lsM (rcM (k0M M c) n (A s) (n * n)) t n (rcF (A s) n (n * n))) := by
  have hn := h.2.2.2.1
  have hS := h.1
  have h0 := h.2.2.1
  have hnn : n * n ≤ 1024 := Nat.mul_le_mul hn hn
  have q1 := r_k0 (l := l) h hc hc8
  have h1 : Rr (k0M M c) n A := k0M_R h
  have q2 := r_takes (l := l) (x := 207) h1 hs (Or.inr (Or.inr rfl))
  have h2 : Rr (hdM (k0M M c) 207 n (A s)) n A := h1.hd (Or.inr (Or.inr rfl))
  have q3 := r_closure (l := l) h2 hs
  have h4 := rcM_R (f := A s) (k := n * n) h1
  have q4 := r_lays (l := l) (x := 207) (f := rcF (A s) n (n * n)) h4 ht (shK h4.1 rfl) (by decide) (fun i hi => rcM_7 hi)
  have e3 : hdM (hdM (k0M M c) 207 n (A s)) 205 n (wOut (A s) n n) = rcM (k0M M c) n (A s) 0 := by
    unfold rcM
    rw [rcF, rcO]
    exact sL_eq (by rw [hdM_ne (by decide), hdM_ne (by decide)])
  generalize A s = f at *
  generalize k0M M c = M1 at *
  refine ev_intro rfl (nb rfl) rfl ?_
  refine g_aload_n (pc := 0) dX7_reduce_0 rfl trivial ?_
  refine g_iload_n (pc := 1) dX7_reduce_1 rfl ?_
  refine g_invS_r (pc := 2) (As := [_]) dX7_reduce_2 rfl (r_isSlot_t (in6 hs)) rfl rfl lk_X7_216 rfl (nb rfl) ⟨nb rfl, nb rfl⟩ rfl ?_
  refine g_if_eq (pc := 5) (tgt := 19) dX7_reduce_5 rfl (fun h5 => absurd h5 ((by decide))) (fun _ => ?_)
  refine g_iload_n (pc := 8) dX7_reduce_8 rfl ?_
  refine g_invS_r (pc := 9) (As := [_]) dX7_reduce_9 rfl (r_isSlot_t (in6 ht)) rfl rfl lk_X7_216 rfl (nb rfl) ⟨nb rfl, nb rfl⟩ rfl ?_
  refine g_if_eq (pc := 12) (tgt := 19) dX7_reduce_12 rfl (fun h12 => absurd h12 ((by decide))) (fun _ => ?_)
  refine g_iconst (pc := 15) (v := 1) dX7_reduce_15 rfl ?_
  refine g_goto (pc := 16) (tgt := 20) dX7_reduce_16 rfl ?_
  refine g_iconst (pc := 20) (v := 1) dX7_reduce_20 rfl ?_
  refine g_invV_r (pc := 21) (As := [_, _]) dX7_reduce_21 rfl (r_isThrown_0 hS) rfl rfl (shK hS rfl) rfl rfl lk_X7_209 rfl (nb rfl) ⟨nb rfl, nb rfl⟩ rfl ?_
  refine g_if_eq (pc := 24) (tgt := 29) dX7_reduce_24 rfl (fun _ => ?_) (fun h24 => absurd (rfl) h24)
  refine g_aload_n (pc := 29) dX7_reduce_29 rfl trivial ?_
  refine g_invV_r (pc := 30) (As := []) dX7_reduce_30 rfl (q1) rfl rfl (shK (h.thr (x := 0)).1 rfl) rfl rfl lk_X7_315 rfl (nb rfl) ⟨nb rfl, nb rfl⟩ rfl ?_
  refine g_aload_n (pc := 33) dX7_reduce_33 rfl trivial ?_
  refine g_iload_n (pc := 34) dX7_reduce_34 rfl ?_
  refine g_aload_n (pc := 35) dX7_reduce_35 rfl trivial ?_
  refine g_getf (pc := 36) dX7_reduce_36 fk_X7_40 (shK h1.1 rfl) (fv_arr (shR h1.1 rfl)) ?_
  refine g_invV_r (pc := 39) (As := [_, _]) dX7_reduce_39 rfl (q2) rfl rfl (shK h1.1 rfl) rfl rfl lk_X7_252 rfl (nb rfl) ⟨nb rfl, nb rfl⟩ rfl ?_
  refine g_aload_n (pc := 42) dX7_reduce_42 rfl trivial ?_
  refine g_iload_n (pc := 43) dX7_reduce_43 rfl ?_
  refine g_invV_r (pc := 44) (As := [_]) dX7_reduce_44 rfl (q3) rfl rfl (shK h2.1 rfl) rfl rfl lk_X7_260 rfl (nb rfl) ⟨nb rfl, nb rfl⟩ rfl ?_
  refine g_iconst (pc := 47) (v := 0) dX7_reduce_47 rfl ?_
  refine g_istore_n (pc := 48) (lv' := [(0, _), (1, _), (2, _), (3, _)]) dX7_reduce_48 (nl rfl) rfl ?_
  refine go_loop (pc := 49) (n * n) (fun k => [(0, .ref 198), (1, .int (nI s)), (2, .int (nI t)), (3, .int (nI k))]) (fun k => rcM M1 n f k) ⟨rfl, rfl, rfl, rfl, trivial⟩ e3 ?_ ?_
  · intro k hk ih
    obtain ⟨d1, d2⟩ := dvn n (by omega) k hk
    have ha : k / n < n := (Nat.div_lt_iff_lt_mul (by omega)).mpr hk
    have hb9 : k % n < n := Nat.mod_lt _ (by omega)
    have h5 : Rr (rcM M1 n f k) n A := rcM_R h1
    have e57 := fun i (hi : i < n) => rcM_7 (M := M1) (f := f) (k := k) hi
    have e55 := fun i (hi : i < n) => rcM_5 (M := M1) (f := f) (k := k) hi
    have hne0 : ¬ nI n = 0 := nI_ne0 (by omega) (by omega)
    have q5 := r_moves (l := l) (x := 207) (y := 206) (f := rcF f n k) h5 (Or.inr (Or.inr rfl)) (Or.inr (Or.inl rfl)) (by decide) (fun i hi => rcM_7 hi)
    have h6 : Rr (hdM (rcM M1 n f k) 206 n (rcF f n k)) n A := h5.hd (Or.inr (Or.inl rfl))
    have e66 : mL (hdM (rcM M1 n f k) 206 n (rcF f n k)) 206 (k / n) = uL (rcF f n k (k / n)) := hdM_at ha
    have e6t : pL (hdM (rcM M1 n f k) 206 n (rcF f n k)) 206 (k / n) (uL (rcF f n k (k / n) ^^^ bitI (k % n))) = hdM (rcM M1 n f k) 206 n (tnF (rcF f n k) (k / n) (k % n)) := hdM_st ha
    have h7 : Rr (hdM (rcM M1 n f k) 206 n (tnF (rcF f n k) (k / n) (k % n))) n A := h5.hd (Or.inr (Or.inl rfl))
    have q7 := r_closes (l := l) (x := 206) (f := tnF (rcF f n k) (k / n) (k % n)) h7 (Or.inr (Or.inl rfl)) (fun i hi => hdM_at hi)
    rw [hdM_2] at q7
    have h8 : Rr (hdM (rcM M1 n f k) 206 n (wOut (tnF (rcF f n k) (k / n) (k % n)) n n)) n A := h5.hd (Or.inr (Or.inl rfl))
    have e8 : hdM (rcM M1 n f k) 206 n (wOut (tnF (rcF f n k) (k / n) (k % n)) n n) = sL (hdM (hdM M1 207 n (rcF f n k)) 205 n (wOut f n n)) 206 (wr (rcO (mL M1 206) n (rcF f n) k) (uR (wOut (tnF (rcF f n k) (k / n) (k % n)) n n)) n) := by unfold rcM; exact rd_st (f := f)
    have e86 : ∀ i, i < n → mL (hdM (rcM M1 n f k) 206 n (wOut (tnF (rcF f n k) (k / n) (k % n)) n n)) 206 i = uL (wOut (tnF (rcF f n k) (k / n) (k % n)) n n i) := fun i hi => hdM_at hi
    have e85 : ∀ i, i < n → mL (hdM (rcM M1 n f k) 206 n (wOut (tnF (rcF f n k) (k / n) (k % n)) n n)) 205 i = uL (wOut f n n i) := fun i hi => by rw [hdM_ne (by decide)]; exact rcM_5 hi
    have e87 : mL (hdM (rcM M1 n f k) 206 n (wOut (tnF (rcF f n k) (k / n) (k % n)) n n)) 207 (k / n) = uL (rcF f n k (k / n)) := by rw [hdM_ne (by decide)]; exact rcM_7 ha
    have qs_t := fun he => r_isSame_t (l := l) (x := 206) (y := 205) h8 (Or.inr (Or.inl rfl)) (Or.inl rfl) e86 e85 he
    have qs_f := fun he => r_isSame_f (l := l) (x := 206) (y := 205) h8 (Or.inr (Or.inl rfl)) (Or.inl rfl) e86 e85 he
    have e8t : pL (hdM (rcM M1 n f k) 206 n (wOut (tnF (rcF f n k) (k / n) (k % n)) n n)) 207 (k / n) (uL (rcF f n k (k / n) ^^^ bitI (k % n))) = sL (hdM (hdM M1 207 n (tnF (rcF f n k) (k / n) (k % n))) 205 n (wOut f n n)) 206 (wr (rcO (mL M1 206) n (rcF f n) k) (uR (wOut (tnF (rcF f n k) (k / n) (k % n)) n n)) n) := by rw [e8]; exact rd_207 (g := f) ha
    have eN : rcM M1 n f (k + 1) = sL (hdM (hdM M1 207 n (if rcB f n (k / n) (k % n) (rcF f n k) = true then tnF (rcF f n k) (k / n) (k % n) else rcF f n k)) 205 n (wOut f n n)) 206 (if hb (rcF f n k (k / n)) (k % n) = true then wr (rcO (mL M1 206) n (rcF f n) k) (uR (wOut (tnF (rcF f n k) (k / n) (k % n)) n n)) n else rcO (mL M1 206) n (rcF f n) k) := rfl
    have eK : rcM M1 n f k = sL (hdM (hdM M1 207 n (rcF f n k)) 205 n (wOut f n n)) 206 (rcO (mL M1 206) n (rcF f n) k) := rfl
    rw [eN] at ih
    cases hb7 : hb (rcF f n k (k / n)) (k % n) with
    | false =>
      have hB : ¬ rcB f n (k / n) (k % n) (rcF f n k) = true := by unfold rcB; rw [hb7]; simp
      rw [hb7, if_neg hB, if_neg (by decide), ← eK] at ih
      generalize rcM M1 n f k = M5 at *
      refine g_iload_n (pc := 49) dX7_reduce_49 rfl ?_
      refine g_aload_n (pc := 50) dX7_reduce_50 rfl trivial ?_
      refine g_invV_r (pc := 51) (As := []) dX7_reduce_51 rfl (r_size h5) rfl rfl (shK h5.1 rfl) rfl rfl lk_X7_71 rfl (nb rfl) ⟨nb rfl, nb rfl⟩ rfl ?_
      refine g_aload_n (pc := 54) dX7_reduce_54 rfl trivial ?_
      refine g_invV_r (pc := 55) (As := []) dX7_reduce_55 rfl (r_size h5) rfl rfl (shK h5.1 rfl) rfl rfl lk_X7_71 rfl (nb rfl) ⟨nb rfl, nb rfl⟩ rfl ?_
      refine g_imul (pc := 58) dX7_reduce_58 ?_
      rw [nI_mul]
      refine g_icmp_ge (pc := 59) (tgt := 165) dX7_reduce_59 rfl (fun h59 => absurd h59 (nI_ge hk (by omega))) (fun _ => ?_)
      refine g_iload_n (pc := 62) dX7_reduce_62 rfl ?_
      refine g_aload_n (pc := 63) dX7_reduce_63 rfl trivial ?_
      refine g_invV_r (pc := 64) (As := []) dX7_reduce_64 rfl (r_size h5) rfl rfl (shK h5.1 rfl) rfl rfl lk_X7_71 rfl (nb rfl) ⟨nb rfl, nb rfl⟩ rfl ?_
      refine g_idiv (pc := 67) dX7_reduce_67 hne0 ?_
      rw [d1]
      refine g_istore (pc := 68) (lv' := [(0, _), (1, _), (2, _), (3, _), (4, _)]) dX7_reduce_68 (nl rfl) rfl ?_
      refine g_iload_n (pc := 70) dX7_reduce_70 rfl ?_
      refine g_aload_n (pc := 71) dX7_reduce_71 rfl trivial ?_
      refine g_invV_r (pc := 72) (As := []) dX7_reduce_72 rfl (r_size h5) rfl rfl (shK h5.1 rfl) rfl rfl lk_X7_71 rfl (nb rfl) ⟨nb rfl, nb rfl⟩ rfl ?_
      refine g_irem (pc := 75) dX7_reduce_75 hne0 ?_
      rw [d2]
      refine g_istore (pc := 76) (lv' := [(0, _), (1, _), (2, _), (3, _), (4, _), (5, _)]) dX7_reduce_76 (nl rfl) rfl ?_
      refine g_aload_n (pc := 78) dX7_reduce_78 rfl trivial ?_
      refine g_getf (pc := 79) dX7_reduce_79 fk_X7_40 (shK h5.1 rfl) (fv_arr (shR h5.1 rfl)) ?_
      refine g_iload (pc := 82) dX7_reduce_82 rfl ?_
      refine g_laload (pc := 84) dX7_reduce_84 (shK h5.1 rfl) rfl (by omega) (nl rfl) ?_
      rw [e57 _ ha]
      refine g_iload (pc := 85) dX7_reduce_85 rfl ?_
      refine g_invS_r (pc := 87) (As := [_, _]) dX7_reduce_87 rfl (r_one (show k % n < 32 by omega)) rfl rfl lk_X7_231 rfl (nb rfl) ⟨nb rfl, nb rfl⟩ rfl ?_
      rw [hb7]
      refine g_if_ne (pc := 90) (tgt := 96) dX7_reduce_90 rfl (fun h90 => absurd h90 ((fun z => z rfl))) (fun _ => ?_)
      refine g_goto (pc := 93) (tgt := 159) dX7_reduce_93 rfl ?_
      refine g_iinc (pc := 159) (lv' := [(0, _), (1, _), (2, _), (3, _), (4, _), (5, _)]) dX7_reduce_159 rfl (nI_1 _) (nl rfl) rfl ?_
      refine g_goto (pc := 162) (tgt := 49) dX7_reduce_162 rfl ?_
      exact g_sub (lv' := [(0, _), (1, _), (2, _), (3, _)]) ⟨rfl, rfl, rfl, rfl, trivial⟩ ih
    | true =>
      cases hq : eqB (wOut (tnF (rcF f n k) (k / n) (k % n)) n n) (wOut f n n) n with
      | true =>
        have hB : rcB f n (k / n) (k % n) (rcF f n k) = true := by unfold rcB; rw [hb7, hq]; rfl
        have qs := qs_t ((eqB_iff _ _ _).mp hq)
        rw [hb7, if_pos hB, if_pos rfl, ← e8t] at ih
        generalize hdM (rcM M1 n f k) 206 n (wOut (tnF (rcF f n k) (k / n) (k % n)) n n) = M8 at *
        generalize hdM (rcM M1 n f k) 206 n (tnF (rcF f n k) (k / n) (k % n)) = M7 at *
        generalize hdM (rcM M1 n f k) 206 n (rcF f n k) = M6 at *
        generalize rcM M1 n f k = M5 at *
        refine g_iload_n (pc := 49) dX7_reduce_49 rfl ?_
        refine g_aload_n (pc := 50) dX7_reduce_50 rfl trivial ?_
        refine g_invV_r (pc := 51) (As := []) dX7_reduce_51 rfl (r_size h5) rfl rfl (shK h5.1 rfl) rfl rfl lk_X7_71 rfl (nb rfl) ⟨nb rfl, nb rfl⟩ rfl ?_
        refine g_aload_n (pc := 54) dX7_reduce_54 rfl trivial ?_
        refine g_invV_r (pc := 55) (As := []) dX7_reduce_55 rfl (r_size h5) rfl rfl (shK h5.1 rfl) rfl rfl lk_X7_71 rfl (nb rfl) ⟨nb rfl, nb rfl⟩ rfl ?_
        refine g_imul (pc := 58) dX7_reduce_58 ?_
        rw [nI_mul]
        refine g_icmp_ge (pc := 59) (tgt := 165) dX7_reduce_59 rfl (fun h59 => absurd h59 (nI_ge hk (by omega))) (fun _ => ?_)
        refine g_iload_n (pc := 62) dX7_reduce_62 rfl ?_
        refine g_aload_n (pc := 63) dX7_reduce_63 rfl trivial ?_
        refine g_invV_r (pc := 64) (As := []) dX7_reduce_64 rfl (r_size h5) rfl rfl (shK h5.1 rfl) rfl rfl lk_X7_71 rfl (nb rfl) ⟨nb rfl, nb rfl⟩ rfl ?_
        refine g_idiv (pc := 67) dX7_reduce_67 hne0 ?_
        rw [d1]
        refine g_istore (pc := 68) (lv' := [(0, _), (1, _), (2, _), (3, _), (4, _)]) dX7_reduce_68 (nl rfl) rfl ?_
        refine g_iload_n (pc := 70) dX7_reduce_70 rfl ?_
        refine g_aload_n (pc := 71) dX7_reduce_71 rfl trivial ?_
        refine g_invV_r (pc := 72) (As := []) dX7_reduce_72 rfl (r_size h5) rfl rfl (shK h5.1 rfl) rfl rfl lk_X7_71 rfl (nb rfl) ⟨nb rfl, nb rfl⟩ rfl ?_
        refine g_irem (pc := 75) dX7_reduce_75 hne0 ?_
        rw [d2]
        refine g_istore (pc := 76) (lv' := [(0, _), (1, _), (2, _), (3, _), (4, _), (5, _)]) dX7_reduce_76 (nl rfl) rfl ?_
        refine g_aload_n (pc := 78) dX7_reduce_78 rfl trivial ?_
        refine g_getf (pc := 79) dX7_reduce_79 fk_X7_40 (shK h5.1 rfl) (fv_arr (shR h5.1 rfl)) ?_
        refine g_iload (pc := 82) dX7_reduce_82 rfl ?_
        refine g_laload (pc := 84) dX7_reduce_84 (shK h5.1 rfl) rfl (by omega) (nl rfl) ?_
        rw [e57 _ ha]
        refine g_iload (pc := 85) dX7_reduce_85 rfl ?_
        refine g_invS_r (pc := 87) (As := [_, _]) dX7_reduce_87 rfl (r_one (show k % n < 32 by omega)) rfl rfl lk_X7_231 rfl (nb rfl) ⟨nb rfl, nb rfl⟩ rfl ?_
        rw [hb7]
        refine g_if_ne (pc := 90) (tgt := 96) dX7_reduce_90 rfl (fun _ => ?_) (fun h90 => absurd ((by decide)) h90)
        refine g_aload_n (pc := 96) dX7_reduce_96 rfl trivial ?_
        refine g_aload_n (pc := 97) dX7_reduce_97 rfl trivial ?_
        refine g_getf (pc := 98) dX7_reduce_98 fk_X7_40 (shK h5.1 rfl) (fv_arr (shR h5.1 rfl)) ?_
        refine g_aload_n (pc := 101) dX7_reduce_101 rfl trivial ?_
        refine g_getf (pc := 102) dX7_reduce_102 fk_X7_37 (shK h5.1 rfl) (fv_arr (shR h5.1 rfl)) ?_
        refine g_invV_r (pc := 105) (As := [_, _]) dX7_reduce_105 rfl (q5) rfl rfl (shK h5.1 rfl) rfl rfl lk_X7_339 rfl (nb rfl) ⟨nb rfl, nb rfl⟩ rfl ?_
        refine g_aload_n (pc := 108) dX7_reduce_108 rfl trivial ?_
        refine g_getf (pc := 109) dX7_reduce_109 fk_X7_37 (shK h6.1 rfl) (fv_arr (shR h6.1 rfl)) ?_
        refine g_iload (pc := 112) dX7_reduce_112 rfl ?_
        refine g_dup2_11 (pc := 114) dX7_reduce_114 rfl rfl ?_
        refine g_laload (pc := 115) dX7_reduce_115 (shK h6.1 rfl) rfl (show k / n < 32 by omega) (nl rfl) ?_
        rw [e66]
        refine g_lconst (pc := 116) (v := 1) dX7_reduce_116 rfl ?_
        refine g_iload (pc := 117) dX7_reduce_117 rfl ?_
        refine g_lshl (pc := 119) dX7_reduce_119 rfl ?_
        rw [sh_bit (k % n) (by omega)]
        refine g_lxor (pc := 120) dX7_reduce_120 ?_
        rw [uL_xor]
        refine g_lastore (pc := 121) dX7_reduce_121 (shK h6.1 rfl) rfl (show k / n < 32 by omega) (nl rfl) ?_
        refine go_cast e6t ?_
        refine g_aload_n (pc := 122) dX7_reduce_122 rfl trivial ?_
        refine g_aload_n (pc := 123) dX7_reduce_123 rfl trivial ?_
        refine g_getf (pc := 124) dX7_reduce_124 fk_X7_37 (shK h7.1 rfl) (fv_arr (shR h7.1 rfl)) ?_
        refine g_invV_r (pc := 127) (As := [_]) dX7_reduce_127 rfl (q7) rfl rfl (shK h7.1 rfl) rfl rfl lk_X7_256 rfl (nb rfl) ⟨nb rfl, nb rfl⟩ rfl ?_
        refine g_aload_n (pc := 130) dX7_reduce_130 rfl trivial ?_
        refine g_aload_n (pc := 131) dX7_reduce_131 rfl trivial ?_
        refine g_getf (pc := 132) dX7_reduce_132 fk_X7_37 (shK h8.1 rfl) (fv_arr (shR h8.1 rfl)) ?_
        refine g_aload_n (pc := 135) dX7_reduce_135 rfl trivial ?_
        refine g_getf (pc := 136) dX7_reduce_136 fk_X7_34 (shK h8.1 rfl) (fv_arr (shR h8.1 rfl)) ?_
        refine g_invV_r (pc := 139) (As := [_, _]) dX7_reduce_139 rfl (qs) rfl rfl (shK h8.1 rfl) rfl rfl lk_X7_343 rfl (nb rfl) ⟨nb rfl, nb rfl⟩ rfl ?_
        refine g_if_eq (pc := 142) (tgt := 159) dX7_reduce_142 rfl (fun h142 => absurd h142 ((by decide))) (fun _ => ?_)
        refine g_aload_n (pc := 145) dX7_reduce_145 rfl trivial ?_
        refine g_getf (pc := 146) dX7_reduce_146 fk_X7_40 (shK h8.1 rfl) (fv_arr (shR h8.1 rfl)) ?_
        refine g_iload (pc := 149) dX7_reduce_149 rfl ?_
        refine g_dup2_11 (pc := 151) dX7_reduce_151 rfl rfl ?_
        refine g_laload (pc := 152) dX7_reduce_152 (shK h8.1 rfl) rfl (show k / n < 32 by omega) (nl rfl) ?_
        rw [e87]
        refine g_lconst (pc := 153) (v := 1) dX7_reduce_153 rfl ?_
        refine g_iload (pc := 154) dX7_reduce_154 rfl ?_
        refine g_lshl (pc := 156) dX7_reduce_156 rfl ?_
        rw [sh_bit (k % n) (by omega)]
        refine g_lxor (pc := 157) dX7_reduce_157 ?_
        rw [uL_xor]
        refine g_lastore (pc := 158) dX7_reduce_158 (shK h8.1 rfl) rfl (show k / n < 32 by omega) (nl rfl) ?_
        refine g_iinc (pc := 159) (lv' := [(0, _), (1, _), (2, _), (3, _), (4, _), (5, _)]) dX7_reduce_159 rfl (nI_1 _) (nl rfl) rfl ?_
        refine g_goto (pc := 162) (tgt := 49) dX7_reduce_162 rfl ?_
        exact g_sub (lv' := [(0, _), (1, _), (2, _), (3, _)]) ⟨rfl, rfl, rfl, rfl, trivial⟩ ih
      | false =>
        have hB : ¬ rcB f n (k / n) (k % n) (rcF f n k) = true := by unfold rcB; rw [hb7, hq]; decide
        have qs := qs_f (fun z => by rw [(eqB_iff _ _ _).mpr z] at hq; cases hq)
        rw [hb7, if_neg hB, if_pos rfl, ← e8] at ih
        generalize hdM (rcM M1 n f k) 206 n (wOut (tnF (rcF f n k) (k / n) (k % n)) n n) = M8 at *
        generalize hdM (rcM M1 n f k) 206 n (tnF (rcF f n k) (k / n) (k % n)) = M7 at *
        generalize hdM (rcM M1 n f k) 206 n (rcF f n k) = M6 at *
        generalize rcM M1 n f k = M5 at *
        refine g_iload_n (pc := 49) dX7_reduce_49 rfl ?_
        refine g_aload_n (pc := 50) dX7_reduce_50 rfl trivial ?_
        refine g_invV_r (pc := 51) (As := []) dX7_reduce_51 rfl (r_size h5) rfl rfl (shK h5.1 rfl) rfl rfl lk_X7_71 rfl (nb rfl) ⟨nb rfl, nb rfl⟩ rfl ?_
        refine g_aload_n (pc := 54) dX7_reduce_54 rfl trivial ?_
        refine g_invV_r (pc := 55) (As := []) dX7_reduce_55 rfl (r_size h5) rfl rfl (shK h5.1 rfl) rfl rfl lk_X7_71 rfl (nb rfl) ⟨nb rfl, nb rfl⟩ rfl ?_
        refine g_imul (pc := 58) dX7_reduce_58 ?_
        rw [nI_mul]
        refine g_icmp_ge (pc := 59) (tgt := 165) dX7_reduce_59 rfl (fun h59 => absurd h59 (nI_ge hk (by omega))) (fun _ => ?_)
        refine g_iload_n (pc := 62) dX7_reduce_62 rfl ?_
        refine g_aload_n (pc := 63) dX7_reduce_63 rfl trivial ?_
        refine g_invV_r (pc := 64) (As := []) dX7_reduce_64 rfl (r_size h5) rfl rfl (shK h5.1 rfl) rfl rfl lk_X7_71 rfl (nb rfl) ⟨nb rfl, nb rfl⟩ rfl ?_
        refine g_idiv (pc := 67) dX7_reduce_67 hne0 ?_
        rw [d1]
        refine g_istore (pc := 68) (lv' := [(0, _), (1, _), (2, _), (3, _), (4, _)]) dX7_reduce_68 (nl rfl) rfl ?_
        refine g_iload_n (pc := 70) dX7_reduce_70 rfl ?_
        refine g_aload_n (pc := 71) dX7_reduce_71 rfl trivial ?_
        refine g_invV_r (pc := 72) (As := []) dX7_reduce_72 rfl (r_size h5) rfl rfl (shK h5.1 rfl) rfl rfl lk_X7_71 rfl (nb rfl) ⟨nb rfl, nb rfl⟩ rfl ?_
        refine g_irem (pc := 75) dX7_reduce_75 hne0 ?_
        rw [d2]
        refine g_istore (pc := 76) (lv' := [(0, _), (1, _), (2, _), (3, _), (4, _), (5, _)]) dX7_reduce_76 (nl rfl) rfl ?_
        refine g_aload_n (pc := 78) dX7_reduce_78 rfl trivial ?_
        refine g_getf (pc := 79) dX7_reduce_79 fk_X7_40 (shK h5.1 rfl) (fv_arr (shR h5.1 rfl)) ?_
        refine g_iload (pc := 82) dX7_reduce_82 rfl ?_
        refine g_laload (pc := 84) dX7_reduce_84 (shK h5.1 rfl) rfl (by omega) (nl rfl) ?_
        rw [e57 _ ha]
        refine g_iload (pc := 85) dX7_reduce_85 rfl ?_
        refine g_invS_r (pc := 87) (As := [_, _]) dX7_reduce_87 rfl (r_one (show k % n < 32 by omega)) rfl rfl lk_X7_231 rfl (nb rfl) ⟨nb rfl, nb rfl⟩ rfl ?_
        rw [hb7]
        refine g_if_ne (pc := 90) (tgt := 96) dX7_reduce_90 rfl (fun _ => ?_) (fun h90 => absurd ((by decide)) h90)
        refine g_aload_n (pc := 96) dX7_reduce_96 rfl trivial ?_
        refine g_aload_n (pc := 97) dX7_reduce_97 rfl trivial ?_
        refine g_getf (pc := 98) dX7_reduce_98 fk_X7_40 (shK h5.1 rfl) (fv_arr (shR h5.1 rfl)) ?_
        refine g_aload_n (pc := 101) dX7_reduce_101 rfl trivial ?_
        refine g_getf (pc := 102) dX7_reduce_102 fk_X7_37 (shK h5.1 rfl) (fv_arr (shR h5.1 rfl)) ?_
        refine g_invV_r (pc := 105) (As := [_, _]) dX7_reduce_105 rfl (q5) rfl rfl (shK h5.1 rfl) rfl rfl lk_X7_339 rfl (nb rfl) ⟨nb rfl, nb rfl⟩ rfl ?_
        refine g_aload_n (pc := 108) dX7_reduce_108 rfl trivial ?_
        refine g_getf (pc := 109) dX7_reduce_109 fk_X7_37 (shK h6.1 rfl) (fv_arr (shR h6.1 rfl)) ?_
        refine g_iload (pc := 112) dX7_reduce_112 rfl ?_
        refine g_dup2_11 (pc := 114) dX7_reduce_114 rfl rfl ?_
        refine g_laload (pc := 115) dX7_reduce_115 (shK h6.1 rfl) rfl (show k / n < 32 by omega) (nl rfl) ?_
        rw [e66]
        refine g_lconst (pc := 116) (v := 1) dX7_reduce_116 rfl ?_
        refine g_iload (pc := 117) dX7_reduce_117 rfl ?_
        refine g_lshl (pc := 119) dX7_reduce_119 rfl ?_
        rw [sh_bit (k % n) (by omega)]
        refine g_lxor (pc := 120) dX7_reduce_120 ?_
        rw [uL_xor]
        refine g_lastore (pc := 121) dX7_reduce_121 (shK h6.1 rfl) rfl (show k / n < 32 by omega) (nl rfl) ?_
        refine go_cast e6t ?_
        refine g_aload_n (pc := 122) dX7_reduce_122 rfl trivial ?_
        refine g_aload_n (pc := 123) dX7_reduce_123 rfl trivial ?_
        refine g_getf (pc := 124) dX7_reduce_124 fk_X7_37 (shK h7.1 rfl) (fv_arr (shR h7.1 rfl)) ?_
        refine g_invV_r (pc := 127) (As := [_]) dX7_reduce_127 rfl (q7) rfl rfl (shK h7.1 rfl) rfl rfl lk_X7_256 rfl (nb rfl) ⟨nb rfl, nb rfl⟩ rfl ?_
        refine g_aload_n (pc := 130) dX7_reduce_130 rfl trivial ?_
        refine g_aload_n (pc := 131) dX7_reduce_131 rfl trivial ?_
        refine g_getf (pc := 132) dX7_reduce_132 fk_X7_37 (shK h8.1 rfl) (fv_arr (shR h8.1 rfl)) ?_
        refine g_aload_n (pc := 135) dX7_reduce_135 rfl trivial ?_
        refine g_getf (pc := 136) dX7_reduce_136 fk_X7_34 (shK h8.1 rfl) (fv_arr (shR h8.1 rfl)) ?_
        refine g_invV_r (pc := 139) (As := [_, _]) dX7_reduce_139 rfl (qs) rfl rfl (shK h8.1 rfl) rfl rfl lk_X7_343 rfl (nb rfl) ⟨nb rfl, nb rfl⟩ rfl ?_
        refine g_if_eq (pc := 142) (tgt := 159) dX7_reduce_142 rfl (fun _ => ?_) (fun h142 => absurd (rfl) h142)
        refine g_iinc (pc := 159) (lv' := [(0, _), (1, _), (2, _), (3, _), (4, _), (5, _)]) dX7_reduce_159 rfl (nI_1 _) (nl rfl) rfl ?_
        refine g_goto (pc := 162) (tgt := 49) dX7_reduce_162 rfl ?_
        exact g_sub (lv' := [(0, _), (1, _), (2, _), (3, _)]) ⟨rfl, rfl, rfl, rfl, trivial⟩ ih
  · generalize rcM M1 n f (n * n) = M4 at *
    refine g_iload_n (pc := 49) dX7_reduce_49 rfl ?_
    refine g_aload_n (pc := 50) dX7_reduce_50 rfl trivial ?_
    refine g_invV_r (pc := 51) (As := []) dX7_reduce_51 rfl (r_size h4) rfl rfl (shK h4.1 rfl) rfl rfl lk_X7_71 rfl (nb rfl) ⟨nb rfl, nb rfl⟩ rfl ?_
    refine g_aload_n (pc := 54) dX7_reduce_54 rfl trivial ?_
    refine g_invV_r (pc := 55) (As := []) dX7_reduce_55 rfl (r_size h4) rfl rfl (shK h4.1 rfl) rfl rfl lk_X7_71 rfl (nb rfl) ⟨nb rfl, nb rfl⟩ rfl ?_
    refine g_imul (pc := 58) dX7_reduce_58 ?_
    rw [nI_mul]
    refine g_icmp_ge (pc := 59) (tgt := 165) dX7_reduce_59 rfl (fun _ => ?_) (fun h59 => absurd (nI_le (Nat.le_refl _) (by omega)) h59)
    refine g_aload_n (pc := 165) dX7_reduce_165 rfl trivial ?_
    refine g_aload_n (pc := 166) dX7_reduce_166 rfl trivial ?_
    refine g_getf (pc := 167) dX7_reduce_167 fk_X7_40 (shK h4.1 rfl) (fv_arr (shR h4.1 rfl)) ?_
    refine g_iload_n (pc := 170) dX7_reduce_170 rfl ?_
    refine g_invV_r (pc := 171) (As := [_, _]) dX7_reduce_171 rfl (q4) rfl rfl (shK h4.1 rfl) rfl rfl lk_X7_322 rfl (nb rfl) ⟨nb rfl, nb rfl⟩ rfl ?_
    refine g_ireturn (pc := 174) dX7_reduce_174 rfl rfl ?_
    exact ⟨rfl, rfl⟩
theorem t_reduce {v w : Int32} (h : Rr M n A) (hx : ¬ (inR v 6 ∧ inR w 6)) : EvR l jX7_reduce 4 160 0 0 [.ref 198, .int v, .int w] M (.inl (some (.int 0))) (thr M 1) := by
  have hS := h.1
  refine ev_intro rfl (nb rfl) rfl ?_
  by_cases h1 : inR v 6
  · refine g_aload_n (pc := 0) dX7_reduce_0 rfl trivial ?_
    refine g_iload_n (pc := 1) dX7_reduce_1 rfl ?_
    refine g_invS_r (pc := 2) (As := [_]) dX7_reduce_2 rfl (r_isSlot_t h1) rfl rfl lk_X7_216 rfl (nb rfl) ⟨nb rfl, nb rfl⟩ rfl ?_
    refine g_if_eq (pc := 5) (tgt := 19) dX7_reduce_5 rfl (fun h5 => absurd h5 ((by decide))) (fun _ => ?_)
    refine g_iload_n (pc := 8) dX7_reduce_8 rfl ?_
    refine g_invS_r (pc := 9) (As := [_]) dX7_reduce_9 rfl (r_isSlot_f (fun q => hx ⟨h1, q⟩)) rfl rfl lk_X7_216 rfl (nb rfl) ⟨nb rfl, nb rfl⟩ rfl ?_
    refine g_if_eq (pc := 12) (tgt := 19) dX7_reduce_12 rfl (fun _ => ?_) (fun h12 => absurd (rfl) h12)
    refine g_iconst (pc := 19) (v := 0) dX7_reduce_19 rfl ?_
    refine g_iconst (pc := 20) (v := 1) dX7_reduce_20 rfl ?_
    refine g_invV_r (pc := 21) (As := [_, _]) dX7_reduce_21 rfl (r_isThrown_1 hS) rfl rfl (shK hS rfl) rfl rfl lk_X7_209 rfl (nb rfl) ⟨nb rfl, nb rfl⟩ rfl ?_
    refine g_if_eq (pc := 24) (tgt := 29) dX7_reduce_24 rfl (fun h24 => absurd h24 ((by decide))) (fun _ => ?_)
    refine g_iconst (pc := 27) (v := 0) dX7_reduce_27 rfl ?_
    refine g_ireturn (pc := 28) dX7_reduce_28 rfl rfl ?_
    exact ⟨rfl, rfl⟩
  · refine g_aload_n (pc := 0) dX7_reduce_0 rfl trivial ?_
    refine g_iload_n (pc := 1) dX7_reduce_1 rfl ?_
    refine g_invS_r (pc := 2) (As := [_]) dX7_reduce_2 rfl (r_isSlot_f h1) rfl rfl lk_X7_216 rfl (nb rfl) ⟨nb rfl, nb rfl⟩ rfl ?_
    refine g_if_eq (pc := 5) (tgt := 19) dX7_reduce_5 rfl (fun _ => ?_) (fun h5 => absurd (rfl) h5)
    refine g_iconst (pc := 19) (v := 0) dX7_reduce_19 rfl ?_
    refine g_iconst (pc := 20) (v := 1) dX7_reduce_20 rfl ?_
    refine g_invV_r (pc := 21) (As := [_, _]) dX7_reduce_21 rfl (r_isThrown_1 hS) rfl rfl (shK hS rfl) rfl rfl lk_X7_209 rfl (nb rfl) ⟨nb rfl, nb rfl⟩ rfl ?_
    refine g_if_eq (pc := 24) (tgt := 29) dX7_reduce_24 rfl (fun h24 => absurd h24 ((by decide))) (fun _ => ?_)
    refine g_iconst (pc := 27) (v := 0) dX7_reduce_27 rfl ?_
    refine g_ireturn (pc := 28) dX7_reduce_28 rfl rfl ?_
    exact ⟨rfl, rfl⟩
end
end
-- 31.rr
section
/-! the reference reads: a word, a number -/
/-- the reader's numbers in the reference's object: position, start, statement, error, its position -/
def prF (g : Nat → Int32) (s : RP) : Nat → Int32 := fun j => if j = 9 then nI s.1 else if j = 10 then s.2.1 else if j = 13 then s.2.2.1 else if j = 11 then s.2.2.2.1 else if j = 12 then s.2.2.2.2 else g j
def psM (M : Mem) (s : RP) : Mem := sI M 198 (prF (mI M 198) s)
section
variable {M : Mem} {s : RP}
theorem ps_S (hS : Shp M) : Shp (psM M s) := hS
theorem ps_8 : mI (psM M s) 198 8 = mI M 198 8 := by simp [psM, prF, sI, mI, fun_set]
theorem ps_9 : mI (psM M s) 198 9 = nI s.1 := by simp [psM, prF, sI, mI, fun_set]
theorem ps_10 : mI (psM M s) 198 10 = s.2.1 := by simp [psM, prF, sI, mI, fun_set]
theorem ps_13 : mI (psM M s) 198 13 = s.2.2.1 := by simp [psM, prF, sI, mI, fun_set]
theorem ps_11 : mI (psM M s) 198 11 = s.2.2.2.1 := by simp [psM, prF, sI, mI, fun_set]
theorem ps_12 : mI (psM M s) 198 12 = s.2.2.2.2 := by simp [psM, prF, sI, mI, fun_set]
theorem ps_ne {i : Nat} (h : i ≠ 198) : mI (psM M s) i = mI M i := sI_ne h
theorem ps_set {j : Nat} {v : Int32} {t : RP} (h : ∀ i, prF (mI M 198) t i = if i = j then v else prF (mI M 198) s i) : pI (psM M s) 198 j v = psM M t := by
  have e : mI (psM M s) 198 = prF (mI M 198) s := sI_self M 198 _
  show sI (psM M s) 198 (fun_set (mI (psM M s) 198) j v) = _
  rw [e]
  unfold psM
  rw [sI_2]
  congr 1
  funext i
  rw [h i]; rfl
theorem ps_p9 {v : Int32} {p : Nat} (h : v = nI p) : pI (psM M s) 198 9 v = psM M (p, s.2) := ps_set fun i => by
  subst h
  unfold prF
  by_cases h1 : i = 9
  · simp [h1]
  · simp [h1]
theorem ps_p10 {v : Int32} : pI (psM M s) 198 10 v = psM M (s.1, v, s.2.2) := ps_set fun i => by
  unfold prF
  by_cases h1 : i = 10
  · simp [h1]
  · simp [h1]
theorem ps_p13 {v : Int32} : pI (psM M s) 198 13 v = psM M (s.1, s.2.1, v, s.2.2.2) := ps_set fun i => by
  unfold prF
  by_cases h1 : i = 13
  · simp [h1]
  · simp [h1]
theorem ps_p11 {v : Int32} : pI (psM M s) 198 11 v = psM M (s.1, s.2.1, s.2.2.1, v, s.2.2.2.2) := ps_set fun i => by
  unfold prF
  by_cases h1 : i = 11
  · simp [h1]
  · simp [h1]
theorem ps_p12 {v : Int32} : pI (psM M s) 198 12 v = psM M (s.1, s.2.1, s.2.2.1, s.2.2.2.1, v) := ps_set fun i => by
  unfold prF
  by_cases h1 : i = 12
  · simp [h1]
  · simp [h1]
theorem ps_sL {x : Nat} {f : Nat → Int64} : sL (psM M s) x f = psM (sL M x f) s := rfl
theorem ps_2 {t : RP} (h : ∀ i, prF (prF (mI M 198) s) t i = prF (mI M 198) t i) : psM (psM M s) t = psM M t := by
  unfold psM
  rw [sI_self, sI_2]
  congr 1
  funext i; exact h i
end
/-- the text of the class as the reference's buffer holds it -/
def txt (M : Mem) (T : Nat → Int32) (len : Nat) : Prop := ∀ i, i < len → ∃ j, j < 256 ∧ T i = nI j ∧ mI M 204 i = sx (nI j)
section
variable {l : Launch} {M : Mem} {s : RP} {len : Nat} {T : Nat → Int32}
def hvF (T : Nat → Int32) (len p : Nat) : Int32 := if p < len then T p else -1
theorem r_here (hS : Shp M) (hT : txt M T len) (hl : mI M 198 8 = nI len) (hL : len ≤ 600) (hp : s.1 ≤ len) : EvR l jX7_here 0 0 0 0 [.ref 198] (psM M s) (.inl (some (.int (hvF T len s.1)))) (psM M s) := by
  have h9 : mI (psM M s) 198 9 = nI s.1 := ps_9
  have h8 : mI (psM M s) 198 8 = nI len := ps_8.trans hl
  have eb : mI (psM M s) 204 = mI M 204 := ps_ne (by decide)
  have hS1 : Shp (psM M s) := hS
  generalize psM M s = M1 at *
  unfold hvF
  refine ev_intro rfl (nb rfl) rfl ?_
  by_cases h : s.1 < len
  · obtain ⟨j, j1, j2, j3⟩ := hT s.1 h
    have e2 : mI M1 204 s.1 &&& 255 = T s.1 := by rw [eb, j3, (sx_nar j j1).2, j2]
    rw [if_pos h]
    refine g_aload_n (pc := 0) dX7_here_0 rfl trivial ?_
    refine g_getf (pc := 1) (v := .int _) dX7_here_1 fk_X7_84 (shK hS1 rfl) (fun _ => congrArg Value.int (h9)) ?_
    refine g_aload_n (pc := 4) dX7_here_4 rfl trivial ?_
    refine g_getf (pc := 5) (v := .int _) dX7_here_5 fk_X7_81 (shK hS1 rfl) (fun _ => congrArg Value.int (h8)) ?_
    refine g_icmp_ge (pc := 8) (tgt := 27) dX7_here_8 rfl (fun h8 => absurd h8 (nI_ge h (by omega))) (fun _ => ?_)
    refine g_aload_n (pc := 11) dX7_here_11 rfl trivial ?_
    refine g_getf (pc := 12) dX7_here_12 fk_X7_26 (shK hS1 rfl) (fv_arr (shR hS1 rfl)) ?_
    refine g_aload_n (pc := 15) dX7_here_15 rfl trivial ?_
    refine g_getf (pc := 16) (v := .int _) dX7_here_16 fk_X7_84 (shK hS1 rfl) (fun _ => congrArg Value.int (h9)) ?_
    refine g_baload (pc := 19) dX7_here_19 (shK hS1 rfl) rfl (by omega) (nl rfl) ?_
    refine g_sipush (pc := 20) (v := 255) dX7_here_20 rfl ?_
    refine g_iand (pc := 23) dX7_here_23 ?_
    rw [e2]
    refine g_goto (pc := 24) (tgt := 28) dX7_here_24 rfl ?_
    refine g_ireturn (pc := 28) dX7_here_28 rfl rfl ?_
    exact ⟨rfl, rfl⟩
  · rw [if_neg h]
    refine g_aload_n (pc := 0) dX7_here_0 rfl trivial ?_
    refine g_getf (pc := 1) (v := .int _) dX7_here_1 fk_X7_84 (shK hS1 rfl) (fun _ => congrArg Value.int (h9)) ?_
    refine g_aload_n (pc := 4) dX7_here_4 rfl trivial ?_
    refine g_getf (pc := 5) (v := .int _) dX7_here_5 fk_X7_81 (shK hS1 rfl) (fun _ => congrArg Value.int (h8)) ?_
    refine g_icmp_ge (pc := 8) (tgt := 27) dX7_here_8 rfl (fun _ => ?_) (fun h8 => absurd (nI_le (by omega) (by omega)) h8)
    refine g_iconst (pc := 27) (v := (-1)) dX7_here_27 rfl ?_
    refine g_ireturn (pc := 28) dX7_here_28 rfl rfl ?_
    exact ⟨rfl, rfl⟩
theorem scan_done (c : Int32 → Bool) (T : Nat → Int32) : ∀ (d p : Nat), c (T p) = true → 0 < d → scan c T d p = scan c T (d - 1) (p + 1)
  | 0, p, h, h2 => by omega
  | d + 1, p, h, h2 => by rw [scan, if_pos h]; rfl
/-- behind the spaces -/
def nxS (T : Nat → Int32) (len : Nat) (s : RP) : RP := (skipP T len s.1, nI (skipP T len s.1), s.2.2)
theorem isSp_hv {p : Nat} : hvF T len p = 32 ↔ p < len ∧ isSp (T p) = true := by
  unfold hvF isSp
  by_cases h : p < len
  · rw [if_pos h]; simp [h]
  · rw [if_neg h]; simp [h]
theorem skipP_s {p : Nat} (h : p < len) (h2 : isSp (T p) = true) : skipP T len p = skipP T len (p + 1) := by
  unfold skipP
  rw [scan_done isSp T (len - p) p h2 (by omega)]
  congr 1
theorem skipP_0 {p : Nat} (h : ¬ (p < len ∧ isSp (T p) = true)) : skipP T len p = p := by
  unfold skipP
  cases hd : len - p with
  | zero => rfl
  | succ d => rw [scan, if_neg (fun q => h ⟨by omega, q⟩)]
theorem r_next (hS : Shp M) (hT : txt M T len) (hl : mI M 198 8 = nI len) (hL : len ≤ 600) (hp : s.1 ≤ len) : EvR l jX7_next 1 30 0 0 [.ref 198] (psM M s) (.inl (some (.int (hvF T len (skipP T len s.1))))) (psM M (nxS T len s)) := by
  have hsk := skipP_le (T := T) hp
  obtain ⟨S, hs⟩ : ∃ S, S = skipP T len s.1 := ⟨_, rfl⟩
  rw [← hs] at hsk
  have eN : nxS T len s = (S, nI S, s.2.2) := by rw [hs]; rfl
  rw [← hs, eN]
  refine ev_intro rfl (nb rfl) rfl ?_
  refine go_while (pc := 0) (σ := Nat) (fun p => p ≤ len ∧ skipP T len p = S) (fun p => len - p) (fun p => [(0, .ref 198)]) (fun p => psM M (p, s.2)) s.1 ⟨rfl, trivial⟩ rfl ⟨hp, hs.symm⟩ ?_
  rintro p ⟨h1, h2⟩ ih
  have hS1 : Shp (psM M (p, s.2)) := hS
  have q1 := r_here (l := l) (s := (p, s.2)) hS hT hl hL h1
  have h9 : mI (psM M (p, s.2)) 198 9 = nI p := ps_9
  by_cases h : p < len ∧ isSp (T p) = true
  · rw [skipP_s h.1 h.2] at h2
    have e9 : pI (psM M (p, s.2)) 198 9 (nI (p + 1)) = psM M (p + 1, s.2) := ps_p9 rfl
    have ih2 := ih (p + 1) ⟨h.1, h2⟩ (by omega)
    generalize psM M (p + 1, s.2) = M2 at *
    generalize psM M (p, s.2) = M1 at *
    refine g_aload_n (pc := 0) dX7_next_0 rfl trivial ?_
    refine g_invV_r (pc := 1) (As := []) dX7_next_1 rfl (q1) rfl rfl (shK hS1 rfl) rfl rfl lk_X7_87 rfl (nb rfl) ⟨nb rfl, nb rfl⟩ rfl ?_
    refine g_bipush (pc := 4) (v := 32) dX7_next_4 rfl ?_
    refine g_icmp_ne (pc := 6) (tgt := 22) dX7_next_6 rfl (fun h6 => absurd h6 ((fun z => z (isSp_hv.mpr h)))) (fun _ => ?_)
    refine g_aload_n (pc := 9) dX7_next_9 rfl trivial ?_
    refine g_dup (pc := 10) dX7_next_10 rfl ?_
    refine g_getf (pc := 11) (v := .int _) dX7_next_11 fk_X7_84 (shK hS1 rfl) (fun _ => congrArg Value.int (h9)) ?_
    refine g_iconst (pc := 14) (v := 1) dX7_next_14 rfl ?_
    refine g_iadd (pc := 15) dX7_next_15 ?_
    rw [nI_1]
    refine g_putI (pc := 16) dX7_next_16 fp_X7_84 (shK hS1 rfl) ⟨rfl, rfl⟩ (fun _ _ _ _ => rfl) ?_
    refine go_cast e9 ?_
    refine g_goto (pc := 19) (tgt := 0) dX7_next_19 rfl ?_
    exact ih2
  · rw [skipP_0 h] at h2
    subst h2
    have e10 : pI (psM M (p, s.2)) 198 10 (nI p) = psM M (p, nI p, s.2.2) := ps_p10
    have q2 := r_here (l := l) (s := (p, nI p, s.2.2)) hS hT hl hL h1
    have hS2 : Shp (psM M (p, nI p, s.2.2)) := hS
    generalize psM M (p, nI p, s.2.2) = M2 at *
    generalize psM M (p, s.2) = M1 at *
    refine g_aload_n (pc := 0) dX7_next_0 rfl trivial ?_
    refine g_invV_r (pc := 1) (As := []) dX7_next_1 rfl (q1) rfl rfl (shK hS1 rfl) rfl rfl lk_X7_87 rfl (nb rfl) ⟨nb rfl, nb rfl⟩ rfl ?_
    refine g_bipush (pc := 4) (v := 32) dX7_next_4 rfl ?_
    refine g_icmp_ne (pc := 6) (tgt := 22) dX7_next_6 rfl (fun _ => ?_) (fun h6 => absurd ((fun z => h (isSp_hv.mp z))) h6)
    refine g_aload_n (pc := 22) dX7_next_22 rfl trivial ?_
    refine g_aload_n (pc := 23) dX7_next_23 rfl trivial ?_
    refine g_getf (pc := 24) (v := .int _) dX7_next_24 fk_X7_84 (shK hS1 rfl) (fun _ => congrArg Value.int (h9)) ?_
    refine g_putI (pc := 27) dX7_next_27 fp_X7_90 (shK hS1 rfl) ⟨rfl, rfl⟩ (fun _ _ _ _ => rfl) ?_
    refine go_cast e10 ?_
    refine g_aload_n (pc := 30) dX7_next_30 rfl trivial ?_
    refine g_invV_r (pc := 31) (As := []) dX7_next_31 rfl (q2) rfl rfl (shK hS2 rfl) rfl rfl lk_X7_87 rfl (nb rfl) ⟨nb rfl, nb rfl⟩ rfl ?_
    refine g_ireturn (pc := 34) dX7_next_34 rfl rfl ?_
    exact ⟨rfl, rfl⟩
theorem r_fails {k : Int32} (hS : Shp M) : EvR l jX7_fails 0 0 0 0 [.ref 198, .int k] (psM M s) (.inl none) (psM M (rFail k s.2.1 s)) := by
  have hS1 : Shp (psM M s) := hS
  have h11 : mI (psM M s) 198 11 = s.2.2.2.1 := ps_11
  unfold rFail
  refine ev_intro rfl (nb rfl) rfl ?_
  by_cases h : s.2.2.2.1 = 0
  · rw [if_pos h]
    have e11 : pI (psM M s) 198 11 k = psM M (s.1, s.2.1, s.2.2.1, k, s.2.2.2.2) := ps_p11
    have hS2 : Shp (psM M (s.1, s.2.1, s.2.2.1, k, s.2.2.2.2)) := hS
    have h10 : mI (psM M (s.1, s.2.1, s.2.2.1, k, s.2.2.2.2)) 198 10 = s.2.1 := ps_10
    have e12 : pI (psM M (s.1, s.2.1, s.2.2.1, k, s.2.2.2.2)) 198 12 s.2.1 = psM M (s.1, s.2.1, s.2.2.1, k, s.2.1) := ps_p12
    generalize psM M (s.1, s.2.1, s.2.2.1, k, s.2.1) = M3 at *
    generalize psM M (s.1, s.2.1, s.2.2.1, k, s.2.2.2.2) = M2 at *
    generalize psM M s = M1 at *
    refine g_aload_n (pc := 0) dX7_fails_0 rfl trivial ?_
    refine g_getf (pc := 1) (v := .int _) dX7_fails_1 fk_X7_93 (shK hS1 rfl) (fun _ => congrArg Value.int (h11)) ?_
    refine g_if_ne (pc := 4) (tgt := 20) dX7_fails_4 rfl (fun h4 => absurd h4 ((fun z => z h))) (fun _ => ?_)
    refine g_aload_n (pc := 7) dX7_fails_7 rfl trivial ?_
    refine g_iload_n (pc := 8) dX7_fails_8 rfl ?_
    refine g_putI (pc := 9) dX7_fails_9 fp_X7_93 (shK hS1 rfl) ⟨rfl, rfl⟩ (fun _ _ _ _ => rfl) ?_
    refine go_cast e11 ?_
    refine g_aload_n (pc := 12) dX7_fails_12 rfl trivial ?_
    refine g_aload_n (pc := 13) dX7_fails_13 rfl trivial ?_
    refine g_getf (pc := 14) (v := .int _) dX7_fails_14 fk_X7_90 (shK hS2 rfl) (fun _ => congrArg Value.int (h10)) ?_
    refine g_putI (pc := 17) dX7_fails_17 fp_X7_96 (shK hS2 rfl) ⟨rfl, rfl⟩ (fun _ _ _ _ => rfl) ?_
    refine go_cast e12 ?_
    refine g_return (pc := 20) dX7_fails_20 rfl ?_
    exact ⟨rfl, rfl⟩
  · rw [if_neg h]
    generalize psM M s = M1 at *
    refine g_aload_n (pc := 0) dX7_fails_0 rfl trivial ?_
    refine g_getf (pc := 1) (v := .int _) dX7_fails_1 fk_X7_93 (shK hS1 rfl) (fun _ => congrArg Value.int (h11)) ?_
    refine g_if_ne (pc := 4) (tgt := 20) dX7_fails_4 rfl (fun _ => ?_) (fun h4 => absurd (h) h4)
    refine g_return (pc := 20) dX7_fails_20 rfl ?_
    exact ⟨rfl, rfl⟩
theorem hv_in {a b : Int32} {c : Int32 → Bool} {p : Nat} (ha : ¬ (a ≤ -1)) (hc : ∀ v, c v = true ↔ a ≤ v ∧ v ≤ b) : (a.toInt64 ≤ (hvF T len p).toInt64 ∧ (hvF T len p).toInt64 ≤ b.toInt64) ↔ p < len ∧ c (T p) = true := by
  rw [le_long, le_long]
  unfold hvF
  by_cases h : p < len
  · rw [if_pos h, hc]; simp [h]
  · rw [if_neg h]; simp [h]; intro q; exact absurd q ha
theorem isLo_iff (v : Int32) : isLo v = true ↔ 97 ≤ v ∧ v ≤ 122 := by
  unfold isLo
  rw [Bool.and_eq_true, Bool.not_eq_true', Bool.not_eq_true', decide_eq_false_iff_not, decide_eq_false_iff_not, Int32.not_lt, Int32.not_lt]
theorem isDi_iff (v : Int32) : isDi v = true ↔ 48 ≤ v ∧ v ≤ 57 := by
  unfold isDi
  rw [Bool.and_eq_true, Bool.not_eq_true', Bool.not_eq_true', decide_eq_false_iff_not, decide_eq_false_iff_not, Int32.not_lt, Int32.not_lt]
theorem wordP_s {p : Nat} (h : p < len) (h2 : isLo (T p) = true) : wordP T len p = wordP T len (p + 1) := by
  unfold wordP
  rw [scan_done isLo T (len - p) p h2 (by omega)]
  congr 1
theorem wordP_0 {p : Nat} (h : ¬ (p < len ∧ isLo (T p) = true)) : wordP T len p = p := by
  unfold wordP
  cases hd : len - p with
  | zero => rfl
  | succ d => rw [scan, if_neg (fun q => h ⟨by omega, q⟩)]
theorem digP_s {p : Nat} (h : p < len) (h2 : isDi (T p) = true) : digP T len p = digP T len (p + 1) := by
  unfold digP
  rw [scan_done isDi T (len - p) p h2 (by omega)]
  congr 1
theorem digP_0 {p : Nat} (h : ¬ (p < len ∧ isDi (T p) = true)) : digP T len p = p := by
  unfold digP
  cases hd : len - p with
  | zero => rfl
  | succ d => rw [scan, if_neg (fun q => h ⟨by omega, q⟩)]
theorem r_reads (hS : Shp M) (hT : txt M T len) (hl : mI M 198 8 = nI len) (hL : len ≤ 600) (hp : s.1 ≤ len) : EvR l jX7_reads 2 60 0 0 [.ref 198] (psM M s) (.inl none) (psM M (twd T len s)) := by
  have hsk := skipP_le (T := T) hp
  have q1 := r_next (l := l) (s := s) hS hT hl hL hp
  have hS0 : Shp (psM M (nxS T len s)) := hS
  obtain ⟨b, hb⟩ : ∃ b, b = skipP T len s.1 := ⟨_, rfl⟩
  obtain ⟨S, hs⟩ : ∃ S, S = wordP T len b := ⟨_, rfl⟩
  have e0 : nxS T len s = (b, nI b, s.2.2) := by rw [hb]; rfl
  have eE : twd T len s = (S, nI b, s.2.2) := by rw [hs, hb]; rfl
  rw [← hb] at hsk
  rw [e0] at q1 hS0
  rw [eE]
  refine ev_intro rfl (nb rfl) rfl ?_
  refine g_aload_n (pc := 0) dX7_reads_0 rfl trivial ?_
  refine g_invV_r (pc := 1) (As := []) dX7_reads_1 rfl (q1) rfl rfl (shK (ps_S hS) rfl) rfl rfl lk_X7_99 rfl (nb rfl) ⟨nb rfl, nb rfl⟩ rfl ?_
  refine g_pop (pc := 4) dX7_reads_4 rfl ?_
  refine go_while (pc := 5) (σ := Nat) (fun p => p ≤ len ∧ wordP T len p = S) (fun p => len - p) (fun p => [(0, .ref 198)]) (fun p => psM M (p, nI b, s.2.2)) b ⟨rfl, trivial⟩ rfl ⟨hsk.2, hs.symm⟩ ?_
  rintro p ⟨h1, h2⟩ ih
  have hS1 : Shp (psM M (p, nI b, s.2.2)) := hS
  have q2 := r_here (l := l) (s := (p, nI b, s.2.2)) hS hT hl hL h1
  have h9 : mI (psM M (p, nI b, s.2.2)) 198 9 = nI p := ps_9
  have hin := hv_in (T := T) (len := len) (p := p) (a := 97) (b := 122) (c := isLo) (by decide) isLo_iff
  by_cases h : p < len ∧ isLo (T p) = true
  · rw [wordP_s h.1 h.2] at h2
    have hh := hin.mpr h
    have e9 : pI (psM M (p, nI b, s.2.2)) 198 9 (nI (p + 1)) = psM M (p + 1, nI b, s.2.2) := ps_p9 rfl
    have ih2 := ih (p + 1) ⟨h.1, h2⟩ (by omega)
    generalize psM M (p + 1, nI b, s.2.2) = M2 at *
    generalize psM M (p, nI b, s.2.2) = M1 at *
    refine g_aload_n (pc := 5) dX7_reads_5 rfl trivial ?_
    refine g_invV_r (pc := 6) (As := []) dX7_reads_6 rfl (q2) rfl rfl (shK hS1 rfl) rfl rfl lk_X7_87 rfl (nb rfl) ⟨nb rfl, nb rfl⟩ rfl ?_
    refine g_i2l (pc := 9) dX7_reads_9 rfl ?_
    refine g_ldc2 (pc := 10) dX7_reads_10 wd_1325 ?_
    refine g_ldc2 (pc := 13) dX7_reads_13 wd_1326 ?_
    refine g_invS_r (pc := 16) (As := [_, _, _]) dX7_reads_16 rfl (r_in_t hh.1 hh.2) rfl rfl lk_X7_67 rfl (nb rfl) ⟨nb rfl, nb rfl⟩ rfl ?_
    refine g_if_eq (pc := 19) (tgt := 35) dX7_reads_19 rfl (fun h19 => absurd h19 ((by decide))) (fun _ => ?_)
    refine g_aload_n (pc := 22) dX7_reads_22 rfl trivial ?_
    refine g_dup (pc := 23) dX7_reads_23 rfl ?_
    refine g_getf (pc := 24) (v := .int _) dX7_reads_24 fk_X7_84 (shK hS1 rfl) (fun _ => congrArg Value.int (h9)) ?_
    refine g_iconst (pc := 27) (v := 1) dX7_reads_27 rfl ?_
    refine g_iadd (pc := 28) dX7_reads_28 ?_
    rw [nI_1]
    refine g_putI (pc := 29) dX7_reads_29 fp_X7_84 (shK hS1 rfl) ⟨rfl, rfl⟩ (fun _ _ _ _ => rfl) ?_
    refine go_cast e9 ?_
    refine g_goto (pc := 32) (tgt := 5) dX7_reads_32 rfl ?_
    exact ih2
  · rw [wordP_0 h] at h2
    subst h2
    generalize psM M (p, nI b, s.2.2) = M1 at *
    refine g_aload_n (pc := 5) dX7_reads_5 rfl trivial ?_
    refine g_invV_r (pc := 6) (As := []) dX7_reads_6 rfl (q2) rfl rfl (shK hS1 rfl) rfl rfl lk_X7_87 rfl (nb rfl) ⟨nb rfl, nb rfl⟩ rfl ?_
    refine g_i2l (pc := 9) dX7_reads_9 rfl ?_
    refine g_ldc2 (pc := 10) dX7_reads_10 wd_1325 ?_
    refine g_ldc2 (pc := 13) dX7_reads_13 wd_1326 ?_
    refine g_invS_r (pc := 16) (As := [_, _, _]) dX7_reads_16 rfl (r_in_f (fun z => h (hin.mp z))) rfl rfl lk_X7_67 rfl (nb rfl) ⟨nb rfl, nb rfl⟩ rfl ?_
    refine g_if_eq (pc := 19) (tgt := 35) dX7_reads_19 rfl (fun _ => ?_) (fun h19 => absurd (rfl) h19)
    refine g_return (pc := 35) dX7_reads_35 rfl ?_
    exact ⟨rfl, rfl⟩
end
end
-- 311.rr
section
/-! the reference reads: is it a word; a number -/
def lowW (w : List Int32) : Bool := w.all fun x => decide (97 ≤ x) && decide (x ≤ 122)
theorem sx_low : ∀ j, j < 256 → ∀ c, c < 26 → (sx (nI j) = nI (97 + c) ↔ nI j = nI (97 + c)) := by decide +kernel
theorem sx_w {w : List Int32} (hw : lowW w = true) {i j : Nat} (hi : i < w.length) (hj : j < 256) : sx (nI j) = w.getD i 0 ↔ nI j = w.getD i 0 := by
  have h := List.all_eq_true.mp hw _ (getD_mem hi)
  rw [Bool.and_eq_true, decide_eq_true_iff, decide_eq_true_iff] at h
  obtain ⟨h1, h2⟩ := h
  generalize w.getD i 0 = x at *
  obtain ⟨c, hc, rfl⟩ : ∃ c, c < 26 ∧ x = nI (97 + c) := by
    rw [Int32.le_iff_toInt_le] at h1 h2
    have a1 : (97 : Int32).toInt = 97 := rfl
    have a2 : (122 : Int32).toInt = 122 := rfl
    rw [a1] at h1
    rw [a2] at h2
    refine ⟨(x.toInt - 97).toNat, by omega, Int32.toInt_inj.mp ?_⟩
    rw [nI_toInt (by omega)]
    omega
  exact sx_low j hj c hc
theorem strW_low : ∀ k, k < 23 → 13 ≤ k → lowW (strW k) = true := by decide +kernel
section
variable {l : Launch} {M : Mem} {s : RP} {len : Nat} {T : Nat → Int32}
theorem r_isWordR {kS b : Nat} {q0 : String × Nat × String × List Int32} (hS : Shp M) (hT : txt M T len) (hL : len ≤ 600) (hp : s.1 ≤ len) (hb9 : s.2.1 = nI b) (hb : b ≤ s.1) (hq9 : strT[kS]? = some q0) (hw : lowW q0.2.2.2 = true) : EvR l jX7_isWord 4 110 0 0 [.ref 198, .retAddr (2 * kS + 2)] (psM M s) (.inl (some (.int (b1 (wdQ T b s.1 q0.2.2.2))))) (psM M s) := by
  have h9 : mI (psM M s) 198 9 = nI s.1 := ps_9
  have h10 : mI (psM M s) 198 10 = nI b := ps_10.trans hb9
  have eb : mI (psM M s) 204 = mI M 204 := ps_ne (by decide)
  have hS1 : Shp (psM M s) := hS
  generalize psM M s = M1 at *
  have hlen := str_len hq9
  have esub : nI s.1 - nI b = nI (s.1 - b) := nI_sub' hb
  unfold wdQ
  have hsw := fun i j => sx_w hw (i := i) (j := j)
  have qlen := t_length (l := l) (M := M1) hq9
  have qchr := fun i => t_charAt (l := l) (M := M1) (i := i) hq9
  generalize q0.2.2.2 = w at *
  refine ev_intro rfl (nb rfl) rfl ?_
  by_cases hlw : s.1 - b = w.length
  · rw [if_pos hlw]
    obtain ⟨S, hS9⟩ : ∃ S, S = wdL T b w w.length 0 := ⟨_, rfl⟩
    rw [← hS9]
    refine g_aload_n (pc := 0) dX7_isWord_0 rfl trivial ?_
    refine g_getf (pc := 1) (v := .int _) dX7_isWord_1 fk_X7_84 (shK hS1 rfl) (fun _ => congrArg Value.int (h9)) ?_
    refine g_aload_n (pc := 4) dX7_isWord_4 rfl trivial ?_
    refine g_getf (pc := 5) (v := .int _) dX7_isWord_5 fk_X7_90 (shK hS1 rfl) (fun _ => congrArg Value.int (h10)) ?_
    refine g_isub (pc := 8) dX7_isWord_8 ?_
    rw [esub]
    refine g_aload_n (pc := 9) dX7_isWord_9 rfl (isA_s _) ?_
    refine g_invVT_r (pc := 10) (As := []) dX7_isWord_10 rfl (qlen) rfl rfl (hq9) lk_X7_106 rfl (nb rfl) ⟨nb rfl, nb rfl⟩ rfl ?_
    refine g_icmp_ne (pc := 13) (tgt := 20) dX7_isWord_13 rfl (fun h13 => absurd h13 ((fun z => z (by rw [hlw])))) (fun _ => ?_)
    refine g_iconst (pc := 16) (v := 1) dX7_isWord_16 rfl ?_
    refine g_goto (pc := 17) (tgt := 21) dX7_isWord_17 rfl ?_
    refine g_istore_n (pc := 21) (lv' := [(0, _), (1, _), (2, _)]) dX7_isWord_21 (nl rfl) rfl ?_
    refine g_iconst (pc := 22) (v := 0) dX7_isWord_22 rfl ?_
    refine g_istore_n (pc := 23) (lv' := [(0, _), (1, _), (2, _), (3, _)]) dX7_isWord_23 (nl rfl) rfl ?_
    refine go_while (pc := 24) (σ := Nat) (fun q => q ≤ w.length ∧ wdL T b w (w.length - q) q = S) (fun q => w.length - q) (fun q => [(0, .ref 198), (1, .retAddr (2 * kS + 2)), (2, .int 1), (3, .int (nI q))]) (fun _ => M1) 0 ⟨rfl, rfl, rfl, rfl, trivial⟩ rfl ⟨Nat.zero_le _, hS9.symm⟩ ?_
    rintro q ⟨h1, h2⟩ ih
    by_cases hq : q < w.length
    · obtain ⟨d, hd⟩ : ∃ d, w.length - q = d + 1 := ⟨w.length - q - 1, by omega⟩
      have hd' : w.length - (q + 1) = d := by omega
      rw [hd, wdL] at h2
      obtain ⟨j, j1, j2, j3⟩ := hT (b + q) (by omega)
      have hsj := hsw q j hq j1
      by_cases hc : T (b + q) = w.getD q 0
      · rw [if_pos hc] at h2
        have hc2 : mI M1 204 (b + q) = w.getD q 0 := by rw [eb, j3, hsj, ← j2]; exact hc
        refine g_iload_n (pc := 24) dX7_isWord_24 rfl ?_
        refine g_if_eq (pc := 25) (tgt := 67) dX7_isWord_25 rfl (fun h25 => absurd h25 ((by decide))) (fun _ => ?_)
        refine g_iload_n (pc := 28) dX7_isWord_28 rfl ?_
        refine g_aload_n (pc := 29) dX7_isWord_29 rfl (isA_s _) ?_
        refine g_invVT_r (pc := 30) (As := []) dX7_isWord_30 rfl (qlen) rfl rfl (hq9) lk_X7_106 rfl (nb rfl) ⟨nb rfl, nb rfl⟩ rfl ?_
        refine g_icmp_ge (pc := 33) (tgt := 67) dX7_isWord_33 rfl (fun h33 => absurd h33 (nI_ge hq (by omega))) (fun _ => ?_)
        refine g_aload_n (pc := 36) dX7_isWord_36 rfl trivial ?_
        refine g_getf (pc := 37) dX7_isWord_37 fk_X7_26 (shK hS1 rfl) (fv_arr (shR hS1 rfl)) ?_
        refine g_aload_n (pc := 40) dX7_isWord_40 rfl trivial ?_
        refine g_getf (pc := 41) (v := .int _) dX7_isWord_41 fk_X7_90 (shK hS1 rfl) (fun _ => congrArg Value.int (h10)) ?_
        refine g_iload_n (pc := 44) dX7_isWord_44 rfl ?_
        refine g_iadd (pc := 45) dX7_isWord_45 ?_
        rw [nI_add]
        refine g_baload (pc := 46) dX7_isWord_46 (shK hS1 rfl) rfl (by omega) (nl rfl) ?_
        rw [hc2]
        refine g_aload_n (pc := 47) dX7_isWord_47 rfl (isA_s _) ?_
        refine g_iload_n (pc := 48) dX7_isWord_48 rfl ?_
        refine g_invVT_r (pc := 49) (As := [_]) dX7_isWord_49 rfl ((qchr q hq)) rfl rfl (hq9) lk_X7_110 rfl (nb rfl) ⟨nb rfl, nb rfl⟩ rfl ?_
        refine g_icmp_ne (pc := 52) (tgt := 59) dX7_isWord_52 rfl (fun h52 => absurd h52 ((fun z => z rfl))) (fun _ => ?_)
        refine g_iconst (pc := 55) (v := 1) dX7_isWord_55 rfl ?_
        refine g_goto (pc := 56) (tgt := 60) dX7_isWord_56 rfl ?_
        refine g_istore_n (pc := 60) (lv' := [(0, _), (1, _), (2, _), (3, _)]) dX7_isWord_60 (nl rfl) rfl ?_
        refine g_iinc (pc := 61) (lv' := [(0, _), (1, _), (2, _), (3, _)]) dX7_isWord_61 rfl (nI_1 _) (nl rfl) rfl ?_
        refine g_goto (pc := 64) (tgt := 24) dX7_isWord_64 rfl ?_
        exact ih (q + 1) ⟨hq, by rw [hd']; exact h2⟩ (by omega)
      · rw [if_neg hc] at h2
        have hc2 : ¬ mI M1 204 (b + q) = w.getD q 0 := by rw [eb, j3, hsj, ← j2]; exact hc
        have hend : Go l jX7_isWord 4 110 0 0 (fun r' M' => r' = .inl (some (.int (b1 S))) ∧ M' = M1) 24 [(0, .ref 198), (1, .retAddr (2 * kS + 2)), (2, .int 0), (3, .int (nI (q + 1)))] [] 0 0 M1 := by
          refine g_iload_n (pc := 24) dX7_isWord_24 rfl ?_
          refine g_if_eq (pc := 25) (tgt := 67) dX7_isWord_25 rfl (fun _ => ?_) (fun h25 => absurd (rfl) h25)
          refine g_iload_n (pc := 67) dX7_isWord_67 rfl ?_
          refine g_ireturn (pc := 68) dX7_isWord_68 rfl rfl ?_
          exact ⟨by rw [← h2]; rfl, rfl⟩
        refine g_iload_n (pc := 24) dX7_isWord_24 rfl ?_
        refine g_if_eq (pc := 25) (tgt := 67) dX7_isWord_25 rfl (fun h25 => absurd h25 ((by decide))) (fun _ => ?_)
        refine g_iload_n (pc := 28) dX7_isWord_28 rfl ?_
        refine g_aload_n (pc := 29) dX7_isWord_29 rfl (isA_s _) ?_
        refine g_invVT_r (pc := 30) (As := []) dX7_isWord_30 rfl (qlen) rfl rfl (hq9) lk_X7_106 rfl (nb rfl) ⟨nb rfl, nb rfl⟩ rfl ?_
        refine g_icmp_ge (pc := 33) (tgt := 67) dX7_isWord_33 rfl (fun h33 => absurd h33 (nI_ge hq (by omega))) (fun _ => ?_)
        refine g_aload_n (pc := 36) dX7_isWord_36 rfl trivial ?_
        refine g_getf (pc := 37) dX7_isWord_37 fk_X7_26 (shK hS1 rfl) (fv_arr (shR hS1 rfl)) ?_
        refine g_aload_n (pc := 40) dX7_isWord_40 rfl trivial ?_
        refine g_getf (pc := 41) (v := .int _) dX7_isWord_41 fk_X7_90 (shK hS1 rfl) (fun _ => congrArg Value.int (h10)) ?_
        refine g_iload_n (pc := 44) dX7_isWord_44 rfl ?_
        refine g_iadd (pc := 45) dX7_isWord_45 ?_
        rw [nI_add]
        refine g_baload (pc := 46) dX7_isWord_46 (shK hS1 rfl) rfl (by omega) (nl rfl) ?_
        refine g_aload_n (pc := 47) dX7_isWord_47 rfl (isA_s _) ?_
        refine g_iload_n (pc := 48) dX7_isWord_48 rfl ?_
        refine g_invVT_r (pc := 49) (As := [_]) dX7_isWord_49 rfl ((qchr q hq)) rfl rfl (hq9) lk_X7_110 rfl (nb rfl) ⟨nb rfl, nb rfl⟩ rfl ?_
        refine g_icmp_ne (pc := 52) (tgt := 59) dX7_isWord_52 rfl (fun _ => ?_) (fun h52 => absurd (hc2) h52)
        refine g_iconst (pc := 59) (v := 0) dX7_isWord_59 rfl ?_
        refine g_istore_n (pc := 60) (lv' := [(0, _), (1, _), (2, _), (3, _)]) dX7_isWord_60 (nl rfl) rfl ?_
        refine g_iinc (pc := 61) (lv' := [(0, _), (1, _), (2, _), (3, _)]) dX7_isWord_61 rfl (nI_1 _) (nl rfl) rfl ?_
        refine g_goto (pc := 64) (tgt := 24) dX7_isWord_64 rfl ?_
        exact hend
    · have hq' : q = w.length := by omega
      subst hq'
      rw [Nat.sub_self, wdL] at h2
      refine g_iload_n (pc := 24) dX7_isWord_24 rfl ?_
      refine g_if_eq (pc := 25) (tgt := 67) dX7_isWord_25 rfl (fun h25 => absurd h25 ((by decide))) (fun _ => ?_)
      refine g_iload_n (pc := 28) dX7_isWord_28 rfl ?_
      refine g_aload_n (pc := 29) dX7_isWord_29 rfl (isA_s _) ?_
      refine g_invVT_r (pc := 30) (As := []) dX7_isWord_30 rfl (qlen) rfl rfl (hq9) lk_X7_106 rfl (nb rfl) ⟨nb rfl, nb rfl⟩ rfl ?_
      refine g_icmp_ge (pc := 33) (tgt := 67) dX7_isWord_33 rfl (fun _ => ?_) (fun h33 => absurd (nI_le (Nat.le_refl _) (by omega)) h33)
      refine g_iload_n (pc := 67) dX7_isWord_67 rfl ?_
      refine g_ireturn (pc := 68) dX7_isWord_68 rfl rfl ?_
      exact ⟨by rw [← h2]; rfl, rfl⟩
  · rw [if_neg hlw]
    have hend : Go l jX7_isWord 4 110 0 0 (fun r' M' => r' = .inl (some (.int (b1 false))) ∧ M' = M1) 24 [(0, .ref 198), (1, .retAddr (2 * kS + 2)), (2, .int 0), (3, .int 0)] [] 0 0 M1 := by
      refine g_iload_n (pc := 24) dX7_isWord_24 rfl ?_
      refine g_if_eq (pc := 25) (tgt := 67) dX7_isWord_25 rfl (fun _ => ?_) (fun h25 => absurd (rfl) h25)
      refine g_iload_n (pc := 67) dX7_isWord_67 rfl ?_
      refine g_ireturn (pc := 68) dX7_isWord_68 rfl rfl ?_
      exact ⟨rfl, rfl⟩
    refine g_aload_n (pc := 0) dX7_isWord_0 rfl trivial ?_
    refine g_getf (pc := 1) (v := .int _) dX7_isWord_1 fk_X7_84 (shK hS1 rfl) (fun _ => congrArg Value.int (h9)) ?_
    refine g_aload_n (pc := 4) dX7_isWord_4 rfl trivial ?_
    refine g_getf (pc := 5) (v := .int _) dX7_isWord_5 fk_X7_90 (shK hS1 rfl) (fun _ => congrArg Value.int (h10)) ?_
    refine g_isub (pc := 8) dX7_isWord_8 ?_
    rw [esub]
    refine g_aload_n (pc := 9) dX7_isWord_9 rfl (isA_s _) ?_
    refine g_invVT_r (pc := 10) (As := []) dX7_isWord_10 rfl (qlen) rfl rfl (hq9) lk_X7_106 rfl (nb rfl) ⟨nb rfl, nb rfl⟩ rfl ?_
    refine g_icmp_ne (pc := 13) (tgt := 20) dX7_isWord_13 rfl (fun _ => ?_) (fun h13 => absurd ((fun z => hlw ((nI_eq (by omega) (by omega)).mp z))) h13)
    refine g_iconst (pc := 20) (v := 0) dX7_isWord_20 rfl ?_
    refine g_istore_n (pc := 21) (lv' := [(0, _), (1, _), (2, _)]) dX7_isWord_21 (nl rfl) rfl ?_
    refine g_iconst (pc := 22) (v := 0) dX7_isWord_22 rfl ?_
    refine g_istore_n (pc := 23) (lv' := [(0, _), (1, _), (2, _), (3, _)]) dX7_isWord_23 (nl rfl) rfl ?_
    exact hend
theorem r_isWR {b : Nat} (k : Nat) (hS : Shp M) (hT : txt M T len) (hL : len ≤ 600) (hp : s.1 ≤ len) (hb9 : s.2.1 = nI b) (hb : b ≤ s.1) (hk : k < strT.length) (hk2 : 13 ≤ k) : EvR l jX7_isWord 4 110 0 0 [.ref 198, .retAddr (2 * k + 2)] (psM M s) (.inl (some (.int (b1 (wdQ T b s.1 (strW k)))))) (psM M s) := by
  have h : strT[k]? = some (strT[k]?.getD ("", 0, "", [])) := by rw [List.getElem?_eq_getElem hk]; rfl
  exact r_isWordR hS hT hL hp hb9 hb h (strW_low k hk hk2)
/-- a number's value, capped higher -/
def valG (T : Nat → Int32) (q : Nat) : Nat → Int32
  | 0 => 0
  | k + 1 => least9 10000000 (10 * valG T q k + T (q + k) - 48)
def numG (T : Nat → Int32) (len p : Nat) : Int32 := valG T (skipP T len p) (digP T len (skipP T len p) - skipP T len p)
theorem r_number_e {lo hi : Int32} (hS : Shp M) (he : s.2.2.2.1 ≠ 0) : EvR l jX7_number 2 60 0 0 [.ref 198, .int lo, .int hi] (psM M s) (.inl (some (.int lo))) (psM M s) := by
  have h11 : mI (psM M s) 198 11 = s.2.2.2.1 := ps_11
  have hS1 : Shp (psM M s) := hS
  generalize psM M s = M1 at *
  refine ev_intro rfl (nb rfl) rfl ?_
  refine g_aload_n (pc := 0) dX7_number_0 rfl trivial ?_
  refine g_getf (pc := 1) (v := .int _) dX7_number_1 fk_X7_93 (shK hS1 rfl) (fun _ => congrArg Value.int (h11)) ?_
  refine g_if_eq (pc := 4) (tgt := 9) dX7_number_4 rfl (fun h4 => absurd h4 (he)) (fun _ => ?_)
  refine g_iload_n (pc := 7) dX7_number_7 rfl ?_
  refine g_ireturn (pc := 8) dX7_number_8 rfl rfl ?_
  exact ⟨rfl, rfl⟩
theorem r_numberG {lo hi : Int32} (hS : Shp M) (hT : txt M T len) (hl : mI M 198 8 = nI len) (hL : len ≤ 600) (hp : s.1 ≤ len) (he : s.2.2.2.1 = 0) : EvR l jX7_number 2 60 0 0 [.ref 198, .int lo, .int hi] (psM M s) (.inl (some (.int (if skipP T len s.1 = digP T len (skipP T len s.1) then lo else if lo ≤ numG T len s.1 ∧ numG T len s.1 ≤ hi then numG T len s.1 else lo)))) (psM M (if skipP T len s.1 = digP T len (skipP T len s.1) then rFail 1 (nI (skipP T len s.1)) (tdg0 T len s) else if lo ≤ numG T len s.1 ∧ numG T len s.1 ≤ hi then tdg0 T len s else rFail 2 (nI (skipP T len s.1)) (tdg0 T len s))) := by
  have hsk := skipP_le (T := T) hp
  have h11 : mI (psM M s) 198 11 = 0 := ps_11.trans he
  have q1 := r_next (l := l) (s := s) hS hT hl hL hp
  obtain ⟨b, hb⟩ : ∃ b, b = skipP T len s.1 := ⟨_, rfl⟩
  obtain ⟨S, hs⟩ : ∃ S, S = digP T len b := ⟨_, rfl⟩
  have e0 : nxS T len s = (b, nI b, s.2.2) := by rw [hb]; rfl
  have eE : tdg0 T len s = (S, nI b, s.2.2) := by rw [hs, hb]; rfl
  have hv : numG T len s.1 = valG T b (S - b) := by unfold numG; rw [← hb, ← hs]
  rw [hv, eE, ← hb, ← hs]
  rw [← hb] at hsk
  rw [e0, ← hb] at q1
  have hin := hv_in (T := T) (len := len) (p := b) (a := 48) (b := 57) (c := isDi) (by decide) isDi_iff
  have hS0 : Shp (psM M (b, nI b, s.2.2)) := hS
  have hSs : Shp (psM M s) := hS
  have hdle := digP_le (T := T) hsk.2
  rw [← hs] at hdle
  refine ev_intro rfl (nb rfl) rfl ?_
  by_cases hd : b < len ∧ isDi (T b) = true
  · have hh := hin.mpr hd
    have hne : ¬ b = S := by
      intro e
      have := digP_s hd.1 hd.2
      rw [← hs] at this
      have h2 := digP_le (T := T) (show b + 1 ≤ len by omega)
      omega
    rw [if_neg hne, if_neg hne]
    refine g_aload_n (pc := 0) dX7_number_0 rfl trivial ?_
    refine g_getf (pc := 1) (v := .int _) dX7_number_1 fk_X7_93 (shK hSs rfl) (fun _ => congrArg Value.int (h11)) ?_
    refine g_if_eq (pc := 4) (tgt := 9) dX7_number_4 rfl (fun _ => ?_) (fun h4 => absurd (rfl) h4)
    refine g_aload_n (pc := 9) dX7_number_9 rfl trivial ?_
    refine g_invV_r (pc := 10) (As := []) dX7_number_10 rfl (q1) rfl rfl (shK hSs rfl) rfl rfl lk_X7_99 rfl (nb rfl) ⟨nb rfl, nb rfl⟩ rfl ?_
    refine g_i2l (pc := 13) dX7_number_13 rfl ?_
    refine g_ldc2 (pc := 14) dX7_number_14 wd_1345 ?_
    refine g_ldc2 (pc := 17) dX7_number_17 wd_1346 ?_
    refine g_invS_r (pc := 20) (As := [_, _, _]) dX7_number_20 rfl (r_in_t hh.1 hh.2) rfl rfl lk_X7_67 rfl (nb rfl) ⟨nb rfl, nb rfl⟩ rfl ?_
    refine g_if_ne (pc := 23) (tgt := 33) dX7_number_23 rfl (fun _ => ?_) (fun h23 => absurd ((by decide)) h23)
    refine g_iconst (pc := 33) (v := 0) dX7_number_33 rfl ?_
    refine g_istore_n (pc := 34) (lv' := [(0, _), (1, _), (2, _), (3, _)]) dX7_number_34 (nl rfl) rfl ?_
    refine go_while (pc := 35) (σ := Nat) (fun p => b ≤ p ∧ p ≤ len ∧ digP T len p = S) (fun p => len - p) (fun p => [(0, .ref 198), (1, .int lo), (2, .int hi), (3, .int (valG T b (p - b)))]) (fun p => psM M (p, nI b, s.2.2)) b ⟨rfl, rfl, rfl, by rw [Nat.sub_self]; rfl, trivial⟩ rfl ⟨Nat.le_refl _, hsk.2, hs.symm⟩ ?_
    rintro p ⟨h0, h1, h2⟩ ih
    have hS1 : Shp (psM M (p, nI b, s.2.2)) := hS
    have q2 := r_here (l := l) (s := (p, nI b, s.2.2)) hS hT hl hL h1
    have h9 : mI (psM M (p, nI b, s.2.2)) 198 9 = nI p := ps_9
    have hin2 := hv_in (T := T) (len := len) (p := p) (a := 48) (b := 57) (c := isDi) (by decide) isDi_iff
    by_cases hp2 : p < len ∧ isDi (T p) = true
    · have hh2 := hin2.mpr hp2
      rw [digP_s hp2.1 hp2.2] at h2
      have e9 : pI (psM M (p, nI b, s.2.2)) 198 9 (nI (p + 1)) = psM M (p + 1, nI b, s.2.2) := ps_p9 rfl
      have ih2 := ih (p + 1) ⟨by omega, hp2.1, h2⟩ (by omega)
      have ehv : hvF T len p = T (b + (p - b)) := by unfold hvF; rw [if_pos hp2.1]; congr 1; omega
      rw [show p + 1 - b = (p - b) + 1 by omega, valG] at ih2
      unfold least9 at ih2
      rw [ehv] at q2 hh2
      generalize psM M (p + 1, nI b, s.2.2) = M2 at *
      generalize psM M (p, nI b, s.2.2) = M1 at *
      refine g_aload_n (pc := 35) dX7_number_35 rfl trivial ?_
      refine g_invV_r (pc := 36) (As := []) dX7_number_36 rfl (q2) rfl rfl (shK hS1 rfl) rfl rfl lk_X7_87 rfl (nb rfl) ⟨nb rfl, nb rfl⟩ rfl ?_
      refine g_i2l (pc := 39) dX7_number_39 rfl ?_
      refine g_ldc2 (pc := 40) dX7_number_40 wd_1345 ?_
      refine g_ldc2 (pc := 43) dX7_number_43 wd_1346 ?_
      refine g_invS_r (pc := 46) (As := [_, _, _]) dX7_number_46 rfl (r_in_t hh2.1 hh2.2) rfl rfl lk_X7_67 rfl (nb rfl) ⟨nb rfl, nb rfl⟩ rfl ?_
      refine g_if_eq (pc := 49) (tgt := 83) dX7_number_49 rfl (fun h49 => absurd h49 ((by decide))) (fun _ => ?_)
      refine g_ldc (pc := 52) dX7_number_52 wd_1347 ?_
      refine g_bipush (pc := 54) (v := 10) dX7_number_54 rfl ?_
      refine g_iload_n (pc := 56) dX7_number_56 rfl ?_
      refine g_imul (pc := 57) dX7_number_57 ?_
      refine g_aload_n (pc := 58) dX7_number_58 rfl trivial ?_
      refine g_invV_r (pc := 59) (As := []) dX7_number_59 rfl (q2) rfl rfl (shK hS1 rfl) rfl rfl lk_X7_87 rfl (nb rfl) ⟨nb rfl, nb rfl⟩ rfl ?_
      refine g_iadd (pc := 62) dX7_number_62 ?_
      refine g_bipush (pc := 63) (v := 48) dX7_number_63 rfl ?_
      refine g_isub (pc := 65) dX7_number_65 ?_
      refine g_mmin (pc := 66) dX7_number_66 wd_1348 wd_430 wd_107 wd_431 (nb rfl) (nb rfl) ?_
      refine g_istore_n (pc := 69) (lv' := [(0, _), (1, _), (2, _), (3, _)]) dX7_number_69 (nl rfl) rfl ?_
      refine g_aload_n (pc := 70) dX7_number_70 rfl trivial ?_
      refine g_dup (pc := 71) dX7_number_71 rfl ?_
      refine g_getf (pc := 72) (v := .int _) dX7_number_72 fk_X7_84 (shK hS1 rfl) (fun _ => congrArg Value.int (h9)) ?_
      refine g_iconst (pc := 75) (v := 1) dX7_number_75 rfl ?_
      refine g_iadd (pc := 76) dX7_number_76 ?_
      rw [nI_1]
      refine g_putI (pc := 77) dX7_number_77 fp_X7_84 (shK hS1 rfl) ⟨rfl, rfl⟩ (fun _ _ _ _ => rfl) ?_
      refine go_cast e9 ?_
      refine g_goto (pc := 80) (tgt := 35) dX7_number_80 rfl ?_
      exact ih2
    · rw [digP_0 hp2] at h2
      subst h2
      have qf := r_fails (l := l) (M := M) (s := (p, nI b, s.2.2)) (k := 2) hS
      simp only at qf
      generalize valG T b (p - b) = v at *
      by_cases hr : lo ≤ v ∧ v ≤ hi
      · rw [if_pos hr, if_pos hr]
        have hr2 : lo.toInt64 ≤ v.toInt64 ∧ v.toInt64 ≤ hi.toInt64 := by rw [le_long, le_long]; exact hr
        generalize psM M (p, nI b, s.2.2) = M1 at *
        refine g_aload_n (pc := 35) dX7_number_35 rfl trivial ?_
        refine g_invV_r (pc := 36) (As := []) dX7_number_36 rfl (q2) rfl rfl (shK hS1 rfl) rfl rfl lk_X7_87 rfl (nb rfl) ⟨nb rfl, nb rfl⟩ rfl ?_
        refine g_i2l (pc := 39) dX7_number_39 rfl ?_
        refine g_ldc2 (pc := 40) dX7_number_40 wd_1345 ?_
        refine g_ldc2 (pc := 43) dX7_number_43 wd_1346 ?_
        refine g_invS_r (pc := 46) (As := [_, _, _]) dX7_number_46 rfl (r_in_f (fun z => hp2 (hin2.mp z))) rfl rfl lk_X7_67 rfl (nb rfl) ⟨nb rfl, nb rfl⟩ rfl ?_
        refine g_if_eq (pc := 49) (tgt := 83) dX7_number_49 rfl (fun _ => ?_) (fun h49 => absurd (rfl) h49)
        refine g_iload_n (pc := 83) dX7_number_83 rfl ?_
        refine g_i2l (pc := 84) dX7_number_84 rfl ?_
        refine g_iload_n (pc := 85) dX7_number_85 rfl ?_
        refine g_i2l (pc := 86) dX7_number_86 rfl ?_
        refine g_iload_n (pc := 87) dX7_number_87 rfl ?_
        refine g_i2l (pc := 88) dX7_number_88 rfl ?_
        refine g_invS_r (pc := 89) (As := [_, _, _]) dX7_number_89 rfl (r_in_t hr2.1 hr2.2) rfl rfl lk_X7_67 rfl (nb rfl) ⟨nb rfl, nb rfl⟩ rfl ?_
        refine g_if_ne (pc := 92) (tgt := 102) dX7_number_92 rfl (fun _ => ?_) (fun h92 => absurd ((by decide)) h92)
        refine g_iload_n (pc := 102) dX7_number_102 rfl ?_
        refine g_ireturn (pc := 103) dX7_number_103 rfl rfl ?_
        exact ⟨rfl, rfl⟩
      · rw [if_neg hr, if_neg hr]
        have hr2 : ¬ (lo.toInt64 ≤ v.toInt64 ∧ v.toInt64 ≤ hi.toInt64) := by rw [le_long, le_long]; exact hr
        generalize psM M (rFail 2 (nI b) (p, nI b, s.2.2)) = M3 at *
        generalize psM M (p, nI b, s.2.2) = M1 at *
        refine g_aload_n (pc := 35) dX7_number_35 rfl trivial ?_
        refine g_invV_r (pc := 36) (As := []) dX7_number_36 rfl (q2) rfl rfl (shK hS1 rfl) rfl rfl lk_X7_87 rfl (nb rfl) ⟨nb rfl, nb rfl⟩ rfl ?_
        refine g_i2l (pc := 39) dX7_number_39 rfl ?_
        refine g_ldc2 (pc := 40) dX7_number_40 wd_1345 ?_
        refine g_ldc2 (pc := 43) dX7_number_43 wd_1346 ?_
        refine g_invS_r (pc := 46) (As := [_, _, _]) dX7_number_46 rfl (r_in_f (fun z => hp2 (hin2.mp z))) rfl rfl lk_X7_67 rfl (nb rfl) ⟨nb rfl, nb rfl⟩ rfl ?_
        refine g_if_eq (pc := 49) (tgt := 83) dX7_number_49 rfl (fun _ => ?_) (fun h49 => absurd (rfl) h49)
        refine g_iload_n (pc := 83) dX7_number_83 rfl ?_
        refine g_i2l (pc := 84) dX7_number_84 rfl ?_
        refine g_iload_n (pc := 85) dX7_number_85 rfl ?_
        refine g_i2l (pc := 86) dX7_number_86 rfl ?_
        refine g_iload_n (pc := 87) dX7_number_87 rfl ?_
        refine g_i2l (pc := 88) dX7_number_88 rfl ?_
        refine g_invS_r (pc := 89) (As := [_, _, _]) dX7_number_89 rfl (r_in_f hr2) rfl rfl lk_X7_67 rfl (nb rfl) ⟨nb rfl, nb rfl⟩ rfl ?_
        refine g_if_ne (pc := 92) (tgt := 102) dX7_number_92 rfl (fun h92 => absurd h92 ((fun z => z rfl))) (fun _ => ?_)
        refine g_aload_n (pc := 95) dX7_number_95 rfl trivial ?_
        refine g_iconst (pc := 96) (v := 2) dX7_number_96 rfl ?_
        refine g_invV_r (pc := 97) (As := [_]) dX7_number_97 rfl (qf) rfl rfl (shK hS1 rfl) rfl rfl lk_X7_118 rfl (nb rfl) ⟨nb rfl, nb rfl⟩ rfl ?_
        refine g_iload_n (pc := 100) dX7_number_100 rfl ?_
        refine g_ireturn (pc := 101) dX7_number_101 rfl rfl ?_
        exact ⟨rfl, rfl⟩
  · have e9 : b = S := by rw [hs]; exact (digP_0 hd).symm
    rw [if_pos e9, if_pos e9]
    subst e9
    have qf := r_fails (l := l) (M := M) (s := (b, nI b, s.2.2)) (k := 1) hS
    simp only at qf
    generalize psM M (rFail 1 (nI b) (b, nI b, s.2.2)) = M3 at *
    generalize psM M (b, nI b, s.2.2) = M1 at *
    refine g_aload_n (pc := 0) dX7_number_0 rfl trivial ?_
    refine g_getf (pc := 1) (v := .int _) dX7_number_1 fk_X7_93 (shK hSs rfl) (fun _ => congrArg Value.int (h11)) ?_
    refine g_if_eq (pc := 4) (tgt := 9) dX7_number_4 rfl (fun _ => ?_) (fun h4 => absurd (rfl) h4)
    refine g_aload_n (pc := 9) dX7_number_9 rfl trivial ?_
    refine g_invV_r (pc := 10) (As := []) dX7_number_10 rfl (q1) rfl rfl (shK hSs rfl) rfl rfl lk_X7_99 rfl (nb rfl) ⟨nb rfl, nb rfl⟩ rfl ?_
    refine g_i2l (pc := 13) dX7_number_13 rfl ?_
    refine g_ldc2 (pc := 14) dX7_number_14 wd_1345 ?_
    refine g_ldc2 (pc := 17) dX7_number_17 wd_1346 ?_
    refine g_invS_r (pc := 20) (As := [_, _, _]) dX7_number_20 rfl (r_in_f (fun z => hd (hin.mp z))) rfl rfl lk_X7_67 rfl (nb rfl) ⟨nb rfl, nb rfl⟩ rfl ?_
    refine g_if_ne (pc := 23) (tgt := 33) dX7_number_23 rfl (fun h23 => absurd h23 ((fun z => z rfl))) (fun _ => ?_)
    refine g_aload_n (pc := 26) dX7_number_26 rfl trivial ?_
    refine g_iconst (pc := 27) (v := 1) dX7_number_27 rfl ?_
    refine g_invV_r (pc := 28) (As := [_]) dX7_number_28 rfl (qf) rfl rfl (shK hS0 rfl) rfl rfl lk_X7_118 rfl (nb rfl) ⟨nb rfl, nb rfl⟩ rfl ?_
    refine g_iload_n (pc := 31) dX7_number_31 rfl ?_
    refine g_ireturn (pc := 32) dX7_number_32 rfl rfl ?_
    exact ⟨rfl, rfl⟩
end
end
-- 312.rr
section
/-! the reference reads: numbers as the class reads them, edges, closures to keep -/
theorem scan_all (c : Int32 → Bool) (T : Nat → Int32) : ∀ d p i, p ≤ i → i < scan c T d p → c (T i) = true
  | 0, p, i, h, h2 => by rw [scan] at h2; omega
  | d + 1, p, i, h, h2 => by
    rw [scan] at h2
    by_cases hc : c (T p) = true
    · rw [if_pos hc] at h2
      by_cases e : i = p
      · rw [e]; exact hc
      · exact scan_all c T d (p + 1) i (by omega) h2
    · rw [if_neg hc] at h2; omega
theorem di_n {v : Int32} (h : isDi v = true) : ∃ d, d ≤ 9 ∧ v = nI (48 + d) := by
  obtain ⟨h1, h2⟩ := (isDi_iff v).mp h
  rw [Int32.le_iff_toInt_le] at h1 h2
  have a1 : (48 : Int32).toInt = 48 := rfl
  have a2 : (57 : Int32).toInt = 57 := rfl
  rw [a1] at h1
  rw [a2] at h2
  refine ⟨(v.toInt - 48).toNat, by omega, Int32.toInt_inj.mp ?_⟩
  rw [nI_toInt (by omega)]
  omega
theorem dig_step {a d : Nat} (ha : a ≤ 10000000) (hd : d ≤ 9) : 10 * nI a + nI (48 + d) - 48 = nI (10 * a + d) := by
  rw [show (10 : Int32) = nI 10 from rfl, nI_mul, nI_add, show (48 : Int32) = nI 48 from rfl, nI_sub' (by omega)]
  congr 1
  omega
theorem least_n {a b : Nat} (ha : a < 2147483648) (hb9 : b < 2147483648) : least9 (nI a) (nI b) = nI (min a b) := by
  unfold least9
  by_cases h : b < a
  · rw [if_pos (nI_lt h ha), Nat.min_eq_right (by omega)]
  · rw [if_neg (nI_nlt (by omega) hb9), Nat.min_eq_left (by omega)]
theorem val_FG (T : Nat → Int32) (q : Nat) : ∀ k, (∀ i, q ≤ i → i < q + k → isDi (T i) = true) → ∃ a g, valF T q k = nI a ∧ valG T q k = nI g ∧ a ≤ 1000 ∧ g ≤ 10000000 ∧ ((a = g ∧ a < 1000) ∨ (a = 1000 ∧ 1000 ≤ g))
  | 0, _ => ⟨0, 0, rfl, rfl, by omega, by omega, Or.inl ⟨rfl, by omega⟩⟩
  | k + 1, h => by
    obtain ⟨a, g, h1, h2, h3, h4, h5⟩ := val_FG T q k (fun i hi hj => h i hi (by omega))
    obtain ⟨d, d1, d2⟩ := di_n (h (q + k) (by omega) (by omega))
    refine ⟨min (10 * a + d) 1000, min 10000000 (10 * g + d), ?_, ?_, by omega, by omega, by omega⟩
    · rw [valF, h1, d2, dig_step (by omega) d1, show (1000 : Int32) = nI 1000 from rfl, least_n (by omega) (by omega)]
    · rw [valG, h2, d2, dig_step (by omega) d1, show (10000000 : Int32) = nI 10000000 from rfl, least_n (by omega) (by omega)]
section
variable {T : Nat → Int32} {len : Nat} {s : RP}
theorem num_FG (p : Nat) : ∃ a g, numV T len p = nI a ∧ numG T len p = nI g ∧ a ≤ 1000 ∧ g ≤ 10000000 ∧ ((a = g ∧ a < 1000) ∨ (a = 1000 ∧ 1000 ≤ g)) := by
  refine val_FG T (skipP T len p) _ (fun i hi hj => ?_)
  refine scan_all isDi T (len - skipP T len p) (skipP T len p) i hi ?_
  have hle := (scan_le isDi T (len - skipP T len p) (skipP T len p)).1
  show i < digP T len (skipP T len p)
  have : skipP T len p ≤ digP T len (skipP T len p) := hle
  omega
theorem num_rng {lo hi : Int32} (p : Nat) (hhi : hi < 1000) : (lo ≤ numG T len p ∧ numG T len p ≤ hi) ↔ ¬ (numV T len p < lo ∨ hi < numV T len p) := by
  obtain ⟨a, g, h1, h2, h3, h4, h5⟩ := num_FG (T := T) (len := len) p
  rw [h1, h2]
  have e1 : (1000 : Int32).toInt = 1000 := rfl
  simp only [Int32.le_iff_toInt_le, Int32.lt_iff_toInt_lt, nI_toInt (show a < 2 ^ 31 by omega), nI_toInt (show g < 2 ^ 31 by omega)] at *
  rw [e1] at hhi
  omega
theorem num_val {lo hi : Int32} (p : Nat) (hhi : hi < 1000) (h : lo ≤ numG T len p ∧ numG T len p ≤ hi) : numG T len p = numV T len p := by
  obtain ⟨a, g, h1, h2, h3, h4, h5⟩ := num_FG (T := T) (len := len) p
  rw [h2] at h
  rw [h1, h2]
  have e1 : (1000 : Int32).toInt = 1000 := rfl
  have h6 := h.2
  rw [Int32.le_iff_toInt_le, nI_toInt (by omega)] at h6
  rw [Int32.lt_iff_toInt_lt, e1] at hhi
  congr 1
  omega
theorem rFail_e {k a : Int32} (h : s.2.2.2.1 ≠ 0) : rFail k a s = s := by unfold rFail; rw [if_neg h]
theorem rFail_0 {k a : Int32} (h : s.2.2.2.1 = 0) : rFail k a s = (s.1, s.2.1, s.2.2.1, k, a) := by unfold rFail; rw [if_pos h]
theorem tdg0_e : (tdg0 T len s).2.2.2.1 = s.2.2.2.1 := rfl
theorem tnm_G {lo hi : Int32} (hhi : hi < 1000) (he : s.2.2.2.1 = 0) : tnm T len lo hi s = (if skipP T len s.1 = digP T len (skipP T len s.1) then rFail 1 (nI (skipP T len s.1)) (tdg0 T len s) else if lo ≤ numG T len s.1 ∧ numG T len s.1 ≤ hi then tdg0 T len s else rFail 2 (nI (skipP T len s.1)) (tdg0 T len s)) := by
  unfold tnm tdg
  by_cases h : skipP T len s.1 = digP T len (skipP T len s.1)
  · rw [if_pos h, if_pos h]
    have h2 : (rFail 1 (nI (skipP T len s.1)) (tdg0 T len s)).2.2.2.1 ≠ 0 := by
      rw [rFail_0 (show (tdg0 T len s).2.2.2.1 = 0 from he)]; exact (by decide : (1 : Int32) ≠ 0)
    rw [rFail_e h2, ite_self]
  · rw [if_neg h, if_neg h]
    by_cases h3 : lo ≤ numG T len s.1 ∧ numG T len s.1 ≤ hi
    · rw [if_pos h3, if_neg ((num_rng s.1 hhi).mp h3)]
    · rw [if_neg h3, if_pos (Classical.byContradiction fun q => h3 ((num_rng s.1 hhi).mpr q))]
theorem tnv_G {lo hi : Int32} (hhi : hi < 1000) (he : s.2.2.2.1 = 0) : tnv T len lo hi s = (if skipP T len s.1 = digP T len (skipP T len s.1) then lo else if lo ≤ numG T len s.1 ∧ numG T len s.1 ≤ hi then numG T len s.1 else lo) := by
  unfold tnv
  rw [tnm_G hhi he]
  have h0 : (tdg0 T len s).2.2.2.1 = 0 := he
  by_cases h : skipP T len s.1 = digP T len (skipP T len s.1)
  · rw [if_pos h, if_pos h, rFail_0 h0, if_neg (show ¬ (1 : Int32) = 0 by decide)]
  · rw [if_neg h, if_neg h]
    by_cases h3 : lo ≤ numG T len s.1 ∧ numG T len s.1 ≤ hi
    · rw [if_pos h3, if_pos h3, if_pos h0, num_val s.1 hhi h3]
    · rw [if_neg h3, if_neg h3, rFail_0 h0, if_neg (show ¬ (2 : Int32) = 0 by decide)]
/-- a number is read where no error was -/
def nmS (T : Nat → Int32) (len : Nat) (lo hi : Int32) (s : RP) : RP := if s.2.2.2.1 = 0 then tnm T len lo hi s else s
def nmV (T : Nat → Int32) (len : Nat) (lo hi : Int32) (s : RP) : Int32 := if s.2.2.2.1 = 0 then tnv T len lo hi s else lo
def nmN (T : Nat → Int32) (len h : Nat) (s : RP) : Nat := (nmV T len 0 (nI h) s).toNatClampNeg
theorem nmS_le {lo hi : Int32} (hp : s.1 ≤ len) : (nmS T len lo hi s).1 ≤ len := by
  unfold nmS; split
  · exact tnm_le hp
  · exact hp
theorem nmN_ok {h : Nat} (hh : h < 2147483648) : nmV T len 0 (nI h) s = nI (nmN T len h s) ∧ nmN T len h s ≤ h := by
  unfold nmN nmV
  by_cases he : s.2.2.2.1 = 0
  · rw [if_pos he]
    have := tnN_ok T len hh s
    unfold tnN at this
    exact this
  · rw [if_neg he]
    exact ⟨rfl, Nat.zero_le _⟩
end
section
variable {l : Launch} {M : Mem} {s : RP} {len n : Nat} {T : Nat → Int32}
theorem r_numR {lo hi : Int32} (hS : Shp M) (hT : txt M T len) (hl : mI M 198 8 = nI len) (hL : len ≤ 600) (hp : s.1 ≤ len) (hhi : hi < 1000) : EvR l jX7_number 2 60 0 0 [.ref 198, .int lo, .int hi] (psM M s) (.inl (some (.int (nmV T len lo hi s)))) (psM M (nmS T len lo hi s)) := by
  unfold nmV nmS
  by_cases he : s.2.2.2.1 = 0
  · rw [if_pos he, if_pos he, tnm_G hhi he, tnv_G hhi he]
    exact r_numberG hS hT hl hL hp he
  · rw [if_neg he, if_neg he]
    exact r_number_e hS he
theorem r_readSlot (hS : Shp M) (hT : txt M T len) (hl : mI M 198 8 = nI len) (hL : len ≤ 600) (hp : s.1 ≤ len) : EvR l jX7_readSlot 3 90 0 0 [.ref 198] (psM M s) (.inl (some (.int (nI (nmN T len 5 s))))) (psM M (nmS T len 0 (nI 5) s)) := by
  have q1 := r_numR (l := l) (s := s) (lo := 0) (hi := nI 5) hS hT hl hL hp (by decide)
  rw [(nmN_ok (T := T) (len := len) (s := s) (h := 5) (by decide)).1] at q1
  have hS1 : Shp (psM M s) := hS
  generalize psM M (nmS T len 0 (nI 5) s) = M2 at *
  generalize psM M s = M1 at *
  refine ev_intro rfl (nb rfl) rfl ?_
  refine g_aload_n (pc := 0) dX7_readSlot_0 rfl trivial ?_
  refine g_iconst (pc := 1) (v := 0) dX7_readSlot_1 rfl ?_
  refine g_iconst (pc := 2) (v := 5) dX7_readSlot_2 rfl ?_
  refine g_invV_r (pc := 3) (As := [_, _]) dX7_readSlot_3 rfl (q1) rfl rfl (shK hS1 rfl) rfl rfl lk_X7_129 rfl (nb rfl) ⟨nb rfl, nb rfl⟩ rfl ?_
  refine g_ireturn (pc := 6) dX7_readSlot_6 rfl rfl ?_
  exact ⟨rfl, rfl⟩
theorem r_readNode (hS : Shp M) (hT : txt M T len) (hl : mI M 198 8 = nI len) (hL : len ≤ 600) (hp : s.1 ≤ len) (hz : mL M 200 0 = lN n) (hn : 1 ≤ n) (hn9 : n ≤ 32) : EvR l jX7_readNode 3 90 0 0 [.ref 198] (psM M s) (.inl (some (.int (nI (nmN T len (n - 1) s))))) (psM M (nmS T len 0 (nI (n - 1)) s)) := by
  have q1 := r_numR (l := l) (s := s) (lo := 0) (hi := nI (n - 1)) hS hT hl hL hp (nI_lt (b := 1000) (by omega) (by decide))
  rw [(nmN_ok (T := T) (len := len) (s := s) (h := n - 1) (by omega)).1] at q1
  have hS1 : Shp (psM M s) := hS
  have hz1 : mL (psM M s) 200 0 = lN n := hz
  generalize psM M (nmS T len 0 (nI (n - 1)) s) = M2 at *
  generalize psM M s = M1 at *
  refine ev_intro rfl (nb rfl) rfl ?_
  refine g_aload_n (pc := 0) dX7_readNode_0 rfl trivial ?_
  refine g_iconst (pc := 1) (v := 0) dX7_readNode_1 rfl ?_
  refine g_aload_n (pc := 2) dX7_readNode_2 rfl trivial ?_
  refine g_getf (pc := 3) dX7_readNode_3 fk_X7_13 (shK hS1 rfl) (fv_arr (shR hS1 rfl)) ?_
  refine g_iconst (pc := 6) (v := 0) dX7_readNode_6 rfl ?_
  refine g_laload (pc := 7) dX7_readNode_7 (shK hS1 rfl) rfl (by decide) (nl rfl) ?_
  rw [hz1]
  refine g_l2i (pc := 8) dX7_readNode_8 (lN_i n) ?_
  refine g_iconst (pc := 9) (v := 1) dX7_readNode_9 rfl ?_
  refine g_isub (pc := 10) dX7_readNode_10 ?_
  rw [nI_m1 hn]
  refine g_invV_r (pc := 11) (As := [_, _]) dX7_readNode_11 rfl (q1) rfl rfl (shK hS1 rfl) rfl rfl lk_X7_129 rfl (nb rfl) ⟨nb rfl, nb rfl⟩ rfl ?_
  refine g_ireturn (pc := 14) dX7_readNode_14 rfl rfl ?_
  exact ⟨rfl, rfl⟩
/-- an edge read: the rows, the numbers -/
def gE (T : Nat → Int32) (len n : Nat) (u : Nat → Int64) (s : RP) : (Nat → Int64) × RP :=
  (if (nmS T len 0 (nI (n - 1)) (nmS T len 0 (nI (n - 1)) (nmS T len 0 (nI 5) s))).2.2.2.1 = 0 then fun_set u (28 + 32 * nmN T len 5 s + nmN T len (n - 1) (nmS T len 0 (nI 5) s)) (u (28 + 32 * nmN T len 5 s + nmN T len (n - 1) (nmS T len 0 (nI 5) s)) ||| uL (bitI (nmN T len (n - 1) (nmS T len 0 (nI (n - 1)) (nmS T len 0 (nI 5) s))))) else u,
    nmS T len 0 (nI (n - 1)) (nmS T len 0 (nI (n - 1)) (nmS T len 0 (nI 5) s)))
theorem r_edgePart (hS : Shp M) (hT : txt M T len) (hl : mI M 198 8 = nI len) (hL : len ≤ 600) (hp : s.1 ≤ len) (hz : mL M 200 0 = lN n) (hn : 1 ≤ n) (hn9 : n ≤ 32) : EvR l jX7_edgePart 4 130 0 0 [.ref 198] (psM M s) (.inl none) (psM (sL M 200 (gE T len n (mL M 200) s).1) (gE T len n (mL M 200) s).2) := by
  have q1 := r_readSlot (l := l) (s := s) hS hT hl hL hp
  have ha := (nmN_ok (T := T) (len := len) (s := s) (h := 5) (by decide)).2
  unfold gE
  generalize nmN T len 5 s = a at *
  have hp1 := nmS_le (T := T) (lo := 0) (hi := nI 5) hp
  generalize nmS T len 0 (nI 5) s = s1 at *
  have q2 := r_readNode (l := l) (s := s1) hS hT hl hL hp1 hz hn hn9
  have hr := (nmN_ok (T := T) (len := len) (s := s1) (h := n - 1) (by omega)).2
  generalize nmN T len (n - 1) s1 = r at *
  have hp2 := nmS_le (T := T) (lo := 0) (hi := nI (n - 1)) hp1
  generalize nmS T len 0 (nI (n - 1)) s1 = s2 at *
  have q3 := r_readNode (l := l) (s := s2) hS hT hl hL hp2 hz hn hn9
  have hc := (nmN_ok (T := T) (len := len) (s := s2) (h := n - 1) (by omega)).2
  generalize nmN T len (n - 1) s2 = c at *
  generalize nmS T len 0 (nI (n - 1)) s2 = s3 at *
  have h11 : mI (psM M s3) 198 11 = s3.2.2.2.1 := ps_11
  have hS0 : Shp (psM M s) := hS
  have hS1 : Shp (psM M s1) := hS
  have hS2 : Shp (psM M s2) := hS
  have hS3 : Shp (psM M s3) := hS
  have eu : mL (psM M s3) 200 = mL M 200 := rfl
  have eP : ∀ w, sL (psM M s3) 200 w = psM (sL M 200 w) s3 := fun w => ps_sL
  refine ev_intro rfl (nb rfl) rfl ?_
  by_cases he : s3.2.2.2.1 = 0
  · rw [if_pos he]
    simp only
    rw [← eP, ← eu]
    generalize psM M s3 = M3 at *
    generalize psM M s2 = M2 at *
    generalize psM M s1 = M1 at *
    generalize psM M s = M0 at *
    refine g_aload_n (pc := 0) dX7_edgePart_0 rfl trivial ?_
    refine g_invV_r (pc := 1) (As := []) dX7_edgePart_1 rfl (q1) rfl rfl (shK hS0 rfl) rfl rfl lk_X7_140 rfl (nb rfl) ⟨nb rfl, nb rfl⟩ rfl ?_
    refine g_istore_n (pc := 4) (lv' := [(0, _), (1, _)]) dX7_edgePart_4 (nl rfl) rfl ?_
    refine g_aload_n (pc := 5) dX7_edgePart_5 rfl trivial ?_
    refine g_invV_r (pc := 6) (As := []) dX7_edgePart_6 rfl (q2) rfl rfl (shK hS1 rfl) rfl rfl lk_X7_143 rfl (nb rfl) ⟨nb rfl, nb rfl⟩ rfl ?_
    refine g_istore_n (pc := 9) (lv' := [(0, _), (1, _), (2, _)]) dX7_edgePart_9 (nl rfl) rfl ?_
    refine g_aload_n (pc := 10) dX7_edgePart_10 rfl trivial ?_
    refine g_invV_r (pc := 11) (As := []) dX7_edgePart_11 rfl (q3) rfl rfl (shK hS2 rfl) rfl rfl lk_X7_143 rfl (nb rfl) ⟨nb rfl, nb rfl⟩ rfl ?_
    refine g_istore_n (pc := 14) (lv' := [(0, _), (1, _), (2, _), (3, _)]) dX7_edgePart_14 (nl rfl) rfl ?_
    refine g_aload_n (pc := 15) dX7_edgePart_15 rfl trivial ?_
    refine g_getf (pc := 16) (v := .int _) dX7_edgePart_16 fk_X7_93 (shK hS3 rfl) (fun _ => congrArg Value.int (h11)) ?_
    refine g_if_ne (pc := 19) (tgt := 42) dX7_edgePart_19 rfl (fun h19 => absurd h19 ((fun z => z he))) (fun _ => ?_)
    refine g_aload_n (pc := 22) dX7_edgePart_22 rfl trivial ?_
    refine g_getf (pc := 23) dX7_edgePart_23 fk_X7_13 (shK hS3 rfl) (fv_arr (shR hS3 rfl)) ?_
    refine g_bipush (pc := 26) (v := 28) dX7_edgePart_26 rfl ?_
    refine g_bipush (pc := 28) (v := 32) dX7_edgePart_28 rfl ?_
    refine g_iload_n (pc := 30) dX7_edgePart_30 rfl ?_
    refine g_imul (pc := 31) dX7_edgePart_31 ?_
    refine g_iadd (pc := 32) dX7_edgePart_32 ?_
    refine g_iload_n (pc := 33) dX7_edgePart_33 rfl ?_
    refine g_iadd (pc := 34) dX7_edgePart_34 ?_
    rw [ixR]
    refine g_dup2_11 (pc := 35) dX7_edgePart_35 rfl rfl ?_
    refine g_laload (pc := 36) dX7_edgePart_36 (shK hS3 rfl) rfl (show 28 + 32 * a + r < 220 by omega) (nl rfl) ?_
    refine g_lconst (pc := 37) (v := 1) dX7_edgePart_37 rfl ?_
    refine g_iload_n (pc := 38) dX7_edgePart_38 rfl ?_
    refine g_lshl (pc := 39) dX7_edgePart_39 rfl ?_
    rw [sh_bit c (by omega)]
    refine g_lor (pc := 40) dX7_edgePart_40 ?_
    refine g_lastore (pc := 41) dX7_edgePart_41 (shK hS3 rfl) rfl (show 28 + 32 * a + r < 220 by omega) (nl rfl) ?_
    refine g_return (pc := 42) dX7_edgePart_42 rfl ?_
    exact ⟨rfl, rfl⟩
  · rw [if_neg he]
    simp only
    have e9 : psM (sL M 200 (mL M 200)) s3 = psM M s3 := by rw [sL_id]
    rw [e9]
    generalize psM M s3 = M3 at *
    generalize psM M s2 = M2 at *
    generalize psM M s1 = M1 at *
    generalize psM M s = M0 at *
    refine g_aload_n (pc := 0) dX7_edgePart_0 rfl trivial ?_
    refine g_invV_r (pc := 1) (As := []) dX7_edgePart_1 rfl (q1) rfl rfl (shK hS0 rfl) rfl rfl lk_X7_140 rfl (nb rfl) ⟨nb rfl, nb rfl⟩ rfl ?_
    refine g_istore_n (pc := 4) (lv' := [(0, _), (1, _)]) dX7_edgePart_4 (nl rfl) rfl ?_
    refine g_aload_n (pc := 5) dX7_edgePart_5 rfl trivial ?_
    refine g_invV_r (pc := 6) (As := []) dX7_edgePart_6 rfl (q2) rfl rfl (shK hS1 rfl) rfl rfl lk_X7_143 rfl (nb rfl) ⟨nb rfl, nb rfl⟩ rfl ?_
    refine g_istore_n (pc := 9) (lv' := [(0, _), (1, _), (2, _)]) dX7_edgePart_9 (nl rfl) rfl ?_
    refine g_aload_n (pc := 10) dX7_edgePart_10 rfl trivial ?_
    refine g_invV_r (pc := 11) (As := []) dX7_edgePart_11 rfl (q3) rfl rfl (shK hS2 rfl) rfl rfl lk_X7_143 rfl (nb rfl) ⟨nb rfl, nb rfl⟩ rfl ?_
    refine g_istore_n (pc := 14) (lv' := [(0, _), (1, _), (2, _), (3, _)]) dX7_edgePart_14 (nl rfl) rfl ?_
    refine g_aload_n (pc := 15) dX7_edgePart_15 rfl trivial ?_
    refine g_getf (pc := 16) (v := .int _) dX7_edgePart_16 fk_X7_93 (shK hS3 rfl) (fun _ => congrArg Value.int (h11)) ?_
    refine g_if_ne (pc := 19) (tgt := 42) dX7_edgePart_19 rfl (fun _ => ?_) (fun h19 => absurd (he) h19)
    refine g_return (pc := 42) dX7_edgePart_42 rfl ?_
    exact ⟨rfl, rfl⟩
def gK (T : Nat → Int32) (len : Nat) (u : Nat → Int64) (s : RP) : (Nat → Int64) × RP :=
  (fun_set u (4 + nmN T len 5 s) 1, if (nmS T len 0 (nI 5) s).2.2.2.1 = 0 ∧ u (4 + nmN T len 5 s) = 1 then rFail 3 (nmS T len 0 (nI 5) s).2.1 (nmS T len 0 (nI 5) s) else nmS T len 0 (nI 5) s)
theorem r_keepPart (hS : Shp M) (hT : txt M T len) (hl : mI M 198 8 = nI len) (hL : len ≤ 600) (hp : s.1 ≤ len) : EvR l jX7_keepPart 4 130 0 0 [.ref 198] (psM M s) (.inl none) (psM (sL M 200 (gK T len (mL M 200) s).1) (gK T len (mL M 200) s).2) := by
  have q1 := r_readSlot (l := l) (s := s) hS hT hl hL hp
  have ha := (nmN_ok (T := T) (len := len) (s := s) (h := 5) (by decide)).2
  unfold gK
  generalize nmN T len 5 s = a at *
  generalize nmS T len 0 (nI 5) s = s1 at *
  have i4 : 4 + nI a = nI (4 + a) := nI_add 4 a
  have h11 : mI (psM M s1) 198 11 = s1.2.2.2.1 := ps_11
  have hS0 : Shp (psM M s) := hS
  have hS1 : Shp (psM M s1) := hS
  have qf := r_fails (l := l) (M := M) (s := s1) (k := 3) hS
  have eu : mL (psM M s1) 200 = mL M 200 := rfl
  have hS2 : Shp (psM M (rFail 3 s1.2.1 s1)) := hS
  have eP : ∀ w t, psM (sL M 200 w) t = sL (psM M t) 200 w := fun w t => ps_sL.symm
  have eu2 : ∀ t, mL M 200 = mL (psM M t) 200 := fun t => rfl
  refine ev_intro rfl (nb rfl) rfl ?_
  simp only
  by_cases he : s1.2.2.2.1 = 0
  · by_cases h1 : mL M 200 (4 + a) = 1
    · rw [if_pos ⟨he, h1⟩, eP]
      rw [show fun_set (mL M 200) (4 + a) 1 = fun_set (mL (psM M (rFail 3 s1.2.1 s1)) 200) (4 + a) 1 from rfl]
      have h1' : mL (psM M s1) 200 (4 + a) = 1 := h1
      generalize psM M (rFail 3 s1.2.1 s1) = M2 at *
      generalize psM M s1 = M1 at *
      generalize psM M s = M0 at *
      refine g_aload_n (pc := 0) dX7_keepPart_0 rfl trivial ?_
      refine g_invV_r (pc := 1) (As := []) dX7_keepPart_1 rfl (q1) rfl rfl (shK hS0 rfl) rfl rfl lk_X7_140 rfl (nb rfl) ⟨nb rfl, nb rfl⟩ rfl ?_
      refine g_istore_n (pc := 4) (lv' := [(0, _), (1, _)]) dX7_keepPart_4 (nl rfl) rfl ?_
      refine g_aload_n (pc := 5) dX7_keepPart_5 rfl trivial ?_
      refine g_getf (pc := 6) (v := .int _) dX7_keepPart_6 fk_X7_93 (shK hS1 rfl) (fun _ => congrArg Value.int (h11)) ?_
      refine g_if_ne (pc := 9) (tgt := 30) dX7_keepPart_9 rfl (fun h9 => absurd h9 ((fun z => z he))) (fun _ => ?_)
      refine g_aload_n (pc := 12) dX7_keepPart_12 rfl trivial ?_
      refine g_getf (pc := 13) dX7_keepPart_13 fk_X7_13 (shK hS1 rfl) (fv_arr (shR hS1 rfl)) ?_
      refine g_iconst (pc := 16) (v := 4) dX7_keepPart_16 rfl ?_
      refine g_iload_n (pc := 17) dX7_keepPart_17 rfl ?_
      refine g_iadd (pc := 18) dX7_keepPart_18 ?_
      rw [i4]
      refine g_laload (pc := 19) dX7_keepPart_19 (shK hS1 rfl) rfl (show 4 + a < 220 by omega) (nl rfl) ?_
      rw [h1']
      refine g_lconst (pc := 20) (v := 1) dX7_keepPart_20 rfl ?_
      refine g_lcmp (pc := 21) dX7_keepPart_21 ?_
      refine g_if_ne (pc := 22) (tgt := 30) dX7_keepPart_22 rfl (fun h22 => absurd h22 ((by decide))) (fun _ => ?_)
      refine g_aload_n (pc := 25) dX7_keepPart_25 rfl trivial ?_
      refine g_iconst (pc := 26) (v := 3) dX7_keepPart_26 rfl ?_
      refine g_invV_r (pc := 27) (As := [_]) dX7_keepPart_27 rfl (qf) rfl rfl (shK hS1 rfl) rfl rfl lk_X7_118 rfl (nb rfl) ⟨nb rfl, nb rfl⟩ rfl ?_
      refine g_aload_n (pc := 30) dX7_keepPart_30 rfl trivial ?_
      refine g_getf (pc := 31) dX7_keepPart_31 fk_X7_13 (shK hS2 rfl) (fv_arr (shR hS2 rfl)) ?_
      refine g_iconst (pc := 34) (v := 4) dX7_keepPart_34 rfl ?_
      refine g_iload_n (pc := 35) dX7_keepPart_35 rfl ?_
      refine g_iadd (pc := 36) dX7_keepPart_36 ?_
      rw [i4]
      refine g_lconst (pc := 37) (v := 1) dX7_keepPart_37 rfl ?_
      refine g_lastore (pc := 38) dX7_keepPart_38 (shK hS2 rfl) rfl (show 4 + a < 220 by omega) (nl rfl) ?_
      refine g_return (pc := 39) dX7_keepPart_39 rfl ?_
      exact ⟨rfl, rfl⟩
    · rw [if_neg (fun z => h1 z.2), eP]
      rw [show fun_set (mL M 200) (4 + a) 1 = fun_set (mL (psM M s1) 200) (4 + a) 1 from rfl]
      have h1' : ¬ mL (psM M s1) 200 (4 + a) = 1 := h1
      generalize psM M s1 = M1 at *
      generalize psM M s = M0 at *
      refine g_aload_n (pc := 0) dX7_keepPart_0 rfl trivial ?_
      refine g_invV_r (pc := 1) (As := []) dX7_keepPart_1 rfl (q1) rfl rfl (shK hS0 rfl) rfl rfl lk_X7_140 rfl (nb rfl) ⟨nb rfl, nb rfl⟩ rfl ?_
      refine g_istore_n (pc := 4) (lv' := [(0, _), (1, _)]) dX7_keepPart_4 (nl rfl) rfl ?_
      refine g_aload_n (pc := 5) dX7_keepPart_5 rfl trivial ?_
      refine g_getf (pc := 6) (v := .int _) dX7_keepPart_6 fk_X7_93 (shK hS1 rfl) (fun _ => congrArg Value.int (h11)) ?_
      refine g_if_ne (pc := 9) (tgt := 30) dX7_keepPart_9 rfl (fun h9 => absurd h9 ((fun z => z he))) (fun _ => ?_)
      refine g_aload_n (pc := 12) dX7_keepPart_12 rfl trivial ?_
      refine g_getf (pc := 13) dX7_keepPart_13 fk_X7_13 (shK hS1 rfl) (fv_arr (shR hS1 rfl)) ?_
      refine g_iconst (pc := 16) (v := 4) dX7_keepPart_16 rfl ?_
      refine g_iload_n (pc := 17) dX7_keepPart_17 rfl ?_
      refine g_iadd (pc := 18) dX7_keepPart_18 ?_
      rw [i4]
      refine g_laload (pc := 19) dX7_keepPart_19 (shK hS1 rfl) rfl (show 4 + a < 220 by omega) (nl rfl) ?_
      refine g_lconst (pc := 20) (v := 1) dX7_keepPart_20 rfl ?_
      refine g_lcmp (pc := 21) dX7_keepPart_21 ?_
      refine g_if_ne (pc := 22) (tgt := 30) dX7_keepPart_22 rfl (fun _ => ?_) (fun h22 => absurd ((fun z => h1' ((lg_cmp_eq _ _).mp z))) h22)
      refine g_aload_n (pc := 30) dX7_keepPart_30 rfl trivial ?_
      refine g_getf (pc := 31) dX7_keepPart_31 fk_X7_13 (shK hS1 rfl) (fv_arr (shR hS1 rfl)) ?_
      refine g_iconst (pc := 34) (v := 4) dX7_keepPart_34 rfl ?_
      refine g_iload_n (pc := 35) dX7_keepPart_35 rfl ?_
      refine g_iadd (pc := 36) dX7_keepPart_36 ?_
      rw [i4]
      refine g_lconst (pc := 37) (v := 1) dX7_keepPart_37 rfl ?_
      refine g_lastore (pc := 38) dX7_keepPart_38 (shK hS1 rfl) rfl (show 4 + a < 220 by omega) (nl rfl) ?_
      refine g_return (pc := 39) dX7_keepPart_39 rfl ?_
      exact ⟨rfl, rfl⟩
  · rw [if_neg (fun z => he z.1), eP]
    rw [show fun_set (mL M 200) (4 + a) 1 = fun_set (mL (psM M s1) 200) (4 + a) 1 from rfl]
    generalize psM M s1 = M1 at *
    generalize psM M s = M0 at *
    refine g_aload_n (pc := 0) dX7_keepPart_0 rfl trivial ?_
    refine g_invV_r (pc := 1) (As := []) dX7_keepPart_1 rfl (q1) rfl rfl (shK hS0 rfl) rfl rfl lk_X7_140 rfl (nb rfl) ⟨nb rfl, nb rfl⟩ rfl ?_
    refine g_istore_n (pc := 4) (lv' := [(0, _), (1, _)]) dX7_keepPart_4 (nl rfl) rfl ?_
    refine g_aload_n (pc := 5) dX7_keepPart_5 rfl trivial ?_
    refine g_getf (pc := 6) (v := .int _) dX7_keepPart_6 fk_X7_93 (shK hS1 rfl) (fun _ => congrArg Value.int (h11)) ?_
    refine g_if_ne (pc := 9) (tgt := 30) dX7_keepPart_9 rfl (fun _ => ?_) (fun h9 => absurd (he) h9)
    refine g_aload_n (pc := 30) dX7_keepPart_30 rfl trivial ?_
    refine g_getf (pc := 31) dX7_keepPart_31 fk_X7_13 (shK hS1 rfl) (fv_arr (shR hS1 rfl)) ?_
    refine g_iconst (pc := 34) (v := 4) dX7_keepPart_34 rfl ?_
    refine g_iload_n (pc := 35) dX7_keepPart_35 rfl ?_
    refine g_iadd (pc := 36) dX7_keepPart_36 ?_
    rw [i4]
    refine g_lconst (pc := 37) (v := 1) dX7_keepPart_37 rfl ?_
    refine g_lastore (pc := 38) dX7_keepPart_38 (shK hS1 rfl) rfl (show 4 + a < 220 by omega) (nl rfl) ?_
    refine g_return (pc := 39) dX7_keepPart_39 rfl ?_
    exact ⟨rfl, rfl⟩
end
end
-- 313.rr
section
/-! the reference reads: rows, fillings -/
def rbB (T : Nat → Int32) (b : Nat) : Nat → Int32
  | 0 => 0
  | k + 1 => rbB T b k ||| (if k < 32 ∧ T (b + k) = 49 then bitI k else 0)
def isB (T : Nat → Int32) (b : Nat) : Nat → Bool
  | 0 => true
  | k + 1 => isB T b k && decide (T (b + k) ≤ 49)
theorem lN_iq {a b : Nat} (ha : a < 2147483648) (hb9 : b < 2147483648) (h : lN a = lN b) : a = b := by
  have := congrArg Int64.toInt h
  rw [lN_toInt (by omega), lN_toInt (by omega)] at this
  omega
section
variable {T : Nat → Int32} {b k : Nat}
theorem isB_t (h : T (b + k) ≤ 49) : b1 (isB T b k) &&& 1 = b1 (isB T b (k + 1)) := by
  rw [isB, decide_eq_true h]; cases isB T b k <;> rfl
theorem isB_f (h : ¬ T (b + k) ≤ 49) : b1 (isB T b k) &&& 0 = b1 (isB T b (k + 1)) := by
  rw [isB, decide_eq_false h]; cases isB T b k <;> rfl
theorem rbB_t (h : k < 32) (h2 : T (b + k) = 49) : uL (rbB T b k) ||| 1 <<< ((nI k).toInt64 &&& 63) = uL (rbB T b (k + 1)) := by
  rw [rbB, if_pos ⟨h, h2⟩, sh_bit k h, uL_or]
theorem rbB_f (h : ¬ (k < 32 ∧ T (b + k) = 49)) : uL (rbB T b k) ||| 0 = uL (rbB T b (k + 1)) := by
  rw [rbB, if_neg h, ← uL_or, uL_0]
end
/-- a row read: the rows, the numbers -/
def gRb (T : Nat → Int32) (len n a r : Nat) (u : Nat → Int64) (s : RP) (b : Nat) : (Nat → Int64) × RP :=
  if b < len ∧ isDi (T b) = true then
    (if isB T b (digP T len b - b) = true ∧ digP T len b - b = n then (fun_set u (28 + 32 * a + r) (uL (rbB T b n)), (digP T len b, nI b, s.2.2))
     else (u, rFail 2 (nI b) (digP T len b, nI b, s.2.2)))
  else (u, rFail 1 (nI b) (b, nI b, s.2.2))
def gR (T : Nat → Int32) (len n : Nat) (u : Nat → Int64) (s : RP) : (Nat → Int64) × RP :=
  if (nmS T len 0 (nI (n - 1)) (nmS T len 0 (nI 5) s)).2.2.2.1 = 0 then gRb T len n (nmN T len 5 s) (nmN T len (n - 1) (nmS T len 0 (nI 5) s)) u (nmS T len 0 (nI (n - 1)) (nmS T len 0 (nI 5) s)) (skipP T len (nmS T len 0 (nI (n - 1)) (nmS T len 0 (nI 5) s)).1)
  else (u, nmS T len 0 (nI (n - 1)) (nmS T len 0 (nI 5) s))
section
variable {l : Launch} {M : Mem} {s : RP} {len n : Nat} {T : Nat → Int32}
theorem r_rowPart (hS : Shp M) (hT : txt M T len) (hl : mI M 198 8 = nI len) (hL : len ≤ 600) (hp : s.1 ≤ len) (hz : mL M 200 0 = lN n) (hn : 1 ≤ n) (hn9 : n ≤ 32) : EvR l jX7_rowPart 4 130 0 0 [.ref 198] (psM M s) (.inl none) (psM (sL M 200 (gR T len n (mL M 200) s).1) (gR T len n (mL M 200) s).2) := by
  have q1 := r_readSlot (l := l) (s := s) hS hT hl hL hp
  have ha := (nmN_ok (T := T) (len := len) (s := s) (h := 5) (by decide)).2
  unfold gR
  generalize nmN T len 5 s = a at *
  have hp1 := nmS_le (T := T) (lo := 0) (hi := nI 5) hp
  generalize nmS T len 0 (nI 5) s = s1 at *
  have q2 := r_readNode (l := l) (s := s1) hS hT hl hL hp1 hz hn hn9
  have hr := (nmN_ok (T := T) (len := len) (s := s1) (h := n - 1) (by omega)).2
  generalize nmN T len (n - 1) s1 = r at *
  have hp2 := nmS_le (T := T) (lo := 0) (hi := nI (n - 1)) hp1
  generalize nmS T len 0 (nI (n - 1)) s1 = s2 at *
  have h11 : mI (psM M s2) 198 11 = s2.2.2.2.1 := ps_11
  have hS0 : Shp (psM M s) := hS
  have hS1 : Shp (psM M s1) := hS
  have hS2 : Shp (psM M s2) := hS
  have eP : ∀ w t, psM (sL M 200 w) t = sL (psM M t) 200 w := fun w t => ps_sL.symm
  refine ev_intro rfl (nb rfl) rfl ?_
  by_cases he : s2.2.2.2.1 = 0
  · rw [if_pos he]
    have q3 := r_next (l := l) (s := s2) hS hT hl hL hp2
    have hsk := (skipP_le (T := T) hp2).2
    unfold nxS at q3
    unfold gRb
    obtain ⟨b, hb⟩ : ∃ b, b = skipP T len s2.1 := ⟨_, rfl⟩
    rw [← hb] at q3 hsk
    rw [← hb]
    have hin := hv_in (T := T) (len := len) (p := b) (a := 48) (b := 57) (c := isDi) (by decide) isDi_iff
    have hS3 : Shp (psM M (b, nI b, s2.2.2)) := hS
    have h113 : mI (psM M (b, nI b, s2.2.2)) 198 11 = 0 := ps_11.trans he
    by_cases hd : b < len ∧ isDi (T b) = true
    · rw [if_pos hd]
      have hh := hin.mpr hd
      have hdle := digP_le (T := T) (show b ≤ len by omega)
      obtain ⟨S, hs⟩ : ∃ S, S = digP T len b := ⟨_, rfl⟩
      rw [← hs] at hdle
      rw [← hs]
      refine g_aload_n (pc := 0) dX7_rowPart_0 rfl trivial ?_
      refine g_invV_r (pc := 1) (As := []) dX7_rowPart_1 rfl (q1) rfl rfl (shK hS0 rfl) rfl rfl lk_X7_140 rfl (nb rfl) ⟨nb rfl, nb rfl⟩ rfl ?_
      refine g_istore_n (pc := 4) (lv' := [(0, _), (1, _)]) dX7_rowPart_4 (nl rfl) rfl ?_
      refine g_aload_n (pc := 5) dX7_rowPart_5 rfl trivial ?_
      refine g_invV_r (pc := 6) (As := []) dX7_rowPart_6 rfl (q2) rfl rfl (shK hS1 rfl) rfl rfl lk_X7_143 rfl (nb rfl) ⟨nb rfl, nb rfl⟩ rfl ?_
      refine g_istore_n (pc := 9) (lv' := [(0, _), (1, _), (2, _)]) dX7_rowPart_9 (nl rfl) rfl ?_
      refine g_aload_n (pc := 10) dX7_rowPart_10 rfl trivial ?_
      refine g_getf (pc := 11) (v := .int _) dX7_rowPart_11 fk_X7_93 (shK hS2 rfl) (fun _ => congrArg Value.int (h11)) ?_
      refine g_if_ne (pc := 14) (tgt := 39) dX7_rowPart_14 rfl (fun h14 => absurd h14 ((fun z => z he))) (fun _ => ?_)
      refine g_aload_n (pc := 17) dX7_rowPart_17 rfl trivial ?_
      refine g_invV_r (pc := 18) (As := []) dX7_rowPart_18 rfl (q3) rfl rfl (shK hS2 rfl) rfl rfl lk_X7_99 rfl (nb rfl) ⟨nb rfl, nb rfl⟩ rfl ?_
      refine g_i2l (pc := 21) dX7_rowPart_21 rfl ?_
      refine g_ldc2 (pc := 22) dX7_rowPart_22 wd_1345 ?_
      refine g_ldc2 (pc := 25) dX7_rowPart_25 wd_1346 ?_
      refine g_invS_r (pc := 28) (As := [_, _, _]) dX7_rowPart_28 rfl (r_in_t hh.1 hh.2) rfl rfl lk_X7_67 rfl (nb rfl) ⟨nb rfl, nb rfl⟩ rfl ?_
      refine g_if_ne (pc := 31) (tgt := 39) dX7_rowPart_31 rfl (fun _ => ?_) (fun h31 => absurd ((by decide)) h31)
      refine g_aload_n (pc := 39) dX7_rowPart_39 rfl trivial ?_
      refine g_getf (pc := 40) (v := .int _) dX7_rowPart_40 fk_X7_93 (shK hS3 rfl) (fun _ => congrArg Value.int (h113)) ?_
      refine g_if_eq (pc := 43) (tgt := 47) dX7_rowPart_43 rfl (fun _ => ?_) (fun h43 => absurd (rfl) h43)
      refine g_lconst (pc := 47) (v := 0) dX7_rowPart_47 rfl ?_
      refine g_lstore_n (pc := 48) (lv' := [(0, _), (1, _), (2, _), (3, _)]) dX7_rowPart_48 (nl rfl) rfl ?_
      rw [← uL_0]
      refine g_iconst (pc := 49) (v := 0) dX7_rowPart_49 rfl ?_
      refine g_istore (pc := 50) (lv' := [(0, _), (1, _), (2, _), (3, _), (5, _)]) dX7_rowPart_50 (nl rfl) rfl ?_
      refine g_iconst (pc := 52) (v := 1) dX7_rowPart_52 rfl ?_
      refine g_istore (pc := 53) (lv' := [(0, _), (1, _), (2, _), (3, _), (5, _), (6, _)]) dX7_rowPart_53 (nl rfl) rfl ?_
      refine go_while (pc := 55) (σ := Nat) (fun p => b ≤ p ∧ p ≤ len ∧ digP T len p = S) (fun p => len - p) (fun p => [(0, .ref 198), (1, .int (nI a)), (2, .int (nI r)), (3, .long (uL (rbB T b (p - b)))), (5, .int (nI (p - b))), (6, .int (b1 (isB T b (p - b))))]) (fun p => psM M (p, nI b, s2.2.2)) b ⟨rfl, rfl, rfl, by rw [Nat.sub_self]; rfl, by rw [Nat.sub_self]; rfl, by rw [Nat.sub_self]; rfl, trivial⟩ rfl ⟨Nat.le_refl _, hsk, hs.symm⟩ ?_
      rintro p ⟨h0, h1, h2⟩ ih
      have hS1 : Shp (psM M (p, nI b, s2.2.2)) := hS
      have q2 := r_here (l := l) (s := (p, nI b, s2.2.2)) hS hT hl hL h1
      have h9 : mI (psM M (p, nI b, s2.2.2)) 198 9 = nI p := ps_9
      have hin2 := hv_in (T := T) (len := len) (p := p) (a := 48) (b := 57) (c := isDi) (by decide) isDi_iff
      by_cases hp2 : p < len ∧ isDi (T p) = true
      · have hh2 := hin2.mpr hp2
        rw [digP_s hp2.1 hp2.2] at h2
        have e9 : pI (psM M (p, nI b, s2.2.2)) 198 9 (nI (p + 1)) = psM M (p + 1, nI b, s2.2.2) := ps_p9 rfl
        have ih2 := ih (p + 1) ⟨by omega, hp2.1, h2⟩ (by omega)
        have ehv : hvF T len p = T (b + (p - b)) := by unfold hvF; rw [if_pos hp2.1]; congr 1; omega
        rw [show p + 1 - b = (p - b) + 1 by omega] at ih2
        have hkn : p - b < 600 := by omega
        generalize p - b = k at *
        rw [ehv] at q2 hh2
        generalize psM M (p + 1, nI b, s2.2.2) = M2 at *
        generalize psM M (p, nI b, s2.2.2) = M1 at *
        refine g_aload_n (pc := 55) dX7_rowPart_55 rfl trivial ?_
        refine g_invV_r (pc := 56) (As := []) dX7_rowPart_56 rfl (q2) rfl rfl (shK hS1 rfl) rfl rfl lk_X7_87 rfl (nb rfl) ⟨nb rfl, nb rfl⟩ rfl ?_
        refine g_i2l (pc := 59) dX7_rowPart_59 rfl ?_
        refine g_ldc2 (pc := 60) dX7_rowPart_60 wd_1345 ?_
        refine g_ldc2 (pc := 63) dX7_rowPart_63 wd_1346 ?_
        refine g_invS_r (pc := 66) (As := [_, _, _]) dX7_rowPart_66 rfl (r_in_t hh2.1 hh2.2) rfl rfl lk_X7_67 rfl (nb rfl) ⟨nb rfl, nb rfl⟩ rfl ?_
        refine g_if_eq (pc := 69) (tgt := 134) dX7_rowPart_69 rfl (fun h69 => absurd h69 ((by decide))) (fun _ => ?_)
        refine g_iload (pc := 72) dX7_rowPart_72 rfl ?_
        refine g_aload_n (pc := 74) dX7_rowPart_74 rfl trivial ?_
        refine g_invV_r (pc := 75) (As := []) dX7_rowPart_75 rfl (q2) rfl rfl (shK hS1 rfl) rfl rfl lk_X7_87 rfl (nb rfl) ⟨nb rfl, nb rfl⟩ rfl ?_
        refine g_bipush (pc := 78) (v := 49) dX7_rowPart_78 rfl ?_
        refine g_icmp_gt (pc := 80) (tgt := 87) dX7_rowPart_80 rfl (fun h80 => ?_) (fun h80 => ?_)
        · refine g_iconst (pc := 87) (v := 0) dX7_rowPart_87 rfl ?_
          refine g_iand (pc := 88) dX7_rowPart_88 ?_
          rw [isB_f (Int32.not_le.mpr h80)]
          refine g_istore (pc := 89) (lv' := [(0, _), (1, _), (2, _), (3, _), (5, _), (6, _)]) dX7_rowPart_89 (nl rfl) rfl ?_
          refine g_lload_n (pc := 91) dX7_rowPart_91 rfl ?_
          refine g_iload (pc := 92) dX7_rowPart_92 rfl ?_
          refine g_bipush (pc := 94) (v := 32) dX7_rowPart_94 rfl ?_
          refine g_icmp_ge (pc := 96) (tgt := 115) dX7_rowPart_96 rfl (fun h96 => ?_) (fun h96 => ?_)
          · refine g_lconst (pc := 115) (v := 0) dX7_rowPart_115 rfl ?_
            refine g_lor (pc := 116) dX7_rowPart_116 ?_
            rw [rbB_f (fun z => Int32.not_lt.mpr h96 (nI_lt (b := 32) z.1 (by decide)))]
            refine g_lstore_n (pc := 117) (lv' := [(0, _), (1, _), (2, _), (3, _), (5, _), (6, _)]) dX7_rowPart_117 (nl rfl) rfl ?_
            refine g_iinc (pc := 118) (lv' := [(0, _), (1, _), (2, _), (3, _), (5, _), (6, _)]) dX7_rowPart_118 rfl (nI_1 _) (nl rfl) rfl ?_
            refine g_aload_n (pc := 121) dX7_rowPart_121 rfl trivial ?_
            refine g_dup (pc := 122) dX7_rowPart_122 rfl ?_
            refine g_getf (pc := 123) (v := .int _) dX7_rowPart_123 fk_X7_84 (shK hS1 rfl) (fun _ => congrArg Value.int (h9)) ?_
            refine g_iconst (pc := 126) (v := 1) dX7_rowPart_126 rfl ?_
            refine g_iadd (pc := 127) dX7_rowPart_127 ?_
            rw [nI_1]
            refine g_putI (pc := 128) dX7_rowPart_128 fp_X7_84 (shK hS1 rfl) ⟨rfl, rfl⟩ (fun _ _ _ _ => rfl) ?_
            refine go_cast e9 ?_
            refine g_goto (pc := 131) (tgt := 55) dX7_rowPart_131 rfl ?_
            exact ih2
          · refine g_aload_n (pc := 99) dX7_rowPart_99 rfl trivial ?_
            refine g_invV_r (pc := 100) (As := []) dX7_rowPart_100 rfl (q2) rfl rfl (shK hS1 rfl) rfl rfl lk_X7_87 rfl (nb rfl) ⟨nb rfl, nb rfl⟩ rfl ?_
            refine g_bipush (pc := 103) (v := 49) dX7_rowPart_103 rfl ?_
            refine g_icmp_ne (pc := 105) (tgt := 115) dX7_rowPart_105 rfl (fun h105 => ?_) (fun h105 => ?_)
            · refine g_lconst (pc := 115) (v := 0) dX7_rowPart_115 rfl ?_
              refine g_lor (pc := 116) dX7_rowPart_116 ?_
              rw [rbB_f (fun z => h105 z.2)]
              refine g_lstore_n (pc := 117) (lv' := [(0, _), (1, _), (2, _), (3, _), (5, _), (6, _)]) dX7_rowPart_117 (nl rfl) rfl ?_
              refine g_iinc (pc := 118) (lv' := [(0, _), (1, _), (2, _), (3, _), (5, _), (6, _)]) dX7_rowPart_118 rfl (nI_1 _) (nl rfl) rfl ?_
              refine g_aload_n (pc := 121) dX7_rowPart_121 rfl trivial ?_
              refine g_dup (pc := 122) dX7_rowPart_122 rfl ?_
              refine g_getf (pc := 123) (v := .int _) dX7_rowPart_123 fk_X7_84 (shK hS1 rfl) (fun _ => congrArg Value.int (h9)) ?_
              refine g_iconst (pc := 126) (v := 1) dX7_rowPart_126 rfl ?_
              refine g_iadd (pc := 127) dX7_rowPart_127 ?_
              rw [nI_1]
              refine g_putI (pc := 128) dX7_rowPart_128 fp_X7_84 (shK hS1 rfl) ⟨rfl, rfl⟩ (fun _ _ _ _ => rfl) ?_
              refine go_cast e9 ?_
              refine g_goto (pc := 131) (tgt := 55) dX7_rowPart_131 rfl ?_
              exact ih2
            · refine g_lconst (pc := 108) (v := 1) dX7_rowPart_108 rfl ?_
              refine g_iload (pc := 109) dX7_rowPart_109 rfl ?_
              refine g_lshl (pc := 111) dX7_rowPart_111 rfl ?_
              refine g_goto (pc := 112) (tgt := 116) dX7_rowPart_112 rfl ?_
              refine g_lor (pc := 116) dX7_rowPart_116 ?_
              rw [rbB_t (Nat.lt_of_not_le (fun z => h96 (nI_le (a := 32) z (by omega)))) (Classical.byContradiction h105)]
              refine g_lstore_n (pc := 117) (lv' := [(0, _), (1, _), (2, _), (3, _), (5, _), (6, _)]) dX7_rowPart_117 (nl rfl) rfl ?_
              refine g_iinc (pc := 118) (lv' := [(0, _), (1, _), (2, _), (3, _), (5, _), (6, _)]) dX7_rowPart_118 rfl (nI_1 _) (nl rfl) rfl ?_
              refine g_aload_n (pc := 121) dX7_rowPart_121 rfl trivial ?_
              refine g_dup (pc := 122) dX7_rowPart_122 rfl ?_
              refine g_getf (pc := 123) (v := .int _) dX7_rowPart_123 fk_X7_84 (shK hS1 rfl) (fun _ => congrArg Value.int (h9)) ?_
              refine g_iconst (pc := 126) (v := 1) dX7_rowPart_126 rfl ?_
              refine g_iadd (pc := 127) dX7_rowPart_127 ?_
              rw [nI_1]
              refine g_putI (pc := 128) dX7_rowPart_128 fp_X7_84 (shK hS1 rfl) ⟨rfl, rfl⟩ (fun _ _ _ _ => rfl) ?_
              refine go_cast e9 ?_
              refine g_goto (pc := 131) (tgt := 55) dX7_rowPart_131 rfl ?_
              exact ih2
        · refine g_iconst (pc := 83) (v := 1) dX7_rowPart_83 rfl ?_
          refine g_goto (pc := 84) (tgt := 88) dX7_rowPart_84 rfl ?_
          refine g_iand (pc := 88) dX7_rowPart_88 ?_
          rw [isB_t (Int32.not_lt.mp h80)]
          refine g_istore (pc := 89) (lv' := [(0, _), (1, _), (2, _), (3, _), (5, _), (6, _)]) dX7_rowPart_89 (nl rfl) rfl ?_
          refine g_lload_n (pc := 91) dX7_rowPart_91 rfl ?_
          refine g_iload (pc := 92) dX7_rowPart_92 rfl ?_
          refine g_bipush (pc := 94) (v := 32) dX7_rowPart_94 rfl ?_
          refine g_icmp_ge (pc := 96) (tgt := 115) dX7_rowPart_96 rfl (fun h96 => ?_) (fun h96 => ?_)
          · refine g_lconst (pc := 115) (v := 0) dX7_rowPart_115 rfl ?_
            refine g_lor (pc := 116) dX7_rowPart_116 ?_
            rw [rbB_f (fun z => Int32.not_lt.mpr h96 (nI_lt (b := 32) z.1 (by decide)))]
            refine g_lstore_n (pc := 117) (lv' := [(0, _), (1, _), (2, _), (3, _), (5, _), (6, _)]) dX7_rowPart_117 (nl rfl) rfl ?_
            refine g_iinc (pc := 118) (lv' := [(0, _), (1, _), (2, _), (3, _), (5, _), (6, _)]) dX7_rowPart_118 rfl (nI_1 _) (nl rfl) rfl ?_
            refine g_aload_n (pc := 121) dX7_rowPart_121 rfl trivial ?_
            refine g_dup (pc := 122) dX7_rowPart_122 rfl ?_
            refine g_getf (pc := 123) (v := .int _) dX7_rowPart_123 fk_X7_84 (shK hS1 rfl) (fun _ => congrArg Value.int (h9)) ?_
            refine g_iconst (pc := 126) (v := 1) dX7_rowPart_126 rfl ?_
            refine g_iadd (pc := 127) dX7_rowPart_127 ?_
            rw [nI_1]
            refine g_putI (pc := 128) dX7_rowPart_128 fp_X7_84 (shK hS1 rfl) ⟨rfl, rfl⟩ (fun _ _ _ _ => rfl) ?_
            refine go_cast e9 ?_
            refine g_goto (pc := 131) (tgt := 55) dX7_rowPart_131 rfl ?_
            exact ih2
          · refine g_aload_n (pc := 99) dX7_rowPart_99 rfl trivial ?_
            refine g_invV_r (pc := 100) (As := []) dX7_rowPart_100 rfl (q2) rfl rfl (shK hS1 rfl) rfl rfl lk_X7_87 rfl (nb rfl) ⟨nb rfl, nb rfl⟩ rfl ?_
            refine g_bipush (pc := 103) (v := 49) dX7_rowPart_103 rfl ?_
            refine g_icmp_ne (pc := 105) (tgt := 115) dX7_rowPart_105 rfl (fun h105 => ?_) (fun h105 => ?_)
            · refine g_lconst (pc := 115) (v := 0) dX7_rowPart_115 rfl ?_
              refine g_lor (pc := 116) dX7_rowPart_116 ?_
              rw [rbB_f (fun z => h105 z.2)]
              refine g_lstore_n (pc := 117) (lv' := [(0, _), (1, _), (2, _), (3, _), (5, _), (6, _)]) dX7_rowPart_117 (nl rfl) rfl ?_
              refine g_iinc (pc := 118) (lv' := [(0, _), (1, _), (2, _), (3, _), (5, _), (6, _)]) dX7_rowPart_118 rfl (nI_1 _) (nl rfl) rfl ?_
              refine g_aload_n (pc := 121) dX7_rowPart_121 rfl trivial ?_
              refine g_dup (pc := 122) dX7_rowPart_122 rfl ?_
              refine g_getf (pc := 123) (v := .int _) dX7_rowPart_123 fk_X7_84 (shK hS1 rfl) (fun _ => congrArg Value.int (h9)) ?_
              refine g_iconst (pc := 126) (v := 1) dX7_rowPart_126 rfl ?_
              refine g_iadd (pc := 127) dX7_rowPart_127 ?_
              rw [nI_1]
              refine g_putI (pc := 128) dX7_rowPart_128 fp_X7_84 (shK hS1 rfl) ⟨rfl, rfl⟩ (fun _ _ _ _ => rfl) ?_
              refine go_cast e9 ?_
              refine g_goto (pc := 131) (tgt := 55) dX7_rowPart_131 rfl ?_
              exact ih2
            · refine g_lconst (pc := 108) (v := 1) dX7_rowPart_108 rfl ?_
              refine g_iload (pc := 109) dX7_rowPart_109 rfl ?_
              refine g_lshl (pc := 111) dX7_rowPart_111 rfl ?_
              refine g_goto (pc := 112) (tgt := 116) dX7_rowPart_112 rfl ?_
              refine g_lor (pc := 116) dX7_rowPart_116 ?_
              rw [rbB_t (Nat.lt_of_not_le (fun z => h96 (nI_le (a := 32) z (by omega)))) (Classical.byContradiction h105)]
              refine g_lstore_n (pc := 117) (lv' := [(0, _), (1, _), (2, _), (3, _), (5, _), (6, _)]) dX7_rowPart_117 (nl rfl) rfl ?_
              refine g_iinc (pc := 118) (lv' := [(0, _), (1, _), (2, _), (3, _), (5, _), (6, _)]) dX7_rowPart_118 rfl (nI_1 _) (nl rfl) rfl ?_
              refine g_aload_n (pc := 121) dX7_rowPart_121 rfl trivial ?_
              refine g_dup (pc := 122) dX7_rowPart_122 rfl ?_
              refine g_getf (pc := 123) (v := .int _) dX7_rowPart_123 fk_X7_84 (shK hS1 rfl) (fun _ => congrArg Value.int (h9)) ?_
              refine g_iconst (pc := 126) (v := 1) dX7_rowPart_126 rfl ?_
              refine g_iadd (pc := 127) dX7_rowPart_127 ?_
              rw [nI_1]
              refine g_putI (pc := 128) dX7_rowPart_128 fp_X7_84 (shK hS1 rfl) ⟨rfl, rfl⟩ (fun _ _ _ _ => rfl) ?_
              refine go_cast e9 ?_
              refine g_goto (pc := 131) (tgt := 55) dX7_rowPart_131 rfl ?_
              exact ih2
      · rw [digP_0 hp2] at h2
        subst h2
        have qf := r_fails (l := l) (M := M) (s := (p, nI b, s2.2.2)) (k := 2) hS
        simp only at qf
        have hz1 : mL (psM M (p, nI b, s2.2.2)) 200 0 = lN n := hz
        have eu : mL (psM M (p, nI b, s2.2.2)) 200 = mL M 200 := rfl
        have hkn : p - b < 601 := by omega
        by_cases hB : isB T b (p - b) = true
        · by_cases hk : p - b = n
          · rw [if_pos ⟨hB, hk⟩, hB]
            simp only
            rw [eP, ← eu, hk]
            generalize psM M (p, nI b, s2.2.2) = M1 at *
            refine g_aload_n (pc := 55) dX7_rowPart_55 rfl trivial ?_
            refine g_invV_r (pc := 56) (As := []) dX7_rowPart_56 rfl (q2) rfl rfl (shK hS1 rfl) rfl rfl lk_X7_87 rfl (nb rfl) ⟨nb rfl, nb rfl⟩ rfl ?_
            refine g_i2l (pc := 59) dX7_rowPart_59 rfl ?_
            refine g_ldc2 (pc := 60) dX7_rowPart_60 wd_1345 ?_
            refine g_ldc2 (pc := 63) dX7_rowPart_63 wd_1346 ?_
            refine g_invS_r (pc := 66) (As := [_, _, _]) dX7_rowPart_66 rfl (r_in_f (fun z => hp2 (hin2.mp z))) rfl rfl lk_X7_67 rfl (nb rfl) ⟨nb rfl, nb rfl⟩ rfl ?_
            refine g_if_eq (pc := 69) (tgt := 134) dX7_rowPart_69 rfl (fun _ => ?_) (fun h69 => absurd (rfl) h69)
            refine g_iload (pc := 134) dX7_rowPart_134 rfl ?_
            refine g_if_eq (pc := 136) (tgt := 152) dX7_rowPart_136 rfl (fun h136 => absurd h136 ((by decide))) (fun _ => ?_)
            refine g_iload (pc := 139) dX7_rowPart_139 rfl ?_
            refine g_i2l (pc := 141) dX7_rowPart_141 rfl ?_
            refine g_aload_n (pc := 142) dX7_rowPart_142 rfl trivial ?_
            refine g_getf (pc := 143) dX7_rowPart_143 fk_X7_13 (shK hS1 rfl) (fv_arr (shR hS1 rfl)) ?_
            refine g_iconst (pc := 146) (v := 0) dX7_rowPart_146 rfl ?_
            refine g_laload (pc := 147) dX7_rowPart_147 (shK hS1 rfl) rfl (by decide) (nl rfl) ?_
            rw [hz1, lN_nI (by omega)]
            refine g_lcmp (pc := 148) dX7_rowPart_148 ?_
            refine g_if_eq (pc := 149) (tgt := 158) dX7_rowPart_149 rfl (fun _ => ?_) (fun h149 => absurd (((lg_cmp_eq _ _).mpr rfl)) h149)
            refine g_aload_n (pc := 158) dX7_rowPart_158 rfl trivial ?_
            refine g_getf (pc := 159) dX7_rowPart_159 fk_X7_13 (shK hS1 rfl) (fv_arr (shR hS1 rfl)) ?_
            refine g_bipush (pc := 162) (v := 28) dX7_rowPart_162 rfl ?_
            refine g_bipush (pc := 164) (v := 32) dX7_rowPart_164 rfl ?_
            refine g_iload_n (pc := 166) dX7_rowPart_166 rfl ?_
            refine g_imul (pc := 167) dX7_rowPart_167 ?_
            refine g_iadd (pc := 168) dX7_rowPart_168 ?_
            refine g_iload_n (pc := 169) dX7_rowPart_169 rfl ?_
            refine g_iadd (pc := 170) dX7_rowPart_170 ?_
            rw [ixR]
            refine g_lload_n (pc := 171) dX7_rowPart_171 rfl ?_
            refine g_lastore (pc := 172) dX7_rowPart_172 (shK hS1 rfl) rfl (show 28 + 32 * a + r < 220 by omega) (nl rfl) ?_
            refine g_return (pc := 173) dX7_rowPart_173 rfl ?_
            exact ⟨rfl, rfl⟩
          · rw [if_neg (fun z => hk z.2), hB]
            simp only
            rw [sL_id]
            generalize psM M (p, nI b, s2.2.2) = M1 at *
            refine g_aload_n (pc := 55) dX7_rowPart_55 rfl trivial ?_
            refine g_invV_r (pc := 56) (As := []) dX7_rowPart_56 rfl (q2) rfl rfl (shK hS1 rfl) rfl rfl lk_X7_87 rfl (nb rfl) ⟨nb rfl, nb rfl⟩ rfl ?_
            refine g_i2l (pc := 59) dX7_rowPart_59 rfl ?_
            refine g_ldc2 (pc := 60) dX7_rowPart_60 wd_1345 ?_
            refine g_ldc2 (pc := 63) dX7_rowPart_63 wd_1346 ?_
            refine g_invS_r (pc := 66) (As := [_, _, _]) dX7_rowPart_66 rfl (r_in_f (fun z => hp2 (hin2.mp z))) rfl rfl lk_X7_67 rfl (nb rfl) ⟨nb rfl, nb rfl⟩ rfl ?_
            refine g_if_eq (pc := 69) (tgt := 134) dX7_rowPart_69 rfl (fun _ => ?_) (fun h69 => absurd (rfl) h69)
            refine g_iload (pc := 134) dX7_rowPart_134 rfl ?_
            refine g_if_eq (pc := 136) (tgt := 152) dX7_rowPart_136 rfl (fun h136 => absurd h136 ((by decide))) (fun _ => ?_)
            refine g_iload (pc := 139) dX7_rowPart_139 rfl ?_
            refine g_i2l (pc := 141) dX7_rowPart_141 rfl ?_
            refine g_aload_n (pc := 142) dX7_rowPart_142 rfl trivial ?_
            refine g_getf (pc := 143) dX7_rowPart_143 fk_X7_13 (shK hS1 rfl) (fv_arr (shR hS1 rfl)) ?_
            refine g_iconst (pc := 146) (v := 0) dX7_rowPart_146 rfl ?_
            refine g_laload (pc := 147) dX7_rowPart_147 (shK hS1 rfl) rfl (by decide) (nl rfl) ?_
            rw [hz1, lN_nI (by omega)]
            refine g_lcmp (pc := 148) dX7_rowPart_148 ?_
            refine g_if_eq (pc := 149) (tgt := 158) dX7_rowPart_149 rfl (fun h149 => absurd h149 ((fun z => hk (lN_iq (by omega) (by omega) ((lg_cmp_eq _ _).mp z))))) (fun _ => ?_)
            refine g_aload_n (pc := 152) dX7_rowPart_152 rfl trivial ?_
            refine g_iconst (pc := 153) (v := 2) dX7_rowPart_153 rfl ?_
            refine g_invV_r (pc := 154) (As := [_]) dX7_rowPart_154 rfl (qf) rfl rfl (shK hS1 rfl) rfl rfl lk_X7_118 rfl (nb rfl) ⟨nb rfl, nb rfl⟩ rfl ?_
            refine g_return (pc := 157) dX7_rowPart_157 rfl ?_
            exact ⟨rfl, rfl⟩
        · rw [if_neg (fun z => hB z.1), Bool.eq_false_iff.mpr hB]
          simp only
          rw [sL_id]
          generalize psM M (p, nI b, s2.2.2) = M1 at *
          refine g_aload_n (pc := 55) dX7_rowPart_55 rfl trivial ?_
          refine g_invV_r (pc := 56) (As := []) dX7_rowPart_56 rfl (q2) rfl rfl (shK hS1 rfl) rfl rfl lk_X7_87 rfl (nb rfl) ⟨nb rfl, nb rfl⟩ rfl ?_
          refine g_i2l (pc := 59) dX7_rowPart_59 rfl ?_
          refine g_ldc2 (pc := 60) dX7_rowPart_60 wd_1345 ?_
          refine g_ldc2 (pc := 63) dX7_rowPart_63 wd_1346 ?_
          refine g_invS_r (pc := 66) (As := [_, _, _]) dX7_rowPart_66 rfl (r_in_f (fun z => hp2 (hin2.mp z))) rfl rfl lk_X7_67 rfl (nb rfl) ⟨nb rfl, nb rfl⟩ rfl ?_
          refine g_if_eq (pc := 69) (tgt := 134) dX7_rowPart_69 rfl (fun _ => ?_) (fun h69 => absurd (rfl) h69)
          refine g_iload (pc := 134) dX7_rowPart_134 rfl ?_
          refine g_if_eq (pc := 136) (tgt := 152) dX7_rowPart_136 rfl (fun _ => ?_) (fun h136 => absurd (rfl) h136)
          refine g_aload_n (pc := 152) dX7_rowPart_152 rfl trivial ?_
          refine g_iconst (pc := 153) (v := 2) dX7_rowPart_153 rfl ?_
          refine g_invV_r (pc := 154) (As := [_]) dX7_rowPart_154 rfl (qf) rfl rfl (shK hS1 rfl) rfl rfl lk_X7_118 rfl (nb rfl) ⟨nb rfl, nb rfl⟩ rfl ?_
          refine g_return (pc := 157) dX7_rowPart_157 rfl ?_
          exact ⟨rfl, rfl⟩
    · rw [if_neg hd]
      simp only
      have qf := r_fails (l := l) (M := M) (s := (b, nI b, s2.2.2)) (k := 1) hS
      simp only at qf
      have hS4 : Shp (psM M (rFail 1 (nI b) (b, nI b, s2.2.2))) := hS
      have h114 : mI (psM M (rFail 1 (nI b) (b, nI b, s2.2.2))) 198 11 = 1 := by rw [ps_11, rFail_0 (show (b, nI b, s2.2.2).2.2.2.1 = 0 from he)]
      rw [sL_id]
      refine g_aload_n (pc := 0) dX7_rowPart_0 rfl trivial ?_
      refine g_invV_r (pc := 1) (As := []) dX7_rowPart_1 rfl (q1) rfl rfl (shK hS0 rfl) rfl rfl lk_X7_140 rfl (nb rfl) ⟨nb rfl, nb rfl⟩ rfl ?_
      refine g_istore_n (pc := 4) (lv' := [(0, _), (1, _)]) dX7_rowPart_4 (nl rfl) rfl ?_
      refine g_aload_n (pc := 5) dX7_rowPart_5 rfl trivial ?_
      refine g_invV_r (pc := 6) (As := []) dX7_rowPart_6 rfl (q2) rfl rfl (shK hS1 rfl) rfl rfl lk_X7_143 rfl (nb rfl) ⟨nb rfl, nb rfl⟩ rfl ?_
      refine g_istore_n (pc := 9) (lv' := [(0, _), (1, _), (2, _)]) dX7_rowPart_9 (nl rfl) rfl ?_
      refine g_aload_n (pc := 10) dX7_rowPart_10 rfl trivial ?_
      refine g_getf (pc := 11) (v := .int _) dX7_rowPart_11 fk_X7_93 (shK hS2 rfl) (fun _ => congrArg Value.int (h11)) ?_
      refine g_if_ne (pc := 14) (tgt := 39) dX7_rowPart_14 rfl (fun h14 => absurd h14 ((fun z => z he))) (fun _ => ?_)
      refine g_aload_n (pc := 17) dX7_rowPart_17 rfl trivial ?_
      refine g_invV_r (pc := 18) (As := []) dX7_rowPart_18 rfl (q3) rfl rfl (shK hS2 rfl) rfl rfl lk_X7_99 rfl (nb rfl) ⟨nb rfl, nb rfl⟩ rfl ?_
      refine g_i2l (pc := 21) dX7_rowPart_21 rfl ?_
      refine g_ldc2 (pc := 22) dX7_rowPart_22 wd_1345 ?_
      refine g_ldc2 (pc := 25) dX7_rowPart_25 wd_1346 ?_
      refine g_invS_r (pc := 28) (As := [_, _, _]) dX7_rowPart_28 rfl (r_in_f (fun z => hd (hin.mp z))) rfl rfl lk_X7_67 rfl (nb rfl) ⟨nb rfl, nb rfl⟩ rfl ?_
      refine g_if_ne (pc := 31) (tgt := 39) dX7_rowPart_31 rfl (fun h31 => absurd h31 ((fun z => z rfl))) (fun _ => ?_)
      refine g_aload_n (pc := 34) dX7_rowPart_34 rfl trivial ?_
      refine g_iconst (pc := 35) (v := 1) dX7_rowPart_35 rfl ?_
      refine g_invV_r (pc := 36) (As := [_]) dX7_rowPart_36 rfl (qf) rfl rfl (shK hS3 rfl) rfl rfl lk_X7_118 rfl (nb rfl) ⟨nb rfl, nb rfl⟩ rfl ?_
      refine g_aload_n (pc := 39) dX7_rowPart_39 rfl trivial ?_
      refine g_getf (pc := 40) (v := .int _) dX7_rowPart_40 fk_X7_93 (shK hS4 rfl) (fun _ => congrArg Value.int (h114)) ?_
      refine g_if_eq (pc := 43) (tgt := 47) dX7_rowPart_43 rfl (fun h43 => absurd h43 ((by decide))) (fun _ => ?_)
      refine g_return (pc := 46) dX7_rowPart_46 rfl ?_
      exact ⟨rfl, rfl⟩
  · rw [if_neg he]
    simp only
    rw [sL_id]
    refine g_aload_n (pc := 0) dX7_rowPart_0 rfl trivial ?_
    refine g_invV_r (pc := 1) (As := []) dX7_rowPart_1 rfl (q1) rfl rfl (shK hS0 rfl) rfl rfl lk_X7_140 rfl (nb rfl) ⟨nb rfl, nb rfl⟩ rfl ?_
    refine g_istore_n (pc := 4) (lv' := [(0, _), (1, _)]) dX7_rowPart_4 (nl rfl) rfl ?_
    refine g_aload_n (pc := 5) dX7_rowPart_5 rfl trivial ?_
    refine g_invV_r (pc := 6) (As := []) dX7_rowPart_6 rfl (q2) rfl rfl (shK hS1 rfl) rfl rfl lk_X7_143 rfl (nb rfl) ⟨nb rfl, nb rfl⟩ rfl ?_
    refine g_istore_n (pc := 9) (lv' := [(0, _), (1, _), (2, _)]) dX7_rowPart_9 (nl rfl) rfl ?_
    refine g_aload_n (pc := 10) dX7_rowPart_10 rfl trivial ?_
    refine g_getf (pc := 11) (v := .int _) dX7_rowPart_11 fk_X7_93 (shK hS2 rfl) (fun _ => congrArg Value.int (h11)) ?_
    refine g_if_ne (pc := 14) (tgt := 39) dX7_rowPart_14 rfl (fun _ => ?_) (fun h14 => absurd (he) h14)
    refine g_aload_n (pc := 39) dX7_rowPart_39 rfl trivial ?_
    refine g_getf (pc := 40) (v := .int _) dX7_rowPart_40 fk_X7_93 (shK hS2 rfl) (fun _ => congrArg Value.int (h11)) ?_
    refine g_if_eq (pc := 43) (tgt := 47) dX7_rowPart_43 rfl (fun h43 => absurd h43 (he)) (fun _ => ?_)
    refine g_return (pc := 46) dX7_rowPart_46 rfl ?_
    exact ⟨rfl, rfl⟩
end
end
-- 314.rr
section
/-! the reference reads: fillings, a statement, the size -/
def khF (T : Nat → Int32) (b p : Nat) : Nat := if wdQ T b p (strW 17) = true then 0 else if wdQ T b p (strW 18) = true then 1 else if wdQ T b p (strW 19) = true then 2 else if wdQ T b p (strW 20) = true then 3 else 4
def khV (k : Nat) : Int32 := if k = 4 then -1 else nI k
/-- a row of a kind -/
def flF (k n r : Nat) : Int32 := if k = 0 then bitI r else if k = 1 then lowM n else if k = 2 then (if r + 1 < n then bitI (r + 1) else 1) else lowM r
theorem flF_0 (n r : Nat) : flF 0 n r = bitI r := rfl
theorem flF_1 (n r : Nat) : flF 1 n r = lowM n := rfl
theorem flF_2 (n r : Nat) : flF 2 n r = if r + 1 < n then bitI (r + 1) else 1 := rfl
theorem flF_3 (n r : Nat) : flF 3 n r = lowM r := rfl
theorem sh_two : ∀ c, c < 31 → ((1 : Int64) <<< ((nI c).toInt64 &&& 63)) <<< ((1 : Int32).toInt64 &&& 63) = uL (bitI (c + 1)) := by decide +kernel
theorem khF_le (T : Nat → Int32) (b p : Nat) : khF T b p ≤ 4 := by
  unfold khF
  repeat' split
  all_goals omega
section
variable {l : Launch} {M : Mem} {s : RP} {len n : Nat} {T : Nat → Int32}
theorem r_kindHere {b : Nat} (hS : Shp M) (hT : txt M T len) (hL : len ≤ 600) (hp : s.1 ≤ len) (hb9 : s.2.1 = nI b) (hb : b ≤ s.1) : EvR l jX7_kindHere 5 140 0 0 [.ref 198] (psM M s) (.inl (some (.int (khV (khF T b s.1))))) (psM M s) := by
  have w0 : EvR l jX7_isWord 4 110 0 0 [.ref 198, .retAddr (2 * 17 + 2)] (psM M s) (.inl (some (.int (b1 (wdQ T b s.1 (strW 17)))))) (psM M s) := r_isWR 17 hS hT hL hp hb9 hb (by decide) (by decide)
  have w1 : EvR l jX7_isWord 4 110 0 0 [.ref 198, .retAddr (2 * 18 + 2)] (psM M s) (.inl (some (.int (b1 (wdQ T b s.1 (strW 18)))))) (psM M s) := r_isWR 18 hS hT hL hp hb9 hb (by decide) (by decide)
  have w2 : EvR l jX7_isWord 4 110 0 0 [.ref 198, .retAddr (2 * 19 + 2)] (psM M s) (.inl (some (.int (b1 (wdQ T b s.1 (strW 19)))))) (psM M s) := r_isWR 19 hS hT hL hp hb9 hb (by decide) (by decide)
  have w3 : EvR l jX7_isWord 4 110 0 0 [.ref 198, .retAddr (2 * 20 + 2)] (psM M s) (.inl (some (.int (b1 (wdQ T b s.1 (strW 20)))))) (psM M s) := r_isWR 20 hS hT hL hp hb9 hb (by decide) (by decide)
  have hS1 : Shp (psM M s) := hS
  unfold khF
  generalize psM M s = M1 at *
  generalize wdQ T b s.1 (strW 17) = c0 at *
  generalize wdQ T b s.1 (strW 18) = c1 at *
  generalize wdQ T b s.1 (strW 19) = c2 at *
  generalize wdQ T b s.1 (strW 20) = c3 at *
  refine ev_intro rfl (nb rfl) rfl ?_
  cases c0 with
  | true =>
    refine g_aload_n (pc := 0) dX7_kindHere_0 rfl trivial ?_
    refine g_ldcS (pc := 1) (kS := 17) dX7_kindHere_1 rfl ?_
    refine g_invV_r (pc := 3) (As := [_]) dX7_kindHere_3 rfl (w0) rfl rfl (shK hS1 rfl) rfl rfl lk_X7_136 rfl (nb rfl) ⟨nb rfl, nb rfl⟩ rfl ?_
    refine g_if_eq (pc := 6) (tgt := 13) dX7_kindHere_6 rfl (fun h6 => absurd h6 ((by decide))) (fun _ => ?_)
    refine g_iconst (pc := 9) (v := 0) dX7_kindHere_9 rfl ?_
    refine g_goto (pc := 10) (tgt := 53) dX7_kindHere_10 rfl ?_
    refine g_ireturn (pc := 53) dX7_kindHere_53 rfl rfl ?_
    exact ⟨rfl, rfl⟩
  | false =>
    cases c1 with
    | true =>
      refine g_aload_n (pc := 0) dX7_kindHere_0 rfl trivial ?_
      refine g_ldcS (pc := 1) (kS := 17) dX7_kindHere_1 rfl ?_
      refine g_invV_r (pc := 3) (As := [_]) dX7_kindHere_3 rfl (w0) rfl rfl (shK hS1 rfl) rfl rfl lk_X7_136 rfl (nb rfl) ⟨nb rfl, nb rfl⟩ rfl ?_
      refine g_if_eq (pc := 6) (tgt := 13) dX7_kindHere_6 rfl (fun _ => ?_) (fun h6 => absurd (rfl) h6)
      refine g_aload_n (pc := 13) dX7_kindHere_13 rfl trivial ?_
      refine g_ldcS (pc := 14) (kS := 18) dX7_kindHere_14 rfl ?_
      refine g_invV_r (pc := 16) (As := [_]) dX7_kindHere_16 rfl (w1) rfl rfl (shK hS1 rfl) rfl rfl lk_X7_136 rfl (nb rfl) ⟨nb rfl, nb rfl⟩ rfl ?_
      refine g_if_eq (pc := 19) (tgt := 26) dX7_kindHere_19 rfl (fun h19 => absurd h19 ((by decide))) (fun _ => ?_)
      refine g_iconst (pc := 22) (v := 1) dX7_kindHere_22 rfl ?_
      refine g_goto (pc := 23) (tgt := 53) dX7_kindHere_23 rfl ?_
      refine g_ireturn (pc := 53) dX7_kindHere_53 rfl rfl ?_
      exact ⟨rfl, rfl⟩
    | false =>
      cases c2 with
      | true =>
        refine g_aload_n (pc := 0) dX7_kindHere_0 rfl trivial ?_
        refine g_ldcS (pc := 1) (kS := 17) dX7_kindHere_1 rfl ?_
        refine g_invV_r (pc := 3) (As := [_]) dX7_kindHere_3 rfl (w0) rfl rfl (shK hS1 rfl) rfl rfl lk_X7_136 rfl (nb rfl) ⟨nb rfl, nb rfl⟩ rfl ?_
        refine g_if_eq (pc := 6) (tgt := 13) dX7_kindHere_6 rfl (fun _ => ?_) (fun h6 => absurd (rfl) h6)
        refine g_aload_n (pc := 13) dX7_kindHere_13 rfl trivial ?_
        refine g_ldcS (pc := 14) (kS := 18) dX7_kindHere_14 rfl ?_
        refine g_invV_r (pc := 16) (As := [_]) dX7_kindHere_16 rfl (w1) rfl rfl (shK hS1 rfl) rfl rfl lk_X7_136 rfl (nb rfl) ⟨nb rfl, nb rfl⟩ rfl ?_
        refine g_if_eq (pc := 19) (tgt := 26) dX7_kindHere_19 rfl (fun _ => ?_) (fun h19 => absurd (rfl) h19)
        refine g_aload_n (pc := 26) dX7_kindHere_26 rfl trivial ?_
        refine g_ldcS (pc := 27) (kS := 19) dX7_kindHere_27 rfl ?_
        refine g_invV_r (pc := 29) (As := [_]) dX7_kindHere_29 rfl (w2) rfl rfl (shK hS1 rfl) rfl rfl lk_X7_136 rfl (nb rfl) ⟨nb rfl, nb rfl⟩ rfl ?_
        refine g_if_eq (pc := 32) (tgt := 39) dX7_kindHere_32 rfl (fun h32 => absurd h32 ((by decide))) (fun _ => ?_)
        refine g_iconst (pc := 35) (v := 2) dX7_kindHere_35 rfl ?_
        refine g_goto (pc := 36) (tgt := 53) dX7_kindHere_36 rfl ?_
        refine g_ireturn (pc := 53) dX7_kindHere_53 rfl rfl ?_
        exact ⟨rfl, rfl⟩
      | false =>
        cases c3 with
        | true =>
          refine g_aload_n (pc := 0) dX7_kindHere_0 rfl trivial ?_
          refine g_ldcS (pc := 1) (kS := 17) dX7_kindHere_1 rfl ?_
          refine g_invV_r (pc := 3) (As := [_]) dX7_kindHere_3 rfl (w0) rfl rfl (shK hS1 rfl) rfl rfl lk_X7_136 rfl (nb rfl) ⟨nb rfl, nb rfl⟩ rfl ?_
          refine g_if_eq (pc := 6) (tgt := 13) dX7_kindHere_6 rfl (fun _ => ?_) (fun h6 => absurd (rfl) h6)
          refine g_aload_n (pc := 13) dX7_kindHere_13 rfl trivial ?_
          refine g_ldcS (pc := 14) (kS := 18) dX7_kindHere_14 rfl ?_
          refine g_invV_r (pc := 16) (As := [_]) dX7_kindHere_16 rfl (w1) rfl rfl (shK hS1 rfl) rfl rfl lk_X7_136 rfl (nb rfl) ⟨nb rfl, nb rfl⟩ rfl ?_
          refine g_if_eq (pc := 19) (tgt := 26) dX7_kindHere_19 rfl (fun _ => ?_) (fun h19 => absurd (rfl) h19)
          refine g_aload_n (pc := 26) dX7_kindHere_26 rfl trivial ?_
          refine g_ldcS (pc := 27) (kS := 19) dX7_kindHere_27 rfl ?_
          refine g_invV_r (pc := 29) (As := [_]) dX7_kindHere_29 rfl (w2) rfl rfl (shK hS1 rfl) rfl rfl lk_X7_136 rfl (nb rfl) ⟨nb rfl, nb rfl⟩ rfl ?_
          refine g_if_eq (pc := 32) (tgt := 39) dX7_kindHere_32 rfl (fun _ => ?_) (fun h32 => absurd (rfl) h32)
          refine g_aload_n (pc := 39) dX7_kindHere_39 rfl trivial ?_
          refine g_ldcS (pc := 40) (kS := 20) dX7_kindHere_40 rfl ?_
          refine g_invV_r (pc := 42) (As := [_]) dX7_kindHere_42 rfl (w3) rfl rfl (shK hS1 rfl) rfl rfl lk_X7_136 rfl (nb rfl) ⟨nb rfl, nb rfl⟩ rfl ?_
          refine g_if_eq (pc := 45) (tgt := 52) dX7_kindHere_45 rfl (fun h45 => absurd h45 ((by decide))) (fun _ => ?_)
          refine g_iconst (pc := 48) (v := 3) dX7_kindHere_48 rfl ?_
          refine g_goto (pc := 49) (tgt := 53) dX7_kindHere_49 rfl ?_
          refine g_ireturn (pc := 53) dX7_kindHere_53 rfl rfl ?_
          exact ⟨rfl, rfl⟩
        | false =>
          refine g_aload_n (pc := 0) dX7_kindHere_0 rfl trivial ?_
          refine g_ldcS (pc := 1) (kS := 17) dX7_kindHere_1 rfl ?_
          refine g_invV_r (pc := 3) (As := [_]) dX7_kindHere_3 rfl (w0) rfl rfl (shK hS1 rfl) rfl rfl lk_X7_136 rfl (nb rfl) ⟨nb rfl, nb rfl⟩ rfl ?_
          refine g_if_eq (pc := 6) (tgt := 13) dX7_kindHere_6 rfl (fun _ => ?_) (fun h6 => absurd (rfl) h6)
          refine g_aload_n (pc := 13) dX7_kindHere_13 rfl trivial ?_
          refine g_ldcS (pc := 14) (kS := 18) dX7_kindHere_14 rfl ?_
          refine g_invV_r (pc := 16) (As := [_]) dX7_kindHere_16 rfl (w1) rfl rfl (shK hS1 rfl) rfl rfl lk_X7_136 rfl (nb rfl) ⟨nb rfl, nb rfl⟩ rfl ?_
          refine g_if_eq (pc := 19) (tgt := 26) dX7_kindHere_19 rfl (fun _ => ?_) (fun h19 => absurd (rfl) h19)
          refine g_aload_n (pc := 26) dX7_kindHere_26 rfl trivial ?_
          refine g_ldcS (pc := 27) (kS := 19) dX7_kindHere_27 rfl ?_
          refine g_invV_r (pc := 29) (As := [_]) dX7_kindHere_29 rfl (w2) rfl rfl (shK hS1 rfl) rfl rfl lk_X7_136 rfl (nb rfl) ⟨nb rfl, nb rfl⟩ rfl ?_
          refine g_if_eq (pc := 32) (tgt := 39) dX7_kindHere_32 rfl (fun _ => ?_) (fun h32 => absurd (rfl) h32)
          refine g_aload_n (pc := 39) dX7_kindHere_39 rfl trivial ?_
          refine g_ldcS (pc := 40) (kS := 20) dX7_kindHere_40 rfl ?_
          refine g_invV_r (pc := 42) (As := [_]) dX7_kindHere_42 rfl (w3) rfl rfl (shK hS1 rfl) rfl rfl lk_X7_136 rfl (nb rfl) ⟨nb rfl, nb rfl⟩ rfl ?_
          refine g_if_eq (pc := 45) (tgt := 52) dX7_kindHere_45 rfl (fun _ => ?_) (fun h45 => absurd (rfl) h45)
          refine g_iconst (pc := 52) (v := (-1)) dX7_kindHere_52 rfl ?_
          refine g_ireturn (pc := 53) dX7_kindHere_53 rfl rfl ?_
          exact ⟨rfl, rfl⟩
theorem r_filled {k r : Nat} (hk : k < 4) (hr : r < n) (hn9 : n ≤ 32) : EvR l jX7_filled 0 0 0 0 [.int (nI k), .int (nI r), .int (nI n)] M (.inl (some (.long (uL (flF k n r))))) M := by
  refine ev_intro rfl (nb rfl) rfl ?_
  rcases (by omega : k = 0 ∨ k = 1 ∨ k = 2 ∨ k = 3) with rfl | rfl | rfl | rfl
  · rw [flF_0]
    refine g_lconst (pc := 0) (v := 1) dX7_filled_0 rfl ?_
    refine g_iload_n (pc := 1) dX7_filled_1 rfl ?_
    refine g_lshl (pc := 2) dX7_filled_2 rfl ?_
    rw [sh_bit r (by omega)]
    refine g_lstore_n (pc := 3) (lv' := [(0, _), (1, _), (2, _), (3, _)]) dX7_filled_3 (nl rfl) rfl ?_
    refine g_iload_n (pc := 4) dX7_filled_4 rfl ?_
    refine g_tableIn (pc := 5) (tgt := 32) (off := 27) dX7_filled_5 (by decide) (by decide) (by decide) (by decide) ?_
    refine g_lload_n (pc := 32) dX7_filled_32 rfl ?_
    refine g_lreturn (pc := 33) dX7_filled_33 rfl ?_
    exact ⟨rfl, rfl⟩
  · rw [flF_1]
    refine g_lconst (pc := 0) (v := 1) dX7_filled_0 rfl ?_
    refine g_iload_n (pc := 1) dX7_filled_1 rfl ?_
    refine g_lshl (pc := 2) dX7_filled_2 rfl ?_
    refine g_lstore_n (pc := 3) (lv' := [(0, _), (1, _), (2, _), (3, _)]) dX7_filled_3 (nl rfl) rfl ?_
    refine g_iload_n (pc := 4) dX7_filled_4 rfl ?_
    refine g_tableIn (pc := 5) (tgt := 34) (off := 29) dX7_filled_5 (by decide) (by decide) (by decide) (by decide) ?_
    refine g_lconst (pc := 34) (v := 1) dX7_filled_34 rfl ?_
    refine g_iload_n (pc := 35) dX7_filled_35 rfl ?_
    refine g_lshl (pc := 36) dX7_filled_36 rfl ?_
    refine g_lconst (pc := 37) (v := 1) dX7_filled_37 rfl ?_
    refine g_lsub (pc := 38) dX7_filled_38 ?_
    rw [sh_low n hn9]
    refine g_lreturn (pc := 39) dX7_filled_39 rfl ?_
    exact ⟨rfl, rfl⟩
  · rw [flF_2]
    by_cases h : r + 1 < n
    · rw [if_pos h]
      refine g_lconst (pc := 0) (v := 1) dX7_filled_0 rfl ?_
      refine g_iload_n (pc := 1) dX7_filled_1 rfl ?_
      refine g_lshl (pc := 2) dX7_filled_2 rfl ?_
      refine g_lstore_n (pc := 3) (lv' := [(0, _), (1, _), (2, _), (3, _)]) dX7_filled_3 (nl rfl) rfl ?_
      refine g_iload_n (pc := 4) dX7_filled_4 rfl ?_
      refine g_tableIn (pc := 5) (tgt := 40) (off := 35) dX7_filled_5 (by decide) (by decide) (by decide) (by decide) ?_
      refine g_iload_n (pc := 40) dX7_filled_40 rfl ?_
      refine g_iload_n (pc := 41) dX7_filled_41 rfl ?_
      refine g_iconst (pc := 42) (v := 1) dX7_filled_42 rfl ?_
      refine g_isub (pc := 43) dX7_filled_43 ?_
      rw [nI_m1 (by omega)]
      refine g_icmp_ne (pc := 44) (tgt := 51) dX7_filled_44 rfl (fun _ => ?_) (fun h44 => absurd ((fun z => absurd ((nI_eq (by omega) (by omega)).mp z) (by omega))) h44)
      refine g_lload_n (pc := 51) dX7_filled_51 rfl ?_
      refine g_iconst (pc := 52) (v := 1) dX7_filled_52 rfl ?_
      refine g_lshl (pc := 53) dX7_filled_53 rfl ?_
      rw [sh_two r (by omega)]
      refine g_lreturn (pc := 54) dX7_filled_54 rfl ?_
      exact ⟨rfl, rfl⟩
    · rw [if_neg h]
      refine g_lconst (pc := 0) (v := 1) dX7_filled_0 rfl ?_
      refine g_iload_n (pc := 1) dX7_filled_1 rfl ?_
      refine g_lshl (pc := 2) dX7_filled_2 rfl ?_
      refine g_lstore_n (pc := 3) (lv' := [(0, _), (1, _), (2, _), (3, _)]) dX7_filled_3 (nl rfl) rfl ?_
      refine g_iload_n (pc := 4) dX7_filled_4 rfl ?_
      refine g_tableIn (pc := 5) (tgt := 40) (off := 35) dX7_filled_5 (by decide) (by decide) (by decide) (by decide) ?_
      refine g_iload_n (pc := 40) dX7_filled_40 rfl ?_
      refine g_iload_n (pc := 41) dX7_filled_41 rfl ?_
      refine g_iconst (pc := 42) (v := 1) dX7_filled_42 rfl ?_
      refine g_isub (pc := 43) dX7_filled_43 ?_
      rw [nI_m1 (by omega)]
      refine g_icmp_ne (pc := 44) (tgt := 51) dX7_filled_44 rfl (fun h44 => absurd h44 ((fun z => z (by rw [show n - 1 = r by omega])))) (fun _ => ?_)
      refine g_lconst (pc := 47) (v := 1) dX7_filled_47 rfl ?_
      refine g_goto (pc := 48) (tgt := 54) dX7_filled_48 rfl ?_
      refine g_lreturn (pc := 54) dX7_filled_54 rfl ?_
      exact ⟨rfl, rfl⟩
  · rw [flF_3]
    refine g_lconst (pc := 0) (v := 1) dX7_filled_0 rfl ?_
    refine g_iload_n (pc := 1) dX7_filled_1 rfl ?_
    refine g_lshl (pc := 2) dX7_filled_2 rfl ?_
    refine g_lstore_n (pc := 3) (lv' := [(0, _), (1, _), (2, _), (3, _)]) dX7_filled_3 (nl rfl) rfl ?_
    refine g_iload_n (pc := 4) dX7_filled_4 rfl ?_
    refine g_tableOut (pc := 5) (tgt := 55) dX7_filled_5 (by decide) (by decide) ?_
    refine g_lload_n (pc := 55) dX7_filled_55 rfl ?_
    refine g_lconst (pc := 56) (v := 1) dX7_filled_56 rfl ?_
    refine g_lsub (pc := 57) dX7_filled_57 ?_
    rw [sh_low r (by omega)]
    refine g_lreturn (pc := 58) dX7_filled_58 rfl ?_
    exact ⟨rfl, rfl⟩
def gF (T : Nat → Int32) (len n : Nat) (u : Nat → Int64) (s : RP) : (Nat → Int64) × RP :=
  if khF T (skipP T len (nmS T len 0 (nI 5) s).1) (twd T len (nmS T len 0 (nI 5) s)).1 = 4 then (u, rFail 1 (nI (skipP T len (nmS T len 0 (nI 5) s).1)) (twd T len (nmS T len 0 (nI 5) s)))
  else if (twd T len (nmS T len 0 (nI 5) s)).2.2.2.1 = 0 then (lyF u (nmN T len 5 s) (flF (khF T (skipP T len (nmS T len 0 (nI 5) s).1) (twd T len (nmS T len 0 (nI 5) s)).1) n) n, twd T len (nmS T len 0 (nI 5) s))
  else (u, twd T len (nmS T len 0 (nI 5) s))
theorem r_fillPart (hS : Shp M) (hT : txt M T len) (hl : mI M 198 8 = nI len) (hL : len ≤ 600) (hp : s.1 ≤ len) (hz : mL M 200 0 = lN n) (hn : 1 ≤ n) (hn9 : n ≤ 32) : EvR l jX7_fillPart 6 160 0 0 [.ref 198] (psM M s) (.inl none) (psM (sL M 200 (gF T len n (mL M 200) s).1) (gF T len n (mL M 200) s).2) := by
  have q1 := r_readSlot (l := l) (s := s) hS hT hl hL hp
  have ha := (nmN_ok (T := T) (len := len) (s := s) (h := 5) (by decide)).2
  unfold gF
  generalize nmN T len 5 s = a at *
  have hp1 := nmS_le (T := T) (lo := 0) (hi := nI 5) hp
  generalize nmS T len 0 (nI 5) s = s1 at *
  have q2 := r_reads (l := l) (s := s1) hS hT hl hL hp1
  have hw := twd_le (T := T) hp1
  have hw2 : (twd T len s1).2.1 = nI (skipP T len s1.1) := rfl
  generalize twd T len s1 = s2 at *
  generalize skipP T len s1.1 = b at *
  have q3 := r_kindHere (l := l) (s := s2) hS hT hL hw.1 hw2 hw.2
  have hk4 := khF_le T b s2.1
  generalize khF T b s2.1 = k at *
  have hS0 : Shp (psM M s) := hS
  have hS1 : Shp (psM M s1) := hS
  have hS2 : Shp (psM M s2) := hS
  have h11 : mI (psM M s2) 198 11 = s2.2.2.2.1 := ps_11
  have eP : ∀ w t, psM (sL M 200 w) t = sL (psM M t) 200 w := fun w t => ps_sL.symm
  refine ev_intro rfl (nb rfl) rfl ?_
  by_cases h4 : k = 4
  · rw [if_pos h4]
    subst h4
    simp only
    rw [sL_id]
    have qf := r_fails (l := l) (M := M) (s := s2) (k := 1) hS
    rw [hw2] at qf
    have hS4 : Shp (psM M (rFail 1 (nI b) s2)) := hS
    have h5 : (rFail 1 (nI b) s2).2.2.2.1 ≠ 0 := by
      by_cases he : s2.2.2.2.1 = 0
      · rw [rFail_0 he]; exact (by decide : (1 : Int32) ≠ 0)
      · rw [rFail_e he]; exact he
    have h114 : mI (psM M (rFail 1 (nI b) s2)) 198 11 = (rFail 1 (nI b) s2).2.2.2.1 := ps_11
    generalize rFail 1 (nI b) s2 = s3 at *
    refine g_aload_n (pc := 0) dX7_fillPart_0 rfl trivial ?_
    refine g_invV_r (pc := 1) (As := []) dX7_fillPart_1 rfl (q1) rfl rfl (shK hS0 rfl) rfl rfl lk_X7_140 rfl (nb rfl) ⟨nb rfl, nb rfl⟩ rfl ?_
    refine g_istore_n (pc := 4) (lv' := [(0, _), (1, _)]) dX7_fillPart_4 (nl rfl) rfl ?_
    refine g_aload_n (pc := 5) dX7_fillPart_5 rfl trivial ?_
    refine g_invV_r (pc := 6) (As := []) dX7_fillPart_6 rfl (q2) rfl rfl (shK hS1 rfl) rfl rfl lk_X7_132 rfl (nb rfl) ⟨nb rfl, nb rfl⟩ rfl ?_
    refine g_aload_n (pc := 9) dX7_fillPart_9 rfl trivial ?_
    refine g_invV_r (pc := 10) (As := []) dX7_fillPart_10 rfl (q3) rfl rfl (shK hS2 rfl) rfl rfl lk_X7_154 rfl (nb rfl) ⟨nb rfl, nb rfl⟩ rfl ?_
    refine g_istore_n (pc := 13) (lv' := [(0, _), (1, _), (2, _)]) dX7_fillPart_13 (nl rfl) rfl ?_
    refine g_iload_n (pc := 14) dX7_fillPart_14 rfl ?_
    refine g_iconst (pc := 15) (v := (-1)) dX7_fillPart_15 rfl ?_
    refine g_icmp_ne (pc := 16) (tgt := 24) dX7_fillPart_16 rfl (fun h16 => absurd h16 ((fun z => z rfl))) (fun _ => ?_)
    refine g_aload_n (pc := 19) dX7_fillPart_19 rfl trivial ?_
    refine g_iconst (pc := 20) (v := 1) dX7_fillPart_20 rfl ?_
    refine g_invV_r (pc := 21) (As := [_]) dX7_fillPart_21 rfl (qf) rfl rfl (shK hS2 rfl) rfl rfl lk_X7_118 rfl (nb rfl) ⟨nb rfl, nb rfl⟩ rfl ?_
    refine g_aload_n (pc := 24) dX7_fillPart_24 rfl trivial ?_
    refine g_getf (pc := 25) (v := .int _) dX7_fillPart_25 fk_X7_93 (shK hS4 rfl) (fun _ => congrArg Value.int (h114)) ?_
    refine g_if_eq (pc := 28) (tgt := 32) dX7_fillPart_28 rfl (fun h28 => absurd h28 (h5)) (fun _ => ?_)
    refine g_return (pc := 31) dX7_fillPart_31 rfl ?_
    exact ⟨rfl, rfl⟩
  · rw [if_neg h4]
    have hv : khV k = nI k := by unfold khV; rw [if_neg h4]
    rw [hv] at q3
    have hne : ∀ k, k < 4 → nI k ≠ -1 := by decide
    by_cases he : s2.2.2.2.1 = 0
    · rw [if_pos he]
      simp only
      rw [eP, show mL M 200 = mL (psM M s2) 200 from rfl]
      have hz1 : mL (psM M s2) 200 0 = lN n := hz
      generalize psM M s2 = M2 at *
      generalize psM M s1 = M1 at *
      generalize psM M s = M0 at *
      refine g_aload_n (pc := 0) dX7_fillPart_0 rfl trivial ?_
      refine g_invV_r (pc := 1) (As := []) dX7_fillPart_1 rfl (q1) rfl rfl (shK hS0 rfl) rfl rfl lk_X7_140 rfl (nb rfl) ⟨nb rfl, nb rfl⟩ rfl ?_
      refine g_istore_n (pc := 4) (lv' := [(0, _), (1, _)]) dX7_fillPart_4 (nl rfl) rfl ?_
      refine g_aload_n (pc := 5) dX7_fillPart_5 rfl trivial ?_
      refine g_invV_r (pc := 6) (As := []) dX7_fillPart_6 rfl (q2) rfl rfl (shK hS1 rfl) rfl rfl lk_X7_132 rfl (nb rfl) ⟨nb rfl, nb rfl⟩ rfl ?_
      refine g_aload_n (pc := 9) dX7_fillPart_9 rfl trivial ?_
      refine g_invV_r (pc := 10) (As := []) dX7_fillPart_10 rfl (q3) rfl rfl (shK hS2 rfl) rfl rfl lk_X7_154 rfl (nb rfl) ⟨nb rfl, nb rfl⟩ rfl ?_
      refine g_istore_n (pc := 13) (lv' := [(0, _), (1, _), (2, _)]) dX7_fillPart_13 (nl rfl) rfl ?_
      refine g_iload_n (pc := 14) dX7_fillPart_14 rfl ?_
      refine g_iconst (pc := 15) (v := (-1)) dX7_fillPart_15 rfl ?_
      refine g_icmp_ne (pc := 16) (tgt := 24) dX7_fillPart_16 rfl (fun _ => ?_) (fun h16 => absurd ((hne k (by omega))) h16)
      refine g_aload_n (pc := 24) dX7_fillPart_24 rfl trivial ?_
      refine g_getf (pc := 25) (v := .int _) dX7_fillPart_25 fk_X7_93 (shK hS2 rfl) (fun _ => congrArg Value.int (h11)) ?_
      refine g_if_eq (pc := 28) (tgt := 32) dX7_fillPart_28 rfl (fun _ => ?_) (fun h28 => absurd (he) h28)
      refine g_aload_n (pc := 32) dX7_fillPart_32 rfl trivial ?_
      refine g_getf (pc := 33) dX7_fillPart_33 fk_X7_13 (shK hS2 rfl) (fv_arr (shR hS2 rfl)) ?_
      refine g_iconst (pc := 36) (v := 0) dX7_fillPart_36 rfl ?_
      refine g_laload (pc := 37) dX7_fillPart_37 (shK hS2 rfl) rfl (by decide) (nl rfl) ?_
      rw [hz1]
      refine g_l2i (pc := 38) dX7_fillPart_38 (lN_i n) ?_
      refine g_istore_n (pc := 39) (lv' := [(0, _), (1, _), (2, _), (3, _)]) dX7_fillPart_39 (nl rfl) rfl ?_
      refine g_iconst (pc := 40) (v := 0) dX7_fillPart_40 rfl ?_
      refine g_istore (pc := 41) (lv' := [(0, _), (1, _), (2, _), (3, _), (4, _)]) dX7_fillPart_41 (nl rfl) rfl ?_
      refine go_loop (pc := 43) n (fun i => [(0, .ref 198), (1, .int (nI a)), (2, .int (nI k)), (3, .int (nI n)), (4, .int (nI i))]) (fun i => sL M2 200 (lyF (mL M2 200) a (flF k n) i)) ⟨rfl, rfl, rfl, rfl, rfl, trivial⟩ (sL_eq (lyF_0 _ _ _)) ?_ ?_
      · intro i hi ih
        have e3 : pL (sL M2 200 (lyF (mL M2 200) a (flF k n) i)) 200 (28 + 32 * a + i) (uL (flF k n i)) = sL M2 200 (lyF (mL M2 200) a (flF k n) (i + 1)) := sL_st (lyF_s _ _ _ i)
        have hS3 : Shp (sL M2 200 (lyF (mL M2 200) a (flF k n) i)) := hS2
        generalize sL M2 200 (lyF (mL M2 200) a (flF k n) (i + 1)) = M4 at *
        generalize sL M2 200 (lyF (mL M2 200) a (flF k n) i) = M3 at *
        refine g_iload (pc := 43) dX7_fillPart_43 rfl ?_
        refine g_iload_n (pc := 45) dX7_fillPart_45 rfl ?_
        refine g_icmp_ge (pc := 46) (tgt := 77) dX7_fillPart_46 rfl (fun h46 => absurd h46 (nI_ge hi (by omega))) (fun _ => ?_)
        refine g_aload_n (pc := 49) dX7_fillPart_49 rfl trivial ?_
        refine g_getf (pc := 50) dX7_fillPart_50 fk_X7_13 (shK hS3 rfl) (fv_arr (shR hS3 rfl)) ?_
        refine g_bipush (pc := 53) (v := 28) dX7_fillPart_53 rfl ?_
        refine g_bipush (pc := 55) (v := 32) dX7_fillPart_55 rfl ?_
        refine g_iload_n (pc := 57) dX7_fillPart_57 rfl ?_
        refine g_imul (pc := 58) dX7_fillPart_58 ?_
        refine g_iadd (pc := 59) dX7_fillPart_59 ?_
        refine g_iload (pc := 60) dX7_fillPart_60 rfl ?_
        refine g_iadd (pc := 62) dX7_fillPart_62 ?_
        rw [ixR]
        refine g_iload_n (pc := 63) dX7_fillPart_63 rfl ?_
        refine g_iload (pc := 64) dX7_fillPart_64 rfl ?_
        refine g_iload_n (pc := 66) dX7_fillPart_66 rfl ?_
        refine g_invS_r (pc := 67) (As := [_, _, _]) dX7_fillPart_67 rfl (r_filled (by omega) hi hn9) rfl rfl lk_X7_157 rfl (nb rfl) ⟨nb rfl, nb rfl⟩ rfl ?_
        refine g_lastore (pc := 70) dX7_fillPart_70 (shK hS3 rfl) rfl (show 28 + 32 * a + i < 220 by omega) (nl rfl) ?_
        refine g_iinc (pc := 71) (lv' := [(0, _), (1, _), (2, _), (3, _), (4, _)]) dX7_fillPart_71 rfl (nI_1 _) (nl rfl) rfl ?_
        refine g_goto (pc := 74) (tgt := 43) dX7_fillPart_74 rfl ?_
        exact go_cast e3 ih
      · refine g_iload (pc := 43) dX7_fillPart_43 rfl ?_
        refine g_iload_n (pc := 45) dX7_fillPart_45 rfl ?_
        refine g_icmp_ge (pc := 46) (tgt := 77) dX7_fillPart_46 rfl (fun _ => ?_) (fun h46 => absurd (nI_le (Nat.le_refl _) (by omega)) h46)
        refine g_return (pc := 77) dX7_fillPart_77 rfl ?_
        exact ⟨rfl, rfl⟩
    · rw [if_neg he]
      simp only
      rw [sL_id]
      refine g_aload_n (pc := 0) dX7_fillPart_0 rfl trivial ?_
      refine g_invV_r (pc := 1) (As := []) dX7_fillPart_1 rfl (q1) rfl rfl (shK hS0 rfl) rfl rfl lk_X7_140 rfl (nb rfl) ⟨nb rfl, nb rfl⟩ rfl ?_
      refine g_istore_n (pc := 4) (lv' := [(0, _), (1, _)]) dX7_fillPart_4 (nl rfl) rfl ?_
      refine g_aload_n (pc := 5) dX7_fillPart_5 rfl trivial ?_
      refine g_invV_r (pc := 6) (As := []) dX7_fillPart_6 rfl (q2) rfl rfl (shK hS1 rfl) rfl rfl lk_X7_132 rfl (nb rfl) ⟨nb rfl, nb rfl⟩ rfl ?_
      refine g_aload_n (pc := 9) dX7_fillPart_9 rfl trivial ?_
      refine g_invV_r (pc := 10) (As := []) dX7_fillPart_10 rfl (q3) rfl rfl (shK hS2 rfl) rfl rfl lk_X7_154 rfl (nb rfl) ⟨nb rfl, nb rfl⟩ rfl ?_
      refine g_istore_n (pc := 13) (lv' := [(0, _), (1, _), (2, _)]) dX7_fillPart_13 (nl rfl) rfl ?_
      refine g_iload_n (pc := 14) dX7_fillPart_14 rfl ?_
      refine g_iconst (pc := 15) (v := (-1)) dX7_fillPart_15 rfl ?_
      refine g_icmp_ne (pc := 16) (tgt := 24) dX7_fillPart_16 rfl (fun _ => ?_) (fun h16 => absurd ((hne k (by omega))) h16)
      refine g_aload_n (pc := 24) dX7_fillPart_24 rfl trivial ?_
      refine g_getf (pc := 25) (v := .int _) dX7_fillPart_25 fk_X7_93 (shK hS2 rfl) (fun _ => congrArg Value.int (h11)) ?_
      refine g_if_eq (pc := 28) (tgt := 32) dX7_fillPart_28 rfl (fun h28 => absurd h28 (he)) (fun _ => ?_)
      refine g_return (pc := 31) dX7_fillPart_31 rfl ?_
      exact ⟨rfl, rfl⟩
end
end
-- 315.rr
section
/-! the reference reads: a statement, more, the size -/
/-- a block read -/
def gBk (T : Nat → Int32) (len : Nat) (u : Nat → Int64) (s : RP) : (Nat → Int64) × RP := (fun_set u 1 (nmV T len 1 8 s).toInt64, nmS T len 1 8 s)
def gS (T : Nat → Int32) (len n : Nat) (u : Nat → Int64) (s : RP) : (Nat → Int64) × RP :=
  if wdQ T (skipP T len s.1) (twd T len s).1 (strW 14) = true then gE T len n u (twd T len s)
  else if wdQ T (skipP T len s.1) (twd T len s).1 (strW 15) = true then gR T len n u (twd T len s)
  else if wdQ T (skipP T len s.1) (twd T len s).1 (strW 16) = true then gF T len n u (twd T len s)
  else if wdQ T (skipP T len s.1) (twd T len s).1 (strW 21) = true then gK T len u (twd T len s)
  else if wdQ T (skipP T len s.1) (twd T len s).1 (strW 22) = true then gBk T len u (twd T len s)
  else (u, rFail 1 (nI (skipP T len s.1)) (twd T len s))
section
variable {l : Launch} {M : Mem} {s : RP} {len n : Nat} {T : Nat → Int32}
theorem r_statement (hS : Shp M) (hT : txt M T len) (hl : mI M 198 8 = nI len) (hL : len ≤ 600) (hp : s.1 ≤ len) (hz : mL M 200 0 = lN n) (hn : 1 ≤ n) (hn9 : n ≤ 32) : EvR l jX7_statement 7 190 0 0 [.ref 198] (psM M s) (.inl none) (psM (sL M 200 (gS T len n (mL M 200) s).1) (gS T len n (mL M 200) s).2) := by
  have q0 := r_reads (l := l) (s := s) hS hT hl hL hp
  have hw := twd_le (T := T) hp
  have hw2 : (twd T len s).2.1 = nI (skipP T len s.1) := rfl
  unfold gS
  generalize twd T len s = s1 at *
  generalize skipP T len s.1 = b at *
  have w0 : EvR l jX7_isWord 4 110 0 0 [.ref 198, .retAddr (2 * 14 + 2)] (psM M s1) (.inl (some (.int (b1 (wdQ T b s1.1 (strW 14)))))) (psM M s1) := r_isWR 14 hS hT hL hw.1 hw2 hw.2 (by decide) (by decide)
  have w1 : EvR l jX7_isWord 4 110 0 0 [.ref 198, .retAddr (2 * 15 + 2)] (psM M s1) (.inl (some (.int (b1 (wdQ T b s1.1 (strW 15)))))) (psM M s1) := r_isWR 15 hS hT hL hw.1 hw2 hw.2 (by decide) (by decide)
  have w2 : EvR l jX7_isWord 4 110 0 0 [.ref 198, .retAddr (2 * 16 + 2)] (psM M s1) (.inl (some (.int (b1 (wdQ T b s1.1 (strW 16)))))) (psM M s1) := r_isWR 16 hS hT hL hw.1 hw2 hw.2 (by decide) (by decide)
  have w3 : EvR l jX7_isWord 4 110 0 0 [.ref 198, .retAddr (2 * 21 + 2)] (psM M s1) (.inl (some (.int (b1 (wdQ T b s1.1 (strW 21)))))) (psM M s1) := r_isWR 21 hS hT hL hw.1 hw2 hw.2 (by decide) (by decide)
  have w4 : EvR l jX7_isWord 4 110 0 0 [.ref 198, .retAddr (2 * 22 + 2)] (psM M s1) (.inl (some (.int (b1 (wdQ T b s1.1 (strW 22)))))) (psM M s1) := r_isWR 22 hS hT hL hw.1 hw2 hw.2 (by decide) (by decide)
  have p0 := r_edgePart (l := l) (s := s1) hS hT hl hL hw.1 hz hn hn9
  have p1 := r_rowPart (l := l) (s := s1) hS hT hl hL hw.1 hz hn hn9
  have p2 := r_fillPart (l := l) (s := s1) hS hT hl hL hw.1 hz hn hn9
  have p3 := r_keepPart (l := l) (s := s1) hS hT hl hL hw.1
  have p4 := r_numR (l := l) (s := s1) (lo := 1) (hi := 8) hS hT hl hL hw.1 (by decide)
  have pf := r_fails (l := l) (M := M) (s := s1) (k := 1) hS
  rw [hw2] at pf
  have hS0 : Shp (psM M s) := hS
  have hS1 : Shp (psM M s1) := hS
  generalize wdQ T b s1.1 (strW 14) = c0 at *
  generalize wdQ T b s1.1 (strW 15) = c1 at *
  generalize wdQ T b s1.1 (strW 16) = c2 at *
  generalize wdQ T b s1.1 (strW 21) = c3 at *
  generalize wdQ T b s1.1 (strW 22) = c4 at *
  generalize gE T len n (mL M 200) s1 = r0 at *
  generalize gR T len n (mL M 200) s1 = r1 at *
  generalize gF T len n (mL M 200) s1 = r2 at *
  generalize gK T len (mL M 200) s1 = r3 at *
  refine ev_intro rfl (nb rfl) rfl ?_
  cases c0 with
  | true =>
    refine g_aload_n (pc := 0) dX7_statement_0 rfl trivial ?_
    refine g_invV_r (pc := 1) (As := []) dX7_statement_1 rfl (q0) rfl rfl (shK hS0 rfl) rfl rfl lk_X7_132 rfl (nb rfl) ⟨nb rfl, nb rfl⟩ rfl ?_
    refine g_aload_n (pc := 4) dX7_statement_4 rfl trivial ?_
    refine g_ldcS (pc := 5) (kS := 14) dX7_statement_5 rfl ?_
    refine g_invV_r (pc := 7) (As := [_]) dX7_statement_7 rfl (w0) rfl rfl (shK hS1 rfl) rfl rfl lk_X7_136 rfl (nb rfl) ⟨nb rfl, nb rfl⟩ rfl ?_
    refine g_if_eq (pc := 10) (tgt := 20) dX7_statement_10 rfl (fun h10 => absurd h10 ((by decide))) (fun _ => ?_)
    refine g_aload_n (pc := 13) dX7_statement_13 rfl trivial ?_
    refine g_invV_r (pc := 14) (As := []) dX7_statement_14 rfl (p0) rfl rfl (shK hS1 rfl) rfl rfl lk_X7_163 rfl (nb rfl) ⟨nb rfl, nb rfl⟩ rfl ?_
    refine g_goto (pc := 17) (tgt := 99) dX7_statement_17 rfl ?_
    refine g_return (pc := 99) dX7_statement_99 rfl ?_
    exact ⟨rfl, rfl⟩
  | false =>
    cases c1 with
    | true =>
      refine g_aload_n (pc := 0) dX7_statement_0 rfl trivial ?_
      refine g_invV_r (pc := 1) (As := []) dX7_statement_1 rfl (q0) rfl rfl (shK hS0 rfl) rfl rfl lk_X7_132 rfl (nb rfl) ⟨nb rfl, nb rfl⟩ rfl ?_
      refine g_aload_n (pc := 4) dX7_statement_4 rfl trivial ?_
      refine g_ldcS (pc := 5) (kS := 14) dX7_statement_5 rfl ?_
      refine g_invV_r (pc := 7) (As := [_]) dX7_statement_7 rfl (w0) rfl rfl (shK hS1 rfl) rfl rfl lk_X7_136 rfl (nb rfl) ⟨nb rfl, nb rfl⟩ rfl ?_
      refine g_if_eq (pc := 10) (tgt := 20) dX7_statement_10 rfl (fun _ => ?_) (fun h10 => absurd (rfl) h10)
      refine g_aload_n (pc := 20) dX7_statement_20 rfl trivial ?_
      refine g_ldcS (pc := 21) (kS := 15) dX7_statement_21 rfl ?_
      refine g_invV_r (pc := 23) (As := [_]) dX7_statement_23 rfl (w1) rfl rfl (shK hS1 rfl) rfl rfl lk_X7_136 rfl (nb rfl) ⟨nb rfl, nb rfl⟩ rfl ?_
      refine g_if_eq (pc := 26) (tgt := 36) dX7_statement_26 rfl (fun h26 => absurd h26 ((by decide))) (fun _ => ?_)
      refine g_aload_n (pc := 29) dX7_statement_29 rfl trivial ?_
      refine g_invV_r (pc := 30) (As := []) dX7_statement_30 rfl (p1) rfl rfl (shK hS1 rfl) rfl rfl lk_X7_168 rfl (nb rfl) ⟨nb rfl, nb rfl⟩ rfl ?_
      refine g_goto (pc := 33) (tgt := 99) dX7_statement_33 rfl ?_
      refine g_return (pc := 99) dX7_statement_99 rfl ?_
      exact ⟨rfl, rfl⟩
    | false =>
      cases c2 with
      | true =>
        refine g_aload_n (pc := 0) dX7_statement_0 rfl trivial ?_
        refine g_invV_r (pc := 1) (As := []) dX7_statement_1 rfl (q0) rfl rfl (shK hS0 rfl) rfl rfl lk_X7_132 rfl (nb rfl) ⟨nb rfl, nb rfl⟩ rfl ?_
        refine g_aload_n (pc := 4) dX7_statement_4 rfl trivial ?_
        refine g_ldcS (pc := 5) (kS := 14) dX7_statement_5 rfl ?_
        refine g_invV_r (pc := 7) (As := [_]) dX7_statement_7 rfl (w0) rfl rfl (shK hS1 rfl) rfl rfl lk_X7_136 rfl (nb rfl) ⟨nb rfl, nb rfl⟩ rfl ?_
        refine g_if_eq (pc := 10) (tgt := 20) dX7_statement_10 rfl (fun _ => ?_) (fun h10 => absurd (rfl) h10)
        refine g_aload_n (pc := 20) dX7_statement_20 rfl trivial ?_
        refine g_ldcS (pc := 21) (kS := 15) dX7_statement_21 rfl ?_
        refine g_invV_r (pc := 23) (As := [_]) dX7_statement_23 rfl (w1) rfl rfl (shK hS1 rfl) rfl rfl lk_X7_136 rfl (nb rfl) ⟨nb rfl, nb rfl⟩ rfl ?_
        refine g_if_eq (pc := 26) (tgt := 36) dX7_statement_26 rfl (fun _ => ?_) (fun h26 => absurd (rfl) h26)
        refine g_aload_n (pc := 36) dX7_statement_36 rfl trivial ?_
        refine g_ldcS (pc := 37) (kS := 16) dX7_statement_37 rfl ?_
        refine g_invV_r (pc := 39) (As := [_]) dX7_statement_39 rfl (w2) rfl rfl (shK hS1 rfl) rfl rfl lk_X7_136 rfl (nb rfl) ⟨nb rfl, nb rfl⟩ rfl ?_
        refine g_if_eq (pc := 42) (tgt := 52) dX7_statement_42 rfl (fun h42 => absurd h42 ((by decide))) (fun _ => ?_)
        refine g_aload_n (pc := 45) dX7_statement_45 rfl trivial ?_
        refine g_invV_r (pc := 46) (As := []) dX7_statement_46 rfl (p2) rfl rfl (shK hS1 rfl) rfl rfl lk_X7_173 rfl (nb rfl) ⟨nb rfl, nb rfl⟩ rfl ?_
        refine g_goto (pc := 49) (tgt := 99) dX7_statement_49 rfl ?_
        refine g_return (pc := 99) dX7_statement_99 rfl ?_
        exact ⟨rfl, rfl⟩
      | false =>
        cases c3 with
        | true =>
          refine g_aload_n (pc := 0) dX7_statement_0 rfl trivial ?_
          refine g_invV_r (pc := 1) (As := []) dX7_statement_1 rfl (q0) rfl rfl (shK hS0 rfl) rfl rfl lk_X7_132 rfl (nb rfl) ⟨nb rfl, nb rfl⟩ rfl ?_
          refine g_aload_n (pc := 4) dX7_statement_4 rfl trivial ?_
          refine g_ldcS (pc := 5) (kS := 14) dX7_statement_5 rfl ?_
          refine g_invV_r (pc := 7) (As := [_]) dX7_statement_7 rfl (w0) rfl rfl (shK hS1 rfl) rfl rfl lk_X7_136 rfl (nb rfl) ⟨nb rfl, nb rfl⟩ rfl ?_
          refine g_if_eq (pc := 10) (tgt := 20) dX7_statement_10 rfl (fun _ => ?_) (fun h10 => absurd (rfl) h10)
          refine g_aload_n (pc := 20) dX7_statement_20 rfl trivial ?_
          refine g_ldcS (pc := 21) (kS := 15) dX7_statement_21 rfl ?_
          refine g_invV_r (pc := 23) (As := [_]) dX7_statement_23 rfl (w1) rfl rfl (shK hS1 rfl) rfl rfl lk_X7_136 rfl (nb rfl) ⟨nb rfl, nb rfl⟩ rfl ?_
          refine g_if_eq (pc := 26) (tgt := 36) dX7_statement_26 rfl (fun _ => ?_) (fun h26 => absurd (rfl) h26)
          refine g_aload_n (pc := 36) dX7_statement_36 rfl trivial ?_
          refine g_ldcS (pc := 37) (kS := 16) dX7_statement_37 rfl ?_
          refine g_invV_r (pc := 39) (As := [_]) dX7_statement_39 rfl (w2) rfl rfl (shK hS1 rfl) rfl rfl lk_X7_136 rfl (nb rfl) ⟨nb rfl, nb rfl⟩ rfl ?_
          refine g_if_eq (pc := 42) (tgt := 52) dX7_statement_42 rfl (fun _ => ?_) (fun h42 => absurd (rfl) h42)
          refine g_aload_n (pc := 52) dX7_statement_52 rfl trivial ?_
          refine g_ldcS (pc := 53) (kS := 21) dX7_statement_53 rfl ?_
          refine g_invV_r (pc := 55) (As := [_]) dX7_statement_55 rfl (w3) rfl rfl (shK hS1 rfl) rfl rfl lk_X7_136 rfl (nb rfl) ⟨nb rfl, nb rfl⟩ rfl ?_
          refine g_if_eq (pc := 58) (tgt := 68) dX7_statement_58 rfl (fun h58 => absurd h58 ((by decide))) (fun _ => ?_)
          refine g_aload_n (pc := 61) dX7_statement_61 rfl trivial ?_
          refine g_invV_r (pc := 62) (As := []) dX7_statement_62 rfl (p3) rfl rfl (shK hS1 rfl) rfl rfl lk_X7_178 rfl (nb rfl) ⟨nb rfl, nb rfl⟩ rfl ?_
          refine g_goto (pc := 65) (tgt := 99) dX7_statement_65 rfl ?_
          refine g_return (pc := 99) dX7_statement_99 rfl ?_
          exact ⟨rfl, rfl⟩
        | false =>
          cases c4 with
          | true =>
            have e9 : pL (psM M (nmS T len 1 8 s1)) 200 1 (nmV T len 1 8 s1).toInt64 = psM (sL M 200 (fun_set (mL M 200) 1 (nmV T len 1 8 s1).toInt64)) (nmS T len 1 8 s1) := ps_sL
            have e9 : psM (sL M 200 (gBk T len (mL M 200) s1).1) (gBk T len (mL M 200) s1).2 = pL (psM M (nmS T len 1 8 s1)) 200 1 (nmV T len 1 8 s1).toInt64 := e9.symm
            simp only [if_true, if_false, Bool.false_eq_true]
            rw [e9]
            have hS2 : Shp (psM M (nmS T len 1 8 s1)) := hS
            generalize psM M (nmS T len 1 8 s1) = M2 at *
            generalize nmV T len 1 8 s1 = v at *
            refine g_aload_n (pc := 0) dX7_statement_0 rfl trivial ?_
            refine g_invV_r (pc := 1) (As := []) dX7_statement_1 rfl (q0) rfl rfl (shK hS0 rfl) rfl rfl lk_X7_132 rfl (nb rfl) ⟨nb rfl, nb rfl⟩ rfl ?_
            refine g_aload_n (pc := 4) dX7_statement_4 rfl trivial ?_
            refine g_ldcS (pc := 5) (kS := 14) dX7_statement_5 rfl ?_
            refine g_invV_r (pc := 7) (As := [_]) dX7_statement_7 rfl (w0) rfl rfl (shK hS1 rfl) rfl rfl lk_X7_136 rfl (nb rfl) ⟨nb rfl, nb rfl⟩ rfl ?_
            refine g_if_eq (pc := 10) (tgt := 20) dX7_statement_10 rfl (fun _ => ?_) (fun h10 => absurd (rfl) h10)
            refine g_aload_n (pc := 20) dX7_statement_20 rfl trivial ?_
            refine g_ldcS (pc := 21) (kS := 15) dX7_statement_21 rfl ?_
            refine g_invV_r (pc := 23) (As := [_]) dX7_statement_23 rfl (w1) rfl rfl (shK hS1 rfl) rfl rfl lk_X7_136 rfl (nb rfl) ⟨nb rfl, nb rfl⟩ rfl ?_
            refine g_if_eq (pc := 26) (tgt := 36) dX7_statement_26 rfl (fun _ => ?_) (fun h26 => absurd (rfl) h26)
            refine g_aload_n (pc := 36) dX7_statement_36 rfl trivial ?_
            refine g_ldcS (pc := 37) (kS := 16) dX7_statement_37 rfl ?_
            refine g_invV_r (pc := 39) (As := [_]) dX7_statement_39 rfl (w2) rfl rfl (shK hS1 rfl) rfl rfl lk_X7_136 rfl (nb rfl) ⟨nb rfl, nb rfl⟩ rfl ?_
            refine g_if_eq (pc := 42) (tgt := 52) dX7_statement_42 rfl (fun _ => ?_) (fun h42 => absurd (rfl) h42)
            refine g_aload_n (pc := 52) dX7_statement_52 rfl trivial ?_
            refine g_ldcS (pc := 53) (kS := 21) dX7_statement_53 rfl ?_
            refine g_invV_r (pc := 55) (As := [_]) dX7_statement_55 rfl (w3) rfl rfl (shK hS1 rfl) rfl rfl lk_X7_136 rfl (nb rfl) ⟨nb rfl, nb rfl⟩ rfl ?_
            refine g_if_eq (pc := 58) (tgt := 68) dX7_statement_58 rfl (fun _ => ?_) (fun h58 => absurd (rfl) h58)
            refine g_aload_n (pc := 68) dX7_statement_68 rfl trivial ?_
            refine g_ldcS (pc := 69) (kS := 22) dX7_statement_69 rfl ?_
            refine g_invV_r (pc := 71) (As := [_]) dX7_statement_71 rfl (w4) rfl rfl (shK hS1 rfl) rfl rfl lk_X7_136 rfl (nb rfl) ⟨nb rfl, nb rfl⟩ rfl ?_
            refine g_if_eq (pc := 74) (tgt := 94) dX7_statement_74 rfl (fun h74 => absurd h74 ((by decide))) (fun _ => ?_)
            refine g_aload_n (pc := 77) dX7_statement_77 rfl trivial ?_
            refine g_getf (pc := 78) dX7_statement_78 fk_X7_13 (shK hS1 rfl) (fv_arr (shR hS1 rfl)) ?_
            refine g_iconst (pc := 81) (v := 1) dX7_statement_81 rfl ?_
            refine g_aload_n (pc := 82) dX7_statement_82 rfl trivial ?_
            refine g_iconst (pc := 83) (v := 1) dX7_statement_83 rfl ?_
            refine g_bipush (pc := 84) (v := 8) dX7_statement_84 rfl ?_
            refine g_invV_r (pc := 86) (As := [_, _]) dX7_statement_86 rfl (p4) rfl rfl (shK hS1 rfl) rfl rfl lk_X7_129 rfl (nb rfl) ⟨nb rfl, nb rfl⟩ rfl ?_
            refine g_i2l (pc := 89) dX7_statement_89 rfl ?_
            refine g_lastore (pc := 90) dX7_statement_90 (shK hS2 rfl) rfl (by decide) (nl rfl) ?_
            refine g_goto (pc := 91) (tgt := 99) dX7_statement_91 rfl ?_
            refine g_return (pc := 99) dX7_statement_99 rfl ?_
            exact ⟨rfl, rfl⟩
          | false =>
            simp only [if_false, Bool.false_eq_true]
            rw [sL_id]
            refine g_aload_n (pc := 0) dX7_statement_0 rfl trivial ?_
            refine g_invV_r (pc := 1) (As := []) dX7_statement_1 rfl (q0) rfl rfl (shK hS0 rfl) rfl rfl lk_X7_132 rfl (nb rfl) ⟨nb rfl, nb rfl⟩ rfl ?_
            refine g_aload_n (pc := 4) dX7_statement_4 rfl trivial ?_
            refine g_ldcS (pc := 5) (kS := 14) dX7_statement_5 rfl ?_
            refine g_invV_r (pc := 7) (As := [_]) dX7_statement_7 rfl (w0) rfl rfl (shK hS1 rfl) rfl rfl lk_X7_136 rfl (nb rfl) ⟨nb rfl, nb rfl⟩ rfl ?_
            refine g_if_eq (pc := 10) (tgt := 20) dX7_statement_10 rfl (fun _ => ?_) (fun h10 => absurd (rfl) h10)
            refine g_aload_n (pc := 20) dX7_statement_20 rfl trivial ?_
            refine g_ldcS (pc := 21) (kS := 15) dX7_statement_21 rfl ?_
            refine g_invV_r (pc := 23) (As := [_]) dX7_statement_23 rfl (w1) rfl rfl (shK hS1 rfl) rfl rfl lk_X7_136 rfl (nb rfl) ⟨nb rfl, nb rfl⟩ rfl ?_
            refine g_if_eq (pc := 26) (tgt := 36) dX7_statement_26 rfl (fun _ => ?_) (fun h26 => absurd (rfl) h26)
            refine g_aload_n (pc := 36) dX7_statement_36 rfl trivial ?_
            refine g_ldcS (pc := 37) (kS := 16) dX7_statement_37 rfl ?_
            refine g_invV_r (pc := 39) (As := [_]) dX7_statement_39 rfl (w2) rfl rfl (shK hS1 rfl) rfl rfl lk_X7_136 rfl (nb rfl) ⟨nb rfl, nb rfl⟩ rfl ?_
            refine g_if_eq (pc := 42) (tgt := 52) dX7_statement_42 rfl (fun _ => ?_) (fun h42 => absurd (rfl) h42)
            refine g_aload_n (pc := 52) dX7_statement_52 rfl trivial ?_
            refine g_ldcS (pc := 53) (kS := 21) dX7_statement_53 rfl ?_
            refine g_invV_r (pc := 55) (As := [_]) dX7_statement_55 rfl (w3) rfl rfl (shK hS1 rfl) rfl rfl lk_X7_136 rfl (nb rfl) ⟨nb rfl, nb rfl⟩ rfl ?_
            refine g_if_eq (pc := 58) (tgt := 68) dX7_statement_58 rfl (fun _ => ?_) (fun h58 => absurd (rfl) h58)
            refine g_aload_n (pc := 68) dX7_statement_68 rfl trivial ?_
            refine g_ldcS (pc := 69) (kS := 22) dX7_statement_69 rfl ?_
            refine g_invV_r (pc := 71) (As := [_]) dX7_statement_71 rfl (w4) rfl rfl (shK hS1 rfl) rfl rfl lk_X7_136 rfl (nb rfl) ⟨nb rfl, nb rfl⟩ rfl ?_
            refine g_if_eq (pc := 74) (tgt := 94) dX7_statement_74 rfl (fun _ => ?_) (fun h74 => absurd (rfl) h74)
            refine g_aload_n (pc := 94) dX7_statement_94 rfl trivial ?_
            refine g_iconst (pc := 95) (v := 1) dX7_statement_95 rfl ?_
            refine g_invV_r (pc := 96) (As := [_]) dX7_statement_96 rfl (pf) rfl rfl (shK hS1 rfl) rfl rfl lk_X7_118 rfl (nb rfl) ⟨nb rfl, nb rfl⟩ rfl ?_
            refine g_return (pc := 99) dX7_statement_99 rfl ?_
            exact ⟨rfl, rfl⟩
def mvS (T : Nat → Int32) (len : Nat) (s : RP) : RP := if s.2.2.2.1 = 0 then (if skipP T len s.1 < len then (if T (skipP T len s.1) = 59 then (skipP T len s.1 + 1, nI (skipP T len s.1), s.2.2.1 + 1, s.2.2.2) else rFail 1 (nI (skipP T len s.1)) (nxS T len s)) else nxS T len s) else s
def mvB (T : Nat → Int32) (len : Nat) (s : RP) : Bool := decide (s.2.2.2.1 = 0) && decide (skipP T len s.1 < len) && decide (T (skipP T len s.1) = 59)
theorem r_isMore (hS : Shp M) (hT : txt M T len) (hl : mI M 198 8 = nI len) (hL : len ≤ 600) (hp : s.1 ≤ len) : EvR l jX7_isMore 2 60 0 0 [.ref 198] (psM M s) (.inl (some (.int (b1 (mvB T len s))))) (psM M (mvS T len s)) := by
  have q1 := r_next (l := l) (s := s) hS hT hl hL hp
  have hsk := skipP_le (T := T) hp
  unfold mvB mvS
  have h11 : mI (psM M s) 198 11 = s.2.2.2.1 := ps_11
  have hS0 : Shp (psM M s) := hS
  refine ev_intro rfl (nb rfl) rfl ?_
  by_cases he : s.2.2.2.1 = 0
  · rw [if_pos he]
    unfold nxS at *
    generalize skipP T len s.1 = p at *
    have q2 := r_here (l := l) (s := (p, nI p, s.2.2)) hS hT hl hL hsk.2
    simp only at q2
    have hS1 : Shp (psM M (p, nI p, s.2.2)) := hS
    by_cases h1 : p < len
    · rw [if_pos h1]
      obtain ⟨j, j1, j2, j3⟩ := hT p h1
      have hv : hvF T len p = T p := by unfold hvF; rw [if_pos h1]
      rw [hv] at q1 q2
      have hge : T p ≥ 0 := by rw [j2]; exact (by decide +kernel : ∀ j, j < 256 → nI j ≥ 0) j j1
      by_cases h2 : T p = 59
      · rw [if_pos h2]
        have h9 : mI (psM M (p, nI p, s.2.2)) 198 9 = nI p := ps_9
        have e9 : pI (psM M (p, nI p, s.2.2)) 198 9 (nI (p + 1)) = psM M (p + 1, nI p, s.2.2) := ps_p9 rfl
        have hS2 : Shp (psM M (p + 1, nI p, s.2.2)) := hS
        have h13 : mI (psM M (p + 1, nI p, s.2.2)) 198 13 = s.2.2.1 := ps_13
        have e13 : pI (psM M (p + 1, nI p, s.2.2)) 198 13 (s.2.2.1 + 1) = psM M (p + 1, nI p, s.2.2.1 + 1, s.2.2.2) := ps_p13
        have eb : (decide (s.2.2.2.1 = 0) && decide (p < len) && decide (T p = 59)) = true := by simp [he, h1, h2]
        rw [eb]
        generalize psM M (p + 1, nI p, s.2.2.1 + 1, s.2.2.2) = M3 at *
        generalize psM M (p + 1, nI p, s.2.2) = M2 at *
        generalize psM M (p, nI p, s.2.2) = M1 at *
        refine g_aload_n (pc := 0) dX7_isMore_0 rfl trivial ?_
        refine g_getf (pc := 1) (v := .int _) dX7_isMore_1 fk_X7_93 (shK hS0 rfl) (fun _ => congrArg Value.int (h11)) ?_
        refine g_if_ne (pc := 4) (tgt := 14) dX7_isMore_4 rfl (fun h4 => absurd h4 ((fun z => z he))) (fun _ => ?_)
        refine g_aload_n (pc := 7) dX7_isMore_7 rfl trivial ?_
        refine g_invV_r (pc := 8) (As := []) dX7_isMore_8 rfl (q1) rfl rfl (shK hS0 rfl) rfl rfl lk_X7_99 rfl (nb rfl) ⟨nb rfl, nb rfl⟩ rfl ?_
        refine g_if_ge (pc := 11) (tgt := 16) dX7_isMore_11 rfl (fun _ => ?_) (fun h11 => absurd (hge) h11)
        refine g_aload_n (pc := 16) dX7_isMore_16 rfl trivial ?_
        refine g_invV_r (pc := 17) (As := []) dX7_isMore_17 rfl (q2) rfl rfl (shK hS1 rfl) rfl rfl lk_X7_87 rfl (nb rfl) ⟨nb rfl, nb rfl⟩ rfl ?_
        refine g_bipush (pc := 20) (v := 59) dX7_isMore_20 rfl ?_
        refine g_icmp_eq (pc := 22) (tgt := 32) dX7_isMore_22 rfl (fun _ => ?_) (fun h22 => absurd (h2) h22)
        refine g_aload_n (pc := 32) dX7_isMore_32 rfl trivial ?_
        refine g_dup (pc := 33) dX7_isMore_33 rfl ?_
        refine g_getf (pc := 34) (v := .int _) dX7_isMore_34 fk_X7_84 (shK hS1 rfl) (fun _ => congrArg Value.int (h9)) ?_
        refine g_iconst (pc := 37) (v := 1) dX7_isMore_37 rfl ?_
        refine g_iadd (pc := 38) dX7_isMore_38 ?_
        rw [nI_1]
        refine g_putI (pc := 39) dX7_isMore_39 fp_X7_84 (shK hS1 rfl) ⟨rfl, rfl⟩ (fun _ _ _ _ => rfl) ?_
        refine go_cast e9 ?_
        refine g_aload_n (pc := 42) dX7_isMore_42 rfl trivial ?_
        refine g_dup (pc := 43) dX7_isMore_43 rfl ?_
        refine g_getf (pc := 44) (v := .int _) dX7_isMore_44 fk_X7_183 (shK hS2 rfl) (fun _ => congrArg Value.int (h13)) ?_
        refine g_iconst (pc := 47) (v := 1) dX7_isMore_47 rfl ?_
        refine g_iadd (pc := 48) dX7_isMore_48 ?_
        refine g_putI (pc := 49) dX7_isMore_49 fp_X7_183 (shK hS2 rfl) ⟨rfl, rfl⟩ (fun _ _ _ _ => rfl) ?_
        refine go_cast e13 ?_
        refine g_iconst (pc := 52) (v := 1) dX7_isMore_52 rfl ?_
        refine g_ireturn (pc := 53) dX7_isMore_53 rfl rfl ?_
        exact ⟨rfl, rfl⟩
      · rw [if_neg h2]
        have qf := r_fails (l := l) (M := M) (s := (p, nI p, s.2.2)) (k := 1) hS
        simp only at qf
        have eb : (decide (s.2.2.2.1 = 0) && decide (p < len) && decide (T p = 59)) = false := by simp [h2]
        rw [eb]
        generalize psM M (p, nI p, s.2.2) = M1 at *
        refine g_aload_n (pc := 0) dX7_isMore_0 rfl trivial ?_
        refine g_getf (pc := 1) (v := .int _) dX7_isMore_1 fk_X7_93 (shK hS0 rfl) (fun _ => congrArg Value.int (h11)) ?_
        refine g_if_ne (pc := 4) (tgt := 14) dX7_isMore_4 rfl (fun h4 => absurd h4 ((fun z => z he))) (fun _ => ?_)
        refine g_aload_n (pc := 7) dX7_isMore_7 rfl trivial ?_
        refine g_invV_r (pc := 8) (As := []) dX7_isMore_8 rfl (q1) rfl rfl (shK hS0 rfl) rfl rfl lk_X7_99 rfl (nb rfl) ⟨nb rfl, nb rfl⟩ rfl ?_
        refine g_if_ge (pc := 11) (tgt := 16) dX7_isMore_11 rfl (fun _ => ?_) (fun h11 => absurd (hge) h11)
        refine g_aload_n (pc := 16) dX7_isMore_16 rfl trivial ?_
        refine g_invV_r (pc := 17) (As := []) dX7_isMore_17 rfl (q2) rfl rfl (shK hS1 rfl) rfl rfl lk_X7_87 rfl (nb rfl) ⟨nb rfl, nb rfl⟩ rfl ?_
        refine g_bipush (pc := 20) (v := 59) dX7_isMore_20 rfl ?_
        refine g_icmp_eq (pc := 22) (tgt := 32) dX7_isMore_22 rfl (fun h22 => absurd h22 (h2)) (fun _ => ?_)
        refine g_aload_n (pc := 25) dX7_isMore_25 rfl trivial ?_
        refine g_iconst (pc := 26) (v := 1) dX7_isMore_26 rfl ?_
        refine g_invV_r (pc := 27) (As := [_]) dX7_isMore_27 rfl (qf) rfl rfl (shK hS1 rfl) rfl rfl lk_X7_118 rfl (nb rfl) ⟨nb rfl, nb rfl⟩ rfl ?_
        refine g_iconst (pc := 30) (v := 0) dX7_isMore_30 rfl ?_
        refine g_ireturn (pc := 31) dX7_isMore_31 rfl rfl ?_
        exact ⟨rfl, rfl⟩
    · rw [if_neg h1]
      have hv : hvF T len p = -1 := by unfold hvF; rw [if_neg h1]
      rw [hv] at q1
      have eb : (decide (s.2.2.2.1 = 0) && decide (p < len) && decide (T p = 59)) = false := by simp [h1]
      rw [eb]
      refine g_aload_n (pc := 0) dX7_isMore_0 rfl trivial ?_
      refine g_getf (pc := 1) (v := .int _) dX7_isMore_1 fk_X7_93 (shK hS0 rfl) (fun _ => congrArg Value.int (h11)) ?_
      refine g_if_ne (pc := 4) (tgt := 14) dX7_isMore_4 rfl (fun h4 => absurd h4 ((fun z => z he))) (fun _ => ?_)
      refine g_aload_n (pc := 7) dX7_isMore_7 rfl trivial ?_
      refine g_invV_r (pc := 8) (As := []) dX7_isMore_8 rfl (q1) rfl rfl (shK hS0 rfl) rfl rfl lk_X7_99 rfl (nb rfl) ⟨nb rfl, nb rfl⟩ rfl ?_
      refine g_if_ge (pc := 11) (tgt := 16) dX7_isMore_11 rfl (fun h11 => absurd h11 ((by decide))) (fun _ => ?_)
      refine g_iconst (pc := 14) (v := 0) dX7_isMore_14 rfl ?_
      refine g_ireturn (pc := 15) dX7_isMore_15 rfl rfl ?_
      exact ⟨rfl, rfl⟩
  · rw [if_neg he]
    have eb : (decide (s.2.2.2.1 = 0) && decide (skipP T len s.1 < len) && decide (T (skipP T len s.1) = 59)) = false := by simp [he]
    rw [eb]
    refine g_aload_n (pc := 0) dX7_isMore_0 rfl trivial ?_
    refine g_getf (pc := 1) (v := .int _) dX7_isMore_1 fk_X7_93 (shK hS0 rfl) (fun _ => congrArg Value.int (h11)) ?_
    refine g_if_ne (pc := 4) (tgt := 14) dX7_isMore_4 rfl (fun _ => ?_) (fun h4 => absurd (he) h4)
    refine g_iconst (pc := 14) (v := 0) dX7_isMore_14 rfl ?_
    refine g_ireturn (pc := 15) dX7_isMore_15 rfl rfl ?_
    exact ⟨rfl, rfl⟩
def clF (u : Nat → Int64) (k : Nat) : Nat → Int64 := fun i => if i < k then 0 else u i
theorem clF_0 (u : Nat → Int64) : clF u 0 = u := by funext i; unfold clF; rw [if_neg (by omega)]
theorem clF_s (u : Nat → Int64) (k : Nat) : fun_set (clF u k) k 0 = clF u (k + 1) := by
  funext i
  unfold clF fun_set
  dsimp only
  by_cases h1 : i = k
  · rw [if_pos h1, if_pos (by omega)]
  · rw [if_neg h1]
    by_cases h2 : i < k
    · rw [if_pos h2, if_pos (by omega)]
    · rw [if_neg h2, if_neg (by omega)]
/-- an empty state -/
def bgF (u : Nat → Int64) (n : Nat) : Nat → Int64 := fun_set (fun_set (clF u 220) 0 (lN n)) 1 4
theorem r_begins {x n : Nat} (hkx : (mK M)[x]? = some (kL 220)) (hn9 : n ≤ 32) : EvR l jX7_begins 0 0 0 0 [.ref x, .int (nI n)] M (.inl none) (sL M x (bgF (mL M x) n)) := by
  refine ev_intro rfl (nb rfl) rfl ?_
  refine g_iconst (pc := 0) (v := 0) dX7_begins_0 rfl ?_
  refine g_istore_n (pc := 1) (lv' := [(0, _), (1, _), (2, _)]) dX7_begins_1 (nl rfl) rfl ?_
  refine go_loop (pc := 2) 220 (fun i => [(0, .ref x), (1, .int (nI n)), (2, .int (nI i))]) (fun i => sL M x (clF (mL M x) i)) ⟨rfl, rfl, rfl, trivial⟩ (sL_eq (clF_0 _)) ?_ ?_
  · intro i hi ih
    have hkx2 : (mK (sL M x (clF (mL M x) i)))[x]? = some (kL 220) := hkx
    refine g_iload_n (pc := 2) dX7_begins_2 rfl ?_
    refine g_sipush (pc := 3) (v := 220) dX7_begins_3 rfl ?_
    refine g_icmp_ge (pc := 6) (tgt := 19) dX7_begins_6 rfl (fun h6 => absurd h6 (nI_ge (b := 220) hi (by decide))) (fun _ => ?_)
    refine g_aload_n (pc := 9) dX7_begins_9 rfl trivial ?_
    refine g_iload_n (pc := 10) dX7_begins_10 rfl ?_
    refine g_lconst (pc := 11) (v := 0) dX7_begins_11 rfl ?_
    refine g_lastore (pc := 12) dX7_begins_12 hkx2 rfl hi (nl rfl) ?_
    refine g_iinc (pc := 13) (lv' := [(0, _), (1, _), (2, _)]) dX7_begins_13 rfl (nI_1 _) (nl rfl) rfl ?_
    refine g_goto (pc := 16) (tgt := 2) dX7_begins_16 rfl ?_
    exact go_cast (sL_st (clF_s _ i)) ih
  · have hkx2 : (mK (sL M x (clF (mL M x) 220)))[x]? = some (kL 220) := hkx
    have e1 : pL (sL M x (clF (mL M x) 220)) x 0 (lN n) = sL M x (fun_set (clF (mL M x) 220) 0 (lN n)) := sL_st rfl
    have e2 : pL (sL M x (fun_set (clF (mL M x) 220) 0 (lN n))) x 1 4 = sL M x (bgF (mL M x) n) := sL_st rfl
    have hkx3 : (mK (sL M x (fun_set (clF (mL M x) 220) 0 (lN n))))[x]? = some (kL 220) := hkx
    generalize sL M x (bgF (mL M x) n) = M4 at *
    generalize sL M x (fun_set (clF (mL M x) 220) 0 (lN n)) = M3 at *
    generalize sL M x (clF (mL M x) 220) = M2 at *
    refine g_iload_n (pc := 2) dX7_begins_2 rfl ?_
    refine g_sipush (pc := 3) (v := 220) dX7_begins_3 rfl ?_
    refine g_icmp_ge (pc := 6) (tgt := 19) dX7_begins_6 rfl (fun _ => ?_) (fun h6 => absurd (nI_le (Nat.le_refl 220) (by decide)) h6)
    refine g_aload_n (pc := 19) dX7_begins_19 rfl trivial ?_
    refine g_iconst (pc := 20) (v := 0) dX7_begins_20 rfl ?_
    refine g_iload_n (pc := 21) dX7_begins_21 rfl ?_
    refine g_i2l (pc := 22) dX7_begins_22 rfl ?_
    rw [lN_nI (by omega)]
    refine g_lastore (pc := 23) dX7_begins_23 hkx2 rfl (by decide) (nl rfl) ?_
    refine go_cast e1 ?_
    refine g_aload_n (pc := 24) dX7_begins_24 rfl trivial ?_
    refine g_iconst (pc := 25) (v := 1) dX7_begins_25 rfl ?_
    refine g_ldc2 (pc := 26) dX7_begins_26 wd_1215 ?_
    refine g_lastore (pc := 29) dX7_begins_29 hkx3 rfl (by decide) (nl rfl) ?_
    refine go_cast e2 ?_
    refine g_return (pc := 30) dX7_begins_30 rfl ?_
    exact ⟨rfl, rfl⟩
/-- the size read -/
def szS0 (T : Nat → Int32) (len : Nat) (s : RP) : RP := if wdQ T (skipP T len s.1) (twd T len s).1 (strW 13) = true then twd T len s else rFail 1 (nI (skipP T len s.1)) (twd T len s)
def szN (T : Nat → Int32) (len : Nat) (s : RP) : Nat := (nmV T len 1 32 (szS0 T len s)).toNatClampNeg
def szS (T : Nat → Int32) (len : Nat) (s : RP) : RP := nmS T len 1 32 (szS0 T len s)
theorem szS0_le (hp : s.1 ≤ len) : (szS0 T len s).1 ≤ len := by
  unfold szS0; split
  · exact (twd_le hp).1
  · rw [(rFail_1 _ _ _).1]; exact (twd_le hp).1
theorem szN_ok (T : Nat → Int32) (len : Nat) (s : RP) : nmV T len 1 32 (szS0 T len s) = nI (szN T len s) ∧ 1 ≤ szN T len s ∧ szN T len s ≤ 32 := by
  have h : ¬ nmV T len 1 32 (szS0 T len s) < 1 ∧ ¬ 32 < nmV T len 1 32 (szS0 T len s) := by
    unfold nmV
    split
    · exact tnv_in T len 1 32 (szS0 T len s) (by decide)
    · exact ⟨by decide, by decide⟩
  unfold szN
  generalize nmV T len 1 32 (szS0 T len s) = v at *
  obtain ⟨j, h3, h4⟩ := nI_of2 (x := v) (M := 32) (n := 32) (by decide) (fun q => h.1 (Int32.lt_trans q (by decide))) (Int32.not_lt.mp h.2)
  subst h4
  rw [nI_clamp (by omega)]
  refine ⟨rfl, Nat.pos_of_ne_zero fun q => ?_, h3⟩
  subst q
  exact h.1 (by decide)
theorem r_sizePart (hS : Shp M) (hT : txt M T len) (hl : mI M 198 8 = nI len) (hL : len ≤ 600) (hp : s.1 ≤ len) : EvR l jX7_sizePart 5 140 0 0 [.ref 198] (psM M s) (.inl none) (psM (sL M 200 (bgF (mL M 200) (szN T len s))) (szS T len s)) := by
  have q0 := r_reads (l := l) (s := s) hS hT hl hL hp
  have hw := twd_le (T := T) hp
  have hw2 : (twd T len s).2.1 = nI (skipP T len s.1) := rfl
  have h0 := szS0_le (T := T) hp
  obtain ⟨n1, n2, n3⟩ := szN_ok T len s
  have p4 := r_numR (l := l) (s := szS0 T len s) (lo := 1) (hi := 32) hS hT hl hL h0 (by decide)
  rw [n1] at p4
  have q5 := r_begins (l := l) (M := psM M (szS T len s)) (x := 200) (n := szN T len s) (shK (M := psM M (szS T len s)) hS rfl) n3
  have e5 : sL (psM M (szS T len s)) 200 (bgF (mL (psM M (szS T len s)) 200) (szN T len s)) = psM (sL M 200 (bgF (mL M 200) (szN T len s))) (szS T len s) := ps_sL
  rw [e5] at q5
  have p4 : EvR l jX7_number 2 60 0 0 [.ref 198, .int 1, .int 32] (psM M (szS0 T len s)) (.inl (some (.int (nI (szN T len s))))) (psM M (szS T len s)) := p4
  have hSz : Shp (psM M (szS T len s)) := hS
  generalize szS T len s = s3 at *
  generalize szN T len s = n at *
  unfold szS0 at *
  generalize twd T len s = s1 at *
  generalize skipP T len s.1 = b at *
  have w0 : EvR l jX7_isWord 4 110 0 0 [.ref 198, .retAddr (2 * 13 + 2)] (psM M s1) (.inl (some (.int (b1 (wdQ T b s1.1 (strW 13)))))) (psM M s1) := r_isWR 13 hS hT hL hw.1 hw2 hw.2 (by decide) (by decide)
  have pf := r_fails (l := l) (M := M) (s := s1) (k := 1) hS
  rw [hw2] at pf
  have hS0 : Shp (psM M s) := hS
  have hS1 : Shp (psM M s1) := hS
  have hS2 : Shp (psM M (rFail 1 (nI b) s1)) := hS
  generalize wdQ T b s1.1 (strW 13) = c0 at *
  generalize psM (sL M 200 (bgF (mL M 200) n)) s3 = M9 at *
  refine ev_intro rfl (nb rfl) rfl ?_
  cases c0 with
  | true =>
    rw [if_pos rfl] at p4
    refine g_aload_n (pc := 0) dX7_sizePart_0 rfl trivial ?_
    refine g_invV_r (pc := 1) (As := []) dX7_sizePart_1 rfl (q0) rfl rfl (shK hS0 rfl) rfl rfl lk_X7_132 rfl (nb rfl) ⟨nb rfl, nb rfl⟩ rfl ?_
    refine g_aload_n (pc := 4) dX7_sizePart_4 rfl trivial ?_
    refine g_ldcS (pc := 5) (kS := 13) dX7_sizePart_5 rfl ?_
    refine g_invV_r (pc := 7) (As := [_]) dX7_sizePart_7 rfl (w0) rfl rfl (shK hS1 rfl) rfl rfl lk_X7_136 rfl (nb rfl) ⟨nb rfl, nb rfl⟩ rfl ?_
    refine g_if_ne (pc := 10) (tgt := 18) dX7_sizePart_10 rfl (fun _ => ?_) (fun h10 => absurd ((by decide)) h10)
    refine g_aload_n (pc := 18) dX7_sizePart_18 rfl trivial ?_
    refine g_getf (pc := 19) dX7_sizePart_19 fk_X7_13 (shK hS1 rfl) (fv_arr (shR hS1 rfl)) ?_
    refine g_aload_n (pc := 22) dX7_sizePart_22 rfl trivial ?_
    refine g_iconst (pc := 23) (v := 1) dX7_sizePart_23 rfl ?_
    refine g_bipush (pc := 24) (v := 32) dX7_sizePart_24 rfl ?_
    refine g_invV_r (pc := 26) (As := [_, _]) dX7_sizePart_26 rfl (p4) rfl rfl (shK hS1 rfl) rfl rfl lk_X7_129 rfl (nb rfl) ⟨nb rfl, nb rfl⟩ rfl ?_
    refine g_invS_r (pc := 29) (As := [_, _]) dX7_sizePart_29 rfl (q5) rfl rfl lk_X7_56 rfl (nb rfl) ⟨nb rfl, nb rfl⟩ rfl ?_
    refine g_return (pc := 32) dX7_sizePart_32 rfl ?_
    exact ⟨rfl, rfl⟩
  | false =>
    rw [if_neg (by decide)] at p4
    refine g_aload_n (pc := 0) dX7_sizePart_0 rfl trivial ?_
    refine g_invV_r (pc := 1) (As := []) dX7_sizePart_1 rfl (q0) rfl rfl (shK hS0 rfl) rfl rfl lk_X7_132 rfl (nb rfl) ⟨nb rfl, nb rfl⟩ rfl ?_
    refine g_aload_n (pc := 4) dX7_sizePart_4 rfl trivial ?_
    refine g_ldcS (pc := 5) (kS := 13) dX7_sizePart_5 rfl ?_
    refine g_invV_r (pc := 7) (As := [_]) dX7_sizePart_7 rfl (w0) rfl rfl (shK hS1 rfl) rfl rfl lk_X7_136 rfl (nb rfl) ⟨nb rfl, nb rfl⟩ rfl ?_
    refine g_if_ne (pc := 10) (tgt := 18) dX7_sizePart_10 rfl (fun h10 => absurd h10 ((fun z => z rfl))) (fun _ => ?_)
    refine g_aload_n (pc := 13) dX7_sizePart_13 rfl trivial ?_
    refine g_iconst (pc := 14) (v := 1) dX7_sizePart_14 rfl ?_
    refine g_invV_r (pc := 15) (As := [_]) dX7_sizePart_15 rfl (pf) rfl rfl (shK hS1 rfl) rfl rfl lk_X7_118 rfl (nb rfl) ⟨nb rfl, nb rfl⟩ rfl ?_
    refine g_aload_n (pc := 18) dX7_sizePart_18 rfl trivial ?_
    refine g_getf (pc := 19) dX7_sizePart_19 fk_X7_13 (shK hS2 rfl) (fv_arr (shR hS2 rfl)) ?_
    refine g_aload_n (pc := 22) dX7_sizePart_22 rfl trivial ?_
    refine g_iconst (pc := 23) (v := 1) dX7_sizePart_23 rfl ?_
    refine g_bipush (pc := 24) (v := 32) dX7_sizePart_24 rfl ?_
    refine g_invV_r (pc := 26) (As := [_, _]) dX7_sizePart_26 rfl (p4) rfl rfl (shK hS2 rfl) rfl rfl lk_X7_129 rfl (nb rfl) ⟨nb rfl, nb rfl⟩ rfl ?_
    refine g_invS_r (pc := 29) (As := [_, _]) dX7_sizePart_29 rfl (q5) rfl rfl lk_X7_56 rfl (nb rfl) ⟨nb rfl, nb rfl⟩ rfl ?_
    refine g_return (pc := 32) dX7_sizePart_32 rfl ?_
    exact ⟨rfl, rfl⟩
end
end
-- 316.rr
section
/-! the reference reads: a text -/
/-- every number among the rows is a row -/
def uOk (u : Nat → Int64) : Prop := ∀ i, 28 ≤ i → i < 220 → u i = uL (u i).toInt32
theorem uOk_set {u : Nat → Int64} (h : uOk u) (j : Nat) (x : Int32) : uOk (fun_set u j (uL x)) := fun i h1 h2 => by
  unfold fun_set
  by_cases e : i = j
  · rw [if_pos e, uL_32]
  · rw [if_neg e]; exact h i h1 h2
theorem uOk_lo {u : Nat → Int64} (h : uOk u) {j : Nat} (hj : j < 28) (x : Int64) : uOk (fun_set u j x) := fun i h1 h2 => by
  unfold fun_set
  rw [if_neg (by omega)]; exact h i h1 h2
theorem lyF_ok {u : Nat → Int64} (h : uOk u) (a n : Nat) (f : Nat → Int32) : uOk (lyF u a f n) := fun i h1 h2 => by
  unfold lyF
  split
  · rw [uL_32]
  · exact h i h1 h2
theorem bgF_ok (u : Nat → Int64) (n : Nat) : uOk (bgF u n) := uOk_lo (uOk_lo (fun i h1 h2 => by unfold clF; rw [if_pos (by omega)]; decide) (by decide) _) (by decide) _
section
variable {s : RP} {len n : Nat} {T : Nat → Int32} {u : Nat → Int64}
theorem tnm_ge {lo hi : Int32} (hp : s.1 ≤ len) : s.1 ≤ (tnm T len lo hi s).1 := by
  rw [(tnm_1 T len lo hi s).1]
  have h1 := skipP_le (T := T) hp
  have h2 := digP_le (T := T) h1.2
  omega
theorem nmS_ge {lo hi : Int32} (hp : s.1 ≤ len) : s.1 ≤ (nmS T len lo hi s).1 := by
  unfold nmS; split
  · exact tnm_ge hp
  · exact Nat.le_refl _
theorem twd_ge (hp : s.1 ≤ len) : s.1 ≤ (twd T len s).1 := by
  have h1 := skipP_le (T := T) hp
  have h2 := wordP_le (T := T) h1.2
  show s.1 ≤ wordP T len (skipP T len s.1)
  omega
/-- a step of reading -/
def stOk (u : Nat → Int64) (s : RP) (len : Nat) (r : (Nat → Int64) × RP) : Prop := s.1 ≤ r.2.1 ∧ r.2.1 ≤ len ∧ r.1 0 = u 0 ∧ (uOk u → uOk r.1)
theorem gE_ok (hp : s.1 ≤ len) : stOk u s len (gE T len n u s) := by
  have h1 := nmS_le (T := T) (lo := 0) (hi := nI 5) hp
  have h2 := nmS_le (T := T) (lo := 0) (hi := nI (n - 1)) h1
  have h3 := nmS_le (T := T) (lo := 0) (hi := nI (n - 1)) h2
  have g1 := nmS_ge (T := T) (lo := 0) (hi := nI 5) hp
  have g2 := nmS_ge (T := T) (lo := 0) (hi := nI (n - 1)) h1
  have g3 := nmS_ge (T := T) (lo := 0) (hi := nI (n - 1)) h2
  refine ⟨show s.1 ≤ (nmS T len 0 (nI (n - 1)) (nmS T len 0 (nI (n - 1)) (nmS T len 0 (nI 5) s))).1 by omega, h3, ?_, fun h => ?_⟩
  · show (ite _ _ _ : Nat → Int64) 0 = _
    split
    · unfold fun_set; rw [if_neg (by omega)]
    · rfl
  · show uOk (ite _ _ _)
    split
    · intro i i1 i2
      by_cases e : i = 28 + 32 * nmN T len 5 s + nmN T len (n - 1) (nmS T len 0 (nI 5) s)
      · subst e
        rw [h _ i1 i2, uL_or]
        exact uOk_set h _ _ _ i1 i2
      · unfold fun_set; rw [if_neg e]; exact h i i1 i2
    · exact h
theorem gR_ok (hp : s.1 ≤ len) : stOk u s len (gR T len n u s) := by
  have h1 := nmS_le (T := T) (lo := 0) (hi := nI 5) hp
  have h2 := nmS_le (T := T) (lo := 0) (hi := nI (n - 1)) h1
  have g1 := nmS_ge (T := T) (lo := 0) (hi := nI 5) hp
  have g2 := nmS_ge (T := T) (lo := 0) (hi := nI (n - 1)) h1
  unfold gR
  generalize nmN T len (n - 1) (nmS T len 0 (nI 5) s) = r at *
  generalize nmN T len 5 s = a at *
  generalize nmS T len 0 (nI (n - 1)) (nmS T len 0 (nI 5) s) = s2 at *
  have hk := skipP_le (T := T) h2
  have hd := digP_le (T := T) hk.2
  generalize skipP T len s2.1 = b at *
  split
  · unfold gRb
    split
    · split
      · exact ⟨show s.1 ≤ digP T len b by omega, hd.2, by show fun_set u _ _ 0 = _; unfold fun_set; rw [if_neg (by omega)], fun h => uOk_set h _ _⟩
      · refine ⟨?_, ?_, rfl, fun h => h⟩
        · show s.1 ≤ (rFail 2 (nI b) (digP T len b, nI b, s2.2.2)).1
          rw [(rFail_1 _ _ _).1]; show s.1 ≤ digP T len b; omega
        · show (rFail 2 (nI b) (digP T len b, nI b, s2.2.2)).1 ≤ len
          rw [(rFail_1 _ _ _).1]; exact hd.2
    · refine ⟨?_, ?_, rfl, fun h => h⟩
      · show s.1 ≤ (rFail 1 (nI b) (b, nI b, s2.2.2)).1
        rw [(rFail_1 _ _ _).1]; show s.1 ≤ b; omega
      · show (rFail 1 (nI b) (b, nI b, s2.2.2)).1 ≤ len
        rw [(rFail_1 _ _ _).1]; exact hk.2
  · exact ⟨show s.1 ≤ s2.1 by omega, h2, rfl, fun h => h⟩
theorem gF_ok (hp : s.1 ≤ len) : stOk u s len (gF T len n u s) := by
  have h1 := nmS_le (T := T) (lo := 0) (hi := nI 5) hp
  have g1 := nmS_ge (T := T) (lo := 0) (hi := nI 5) hp
  unfold gF
  generalize nmN T len 5 s = a at *
  generalize nmS T len 0 (nI 5) s = s1 at *
  have h2 := (twd_le (T := T) h1).1
  have g2 := twd_ge (T := T) h1
  generalize twd T len s1 = s2 at *
  generalize khF T (skipP T len s1.1) s2.1 = k
  split
  · refine ⟨?_, ?_, rfl, fun h => h⟩
    · show s.1 ≤ (rFail 1 _ s2).1
      rw [(rFail_1 _ _ _).1]; omega
    · show (rFail 1 _ s2).1 ≤ len
      rw [(rFail_1 _ _ _).1]; exact h2
  · split
    · exact ⟨show s.1 ≤ s2.1 by omega, h2, by show lyF u a _ n 0 = _; unfold lyF; rw [if_neg (by omega)], fun h => lyF_ok h _ _ _⟩
    · exact ⟨show s.1 ≤ s2.1 by omega, h2, rfl, fun h => h⟩
theorem gK_ok (hp : s.1 ≤ len) : stOk u s len (gK T len u s) := by
  have h1 := nmS_le (T := T) (lo := 0) (hi := nI 5) hp
  have g1 := nmS_ge (T := T) (lo := 0) (hi := nI 5) hp
  have ha := (nmN_ok (T := T) (len := len) (s := s) (h := 5) (by decide)).2
  unfold gK
  generalize nmN T len 5 s = a at *
  generalize nmS T len 0 (nI 5) s = s1 at *
  refine ⟨?_, ?_, by show fun_set u _ _ 0 = _; unfold fun_set; rw [if_neg (by omega)], fun h => uOk_lo h (by omega) _⟩
  · show s.1 ≤ (ite _ _ _ : RP).1
    split
    · rw [(rFail_1 _ _ _).1]; omega
    · omega
  · show (ite _ _ _ : RP).1 ≤ len
    split
    · rw [(rFail_1 _ _ _).1]; omega
    · omega
theorem gS_ok (hp : s.1 ≤ len) : stOk u s len (gS T len n u s) := by
  have h1 := (twd_le (T := T) hp).1
  have g1 := twd_ge (T := T) hp
  have key : ∀ r, stOk u (twd T len s) len r → stOk u s len r := fun r h => ⟨Nat.le_trans g1 h.1, h.2⟩
  unfold gS
  split
  · exact key _ (gE_ok h1)
  · split
    · exact key _ (gR_ok h1)
    · split
      · exact key _ (gF_ok h1)
      · split
        · exact key _ (gK_ok h1)
        · split
          · exact key _ ⟨nmS_ge h1, nmS_le h1, rfl, fun h => uOk_lo h (by decide) _⟩
          · refine ⟨?_, ?_, rfl, fun h => h⟩
            · show s.1 ≤ (rFail 1 _ _).1
              rw [(rFail_1 _ _ _).1]; exact g1
            · show (rFail 1 _ _).1 ≤ len
              rw [(rFail_1 _ _ _).1]; exact h1
theorem mvS_le (hp : s.1 ≤ len) : s.1 ≤ (mvS T len s).1 ∧ (mvS T len s).1 ≤ len := by
  have h := skipP_le (T := T) hp
  unfold mvS
  split
  · split
    · split
      · exact ⟨show s.1 ≤ skipP T len s.1 + 1 by omega, show skipP T len s.1 + 1 ≤ len by omega⟩
      · rw [(rFail_1 _ _ _).1]; exact h
    · exact h
  · exact ⟨Nat.le_refl _, hp⟩
theorem mvB_lt (hp : s.1 ≤ len) (h : mvB T len s = true) : s.1 < (mvS T len s).1 := by
  have h1 := skipP_le (T := T) hp
  unfold mvB at h
  simp only [Bool.and_eq_true, decide_eq_true_iff] at h
  unfold mvS
  rw [if_pos h.1.1, if_pos h.1.2, if_pos h.2]
  show s.1 < skipP T len s.1 + 1
  omega
/-- statements one after another, d at most -/
def gL (T : Nat → Int32) (len n : Nat) : Nat → (Nat → Int64) → RP → (Nat → Int64) × RP
  | 0, u, s => (u, mvS T len s)
  | d + 1, u, s => if mvB T len s = true then gL T len n d (gS T len n u (mvS T len s)).1 (gS T len n u (mvS T len s)).2 else (u, mvS T len s)
termination_by d => d
theorem gL_ok : ∀ (d : Nat) (u : Nat → Int64) (s : RP), s.1 ≤ len → stOk u s len (gL T len n d u s)
  | 0, u, s, hp => by
    rw [gL.eq_1]
    exact ⟨(mvS_le hp).1, (mvS_le hp).2, rfl, fun h => h⟩
  | d + 1, u, s, hp => by
    have h := mvS_le (T := T) hp
    rw [gL.eq_2]
    split
    · have h2 := gS_ok (T := T) (n := n) (u := u) h.2
      have h3 := gL_ok d (gS T len n u (mvS T len s)).1 (gS T len n u (mvS T len s)).2 h2.2.1
      exact ⟨Nat.le_trans h.1 (Nat.le_trans h2.1 h3.1), h3.2.1, h3.2.2.1.trans h2.2.2.1, fun q => h3.2.2.2 (h2.2.2.2 q)⟩
    · exact ⟨h.1, h.2, rfl, fun h => h⟩
def lrN (T : Nat → Int32) (len : Nat) (b0 e0 : Int32) : Nat := szN T len (0, b0, 0, 0, e0)
def lrR (T : Nat → Int32) (len : Nat) (b0 e0 : Int32) (u : Nat → Int64) : (Nat → Int64) × RP := gL T len (lrN T len b0 e0) len (bgF u (lrN T len b0 e0)) (szS T len (0, b0, 0, 0, e0))
end
def anK (M : Mem) (x : Int32) : Nat → Mem
  | 0 => M
  | k + 1 => anM (anK M x k) k x
termination_by k => k
theorem anK_R {M : Mem} {n : Nat} {A : Nat → Nat → Int32} {x : Int32} (h : Rr M n A) : ∀ k, k ≤ 6 → Rr (anK M x k) n A
  | 0, _ => by rw [anK.eq_1]; exact h
  | k + 1, hk => by rw [anK.eq_2]; exact anM_R (anK_R h k (by omega)) (by omega)
def lrM (M : Mem) (T : Nat → Int32) (len : Nat) : Mem := psM (sL (thr M 0) 200 (lrR T len (mI M 198 10) (mI M 198 12) (mL M 200)).1) (lrR T len (mI M 198 10) (mI M 198 12) (mL M 200)).2
/-- read, whether there was an error or not -/
def lrD (M : Mem) (T : Nat → Int32) (len : Nat) (r : RP) : Mem := pI (pI (pI (lrM M T len) 198 8 0) 198 14 r.2.2.2.1) 198 15 (if r.2.2.2.1 = 0 then -1 else r.2.2.1)
def lrC (M : Mem) (T : Nat → Int32) (len : Nat) (r : RP) : Mem := pI (sL (lrD M T len r) 199 (cpF (mL M 199) 0 (lrR T len (mI M 198 10) (mI M 198 12) (mL M 200)).1 0 220)) 198 5 0
def ldE (M : Mem) (T : Nat → Int32) (len : Nat) (r : RP) : Mem := if r.2.2.2.1 = 0 then anK (lrC M T len r) (nI (lrN T len (mI M 198 10) (mI M 198 12))) 6 else lrD M T len r
def ldV (n : Nat) (r : RP) : Int32 := if r.2.2.2.1 = 0 then nI n else -100 - r.2.2.2.2
def ldA (M : Mem) (T : Nat → Int32) (len : Nat) : Nat → Nat → Int32 := fun s r => ((lrR T len (mI M 198 10) (mI M 198 12) (mL M 200)).1 (28 + 32 * s + r)).toInt32
theorem lrC_R {M : Mem} {T : Nat → Int32} {len : Nat} {r : RP} (hS : Shp M) : Rr (lrC M T len r) (lrN T len (mI M 198 10) (mI M 198 12)) (ldA M T len) := by
  obtain ⟨n1, n2, n3⟩ := szN_ok T len (0, mI M 198 10, 0, 0, mI M 198 12)
  have hz : (szS T len (0, mI M 198 10, 0, 0, mI M 198 12)).1 ≤ len := nmS_le (szS0_le (Nat.zero_le _))
  have h := gL_ok (T := T) (n := lrN T len (mI M 198 10) (mI M 198 12)) len (bgF (mL M 200) (lrN T len (mI M 198 10) (mI M 198 12))) _ hz
  have h0 : (lrR T len (mI M 198 10) (mI M 198 12) (mL M 200)).1 0 = lN (lrN T len (mI M 198 10) (mI M 198 12)) := h.2.2.1
  have hu : uOk (lrR T len (mI M 198 10) (mI M 198 12) (mL M 200)).1 := h.2.2.2 (bgF_ok _ _)
  have e : mL (lrC M T len r) 199 = cpF (mL M 199) 0 (lrR T len (mI M 198 10) (mI M 198 12) (mL M 200)).1 0 220 := sL_self (lrD M T len r) 199 _
  refine ⟨hS, ?_, n2, n3, fun s r hs hr => ?_⟩
  · rw [e]; unfold cpF; rw [if_pos (by omega)]; exact h0
  · have hr2 : r < 32 := Nat.lt_of_lt_of_le hr n3
    rw [e]; unfold cpF; rw [if_pos (by omega)]
    show (lrR T len (mI M 198 10) (mI M 198 12) (mL M 200)).1 (28 + 32 * s + r - 220 * 0 + 220 * 0) = _
    rw [show 28 + 32 * s + r - 220 * 0 + 220 * 0 = 28 + 32 * s + r by omega]
    exact hu _ (by omega) (by omega)
section
variable {l : Launch} {M : Mem} {s : RP} {len n : Nat} {T : Nat → Int32}
theorem ps_start : pI (pI (pI M 198 9 0) 198 11 0) 198 13 0 = psM M (0, mI M 198 10, 0, 0, mI M 198 12) := by
  refine mem_extI rfl rfl rfl rfl rfl rfl (fun i => ?_)
  by_cases i1 : i = 198
  · subst i1; funext j; simp only [psM, prF, sI, mI, pI, fun_set, if_true]
    by_cases j2 : j = 9
    · subst j2; rfl
    · by_cases j3 : j = 10
      · subst j3; rfl
      · by_cases j4 : j = 13
        · subst j4; rfl
        · by_cases j5 : j = 11
          · subst j5; rfl
          · by_cases j6 : j = 12
            · subst j6; rfl
            · simp [j2, j3, j4, j5, j6]
  · simp [psM, sI, mI, pI, fun_set, i1]
theorem n_load (hS : Shp M) (hT : txt M T len) (hl : mI M 198 8 = nI len) (hL : len ≤ 600) : EvR l jX7_load 8 220 0 0 [.ref 198] M (.inl (some (.int (ldV (lrN T len (mI M 198 10) (mI M 198 12)) (lrR T len (mI M 198 10) (mI M 198 12) (mL M 200)).2)))) (ldE M T len (lrR T len (mI M 198 10) (mI M 198 12) (mL M 200)).2) := by
  have hS1 : Shp (thr M 0) := hS
  have hT1 : txt (thr M 0) T len := fun i hi => by
    obtain ⟨j, j1, j2, j3⟩ := hT i hi
    exact ⟨j, j1, j2, by rw [← j3]; exact congrFun (pI_i (by decide)) i⟩
  have hl1 : mI (thr M 0) 198 8 = nI len := (pI_k (by decide)).trans hl
  have hb1 : mI (thr M 0) 198 10 = mI M 198 10 := pI_k (by decide)
  have he1 : mI (thr M 0) 198 12 = mI M 198 12 := pI_k (by decide)
  have e1 : pI (pI (pI (thr M 0) 198 9 0) 198 11 0) 198 13 0 = psM (thr M 0) (0, mI M 198 10, 0, 0, mI M 198 12) := by rw [ps_start, hb1, he1]
  have hz := r_sizePart (l := l) (s := (0, mI M 198 10, 0, 0, mI M 198 12)) hS1 hT1 hl1 hL (Nat.zero_le _)
  have hCR := lrC_R (T := T) (len := len) (r := (lrR T len (mI M 198 10) (mI M 198 12) (mL M 200)).2) hS
  obtain ⟨n1, n2, n3⟩ := szN_ok T len (0, mI M 198 10, 0, 0, mI M 198 12)
  have hzl : (szS T len (0, mI M 198 10, 0, 0, mI M 198 12)).1 ≤ len := nmS_le (szS0_le (Nat.zero_le _))
  have eL : lrM M T len = psM (sL (thr M 0) 200 (lrR T len (mI M 198 10) (mI M 198 12) (mL M 200)).1) (lrR T len (mI M 198 10) (mI M 198 12) (mL M 200)).2 := rfl
  have e199 : mL (thr M 0) 199 = mL M 199 := rfl
  unfold ldE
  unfold lrC lrD at hCR ⊢
  rw [eL] at hCR ⊢
  rw [show mL (thr M 0) 200 = mL M 200 from rfl] at hz
  rw [← e199] at hCR ⊢
  clear eL e199
  unfold lrR at hCR ⊢
  rw [show szN T len (0, mI M 198 10, 0, 0, mI M 198 12) = lrN T len (mI M 198 10) (mI M 198 12) from rfl] at hz n1 n2 n3
  generalize lrN T len (mI M 198 10) (mI M 198 12) = n at *
  generalize szS T len (0, mI M 198 10, 0, 0, mI M 198 12) = s1 at *
  obtain ⟨S, hs⟩ : ∃ S, S = gL T len n len (bgF (mL M 200) n) s1 := ⟨_, rfl⟩
  rw [← hs] at hCR ⊢
  have e0 : pI M 198 6 0 = thr M 0 := rfl
  have hu0 : bgF (mL M 200) n 0 = lN n := rfl
  have hfin : Go l jX7_load 8 220 0 0 (fun r' M9 => r' = .inl (some (.int (ldV n S.2))) ∧ M9 = ite (S.2.2.2.2.1 = 0) (anK (pI (sL (pI (pI (pI (psM (sL (thr M 0) 200 S.1) S.2) 198 8 0) 198 14 S.2.2.2.2.1) 198 15 (if S.2.2.2.2.1 = 0 then -1 else S.2.2.2.1)) 199 (cpF (mL (thr M 0) 199) 0 S.1 0 220)) 198 5 0) (nI n) 6) (pI (pI (pI (psM (sL (thr M 0) 200 S.1) S.2) 198 8 0) 198 14 S.2.2.2.2.1) 198 15 (if S.2.2.2.2.1 = 0 then -1 else S.2.2.2.1))) 38 [(0, .ref 198)] [] 0 0 (psM (sL (thr M 0) 200 S.1) S.2) := by
    have h11 : mI (psM (sL (thr M 0) 200 S.1) S.2) 198 11 = S.2.2.2.2.1 := ps_11
    have h12 : mI (psM (sL (thr M 0) 200 S.1) S.2) 198 12 = S.2.2.2.2.2 := ps_12
    have h13 : mI (psM (sL (thr M 0) 200 S.1) S.2) 198 13 = S.2.2.2.1 := ps_13
    have h199 : mL (psM (sL (thr M 0) 200 S.1) S.2) 199 = mL (thr M 0) 199 := rfl
    have h200 : mL (psM (sL (thr M 0) 200 S.1) S.2) 200 = S.1 := sL_self (thr M 0) 200 _
    have hS2 : Shp (psM (sL (thr M 0) 200 S.1) S.2) := hS
    generalize psM (sL (thr M 0) 200 S.1) S.2 = M1 at *
    unfold ldV
    have hk0 : mI (pI M1 198 8 0) 198 11 = S.2.2.2.2.1 := (pI_k (by decide)).trans h11
    have hk1 : mI (pI (pI M1 198 8 0) 198 14 S.2.2.2.2.1) 198 11 = S.2.2.2.2.1 := (pI_k (by decide)).trans hk0
    have hk3 : mI (pI (pI M1 198 8 0) 198 14 S.2.2.2.2.1) 198 13 = S.2.2.2.1 := (pI_k (by decide)).trans ((pI_k (by decide)).trans h13)
    have hS3 : Shp (pI M1 198 8 0) := hS2
    have hS4 : Shp (pI (pI M1 198 8 0) 198 14 S.2.2.2.2.1) := hS2
    have hS5 : ∀ v, Shp (pI (pI (pI M1 198 8 0) 198 14 S.2.2.2.2.1) 198 15 v) := fun v => hS2
    have hk5 : ∀ v, mI (pI (pI (pI M1 198 8 0) 198 14 S.2.2.2.2.1) 198 15 v) 198 11 = S.2.2.2.2.1 := fun v => (pI_k (by decide)).trans hk1
    have hk6 : ∀ v, mI (pI (pI (pI M1 198 8 0) 198 14 S.2.2.2.2.1) 198 15 v) 198 12 = S.2.2.2.2.2 := fun v => (pI_k (by decide)).trans ((pI_k (by decide)).trans ((pI_k (by decide)).trans h12))
    by_cases he : S.2.2.2.2.1 = 0
    · rw [if_pos he] at hCR
      rw [if_pos he, if_pos he, if_pos he]
      have q1 := r_copies (l := l) (M := pI (pI (pI M1 198 8 0) 198 14 S.2.2.2.2.1) 198 15 (-1)) (x := 200) (y := 199) (h := 0) (t := 0) (shK (hS5 _) rfl) (shK (hS5 _) rfl) (by decide) (by decide) (by decide) (by decide) (by decide)
      have a1 : mL (pI (pI (pI M1 198 8 0) 198 14 S.2.2.2.2.1) 198 15 (-1)) 200 = S.1 := h200
      have a2 : mL (pI (pI (pI M1 198 8 0) 198 14 S.2.2.2.2.1) 198 15 (-1)) 199 = mL (thr M 0) 199 := h199
      rw [a1, a2] at q1
      have hS6 : Shp (sL (pI (pI (pI M1 198 8 0) 198 14 S.2.2.2.2.1) 198 15 (-1)) 199 (cpF (mL (thr M 0) 199) 0 S.1 0 220)) := hS2
      have hS5a := hS5 (-1)
      have hk5a := hk5 (-1)
      clear hS5 hk5 hk6
      have hCR : Rr (pI (sL (pI (pI (pI M1 198 8 0) 198 14 S.2.2.2.2.1) 198 15 (-1)) 199 (cpF (mL (thr M 0) 199) 0 S.1 0 220)) 198 5 0) n (ldA M T len) := hCR
      generalize hM6 : pI (sL (pI (pI (pI M1 198 8 0) 198 14 S.2.2.2.2.1) 198 15 (-1)) 199 (cpF (mL (thr M 0) 199) 0 S.1 0 220)) 198 5 0 = M6 at *
      generalize sL (pI (pI (pI M1 198 8 0) 198 14 S.2.2.2.2.1) 198 15 (-1)) 199 (cpF (mL (thr M 0) 199) 0 S.1 0 220) = M5 at *
      generalize hM4 : pI (pI (pI M1 198 8 0) 198 14 S.2.2.2.2.1) 198 15 (-1) = M4 at *
      generalize hM3 : pI (pI M1 198 8 0) 198 14 S.2.2.2.2.1 = M3 at *
      generalize hM2 : pI M1 198 8 0 = M2 at *
      refine g_aload_n (pc := 38) dX7_load_38 rfl trivial ?_
      refine g_iconst (pc := 39) (v := 0) dX7_load_39 rfl ?_
      refine g_putI (pc := 40) dX7_load_40 fp_X7_81 (shK hS2 rfl) ⟨rfl, rfl⟩ (fun _ _ _ _ => rfl) ?_
      refine go_cast hM2 ?_
      refine g_aload_n (pc := 43) dX7_load_43 rfl trivial ?_
      refine g_aload_n (pc := 44) dX7_load_44 rfl trivial ?_
      refine g_getf (pc := 45) (v := .int _) dX7_load_45 fk_X7_93 (shK hS3 rfl) (fun _ => congrArg Value.int (hk0)) ?_
      refine g_putI (pc := 48) dX7_load_48 fp_X7_195 (shK hS3 rfl) ⟨rfl, rfl⟩ (fun _ _ _ _ => rfl) ?_
      refine go_cast hM3 ?_
      refine g_aload_n (pc := 51) dX7_load_51 rfl trivial ?_
      refine g_aload_n (pc := 52) dX7_load_52 rfl trivial ?_
      refine g_getf (pc := 53) (v := .int _) dX7_load_53 fk_X7_93 (shK hS4 rfl) (fun _ => congrArg Value.int (hk1)) ?_
      refine g_if_ne (pc := 56) (tgt := 63) dX7_load_56 rfl (fun h56 => absurd h56 ((fun z => z he))) (fun _ => ?_)
      refine g_iconst (pc := 59) (v := (-1)) dX7_load_59 rfl ?_
      refine g_goto (pc := 60) (tgt := 67) dX7_load_60 rfl ?_
      refine g_putI (pc := 67) dX7_load_67 fp_X7_30 (shK hS4 rfl) ⟨rfl, rfl⟩ (fun _ _ _ _ => rfl) ?_
      refine go_cast hM4 ?_
      refine g_aload_n (pc := 70) dX7_load_70 rfl trivial ?_
      refine g_getf (pc := 71) (v := .int _) dX7_load_71 fk_X7_93 (shK hS5a rfl) (fun _ => congrArg Value.int (hk5a)) ?_
      refine g_if_eq (pc := 74) (tgt := 85) dX7_load_74 rfl (fun _ => ?_) (fun h74 => absurd (he) h74)
      refine g_aload_n (pc := 85) dX7_load_85 rfl trivial ?_
      refine g_getf (pc := 86) dX7_load_86 fk_X7_13 (shK hS5a rfl) (fv_arr (shR hS5a rfl)) ?_
      refine g_iconst (pc := 89) (v := 0) dX7_load_89 rfl ?_
      refine g_aload_n (pc := 90) dX7_load_90 rfl trivial ?_
      refine g_getf (pc := 91) dX7_load_91 fk_X7_9 (shK hS5a rfl) (fv_arr (shR hS5a rfl)) ?_
      refine g_iconst (pc := 94) (v := 0) dX7_load_94 rfl ?_
      refine g_invS_r (pc := 95) (As := [_, _, _, _]) dX7_load_95 rfl (q1) rfl rfl lk_X7_198 rfl (nb rfl) ⟨nb rfl, nb rfl⟩ rfl ?_
      refine g_aload_n (pc := 98) dX7_load_98 rfl trivial ?_
      refine g_iconst (pc := 99) (v := 0) dX7_load_99 rfl ?_
      refine g_putI (pc := 100) dX7_load_100 fp_X7_201 (shK hS6 rfl) ⟨rfl, rfl⟩ (fun _ _ _ _ => rfl) ?_
      refine go_cast hM6 ?_
      refine g_iconst (pc := 103) (v := 0) dX7_load_103 rfl ?_
      refine g_istore_n (pc := 104) (lv' := [(0, _), (1, _)]) dX7_load_104 (nl rfl) rfl ?_
      refine go_loop (pc := 105) 6 (fun i => [(0, .ref 198), (1, .int (nI i))]) (fun i => anK M6 (nI n) i) ⟨rfl, rfl, trivial⟩ (by rw [anK.eq_1]) ?_ ?_
      · intro i hi ih
        have h3 := anK_R (x := nI n) hCR i (by omega)
        rw [anK.eq_2 M6 (nI n) i] at ih
        generalize anK M6 (nI n) 6 = M9 at *
        generalize anK M6 (nI n) i = M7 at *
        refine g_iload_n (pc := 105) dX7_load_105 rfl ?_
        refine g_bipush (pc := 106) (v := 6) dX7_load_106 rfl ?_
        refine g_icmp_ge (pc := 108) (tgt := 122) dX7_load_108 rfl (fun h108 => absurd h108 (nI_ge (b := 6) hi (by omega))) (fun _ => ?_)
        refine g_aload_n (pc := 111) dX7_load_111 rfl trivial ?_
        refine g_iload_n (pc := 112) dX7_load_112 rfl ?_
        refine g_invV_r (pc := 113) (As := [_]) dX7_load_113 rfl (r_madeAnew h3 hi) rfl rfl (shK h3.1 rfl) rfl rfl lk_X7_204 rfl (nb rfl) ⟨nb rfl, nb rfl⟩ rfl ?_
        refine g_iinc (pc := 116) (lv' := [(0, _), (1, _)]) dX7_load_116 rfl (nI_1 _) (nl rfl) rfl ?_
        refine g_goto (pc := 119) (tgt := 105) dX7_load_119 rfl ?_
        exact ih
      · have h3 := anK_R (x := nI n) hCR 6 (by omega)
        generalize anK M6 (nI n) 6 = M9 at *
        refine g_iload_n (pc := 105) dX7_load_105 rfl ?_
        refine g_bipush (pc := 106) (v := 6) dX7_load_106 rfl ?_
        refine g_icmp_ge (pc := 108) (tgt := 122) dX7_load_108 rfl (fun _ => ?_) (fun h108 => absurd (nI_le (Nat.le_refl 6) (by omega)) h108)
        refine g_aload_n (pc := 122) dX7_load_122 rfl trivial ?_
        refine g_invV_r (pc := 123) (As := []) dX7_load_123 rfl (r_size h3) rfl rfl (shK h3.1 rfl) rfl rfl lk_X7_71 rfl (nb rfl) ⟨nb rfl, nb rfl⟩ rfl ?_
        refine g_ireturn (pc := 126) dX7_load_126 rfl rfl ?_
        exact ⟨rfl, rfl⟩
    · rw [if_neg he, if_neg he, if_neg he]
      have hS5a := hS5 S.2.2.2.1
      have hk5a := hk5 S.2.2.2.1
      have hk6a := hk6 S.2.2.2.1
      clear hS5 hk5 hk6
      generalize hM4 : pI (pI (pI M1 198 8 0) 198 14 S.2.2.2.2.1) 198 15 S.2.2.2.1 = M4 at *
      generalize hM3 : pI (pI M1 198 8 0) 198 14 S.2.2.2.2.1 = M3 at *
      generalize hM2 : pI M1 198 8 0 = M2 at *
      refine g_aload_n (pc := 38) dX7_load_38 rfl trivial ?_
      refine g_iconst (pc := 39) (v := 0) dX7_load_39 rfl ?_
      refine g_putI (pc := 40) dX7_load_40 fp_X7_81 (shK hS2 rfl) ⟨rfl, rfl⟩ (fun _ _ _ _ => rfl) ?_
      refine go_cast hM2 ?_
      refine g_aload_n (pc := 43) dX7_load_43 rfl trivial ?_
      refine g_aload_n (pc := 44) dX7_load_44 rfl trivial ?_
      refine g_getf (pc := 45) (v := .int _) dX7_load_45 fk_X7_93 (shK hS3 rfl) (fun _ => congrArg Value.int (hk0)) ?_
      refine g_putI (pc := 48) dX7_load_48 fp_X7_195 (shK hS3 rfl) ⟨rfl, rfl⟩ (fun _ _ _ _ => rfl) ?_
      refine go_cast hM3 ?_
      refine g_aload_n (pc := 51) dX7_load_51 rfl trivial ?_
      refine g_aload_n (pc := 52) dX7_load_52 rfl trivial ?_
      refine g_getf (pc := 53) (v := .int _) dX7_load_53 fk_X7_93 (shK hS4 rfl) (fun _ => congrArg Value.int (hk1)) ?_
      refine g_if_ne (pc := 56) (tgt := 63) dX7_load_56 rfl (fun _ => ?_) (fun h56 => absurd (he) h56)
      refine g_aload_n (pc := 63) dX7_load_63 rfl trivial ?_
      refine g_getf (pc := 64) (v := .int _) dX7_load_64 fk_X7_183 (shK hS4 rfl) (fun _ => congrArg Value.int (hk3)) ?_
      refine g_putI (pc := 67) dX7_load_67 fp_X7_30 (shK hS4 rfl) ⟨rfl, rfl⟩ (fun _ _ _ _ => rfl) ?_
      refine go_cast hM4 ?_
      refine g_aload_n (pc := 70) dX7_load_70 rfl trivial ?_
      refine g_getf (pc := 71) (v := .int _) dX7_load_71 fk_X7_93 (shK hS5a rfl) (fun _ => congrArg Value.int (hk5a)) ?_
      refine g_if_eq (pc := 74) (tgt := 85) dX7_load_74 rfl (fun h74 => absurd h74 (he)) (fun _ => ?_)
      refine g_bipush (pc := 77) (v := (-100)) dX7_load_77 rfl ?_
      refine g_aload_n (pc := 79) dX7_load_79 rfl trivial ?_
      refine g_getf (pc := 80) (v := .int _) dX7_load_80 fk_X7_96 (shK hS5a rfl) (fun _ => congrArg Value.int (hk6a)) ?_
      refine g_isub (pc := 83) dX7_load_83 ?_
      refine g_ireturn (pc := 84) dX7_load_84 rfl rfl ?_
      exact ⟨rfl, rfl⟩
  refine ev_intro rfl (nb rfl) rfl ?_
  have hSa : Shp (pI (thr M 0) 198 9 0) := hS
  have hSb : Shp (pI (pI (thr M 0) 198 9 0) 198 11 0) := hS
  refine g_aload_n (pc := 0) dX7_load_0 rfl trivial ?_
  refine g_iconst (pc := 1) (v := 0) dX7_load_1 rfl ?_
  refine g_putI (pc := 2) dX7_load_2 fp_X7_60 (shK hS rfl) ⟨rfl, rfl⟩ (fun _ _ _ _ => rfl) ?_
  refine go_cast e0 ?_
  refine g_aload_n (pc := 5) dX7_load_5 rfl trivial ?_
  refine g_iconst (pc := 6) (v := 0) dX7_load_6 rfl ?_
  refine g_putI (pc := 7) dX7_load_7 fp_X7_84 (shK hS1 rfl) ⟨rfl, rfl⟩ (fun _ _ _ _ => rfl) ?_
  refine g_aload_n (pc := 10) dX7_load_10 rfl trivial ?_
  refine g_iconst (pc := 11) (v := 0) dX7_load_11 rfl ?_
  refine g_putI (pc := 12) dX7_load_12 fp_X7_93 (shK hSa rfl) ⟨rfl, rfl⟩ (fun _ _ _ _ => rfl) ?_
  refine g_aload_n (pc := 15) dX7_load_15 rfl trivial ?_
  refine g_iconst (pc := 16) (v := 0) dX7_load_16 rfl ?_
  refine g_putI (pc := 17) dX7_load_17 fp_X7_183 (shK hSb rfl) ⟨rfl, rfl⟩ (fun _ _ _ _ => rfl) ?_
  refine go_cast e1 ?_
  skip
  have hS0 : Shp (psM (thr M 0) (0, mI M 198 10, 0, 0, mI M 198 12)) := hS
  refine g_aload_n (pc := 20) dX7_load_20 rfl trivial ?_
  refine g_invV_r (pc := 21) (As := []) dX7_load_21 rfl (hz) rfl rfl (shK hS0 rfl) rfl rfl lk_X7_186 rfl (nb rfl) ⟨nb rfl, nb rfl⟩ rfl ?_
  refine go_while (pc := 24) (σ := Nat × (Nat → Int64) × RP) (fun q => q.1 ≤ q.2.2.1 ∧ q.2.2.1 ≤ len ∧ q.2.1 0 = lN n ∧ gL T len n (len - q.1) q.2.1 q.2.2 = S) (fun q => len - q.1) (fun q => [(0, .ref 198)]) (fun q => psM (sL (thr M 0) 200 q.2.1) q.2.2) (0, bgF (mL M 200) n, s1) ⟨rfl, trivial⟩ rfl ⟨Nat.zero_le _, hzl, hu0, hs.symm⟩ ?_
  rintro ⟨i, u, s2⟩ ⟨h1, hp2, hu2, hq2⟩ ih
  simp only at h1 hp2 hu2 hq2 ih
  have hSu : ∀ t, Shp (psM (sL (thr M 0) 200 u) t) := fun t => hS
  have hTu : txt (sL (thr M 0) 200 u) T len := hT1
  have hlu : mI (sL (thr M 0) 200 u) 198 8 = nI len := hl1
  have hzu : mL (sL (thr M 0) 200 u) 200 0 = lN n := by rw [sL_self]; exact hu2
  have q1 := r_isMore (l := l) (M := sL (thr M 0) 200 u) (s := s2) hS hTu hlu hL hp2
  have hm := mvS_le (T := T) hp2
  by_cases hb : mvB T len s2 = true
  · have hlt := mvB_lt hp2 hb
    rw [show len - i = (len - (i + 1)) + 1 by omega, gL.eq_2, if_pos hb] at hq2
    rw [hb] at q1
    have q2 := r_statement (l := l) (M := sL (thr M 0) 200 u) (s := mvS T len s2) hS hTu hlu hL hm.2 hzu n2 n3
    have hok := gS_ok (T := T) (n := n) (u := u) hm.2
    rw [show mL (sL (thr M 0) 200 u) 200 = u from sL_self _ _ _, sL_2] at q2
    have ih2 := ih (i + 1, (gS T len n u (mvS T len s2)).1, (gS T len n u (mvS T len s2)).2) ⟨by have := hok.1; simp only; omega, hok.2.1, hok.2.2.1.trans hu2, hq2⟩ (by simp only; omega)
    generalize gS T len n u (mvS T len s2) = r at *
    simp only at ih2
    have hS3 := hSu (mvS T len s2)
    have hS2 := hSu s2
    generalize psM (sL (thr M 0) 200 r.1) r.2 = M3 at *
    generalize psM (sL (thr M 0) 200 u) (mvS T len s2) = M2 at *
    generalize psM (sL (thr M 0) 200 u) s2 = M1 at *
    refine g_aload_n (pc := 24) dX7_load_24 rfl trivial ?_
    refine g_invV_r (pc := 25) (As := []) dX7_load_25 rfl (q1) rfl rfl (shK hS2 rfl) rfl rfl lk_X7_189 rfl (nb rfl) ⟨nb rfl, nb rfl⟩ rfl ?_
    refine g_if_eq (pc := 28) (tgt := 38) dX7_load_28 rfl (fun h28 => absurd h28 ((by decide))) (fun _ => ?_)
    refine g_aload_n (pc := 31) dX7_load_31 rfl trivial ?_
    refine g_invV_r (pc := 32) (As := []) dX7_load_32 rfl (q2) rfl rfl (shK hS3 rfl) rfl rfl lk_X7_193 rfl (nb rfl) ⟨nb rfl, nb rfl⟩ rfl ?_
    refine g_goto (pc := 35) (tgt := 24) dX7_load_35 rfl ?_
    exact ih2
  · have e9 : S = (u, mvS T len s2) := by
      rw [← hq2]
      cases len - i with
      | zero => rw [gL.eq_1]
      | succ d => rw [gL.eq_2, if_neg hb]
    rw [Bool.eq_false_iff.mpr hb] at q1
    have hS2 := hSu s2
    rw [e9] at hfin
    simp only at hfin
    rw [e9]
    refine g_aload_n (pc := 24) dX7_load_24 rfl trivial ?_
    refine g_invV_r (pc := 25) (As := []) dX7_load_25 rfl (q1) rfl rfl (shK hS2 rfl) rfl rfl lk_X7_189 rfl (nb rfl) ⟨nb rfl, nb rfl⟩ rfl ?_
    refine g_if_eq (pc := 28) (tgt := 38) dX7_load_28 rfl (fun _ => ?_) (fun h28 => absurd (rfl) h28)
    exact hfin
end
end
-- 32.init
section
/-! what the constructors make: states, multiplier -/
def cR (M : Mem) (m a : Nat) (k : Knd) : Mem := pR (nK M k) m a (mK M).length
def nO (f : Mem → Nat → Mem) (c m a : Nat) (M : Mem) : Mem := pR (f (nK M (.inr c)) (mK M).length) m a (mK M).length
def X2M (M : Mem) (m : Nat) : Mem := cR M m 0 (kI 32)
def X0M (M : Mem) (m : Nat) : Mem := cR M m 0 (kI 32)
def X4M (M : Mem) (m : Nat) : Mem := cR M m 0 (kI 600)
def X1M (M : Mem) (m : Nat) : Mem := cR (cR (cR M m 0 (kI 32)) m 1 (kI 32)) m 2 (kI 32)
def X3M (M : Mem) (m : Nat) : Mem := cR (cR (cR M m 0 (kI 256)) m 1 (kI 32)) m 2 (kI 32)
def nOs (f : Mem → Nat → Mem) (c a : Nat) (M : Mem) : Nat → Mem
  | 0 => M
  | i + 1 => nO f c a i (nOs f c a M i)
termination_by i => i
def X5M (M : Mem) (m : Nat) : Mem := pI (pI (nOs X2M 2 (mK M).length (cR M m 0 (.inl (.object kMx, 6))) 6) m 1 8) m 2 4
/-- M' is M and more, but for the references of m -/
def Ext (m : Nat) (M M' : Mem) : Prop := (mX M = true → mX M' = true) ∧ (∀ (i : Nat) (x : Knd), (mK M)[i]? = some x → (mK M')[i]? = some x) ∧ (∀ (i : Nat) (x : Knd), (mK M)[i]? = some x → i ≠ m → mR M' i = mR M i)
section
variable {l : Launch} {M M1 M2 P : Mem} {m a b : Nat} {k x : Knd}
theorem lenI {i : Nat} {x : Knd} (h : (mK M)[i]? = some x) : i < (mK M).length := by
  rcases Nat.lt_or_ge i (mK M).length with q | q
  · exact q
  · rw [List.getElem?_eq_none q] at h; cases h
theorem nK_new {k : Knd} : (mK (nK M k))[(mK M).length]? = some k := by
  show (mK M ++ [k])[(mK M).length]? = _
  rw [List.getElem?_append_right (Nat.le_refl _), Nat.sub_self]; rfl
theorem nK_R {i : Nat} {x k : Knd} (h : (mK M)[i]? = some x) : mR (nK M k) i = mR M i := by
  have := lenI h
  show fun_set (mR M) (mK M).length (fun _ => none) i = _
  unfold fun_set
  rw [if_neg (by omega)]
theorem Ext.rf (m : Nat) (M : Mem) : Ext m M M := ⟨fun h => h, fun _ _ h => h, fun _ _ _ _ => rfl⟩
theorem Ext.tr (h1 : Ext m M M1) (h2 : Ext m M1 M2) : Ext m M M2 := ⟨fun h => h2.1 (h1.1 h), fun i x h => h2.2.1 i x (h1.2.1 i x h), fun i x h hi => (h2.2.2 i x (h1.2.1 i x h) hi).trans (h1.2.2 i x h hi)⟩
theorem ex_nK (m : Nat) (M : Mem) (k : Knd) : Ext m M (nK M k) := ⟨fun h => h, fun _ _ h => nK_k h, fun _ _ h _ => nK_R h⟩
theorem ex_pR (M : Mem) (m a r : Nat) : Ext m M (pR M m a r) := ⟨fun h => h, fun _ _ h => h, fun i x h hi => by
  show fun_set (mR M) m _ i = _
  unfold fun_set; rw [if_neg hi]⟩
theorem ex_cR (M : Mem) (m a : Nat) (k : Knd) : Ext m M (cR M m a k) := (ex_nK m M k).tr (ex_pR _ m a _)
theorem ex_pI (m : Nat) (M : Mem) (i j : Nat) (v : Int32) : Ext m M (pI M i j v) := ⟨fun h => h, fun _ _ h => h, fun _ _ _ _ => rfl⟩
/-- what was made apart from M -/
theorem Ext.out (h : Ext (mK M).length (nK M k) M1) : Ext m M M1 := ⟨fun q => h.1 q, fun i x q => h.2.1 i x (nK_k q), fun i x q _ => (h.2.2 i x (nK_k q) (Nat.ne_of_lt (lenI q))).trans (nK_R q)⟩
theorem ex_nO {f : Mem → Nat → Mem} {c : Nat} (hf : ∀ (M : Mem) (m : Nat) (x : Knd), (mK M)[m]? = some x → Ext m M (f M m)) (M : Mem) (m a : Nat) : Ext m M (nO f c m a M) := (Ext.out (hf _ _ _ nK_new)).tr (ex_pR _ m a _)
theorem ex_nOs {f : Mem → Nat → Mem} {c : Nat} (hf : ∀ (M : Mem) (m : Nat) (x : Knd), (mK M)[m]? = some x → Ext m M (f M m)) (M : Mem) (a : Nat) : ∀ i, Ext a M (nOs f c a M i)
  | 0 => by rw [nOs.eq_1]; exact Ext.rf _ _
  | i + 1 => by rw [nOs.eq_2]; exact (ex_nOs hf M a i).tr (ex_nO hf _ _ _)
theorem cR_new {k : Knd} : (mK (cR M m a k))[(mK M).length]? = some k := nK_new
theorem cR_f {k : Knd} : mR (cR M m a k) m a = some (mK M).length := by
  show fun_set (mR (nK M k)) m (fun_set (mR (nK M k) m) a (some (mK M).length)) m a = _
  simp [fun_set]
theorem pR_f {r : Nat} : mR (pR M m a r) m a = some r := by
  show fun_set (mR M) m (fun_set (mR M m) a (some r)) m a = _
  simp [fun_set]
theorem pR_o {r b : Nat} (h : b ≠ a) : mR (pR M m a r) m b = mR M m b := by
  show fun_set (mR M) m (fun_set (mR M m) a (some r)) m b = _
  simp [fun_set, h]
theorem X2_e (M : Mem) (m : Nat) (x : Knd) (_ : (mK M)[m]? = some x) : Ext m M (X2M M m) := ex_cR _ _ _ _
theorem X0_e (M : Mem) (m : Nat) (x : Knd) (_ : (mK M)[m]? = some x) : Ext m M (X0M M m) := ex_cR _ _ _ _
theorem X4_e (M : Mem) (m : Nat) (x : Knd) (_ : (mK M)[m]? = some x) : Ext m M (X4M M m) := ex_cR _ _ _ _
theorem X1_e (M : Mem) (m : Nat) (x : Knd) (_ : (mK M)[m]? = some x) : Ext m M (X1M M m) := ((ex_cR _ _ _ _).tr (ex_cR _ _ _ _)).tr (ex_cR _ _ _ _)
theorem X3_e (M : Mem) (m : Nat) (x : Knd) (_ : (mK M)[m]? = some x) : Ext m M (X3M M m) := ((ex_cR _ _ _ _).tr (ex_cR _ _ _ _)).tr (ex_cR _ _ _ _)
theorem Ext.lo (h : Ext (mK M).length (cR M m b k) M1) (hm : (mK M)[m]? = some x) : Ext m M M1 := ⟨fun q => h.1 q, fun i y q => h.2.1 i y (nK_k q), fun i y q hi => (h.2.2 i y (nK_k q) (Nat.ne_of_lt (lenI q))).trans ((ex_cR M m b k).2.2 i y q hi)⟩
theorem X5_e (M : Mem) (m : Nat) (x : Knd) (hm : (mK M)[m]? = some x) : Ext m M (X5M M m) := (Ext.lo (ex_nOs X2_e _ _ 6) hm).tr ((ex_pI m _ _ _ _).tr (ex_pI m _ _ _ _))
theorem j_X2 (hx : mX M = true) (hk : (mK M)[m]? = some (.inr 2)) : EvR l jX2_init 1 30 1 32 [.ref m] M (.inl none) (X2M M m) := i_X2 hx hk rfl
theorem j_X0 (hx : mX M = true) (hk : (mK M)[m]? = some (.inr 0)) : EvR l jX0_init 1 30 1 32 [.ref m] M (.inl none) (X0M M m) := i_X0 hx hk rfl
theorem j_X4 (hx : mX M = true) (hk : (mK M)[m]? = some (.inr 4)) : EvR l jX4_init 1 30 1 600 [.ref m] M (.inl none) (X4M M m) := i_X4 hx hk rfl
theorem j_X1 (hx : mX M = true) (hk : (mK M)[m]? = some (.inr 1)) : EvR l jX1_init 1 30 3 96 [.ref m] M (.inl none) (X1M M m) := by
  have h := i_X1 (l := l) hx hk rfl
  have e1 : (mK M).length + 1 = (mK (cR M m 0 (kI 32))).length := (nK_n rfl).symm
  have e2 : (mK M).length + 2 = (mK (cR (cR M m 0 (kI 32)) m 1 (kI 32))).length := (nK_n (M := cR M m 0 (kI 32)) (nK_n rfl)).symm
  rw [e1, e2] at h
  exact h
theorem j_X3 (hx : mX M = true) (hk : (mK M)[m]? = some (.inr 3)) : EvR l jX3_init 1 30 3 320 [.ref m] M (.inl none) (X3M M m) := by
  have a1 := ex_cR M m 0 (kI 256)
  have a2 := a1.tr (ex_cR _ m 1 (kI 32))
  have a3 := a2.tr (ex_cR _ m 2 (kI 32))
  refine ev_intro rfl (nb rfl) rfl ?_
  refine g_aload_n (pc := 0) dX3_init_0 rfl trivial ?_
  refine g_objInit (pc := 1) dX3_init_1 wd_240 wd_121 wd_122 (nb rfl) (nb rfl) ?_
  refine g_aload_n (pc := 4) dX3_init_4 rfl trivial ?_
  refine g_sipush (pc := 5) (v := 256) dX3_init_5 rfl ?_
  refine g_newarray_int (pc := 8) (len := 256) (n := 64) (k := 2) dX3_init_8 wd_154 rfl (by decide) hx ?_
  refine g_putR (pc := 10) dX3_init_10 fp_X3_9 (fun _ => ⟨rfl, _, rfl, rfl⟩) (nK_k hk) (fun _ => ⟨rfl, rfl⟩) (fun _ _ _ _ => rfl) ?_
  refine go_cast (show _ = cR M m 0 (kI 256) from rfl) ?_
  refine g_aload_n (pc := 13) dX3_init_13 rfl trivial ?_
  refine g_bipush (pc := 14) (v := 32) dX3_init_14 rfl ?_
  refine g_newarray_int (pc := 16) (len := 32) (n := 32) (k := 1) dX3_init_16 wd_154 rfl (by decide) (a1.1 hx) ?_
  refine g_putR (pc := 18) dX3_init_18 fp_X3_15 (fun _ => ⟨rfl, _, rfl, rfl⟩) (nK_k (a1.2.1 _ _ hk)) (fun _ => ⟨rfl, rfl⟩) (fun _ _ _ _ => rfl) ?_
  refine go_cast (show _ = cR (cR M m 0 (kI 256)) m 1 (kI 32) from rfl) ?_
  refine g_aload_n (pc := 21) dX3_init_21 rfl trivial ?_
  refine g_bipush (pc := 22) (v := 32) dX3_init_22 rfl ?_
  refine g_newarray_int (pc := 24) (len := 32) (n := 0) (k := 0) dX3_init_24 wd_154 rfl (by decide) (a2.1 hx) ?_
  refine g_putR (pc := 26) dX3_init_26 fp_X3_18 (fun _ => ⟨rfl, _, rfl, rfl⟩) (nK_k (a2.2.1 _ _ hk)) (fun _ => ⟨rfl, rfl⟩) (fun _ _ _ _ => rfl) ?_
  refine g_return (pc := 29) dX3_init_29 rfl ?_
  exact ⟨rfl, rfl⟩
theorem j_X5 (hx : mX M = true) (hk : (mK M)[m]? = some (.inr 5)) : EvR l jX5_init 2 60 13 228 [.ref m] M (.inl none) (X5M M m) := by
  have hma : m ≠ (mK M).length := Nat.ne_of_lt (lenI hk)
  have a1 := ex_cR M m 0 (.inl (.object kMx, 6))
  have hk1 := a1.2.1 _ _ hk
  have hx1 := a1.1 hx
  have hA1 : (mK (cR M m 0 (.inl (.object kMx, 6))))[(mK M).length]? = some (.inl (.object kMx, 6)) := cR_new
  have hR1 : mR (cR M m 0 (.inl (.object kMx, 6))) m 0 = some (mK M).length := cR_f
  obtain ⟨P0, hP0⟩ : ∃ P, P = cR M m 0 (.inl (.object kMx, 6)) := ⟨_, rfl⟩
  obtain ⟨a, ha⟩ : ∃ a, a = (mK M).length := ⟨_, rfl⟩
  unfold X5M
  rw [← hP0, ← ha]
  rw [← hP0] at hk1 hx1
  rw [← hP0, ← ha] at hA1 hR1
  rw [← ha] at hma
  clear a1
  have hE := ex_nOs (c := 2) X2_e P0 a
  refine ev_intro rfl (nb rfl) rfl ?_
  have body : ∀ (i k n : Nat), i < 6 → Go l jX5_init 2 60 13 228 (fun r' M9 => r' = .inl none ∧ M9 = pI (pI (nOs X2M 2 a P0 6) m 1 8) m 2 4) 15 [(0, .ref m), (1, .int (nI (i + 1)))] [] k n (nOs X2M 2 a P0 (i + 1)) → Go l jX5_init 2 60 13 228 (fun r' M9 => r' = .inl none ∧ M9 = pI (pI (nOs X2M 2 a P0 6) m 1 8) m 2 4) 15 [(0, .ref m), (1, .int (nI i))] [] (k + 2) (n + 32 + 5) (nOs X2M 2 a P0 i) := by
    intro i k n hi ih
    have h1 := (hE i).1 hx1
    have h2 := (hE i).2.1 _ _ hk1
    have h3 := (hE i).2.1 _ _ hA1
    have h4 : mR (nOs X2M 2 a P0 i) m 0 = some a := by rw [(hE i).2.2 _ _ hk1 hma]; exact hR1
    generalize pI (pI (nOs X2M 2 a P0 6) m 1 8) m 2 4 = M9 at *
    rw [nOs.eq_2] at ih
    generalize nOs X2M 2 a P0 i = P at *
    have g1 := (X2_e (nK P (.inr 2)) (mK P).length _ nK_new).2.1
    refine g_iload_n (pc := 15) dX5_init_15 rfl ?_
    refine g_bipush (pc := 16) (v := 6) dX5_init_16 rfl ?_
    refine g_icmp_ge (pc := 18) (tgt := 40) dX5_init_18 rfl (fun h18 => absurd h18 (nI_ge (b := 6) hi (by omega))) (fun _ => ?_)
    refine g_aload_n (pc := 21) dX5_init_21 rfl trivial ?_
    refine g_getf (pc := 22) dX5_init_22 fk_X5_11 h2 (fv_arr h4) ?_
    refine g_iload_n (pc := 25) dX5_init_25 rfl ?_
    refine g_new (pc := 26) (ci := 2) (ty0 := tyX2) dX5_init_26 rfl wd_161 wd_163 wd_98 inW2 tyX2_ok (new_df2 _) rfl h1 ?_
    refine g_dup (pc := 29) dX5_init_29 rfl ?_
    refine g_invI_r (pc := 30) (As := []) dX5_init_30 rfl ((j_X2 h1 nK_new)) rfl rfl nK_new rfl rfl lk_X5_17 rfl (nb rfl) ⟨nb rfl, nb rfl⟩ rfl ?_
    refine g_aastore_Matrix (pc := 33) dX5_init_33 (g1 _ _ (nK_k h3)) rfl hi (by decide) (g1 _ _ nK_new) rfl rfl ?_
    refine go_cast (show _ = nO X2M 2 a i P from rfl) ?_
    refine g_iinc (pc := 34) (lv' := [(0, _), (1, _)]) dX5_init_34 rfl (nI_1 _) (nl rfl) rfl ?_
    refine g_goto (pc := 37) (tgt := 15) dX5_init_37 rfl ?_
    exact ih
  refine g_aload_n (pc := 0) dX5_init_0 rfl trivial ?_
  refine g_objInit (pc := 1) dX5_init_1 wd_160 wd_121 wd_122 (nb rfl) (nb rfl) ?_
  refine g_aload_n (pc := 4) dX5_init_4 rfl trivial ?_
  refine g_bipush (pc := 5) (v := 6) dX5_init_5 rfl ?_
  refine g_anewarray_Matrix (pc := 7) (len := 6) (n := 222) (k := 12) dX5_init_7 wd_161 rfl (by decide) hx ?_
  refine g_putR (pc := 10) dX5_init_10 fp_X5_11 (fun _ => ⟨rfl, _, rfl, rfl⟩) (nK_k hk) (fun _ => ⟨rfl, rfl⟩) (fun _ _ _ _ => rfl) ?_
  refine go_cast hP0.symm ?_
  refine g_iconst (pc := 13) (v := 0) dX5_init_13 rfl ?_
  refine g_istore_n (pc := 14) (lv' := [(0, _), (1, _)]) dX5_init_14 (nl rfl) rfl ?_
  refine go_cast (show P0 = nOs X2M 2 a P0 0 from (nOs.eq_1 _ _ _ _).symm) ?_
  refine body 0 10 185 (by decide) (body 1 8 148 (by decide) (body 2 6 111 (by decide) (body 3 4 74 (by decide) (body 4 2 37 (by decide) (body 5 0 0 (by decide) ?_)))))
  have h2 := (hE 6).2.1 _ _ hk1
  generalize nOs X2M 2 a P0 6 = P at *
  refine g_iload_n (pc := 15) dX5_init_15 rfl ?_
  refine g_bipush (pc := 16) (v := 6) dX5_init_16 rfl ?_
  refine g_icmp_ge (pc := 18) (tgt := 40) dX5_init_18 rfl (fun _ => ?_) (fun h18 => absurd (nI_le (Nat.le_refl 6) (by omega)) h18)
  refine g_aload_n (pc := 40) dX5_init_40 rfl trivial ?_
  refine g_bipush (pc := 41) (v := 8) dX5_init_41 rfl ?_
  refine g_putI (pc := 43) dX5_init_43 fp_X5_18 h2 ⟨rfl, rfl⟩ (fun _ _ _ _ => rfl) ?_
  refine g_aload_n (pc := 46) dX5_init_46 rfl trivial ?_
  refine g_iconst (pc := 47) (v := 4) dX5_init_47 rfl ?_
  refine g_putI (pc := 48) dX5_init_48 fp_X5_22 h2 ⟨rfl, rfl⟩ (fun _ _ _ _ => rfl) ?_
  refine g_return (pc := 51) dX5_init_51 rfl ?_
  exact ⟨rfl, rfl⟩
end
end
-- 321.init
section
/-! what the constructors make: the class's object -/
def Q4M (M : Mem) (m : Nat) : Mem := cR (nO X5M 5 m 2 (nO X5M 5 m 1 (nO X4M 4 m 0 M))) m 3 (.inl (.object kSt, 8))
def Q5M (M : Mem) (m : Nat) : Mem := nOs X5M 5 (mK (nO X5M 5 m 2 (nO X5M 5 m 1 (nO X4M 4 m 0 M)))).length (Q4M M m) 8
def Q7M (M : Mem) (m : Nat) : Mem := nOs X5M 5 (mK M).length (cR M m 6 (.inl (.object kSt, 2))) 2
def Q9M (M : Mem) (m : Nat) : Mem := nOs X0M 0 (mK (cR M m 7 (.inl (.boolean, 2)))).length (cR (cR M m 7 (.inl (.boolean, 2))) m 8 (.inl (.object kCl, 6))) 6
def QzM (M : Mem) (m : Nat) : Mem := cR (cR (cR (nO X1M 1 m 10 (nO X3M 3 m 9 M)) m 11 (kI 32)) m 12 (kI 32)) m 13 (kI 32)
def X6M (M : Mem) (m : Nat) : Mem := QzM (Q9M (Q7M (Q5M M m) m) m) m
section
variable {l : Launch} {Q : Res → Mem → Prop} {M P P0 : Mem} {m a k n : Nat}
theorem i6a {c1 c2 c3 c4 : Mem} (h1 : c1 = nO X4M 4 m 0 M) (h2 : c2 = nO X5M 5 m 1 c1) (h3 : c3 = nO X5M 5 m 2 c2) (h4 : c4 = cR c3 m 3 (.inl (.object kSt, 8))) (hx : mX M = true) (hk : (mK M)[m]? = some (.inr 6)) (kk : Go l jX6_init 3 90 197 4149 Q 48 [(0, .ref m), (1, .int 0)] [] k n c4) : Go l jX6_init 3 90 197 4149 Q 0 [(0, .ref m)] [] (k + 31) (n + 1081) M := by
  have a1 : Ext m M c1 := h1 ▸ ex_nO (c := 4) X4_e M m 0
  have b2 : Ext m c1 c2 := h2 ▸ ex_nO (c := 5) X5_e c1 m 1
  have b3 : Ext m c2 c3 := h3 ▸ ex_nO (c := 5) X5_e c2 m 2
  have x1 := a1.1 hx
  have k1 := a1.2.1 _ _ hk
  have x2 := b2.1 x1
  have k2 := b2.2.1 _ _ k1
  have x3 := b3.1 x2
  have k3 := b3.2.1 _ _ k2
  have g0 := (X4_e (nK M (.inr 4)) (mK M).length _ nK_new).2.1 m _ (nK_k hk)
  have g1 := (X5_e (nK c1 (.inr 5)) (mK c1).length _ nK_new).2.1 m _ (nK_k k1)
  have g2 := (X5_e (nK c2 (.inr 5)) (mK c2).length _ nK_new).2.1 m _ (nK_k k2)
  refine g_aload_n (pc := 0) dX6_init_0 rfl trivial ?_
  refine g_objInit (pc := 1) dX6_init_1 wd_120 wd_121 wd_122 (nb rfl) (nb rfl) ?_
  refine g_aload_n (pc := 4) dX6_init_4 rfl trivial ?_
  refine g_new (pc := 5) (nf := 7) (n := (n+1074)) (k := (k+30)) (ci := 4) (ty0 := tyX4) dX6_init_5 rfl wd_123 wd_124 wd_96 inW4 tyX4_ok (new_df4 _) rfl hx ?_
  refine g_dup (pc := 8) dX6_init_8 rfl ?_
  refine g_invI_r (pc := 9) (As := []) dX6_init_9 rfl ((j_X4 hx nK_new)) rfl rfl nK_new rfl rfl lk_X6_9 rfl (nb rfl) ⟨nb rfl, nb rfl⟩ rfl ?_
  refine g_putR (pc := 12) dX6_init_12 fp_X6_10 (fun _ => ⟨rfl, _, rfl, rfl⟩) g0 (fun _ => ⟨rfl, rfl⟩) (fun _ _ _ _ => rfl) ?_
  refine go_cast h1.symm ?_
  refine g_aload_n (pc := 15) dX6_init_15 rfl trivial ?_
  refine g_new (pc := 16) (nf := 5) (n := (n+469)) (k := (k+28)) (ci := 5) (ty0 := tyX5) dX6_init_16 rfl wd_155 wd_156 wd_97 inW5 tyX5_ok (new_df5 _) rfl x1 ?_
  refine g_dup (pc := 19) dX6_init_19 rfl ?_
  refine g_invI_r (pc := 20) (As := []) dX6_init_20 rfl ((j_X5 x1 nK_new)) rfl rfl nK_new rfl rfl lk_X6_18 rfl (nb rfl) ⟨nb rfl, nb rfl⟩ rfl ?_
  refine g_putR (pc := 23) dX6_init_23 fp_X6_19 (fun _ => ⟨rfl, _, rfl, rfl⟩) g1 (fun _ => ⟨rfl, rfl⟩) (fun _ _ _ _ => rfl) ?_
  refine go_cast h2.symm ?_
  refine g_aload_n (pc := 26) dX6_init_26 rfl trivial ?_
  refine g_new (pc := 27) (nf := 5) (n := (n+236)) (k := (k+14)) (ci := 5) (ty0 := tyX5) dX6_init_27 rfl wd_155 wd_156 wd_97 inW5 tyX5_ok (new_df5 _) rfl x2 ?_
  refine g_dup (pc := 30) dX6_init_30 rfl ?_
  refine g_invI_r (pc := 31) (As := []) dX6_init_31 rfl ((j_X5 x2 nK_new)) rfl rfl nK_new rfl rfl lk_X6_18 rfl (nb rfl) ⟨nb rfl, nb rfl⟩ rfl ?_
  refine g_putR (pc := 34) dX6_init_34 fp_X6_23 (fun _ => ⟨rfl, _, rfl, rfl⟩) g2 (fun _ => ⟨rfl, rfl⟩) (fun _ _ _ _ => rfl) ?_
  refine go_cast h3.symm ?_
  refine g_aload_n (pc := 37) dX6_init_37 rfl trivial ?_
  refine g_bipush (pc := 38) (v := 8) dX6_init_38 rfl ?_
  refine g_anewarray_State (pc := 40) (len := 8) (n := n) (k := k) dX6_init_40 wd_155 rfl (by decide) x3 ?_
  refine g_putR (pc := 43) dX6_init_43 fp_X6_26 (fun _ => ⟨rfl, _, rfl, rfl⟩) (nK_k k3) (fun _ => ⟨rfl, rfl⟩) (fun _ _ _ _ => rfl) ?_
  refine go_cast h4.symm ?_
  refine g_iconst (pc := 46) (v := 0) dX6_init_46 rfl ?_
  refine g_istore_n (pc := 47) (lv' := [(0, _), (1, _)]) dX6_init_47 (nl rfl) rfl ?_
  exact kk
theorem i6b_b (hx1 : mX P0 = true) (hk1 : (mK P0)[m]? = some (.inr 6)) (hma : m ≠ a) (hA1 : (mK P0)[a]? = some (.inl (.object kSt, 8))) (hR1 : mR P0 m 3 = some a) (i : Nat) (hi : i < 8) (ih : Go l jX6_init 3 90 197 4149 Q 48 [(0, .ref m), (1, .int (nI (i + 1)))] [] k n (nOs X5M 5 a P0 (i + 1))) : Go l jX6_init 3 90 197 4149 Q 48 [(0, .ref m), (1, .int (nI i))] [] (k + 14) (n + 233) (nOs X5M 5 a P0 i) := by
  have hE := ex_nOs (c := 5) X5_e P0 a i
  have h1 := hE.1 hx1
  have h2 := hE.2.1 _ _ hk1
  have h3 := hE.2.1 _ _ hA1
  have h4 : mR (nOs X5M 5 a P0 i) m 3 = some a := by rw [hE.2.2 _ _ hk1 hma]; exact hR1
  rw [nOs.eq_2] at ih
  generalize nOs X5M 5 a P0 i = P at *
  have g0 := (X5_e (nK P (.inr 5)) (mK P).length _ nK_new).2.1 a _ (nK_k h3)
  have g1 := (X5_e (nK P (.inr 5)) (mK P).length _ nK_new).2.1 _ _ nK_new
  refine g_iload_n (pc := 48) dX6_init_48 rfl ?_
  refine g_bipush (pc := 49) (v := 8) dX6_init_49 rfl ?_
  refine g_icmp_ge (pc := 51) (tgt := 73) dX6_init_51 rfl (fun h51 => absurd h51 (nI_ge (b := 8) hi (by omega))) (fun _ => ?_)
  refine g_aload_n (pc := 54) dX6_init_54 rfl trivial ?_
  refine g_getf (pc := 55) dX6_init_55 fk_X6_26 h2 (fv_arr h4) ?_
  refine g_iload_n (pc := 58) dX6_init_58 rfl ?_
  refine g_new (pc := 59) (nf := 5) (n := (n+228)) (k := (k+13)) (ci := 5) (ty0 := tyX5) dX6_init_59 rfl wd_155 wd_156 wd_97 inW5 tyX5_ok (new_df5 _) rfl h1 ?_
  refine g_dup (pc := 62) dX6_init_62 rfl ?_
  refine g_invI_r (pc := 63) (As := []) dX6_init_63 rfl ((j_X5 h1 nK_new)) rfl rfl nK_new rfl rfl lk_X6_18 rfl (nb rfl) ⟨nb rfl, nb rfl⟩ rfl ?_
  refine g_aastore_State (pc := 66) dX6_init_66 g0 rfl hi (by decide) g1 rfl rfl ?_
  refine go_cast (show _ = nO X5M 5 a i P from rfl) ?_
  refine g_iinc (pc := 67) (lv' := [(0, _), (1, _)]) dX6_init_67 rfl (nI_1 _) (nl rfl) rfl ?_
  refine g_goto (pc := 70) (tgt := 48) dX6_init_70 rfl ?_
  exact ih
theorem i6b (hx1 : mX P0 = true) (hk1 : (mK P0)[m]? = some (.inr 6)) (hma : m ≠ a) (hA1 : (mK P0)[a]? = some (.inl (.object kSt, 8))) (hR1 : mR P0 m 3 = some a) (hP : P = nOs X5M 5 a P0 8) (kk : Go l jX6_init 3 90 197 4149 Q 48 [(0, .ref m), (1, .int (nI 8))] [] k n P) : Go l jX6_init 3 90 197 4149 Q 48 [(0, .ref m), (1, .int 0)] [] (k + 112) (n + 1864) P0 := by
  rw [hP] at kk
  refine go_cast (show P0 = nOs X5M 5 a P0 0 from (nOs.eq_1 _ _ _ _).symm) ?_
  exact i6b_b (k := k + 98) (n := n + 1631) hx1 hk1 hma hA1 hR1 0 (by decide) (i6b_b (k := k + 84) (n := n + 1398) hx1 hk1 hma hA1 hR1 1 (by decide) (i6b_b (k := k + 70) (n := n + 1165) hx1 hk1 hma hA1 hR1 2 (by decide) (i6b_b (k := k + 56) (n := n + 932) hx1 hk1 hma hA1 hR1 3 (by decide) (i6b_b (k := k + 42) (n := n + 699) hx1 hk1 hma hA1 hR1 4 (by decide) (i6b_b (k := k + 28) (n := n + 466) hx1 hk1 hma hA1 hR1 5 (by decide) (i6b_b (k := k + 14) (n := n + 233) hx1 hk1 hma hA1 hR1 6 (by decide) (i6b_b hx1 hk1 hma hA1 hR1 7 (by decide) kk)))))))
theorem i6c {c6 : Mem} (h6 : c6 = cR M m 6 (.inl (.object kSt, 2))) (hx : mX M = true) (hk : (mK M)[m]? = some (.inr 6)) (kk : Go l jX6_init 3 90 197 4149 Q 83 [(0, .ref m), (1, .int 0)] [] k n c6) : Go l jX6_init 3 90 197 4149 Q 48 [(0, .ref m), (1, .int (nI 8))] [] (k + 1) (n + 2) M := by
  refine g_iload_n (pc := 48) dX6_init_48 rfl ?_
  refine g_bipush (pc := 49) (v := 8) dX6_init_49 rfl ?_
  refine g_icmp_ge (pc := 51) (tgt := 73) dX6_init_51 rfl (fun _ => ?_) (fun h51 => absurd (nI_le (Nat.le_refl 8) (by omega)) h51)
  refine g_aload_n (pc := 73) dX6_init_73 rfl trivial ?_
  refine g_iconst (pc := 74) (v := 2) dX6_init_74 rfl ?_
  refine g_anewarray_State (pc := 75) (len := 2) (n := n) (k := k) dX6_init_75 wd_155 rfl (by decide) hx ?_
  refine g_putR (pc := 78) dX6_init_78 fp_X6_30 (fun _ => ⟨rfl, _, rfl, rfl⟩) (nK_k hk) (fun _ => ⟨rfl, rfl⟩) (fun _ _ _ _ => rfl) ?_
  refine go_cast h6.symm ?_
  refine g_iconst (pc := 81) (v := 0) dX6_init_81 rfl ?_
  refine g_istore_n (pc := 82) (lv' := [(0, _), (1, _)]) dX6_init_82 (nl rfl) rfl ?_
  exact kk
theorem i6d_b (hx1 : mX P0 = true) (hk1 : (mK P0)[m]? = some (.inr 6)) (hma : m ≠ a) (hA1 : (mK P0)[a]? = some (.inl (.object kSt, 2))) (hR1 : mR P0 m 6 = some a) (i : Nat) (hi : i < 2) (ih : Go l jX6_init 3 90 197 4149 Q 83 [(0, .ref m), (1, .int (nI (i + 1)))] [] k n (nOs X5M 5 a P0 (i + 1))) : Go l jX6_init 3 90 197 4149 Q 83 [(0, .ref m), (1, .int (nI i))] [] (k + 14) (n + 233) (nOs X5M 5 a P0 i) := by
  have hE := ex_nOs (c := 5) X5_e P0 a i
  have h1 := hE.1 hx1
  have h2 := hE.2.1 _ _ hk1
  have h3 := hE.2.1 _ _ hA1
  have h4 : mR (nOs X5M 5 a P0 i) m 6 = some a := by rw [hE.2.2 _ _ hk1 hma]; exact hR1
  rw [nOs.eq_2] at ih
  generalize nOs X5M 5 a P0 i = P at *
  have g0 := (X5_e (nK P (.inr 5)) (mK P).length _ nK_new).2.1 a _ (nK_k h3)
  have g1 := (X5_e (nK P (.inr 5)) (mK P).length _ nK_new).2.1 _ _ nK_new
  refine g_iload_n (pc := 83) dX6_init_83 rfl ?_
  refine g_iconst (pc := 84) (v := 2) dX6_init_84 rfl ?_
  refine g_icmp_ge (pc := 85) (tgt := 107) dX6_init_85 rfl (fun h85 => absurd h85 (nI_ge (b := 2) hi (by omega))) (fun _ => ?_)
  refine g_aload_n (pc := 88) dX6_init_88 rfl trivial ?_
  refine g_getf (pc := 89) dX6_init_89 fk_X6_30 h2 (fv_arr h4) ?_
  refine g_iload_n (pc := 92) dX6_init_92 rfl ?_
  refine g_new (pc := 93) (nf := 5) (n := (n+228)) (k := (k+13)) (ci := 5) (ty0 := tyX5) dX6_init_93 rfl wd_155 wd_156 wd_97 inW5 tyX5_ok (new_df5 _) rfl h1 ?_
  refine g_dup (pc := 96) dX6_init_96 rfl ?_
  refine g_invI_r (pc := 97) (As := []) dX6_init_97 rfl ((j_X5 h1 nK_new)) rfl rfl nK_new rfl rfl lk_X6_18 rfl (nb rfl) ⟨nb rfl, nb rfl⟩ rfl ?_
  refine g_aastore_State (pc := 100) dX6_init_100 g0 rfl hi (by decide) g1 rfl rfl ?_
  refine go_cast (show _ = nO X5M 5 a i P from rfl) ?_
  refine g_iinc (pc := 101) (lv' := [(0, _), (1, _)]) dX6_init_101 rfl (nI_1 _) (nl rfl) rfl ?_
  refine g_goto (pc := 104) (tgt := 83) dX6_init_104 rfl ?_
  exact ih
theorem i6d (hx1 : mX P0 = true) (hk1 : (mK P0)[m]? = some (.inr 6)) (hma : m ≠ a) (hA1 : (mK P0)[a]? = some (.inl (.object kSt, 2))) (hR1 : mR P0 m 6 = some a) (hP : P = nOs X5M 5 a P0 2) (kk : Go l jX6_init 3 90 197 4149 Q 83 [(0, .ref m), (1, .int (nI 2))] [] k n P) : Go l jX6_init 3 90 197 4149 Q 83 [(0, .ref m), (1, .int 0)] [] (k + 28) (n + 466) P0 := by
  rw [hP] at kk
  refine go_cast (show P0 = nOs X5M 5 a P0 0 from (nOs.eq_1 _ _ _ _).symm) ?_
  exact i6d_b (k := k + 14) (n := n + 233) hx1 hk1 hma hA1 hR1 0 (by decide) (i6d_b hx1 hk1 hma hA1 hR1 1 (by decide) kk)
theorem i6e {c8 c9 : Mem} (h8 : c8 = cR M m 7 (.inl (.boolean, 2))) (h9 : c9 = cR c8 m 8 (.inl (.object kCl, 6))) (hx : mX M = true) (hk : (mK M)[m]? = some (.inr 6)) (kk : Go l jX6_init 3 90 197 4149 Q 125 [(0, .ref m), (1, .int 0)] [] k n c9) : Go l jX6_init 3 90 197 4149 Q 83 [(0, .ref m), (1, .int (nI 2))] [] (k + 2) (n + 8) M := by
  have b8 : Ext m M c8 := h8 ▸ ex_cR M m _ _
  refine g_iload_n (pc := 83) dX6_init_83 rfl ?_
  refine g_iconst (pc := 84) (v := 2) dX6_init_84 rfl ?_
  refine g_icmp_ge (pc := 85) (tgt := 107) dX6_init_85 rfl (fun _ => ?_) (fun h85 => absurd (nI_le (Nat.le_refl 2) (by omega)) h85)
  refine g_aload_n (pc := 107) dX6_init_107 rfl trivial ?_
  refine g_iconst (pc := 108) (v := 2) dX6_init_108 rfl ?_
  refine g_newarray_boolean (pc := 109) (len := 2) (n := (n+6)) (k := (k+1)) dX6_init_109 wd_234 rfl (by decide) hx ?_
  refine g_putR (pc := 111) dX6_init_111 fp_X6_33 (fun _ => ⟨rfl, _, rfl, rfl⟩) (nK_k hk) (fun _ => ⟨rfl, rfl⟩) (fun _ _ _ _ => rfl) ?_
  refine go_cast h8.symm ?_
  refine g_aload_n (pc := 114) dX6_init_114 rfl trivial ?_
  refine g_bipush (pc := 115) (v := 6) dX6_init_115 rfl ?_
  refine g_anewarray_Closure (pc := 117) (len := 6) (n := n) (k := k) dX6_init_117 wd_218 rfl (by decide) (b8.1 hx) ?_
  refine g_putR (pc := 120) dX6_init_120 fp_X6_39 (fun _ => ⟨rfl, _, rfl, rfl⟩) (nK_k (b8.2.1 _ _ hk)) (fun _ => ⟨rfl, rfl⟩) (fun _ _ _ _ => rfl) ?_
  refine go_cast h9.symm ?_
  refine g_iconst (pc := 123) (v := 0) dX6_init_123 rfl ?_
  refine g_istore_n (pc := 124) (lv' := [(0, _), (1, _)]) dX6_init_124 (nl rfl) rfl ?_
  exact kk
theorem i6f_b (hx1 : mX P0 = true) (hk1 : (mK P0)[m]? = some (.inr 6)) (hma : m ≠ a) (hA1 : (mK P0)[a]? = some (.inl (.object kCl, 6))) (hR1 : mR P0 m 8 = some a) (i : Nat) (hi : i < 6) (ih : Go l jX6_init 3 90 197 4149 Q 125 [(0, .ref m), (1, .int (nI (i + 1)))] [] k n (nOs X0M 0 a P0 (i + 1))) : Go l jX6_init 3 90 197 4149 Q 125 [(0, .ref m), (1, .int (nI i))] [] (k + 2) (n + 34) (nOs X0M 0 a P0 i) := by
  have hE := ex_nOs (c := 0) X0_e P0 a i
  have h1 := hE.1 hx1
  have h2 := hE.2.1 _ _ hk1
  have h3 := hE.2.1 _ _ hA1
  have h4 : mR (nOs X0M 0 a P0 i) m 8 = some a := by rw [hE.2.2 _ _ hk1 hma]; exact hR1
  rw [nOs.eq_2] at ih
  generalize nOs X0M 0 a P0 i = P at *
  have g0 := (X0_e (nK P (.inr 0)) (mK P).length _ nK_new).2.1 a _ (nK_k h3)
  have g1 := (X0_e (nK P (.inr 0)) (mK P).length _ nK_new).2.1 _ _ nK_new
  refine g_iload_n (pc := 125) dX6_init_125 rfl ?_
  refine g_bipush (pc := 126) (v := 6) dX6_init_126 rfl ?_
  refine g_icmp_ge (pc := 128) (tgt := 150) dX6_init_128 rfl (fun h128 => absurd h128 (nI_ge (b := 6) hi (by omega))) (fun _ => ?_)
  refine g_aload_n (pc := 131) dX6_init_131 rfl trivial ?_
  refine g_getf (pc := 132) dX6_init_132 fk_X6_39 h2 (fv_arr h4) ?_
  refine g_iload_n (pc := 135) dX6_init_135 rfl ?_
  refine g_new (pc := 136) (nf := 2) (n := (n+32)) (k := (k+1)) (ci := 0) (ty0 := tyX0) dX6_init_136 rfl wd_218 wd_220 wd_99 inW0 tyX0_ok (new_df0 _) rfl h1 ?_
  refine g_dup (pc := 139) dX6_init_139 rfl ?_
  refine g_invI_r (pc := 140) (As := []) dX6_init_140 rfl ((j_X0 h1 nK_new)) rfl rfl nK_new rfl rfl lk_X6_43 rfl (nb rfl) ⟨nb rfl, nb rfl⟩ rfl ?_
  refine g_aastore_Closure (pc := 143) dX6_init_143 g0 rfl hi (by decide) g1 rfl rfl ?_
  refine go_cast (show _ = nO X0M 0 a i P from rfl) ?_
  refine g_iinc (pc := 144) (lv' := [(0, _), (1, _)]) dX6_init_144 rfl (nI_1 _) (nl rfl) rfl ?_
  refine g_goto (pc := 147) (tgt := 125) dX6_init_147 rfl ?_
  exact ih
theorem i6f (hx1 : mX P0 = true) (hk1 : (mK P0)[m]? = some (.inr 6)) (hma : m ≠ a) (hA1 : (mK P0)[a]? = some (.inl (.object kCl, 6))) (hR1 : mR P0 m 8 = some a) (hP : P = nOs X0M 0 a P0 6) (kk : Go l jX6_init 3 90 197 4149 Q 125 [(0, .ref m), (1, .int (nI 6))] [] k n P) : Go l jX6_init 3 90 197 4149 Q 125 [(0, .ref m), (1, .int 0)] [] (k + 12) (n + 204) P0 := by
  rw [hP] at kk
  refine go_cast (show P0 = nOs X0M 0 a P0 0 from (nOs.eq_1 _ _ _ _).symm) ?_
  exact i6f_b (k := k + 10) (n := n + 170) hx1 hk1 hma hA1 hR1 0 (by decide) (i6f_b (k := k + 8) (n := n + 136) hx1 hk1 hma hA1 hR1 1 (by decide) (i6f_b (k := k + 6) (n := n + 102) hx1 hk1 hma hA1 hR1 2 (by decide) (i6f_b (k := k + 4) (n := n + 68) hx1 hk1 hma hA1 hR1 3 (by decide) (i6f_b (k := k + 2) (n := n + 34) hx1 hk1 hma hA1 hR1 4 (by decide) (i6f_b hx1 hk1 hma hA1 hR1 5 (by decide) kk)))))
theorem i6g {c1 c2 c3 c4 c5 : Mem} (h1 : c1 = nO X3M 3 m 9 M) (h2 : c2 = nO X1M 1 m 10 c1) (h3 : c3 = cR c2 m 11 (kI 32)) (h4 : c4 = cR c3 m 12 (kI 32)) (h5 : c5 = cR c4 m 13 (kI 32)) (hx : mX M = true) (hk : (mK M)[m]? = some (.inr 6)) (hq : Q (.inl none) c5) : Go l jX6_init 3 90 197 4149 Q 125 [(0, .ref m), (1, .int (nI 6))] [] (k + 11) (n + 524) M := by
  have a1 : Ext m M c1 := h1 ▸ ex_nO (c := 3) X3_e M m 9
  have b2 : Ext m c1 c2 := h2 ▸ ex_nO (c := 1) X1_e c1 m 10
  have b3 : Ext m c2 c3 := h3 ▸ ex_cR c2 m _ _
  have b4 : Ext m c3 c4 := h4 ▸ ex_cR c3 m _ _
  have x1 := a1.1 hx
  have k1 := a1.2.1 _ _ hk
  have x2 := b2.1 x1
  have k2 := b2.2.1 _ _ k1
  have x3 := b3.1 x2
  have k3 := b3.2.1 _ _ k2
  have x4 := b4.1 x3
  have k4 := b4.2.1 _ _ k3
  have g0 := (X3_e (nK M (.inr 3)) (mK M).length _ nK_new).2.1 m _ (nK_k hk)
  have g1 := (X1_e (nK c1 (.inr 1)) (mK c1).length _ nK_new).2.1 m _ (nK_k k1)
  refine g_iload_n (pc := 125) dX6_init_125 rfl ?_
  refine g_bipush (pc := 126) (v := 6) dX6_init_126 rfl ?_
  refine g_icmp_ge (pc := 128) (tgt := 150) dX6_init_128 rfl (fun _ => ?_) (fun h128 => absurd (nI_le (Nat.le_refl 6) (by omega)) h128)
  refine g_aload_n (pc := 150) dX6_init_150 rfl trivial ?_
  refine g_new (pc := 151) (nf := 8) (n := (n+516)) (k := (k+10)) (ci := 3) (ty0 := tyX3) dX6_init_151 rfl wd_235 wd_236 wd_100 inW3 tyX3_ok (new_df3 _) rfl hx ?_
  refine g_dup (pc := 154) dX6_init_154 rfl ?_
  refine g_invI_r (pc := 155) (As := []) dX6_init_155 rfl ((j_X3 hx nK_new)) rfl rfl nK_new rfl rfl lk_X6_46 rfl (nb rfl) ⟨nb rfl, nb rfl⟩ rfl ?_
  refine g_putR (pc := 158) dX6_init_158 fp_X6_47 (fun _ => ⟨rfl, _, rfl, rfl⟩) g0 (fun _ => ⟨rfl, rfl⟩) (fun _ _ _ _ => rfl) ?_
  refine go_cast h1.symm ?_
  refine g_aload_n (pc := 161) dX6_init_161 rfl trivial ?_
  refine g_new (pc := 162) (nf := 4) (n := (n+192)) (k := (k+6)) (ci := 1) (ty0 := tyX1) dX6_init_162 rfl wd_268 wd_269 wd_101 inW1 tyX1_ok (new_df1 _) rfl x1 ?_
  refine g_dup (pc := 165) dX6_init_165 rfl ?_
  refine g_invI_r (pc := 166) (As := []) dX6_init_166 rfl ((j_X1 x1 nK_new)) rfl rfl nK_new rfl rfl lk_X6_53 rfl (nb rfl) ⟨nb rfl, nb rfl⟩ rfl ?_
  refine g_putR (pc := 169) dX6_init_169 fp_X6_54 (fun _ => ⟨rfl, _, rfl, rfl⟩) g1 (fun _ => ⟨rfl, rfl⟩) (fun _ _ _ _ => rfl) ?_
  refine go_cast h2.symm ?_
  refine g_aload_n (pc := 172) dX6_init_172 rfl trivial ?_
  refine g_bipush (pc := 173) (v := 32) dX6_init_173 rfl ?_
  refine g_newarray_int (pc := 175) (len := 32) (n := (n+64)) (k := (k+2)) dX6_init_175 wd_154 rfl (by decide) x2 ?_
  refine g_putR (pc := 177) dX6_init_177 fp_X6_58 (fun _ => ⟨rfl, _, rfl, rfl⟩) (nK_k k2) (fun _ => ⟨rfl, rfl⟩) (fun _ _ _ _ => rfl) ?_
  refine go_cast h3.symm ?_
  refine g_aload_n (pc := 180) dX6_init_180 rfl trivial ?_
  refine g_bipush (pc := 181) (v := 32) dX6_init_181 rfl ?_
  refine g_newarray_int (pc := 183) (len := 32) (n := (n+32)) (k := (k+1)) dX6_init_183 wd_154 rfl (by decide) x3 ?_
  refine g_putR (pc := 185) dX6_init_185 fp_X6_62 (fun _ => ⟨rfl, _, rfl, rfl⟩) (nK_k k3) (fun _ => ⟨rfl, rfl⟩) (fun _ _ _ _ => rfl) ?_
  refine go_cast h4.symm ?_
  refine g_aload_n (pc := 188) dX6_init_188 rfl trivial ?_
  refine g_bipush (pc := 189) (v := 32) dX6_init_189 rfl ?_
  refine g_newarray_int (pc := 191) (len := 32) (n := n) (k := k) dX6_init_191 wd_154 rfl (by decide) x4 ?_
  refine g_putR (pc := 193) dX6_init_193 fp_X6_65 (fun _ => ⟨rfl, _, rfl, rfl⟩) (nK_k k4) (fun _ => ⟨rfl, rfl⟩) (fun _ _ _ _ => rfl) ?_
  refine go_cast h5.symm ?_
  refine g_return (pc := 196) dX6_init_196 rfl ?_
  exact hq
theorem j_X6 (hx : mX M = true) (hk : (mK M)[m]? = some (.inr 6)) : EvR l jX6_init 3 90 197 4149 [.ref m] M (.inl none) (X6M M m) := by
  obtain ⟨c1, h1⟩ : ∃ x, x = nO X4M 4 m 0 M := ⟨_, rfl⟩
  obtain ⟨c2, h2⟩ : ∃ x, x = nO X5M 5 m 1 c1 := ⟨_, rfl⟩
  obtain ⟨c3, h3⟩ : ∃ x, x = nO X5M 5 m 2 c2 := ⟨_, rfl⟩
  obtain ⟨c4, h4⟩ : ∃ x, x = cR c3 m 3 (.inl (.object kSt, 8)) := ⟨_, rfl⟩
  obtain ⟨c5, h5⟩ : ∃ x, x = nOs X5M 5 (mK c3).length c4 8 := ⟨_, rfl⟩
  obtain ⟨c6, h6⟩ : ∃ x, x = cR c5 m 6 (.inl (.object kSt, 2)) := ⟨_, rfl⟩
  obtain ⟨c7, h7⟩ : ∃ x, x = nOs X5M 5 (mK c5).length c6 2 := ⟨_, rfl⟩
  obtain ⟨c8, h8⟩ : ∃ x, x = cR c7 m 7 (.inl (.boolean, 2)) := ⟨_, rfl⟩
  obtain ⟨c9, h9⟩ : ∃ x, x = cR c8 m 8 (.inl (.object kCl, 6)) := ⟨_, rfl⟩
  obtain ⟨d0, e0⟩ : ∃ x, x = nOs X0M 0 (mK c8).length c9 6 := ⟨_, rfl⟩
  obtain ⟨d1, e1⟩ : ∃ x, x = nO X3M 3 m 9 d0 := ⟨_, rfl⟩
  obtain ⟨d2, e2⟩ : ∃ x, x = nO X1M 1 m 10 d1 := ⟨_, rfl⟩
  obtain ⟨d3, e3⟩ : ∃ x, x = cR d2 m 11 (kI 32) := ⟨_, rfl⟩
  obtain ⟨d4, e4⟩ : ∃ x, x = cR d3 m 12 (kI 32) := ⟨_, rfl⟩
  obtain ⟨d5, e5⟩ : ∃ x, x = cR d4 m 13 (kI 32) := ⟨_, rfl⟩
  have hX : X6M M m = d5 := by
    unfold X6M QzM Q9M Q7M Q5M Q4M
    rw [← h1, ← h2, ← h3, ← h4, ← h5, ← h6, ← h7, ← h8, ← h9, ← e0, ← e1, ← e2, ← e3, ← e4, ← e5]
  rw [hX]
  have a1 : Ext m M c1 := h1 ▸ ex_nO (c := 4) X4_e M m 0
  have a2 : Ext m c1 c2 := h2 ▸ ex_nO (c := 5) X5_e c1 m 1
  have a3 : Ext m c2 c3 := h3 ▸ ex_nO (c := 5) X5_e c2 m 2
  have a4 : Ext m c3 c4 := h4 ▸ ex_cR c3 m _ _
  have x3 := a3.1 (a2.1 (a1.1 hx))
  have k3 := a3.2.1 _ _ (a2.2.1 _ _ (a1.2.1 _ _ hk))
  have x4 := a4.1 x3
  have k4 := a4.2.1 _ _ k3
  have n3 : m ≠ (mK c3).length := Nat.ne_of_lt (lenI k3)
  have A4 : (mK c4)[(mK c3).length]? = some (.inl (.object kSt, 8)) := h4 ▸ cR_new
  have R4 : mR c4 m 3 = some (mK c3).length := h4 ▸ cR_f
  have E5 := ex_nOs (c := 5) X5_e c4 (mK c3).length 8
  rw [← h5] at E5
  have x5 := E5.1 x4
  have k5 := E5.2.1 _ _ k4
  have a6 : Ext m c5 c6 := h6 ▸ ex_cR c5 m _ _
  have x6 := a6.1 x5
  have k6 := a6.2.1 _ _ k5
  have n5 : m ≠ (mK c5).length := Nat.ne_of_lt (lenI k5)
  have A6 : (mK c6)[(mK c5).length]? = some (.inl (.object kSt, 2)) := h6 ▸ cR_new
  have R6 : mR c6 m 6 = some (mK c5).length := h6 ▸ cR_f
  have E7 := ex_nOs (c := 5) X5_e c6 (mK c5).length 2
  rw [← h7] at E7
  have x7 := E7.1 x6
  have k7 := E7.2.1 _ _ k6
  have a8 : Ext m c7 c8 := h8 ▸ ex_cR c7 m _ _
  have x8 := a8.1 x7
  have k8 := a8.2.1 _ _ k7
  have a9 : Ext m c8 c9 := h9 ▸ ex_cR c8 m _ _
  have x9 := a9.1 x8
  have k9 := a9.2.1 _ _ k8
  have n8 : m ≠ (mK c8).length := Nat.ne_of_lt (lenI k8)
  have A9 : (mK c9)[(mK c8).length]? = some (.inl (.object kCl, 6)) := h9 ▸ cR_new
  have R9 : mR c9 m 8 = some (mK c8).length := h9 ▸ cR_f
  have E0 := ex_nOs (c := 0) X0_e c9 (mK c8).length 6
  rw [← e0] at E0
  have x0 := E0.1 x9
  have k0 := E0.2.1 _ _ k9
  refine ev_intro rfl (nb rfl) rfl ?_
  refine i6a (k := 166) (n := 3068) h1 h2 h3 h4 hx hk ?_
  refine i6b (k := 54) (n := 1204) x4 k4 n3 A4 R4 h5 ?_
  refine i6c (k := 53) (n := 1202) h6 x5 k5 ?_
  refine i6d (k := 25) (n := 736) x6 k6 n5 A6 R6 h7 ?_
  refine i6e (k := 23) (n := 728) h8 h9 x7 k7 ?_
  refine i6f (k := 11) (n := 524) x9 k9 n8 A9 R9 e0 ?_
  exact i6g (k := 0) (n := 0) e1 e2 e3 e4 e5 x0 k0 ⟨rfl, rfl⟩
end
end
-- 322.init
section
/-! what the reference's constructor makes -/
def R1M (M : Mem) (m : Nat) : Mem := cR (cR (cR (cR M m 0 (kL 220)) m 1 (kL 220)) m 2 (kL 1760)) m 3 (kL 440)
def R2M (M : Mem) (m : Nat) : Mem := pI (cR (cR M m 4 (.inl (.boolean, 2))) m 7 (.inl (.byte, 600))) m 15 (-1)
def R3M (M : Mem) (m : Nat) : Mem := cR (cR (cR (cR M m 16 (kL 32)) m 17 (kL 32)) m 18 (kL 32)) m 19 (kI 32)
def R4M (M : Mem) (m : Nat) : Mem := cR (cR (cR M m 20 (kL 32)) m 21 (kI 32)) m 23 (.inl (.byte, 32))
def R0M (M : Mem) (m : Nat) : Mem := R4M (R3M (R2M (R1M M m) m) m) m
def X7M (M : Mem) (m : Nat) : Mem := sL (R0M M m) (mK M).length (bgF (mL (R0M M m) (mK M).length) 8)
section
variable {l : Launch} {M : Mem} {m : Nat}
theorem R1_e (M : Mem) (m : Nat) : Ext m M (R1M M m) := ((((Ext.rf m M).tr (ex_cR _ _ _ _)).tr (ex_cR _ _ _ _)).tr (ex_cR _ _ _ _)).tr (ex_cR _ _ _ _)
theorem R2_e (M : Mem) (m : Nat) : Ext m M (R2M M m) := (((Ext.rf m M).tr (ex_cR _ _ _ _)).tr (ex_cR _ _ _ _)).tr (ex_pI _ _ _ _ _)
theorem R3_e (M : Mem) (m : Nat) : Ext m M (R3M M m) := ((((Ext.rf m M).tr (ex_cR _ _ _ _)).tr (ex_cR _ _ _ _)).tr (ex_cR _ _ _ _)).tr (ex_cR _ _ _ _)
theorem R4_e (M : Mem) (m : Nat) : Ext m M (R4M M m) := (((Ext.rf m M).tr (ex_cR _ _ _ _)).tr (ex_cR _ _ _ _)).tr (ex_cR _ _ _ _)
theorem cR_g {a j r : Nat} {k x : Knd} (hk : (mK M)[m]? = some x) (hj : j ≠ a) (h : mR M m j = some r) : mR (cR M m a k) m j = some r := by
  show mR (pR (nK M k) m a (mK M).length) m j = _
  rw [pR_o hj, nK_R hk]; exact h
theorem j_X7 (hx : mX M = true) (hk : (mK M)[m]? = some (.inr 7)) : EvR l jX7_init 1 30 13 3466 [.ref m] M (.inl none) (X7M M m) := by
  have hm : m ≠ (mK M).length := Nat.ne_of_lt (lenI hk)
  refine ev_intro rfl (nb rfl) rfl ?_
  obtain ⟨c0, hc0⟩ : ∃ x, x = cR M m 0 (kL 220) := ⟨_, rfl⟩
  have b0 : Ext m M c0 := hc0 ▸ ex_cR M m _ _
  have a0 : Ext m M c0 := b0
  obtain ⟨c1, hc1⟩ : ∃ x, x = cR c0 m 1 (kL 220) := ⟨_, rfl⟩
  have b1 : Ext m c0 c1 := hc1 ▸ ex_cR c0 m _ _
  have a1 : Ext m M c1 := a0.tr b1
  obtain ⟨c2, hc2⟩ : ∃ x, x = cR c1 m 2 (kL 1760) := ⟨_, rfl⟩
  have b2 : Ext m c1 c2 := hc2 ▸ ex_cR c1 m _ _
  have a2 : Ext m M c2 := a1.tr b2
  obtain ⟨c3, hc3⟩ : ∃ x, x = cR c2 m 3 (kL 440) := ⟨_, rfl⟩
  have b3 : Ext m c2 c3 := hc3 ▸ ex_cR c2 m _ _
  have a3 : Ext m M c3 := a2.tr b3
  obtain ⟨c4, hc4⟩ : ∃ x, x = cR c3 m 4 (.inl (.boolean, 2)) := ⟨_, rfl⟩
  have b4 : Ext m c3 c4 := hc4 ▸ ex_cR c3 m _ _
  have a4 : Ext m M c4 := a3.tr b4
  obtain ⟨c5, hc5⟩ : ∃ x, x = cR c4 m 7 (.inl (.byte, 600)) := ⟨_, rfl⟩
  have b5 : Ext m c4 c5 := hc5 ▸ ex_cR c4 m _ _
  have a5 : Ext m M c5 := a4.tr b5
  obtain ⟨c6, hc6⟩ : ∃ x, x = pI c5 m 15 (-1) := ⟨_, rfl⟩
  have b6 : Ext m c5 c6 := hc6 ▸ ex_pI m c5 _ _ _
  have a6 : Ext m M c6 := a5.tr b6
  obtain ⟨c7, hc7⟩ : ∃ x, x = cR c6 m 16 (kL 32) := ⟨_, rfl⟩
  have b7 : Ext m c6 c7 := hc7 ▸ ex_cR c6 m _ _
  have a7 : Ext m M c7 := a6.tr b7
  obtain ⟨c8, hc8⟩ : ∃ x, x = cR c7 m 17 (kL 32) := ⟨_, rfl⟩
  have b8 : Ext m c7 c8 := hc8 ▸ ex_cR c7 m _ _
  have a8 : Ext m M c8 := a7.tr b8
  obtain ⟨c9, hc9⟩ : ∃ x, x = cR c8 m 18 (kL 32) := ⟨_, rfl⟩
  have b9 : Ext m c8 c9 := hc9 ▸ ex_cR c8 m _ _
  have a9 : Ext m M c9 := a8.tr b9
  obtain ⟨c10, hc10⟩ : ∃ x, x = cR c9 m 19 (kI 32) := ⟨_, rfl⟩
  have b10 : Ext m c9 c10 := hc10 ▸ ex_cR c9 m _ _
  have a10 : Ext m M c10 := a9.tr b10
  obtain ⟨c11, hc11⟩ : ∃ x, x = cR c10 m 20 (kL 32) := ⟨_, rfl⟩
  have b11 : Ext m c10 c11 := hc11 ▸ ex_cR c10 m _ _
  have a11 : Ext m M c11 := a10.tr b11
  obtain ⟨c12, hc12⟩ : ∃ x, x = cR c11 m 21 (kI 32) := ⟨_, rfl⟩
  have b12 : Ext m c11 c12 := hc12 ▸ ex_cR c11 m _ _
  have a12 : Ext m M c12 := a11.tr b12
  obtain ⟨c13, hc13⟩ : ∃ x, x = cR c12 m 23 (.inl (.byte, 32)) := ⟨_, rfl⟩
  have b13 : Ext m c12 c13 := hc13 ▸ ex_cR c12 m _ _
  have a13 : Ext m M c13 := a12.tr b13
  have hR : X7M M m = sL c13 (mK M).length (bgF (mL c13 (mK M).length) 8) := by
    have h9 : R0M M m = c13 := by
      subst hc13 hc12 hc11 hc10 hc9 hc8 hc7 hc6 hc5 hc4 hc3 hc2 hc1 hc0
      rfl
    unfold X7M; rw [h9]
  rw [hR]
  have hn : mR c13 m 0 = some (mK M).length := by
    have e0 : mR c0 m 0 = some (mK M).length := by rw [hc0]; exact cR_f
    have e1 : mR c1 m 0 = some (mK M).length := by rw [hc1]; exact cR_g (a0.2.1 _ _ hk) (by decide) e0
    have e2 : mR c2 m 0 = some (mK M).length := by rw [hc2]; exact cR_g (a1.2.1 _ _ hk) (by decide) e1
    have e3 : mR c3 m 0 = some (mK M).length := by rw [hc3]; exact cR_g (a2.2.1 _ _ hk) (by decide) e2
    have e4 : mR c4 m 0 = some (mK M).length := by rw [hc4]; exact cR_g (a3.2.1 _ _ hk) (by decide) e3
    have e5 : mR c5 m 0 = some (mK M).length := by rw [hc5]; exact cR_g (a4.2.1 _ _ hk) (by decide) e4
    have e6 : mR c6 m 0 = some (mK M).length := by rw [hc6]; exact e5
    have e7 : mR c7 m 0 = some (mK M).length := by rw [hc7]; exact cR_g (a6.2.1 _ _ hk) (by decide) e6
    have e8 : mR c8 m 0 = some (mK M).length := by rw [hc8]; exact cR_g (a7.2.1 _ _ hk) (by decide) e7
    have e9 : mR c9 m 0 = some (mK M).length := by rw [hc9]; exact cR_g (a8.2.1 _ _ hk) (by decide) e8
    have e10 : mR c10 m 0 = some (mK M).length := by rw [hc10]; exact cR_g (a9.2.1 _ _ hk) (by decide) e9
    have e11 : mR c11 m 0 = some (mK M).length := by rw [hc11]; exact cR_g (a10.2.1 _ _ hk) (by decide) e10
    have e12 : mR c12 m 0 = some (mK M).length := by rw [hc12]; exact cR_g (a11.2.1 _ _ hk) (by decide) e11
    have e13 : mR c13 m 0 = some (mK M).length := by rw [hc13]; exact cR_g (a12.2.1 _ _ hk) (by decide) e12
    exact e13
  have hA0 : (mK c13)[(mK M).length]? = some (kL 220) := by
    have e0 : (mK c0)[(mK M).length]? = some (kL 220) := by rw [hc0]; exact cR_new
    have e1 : Ext m c0 c13 := ((((((((((((b1).tr b2).tr b3).tr b4).tr b5).tr b6).tr b7).tr b8).tr b9).tr b10).tr b11).tr b12).tr b13
    exact e1.2.1 _ _ e0
  refine g_aload_n (pc := 0) dX7_init_0 rfl trivial ?_
  refine g_objInit (pc := 1) dX7_init_1 wd_1211 wd_121 wd_122 (nb rfl) (nb rfl) ?_
  refine g_aload_n (pc := 4) dX7_init_4 rfl trivial ?_
  refine g_sipush (pc := 5) (v := 220) dX7_init_5 rfl ?_
  refine g_newarray_long (pc := 8) (len := 220) (n := 3246) (k := 12) dX7_init_8 wd_1292 rfl (by decide) hx ?_
  refine g_putR (pc := 10) dX7_init_10 fp_X7_9 (fun _ => ⟨rfl, _, rfl, rfl⟩) (nK_k hk) (fun _ => ⟨rfl, rfl⟩) (fun _ _ _ _ => rfl) ?_
  refine go_cast hc0.symm ?_
  refine g_aload_n (pc := 13) dX7_init_13 rfl trivial ?_
  refine g_sipush (pc := 14) (v := 220) dX7_init_14 rfl ?_
  refine g_newarray_long (pc := 17) (len := 220) (n := 3026) (k := 11) dX7_init_17 wd_1292 rfl (by decide) (a0.1 hx) ?_
  refine g_putR (pc := 19) dX7_init_19 fp_X7_13 (fun _ => ⟨rfl, _, rfl, rfl⟩) (nK_k (a0.2.1 _ _ hk)) (fun _ => ⟨rfl, rfl⟩) (fun _ _ _ _ => rfl) ?_
  refine go_cast hc1.symm ?_
  refine g_aload_n (pc := 22) dX7_init_22 rfl trivial ?_
  refine g_sipush (pc := 23) (v := 1760) dX7_init_23 rfl ?_
  refine g_newarray_long (pc := 26) (len := 1760) (n := 1266) (k := 10) dX7_init_26 wd_1292 rfl (by decide) (a1.1 hx) ?_
  refine g_putR (pc := 28) dX7_init_28 fp_X7_16 (fun _ => ⟨rfl, _, rfl, rfl⟩) (nK_k (a1.2.1 _ _ hk)) (fun _ => ⟨rfl, rfl⟩) (fun _ _ _ _ => rfl) ?_
  refine go_cast hc2.symm ?_
  refine g_aload_n (pc := 31) dX7_init_31 rfl trivial ?_
  refine g_sipush (pc := 32) (v := 440) dX7_init_32 rfl ?_
  refine g_newarray_long (pc := 35) (len := 440) (n := 826) (k := 9) dX7_init_35 wd_1292 rfl (by decide) (a2.1 hx) ?_
  refine g_putR (pc := 37) dX7_init_37 fp_X7_19 (fun _ => ⟨rfl, _, rfl, rfl⟩) (nK_k (a2.2.1 _ _ hk)) (fun _ => ⟨rfl, rfl⟩) (fun _ _ _ _ => rfl) ?_
  refine go_cast hc3.symm ?_
  refine g_aload_n (pc := 40) dX7_init_40 rfl trivial ?_
  refine g_iconst (pc := 41) (v := 2) dX7_init_41 rfl ?_
  refine g_newarray_boolean (pc := 42) (len := 2) (n := 824) (k := 8) dX7_init_42 wd_234 rfl (by decide) (a3.1 hx) ?_
  refine g_putR (pc := 44) dX7_init_44 fp_X7_22 (fun _ => ⟨rfl, _, rfl, rfl⟩) (nK_k (a3.2.1 _ _ hk)) (fun _ => ⟨rfl, rfl⟩) (fun _ _ _ _ => rfl) ?_
  refine go_cast hc4.symm ?_
  refine g_aload_n (pc := 47) dX7_init_47 rfl trivial ?_
  refine g_sipush (pc := 48) (v := 600) dX7_init_48 rfl ?_
  refine g_newarray_byte (pc := 51) (len := 600) (n := 224) (k := 7) dX7_init_51 wd_515 rfl (by decide) (a4.1 hx) ?_
  refine g_putR (pc := 53) dX7_init_53 fp_X7_26 (fun _ => ⟨rfl, _, rfl, rfl⟩) (nK_k (a4.2.1 _ _ hk)) (fun _ => ⟨rfl, rfl⟩) (fun _ _ _ _ => rfl) ?_
  refine go_cast hc5.symm ?_
  refine g_aload_n (pc := 56) dX7_init_56 rfl trivial ?_
  refine g_iconst (pc := 57) (v := (-1)) dX7_init_57 rfl ?_
  refine g_putI (pc := 58) dX7_init_58 fp_X7_30 (a5.2.1 _ _ hk) ⟨rfl, rfl⟩ (fun _ _ _ _ => rfl) ?_
  refine go_cast hc6.symm ?_
  refine g_aload_n (pc := 61) dX7_init_61 rfl trivial ?_
  refine g_bipush (pc := 62) (v := 32) dX7_init_62 rfl ?_
  refine g_newarray_long (pc := 64) (len := 32) (n := 192) (k := 6) dX7_init_64 wd_1292 rfl (by decide) (a6.1 hx) ?_
  refine g_putR (pc := 66) dX7_init_66 fp_X7_34 (fun _ => ⟨rfl, _, rfl, rfl⟩) (nK_k (a6.2.1 _ _ hk)) (fun _ => ⟨rfl, rfl⟩) (fun _ _ _ _ => rfl) ?_
  refine go_cast hc7.symm ?_
  refine g_aload_n (pc := 69) dX7_init_69 rfl trivial ?_
  refine g_bipush (pc := 70) (v := 32) dX7_init_70 rfl ?_
  refine g_newarray_long (pc := 72) (len := 32) (n := 160) (k := 5) dX7_init_72 wd_1292 rfl (by decide) (a7.1 hx) ?_
  refine g_putR (pc := 74) dX7_init_74 fp_X7_37 (fun _ => ⟨rfl, _, rfl, rfl⟩) (nK_k (a7.2.1 _ _ hk)) (fun _ => ⟨rfl, rfl⟩) (fun _ _ _ _ => rfl) ?_
  refine go_cast hc8.symm ?_
  refine g_aload_n (pc := 77) dX7_init_77 rfl trivial ?_
  refine g_bipush (pc := 78) (v := 32) dX7_init_78 rfl ?_
  refine g_newarray_long (pc := 80) (len := 32) (n := 128) (k := 4) dX7_init_80 wd_1292 rfl (by decide) (a8.1 hx) ?_
  refine g_putR (pc := 82) dX7_init_82 fp_X7_40 (fun _ => ⟨rfl, _, rfl, rfl⟩) (nK_k (a8.2.1 _ _ hk)) (fun _ => ⟨rfl, rfl⟩) (fun _ _ _ _ => rfl) ?_
  refine go_cast hc9.symm ?_
  refine g_aload_n (pc := 85) dX7_init_85 rfl trivial ?_
  refine g_bipush (pc := 86) (v := 32) dX7_init_86 rfl ?_
  refine g_newarray_int (pc := 88) (len := 32) (n := 96) (k := 3) dX7_init_88 wd_154 rfl (by decide) (a9.1 hx) ?_
  refine g_putR (pc := 90) dX7_init_90 fp_X7_43 (fun _ => ⟨rfl, _, rfl, rfl⟩) (nK_k (a9.2.1 _ _ hk)) (fun _ => ⟨rfl, rfl⟩) (fun _ _ _ _ => rfl) ?_
  refine go_cast hc10.symm ?_
  refine g_aload_n (pc := 93) dX7_init_93 rfl trivial ?_
  refine g_bipush (pc := 94) (v := 32) dX7_init_94 rfl ?_
  refine g_newarray_long (pc := 96) (len := 32) (n := 64) (k := 2) dX7_init_96 wd_1292 rfl (by decide) (a10.1 hx) ?_
  refine g_putR (pc := 98) dX7_init_98 fp_X7_47 (fun _ => ⟨rfl, _, rfl, rfl⟩) (nK_k (a10.2.1 _ _ hk)) (fun _ => ⟨rfl, rfl⟩) (fun _ _ _ _ => rfl) ?_
  refine go_cast hc11.symm ?_
  refine g_aload_n (pc := 101) dX7_init_101 rfl trivial ?_
  refine g_bipush (pc := 102) (v := 32) dX7_init_102 rfl ?_
  refine g_newarray_int (pc := 104) (len := 32) (n := 32) (k := 1) dX7_init_104 wd_154 rfl (by decide) (a11.1 hx) ?_
  refine g_putR (pc := 106) dX7_init_106 fp_X7_50 (fun _ => ⟨rfl, _, rfl, rfl⟩) (nK_k (a11.2.1 _ _ hk)) (fun _ => ⟨rfl, rfl⟩) (fun _ _ _ _ => rfl) ?_
  refine go_cast hc12.symm ?_
  refine g_aload_n (pc := 109) dX7_init_109 rfl trivial ?_
  refine g_bipush (pc := 110) (v := 32) dX7_init_110 rfl ?_
  refine g_newarray_byte (pc := 112) (len := 32) (n := 0) (k := 0) dX7_init_112 wd_515 rfl (by decide) (a12.1 hx) ?_
  refine g_putR (pc := 114) dX7_init_114 fp_X7_53 (fun _ => ⟨rfl, _, rfl, rfl⟩) (nK_k (a12.2.1 _ _ hk)) (fun _ => ⟨rfl, rfl⟩) (fun _ _ _ _ => rfl) ?_
  refine go_cast hc13.symm ?_
  refine g_aload_n (pc := 117) dX7_init_117 rfl trivial ?_
  refine g_getf (pc := 118) dX7_init_118 fk_X7_9 (a13.2.1 _ _ hk) (fv_arr hn) ?_
  refine g_bipush (pc := 121) (v := 8) dX7_init_121 rfl ?_
  refine g_invS_r (pc := 123) (As := [_, _]) dX7_init_123 rfl ((r_begins (n := 8) hA0 (by decide))) rfl rfl lk_X7_56 rfl (nb rfl) ⟨nb rfl, nb rfl⟩ rfl ?_
  refine g_return (pc := 126) dX7_init_126 rfl ?_
  exact ⟨rfl, rfl⟩
end
end
-- 33.made
section
/-! the memory as it is made, as lists -/
abbrev Bld : Type := Nat × List Knd × List (Nat × Nat × Nat) × List (Nat × Nat × Int32)
def lkR : List (Nat × Nat × Nat) → Nat → Nat → Option Nat
  | [], _, _ => none
  | q :: L, i, j => bif (Nat.beq q.1 i && Nat.beq q.2.1 j) then some q.2.2 else lkR L i j
def lkI : List (Nat × Nat × Int32) → Nat → Nat → Int32
  | [], _, _ => 0
  | q :: L, i, j => bif (Nat.beq q.1 i && Nat.beq q.2.1 j) then q.2.2 else lkI L i j
def bOk (S : Nat × (Nat → Int32)) (B : Bld) (M : Mem) : Prop := mX M = true ∧ mK M = B.2.1.reverse ∧ (mK M).length = B.1 ∧ (∀ i j, mR M i j = lkR B.2.2.1 i j) ∧ (∀ i j, mI M i j = lkI B.2.2.2 i j) ∧ (∀ i j, B.1 ≤ i → lkR B.2.2.1 i j = none) ∧ (∀ i j, B.1 ≤ i → lkI B.2.2.2 i j = 0) ∧ mL M = (fun _ _ => 0) ∧ mD M = (fun _ _ => 0) ∧ mS M = S
def bN (B : Bld) (k : Knd) : Bld := (B.1 + 1, k :: B.2.1, B.2.2)
def bP (B : Bld) (m a r : Nat) : Bld := (B.1, B.2.1, (m, a, r) :: B.2.2.1, B.2.2.2)
def bJv (B : Bld) (m a : Nat) (v : Int32) : Bld := (B.1, B.2.1, B.2.2.1, (m, a, v) :: B.2.2.2)
def bC (B : Bld) (m a : Nat) (k : Knd) : Bld := bP (bN B k) m a B.1
def bO (f : Bld → Nat → Bld) (c m a : Nat) (B : Bld) : Bld := bP (f (bN B (.inr c)) B.1) m a B.1
def bOs (f : Bld → Nat → Bld) (c a : Nat) (B : Bld) : Nat → Bld
  | 0 => B
  | i + 1 => bO f c a i (bOs f c a B i)
theorem bk_len {B : Bld} {k : Knd} : (bN B k).1 = B.1 + 1 := rfl
theorem bq_and (a i b j : Nat) : (Nat.beq a i && Nat.beq b j) = true ↔ a = i ∧ b = j := by
  rw [Bool.and_eq_true]
  constructor
  · exact fun h => ⟨Nat.eq_of_beq_eq_true h.1, Nat.eq_of_beq_eq_true h.2⟩
  · rintro ⟨rfl, rfl⟩
    exact ⟨Nat.beq_refl _, Nat.beq_refl _⟩
section
variable {S : Nat × (Nat → Int32)} {B : Bld} {M : Mem} {m a : Nat} {k : Knd}
theorem bOk_len (h : bOk S B M) : (mK M).length = B.1 := h.2.2.1
theorem bOk_N (h : bOk S B M) : bOk S (bN B k) (nK M k) := by
  obtain ⟨h0, h1, h9, h2, h3, h4, h5, h6, h7, h8⟩ := h
  have hl : M.1.length = B.1 := h9
  refine ⟨h0, ?_, ?_, ?_, ?_, ?_, ?_, ?_, ?_, h8⟩
  · show M.1 ++ [k] = (k :: B.2.1).reverse
    rw [List.reverse_cons, show M.1 = B.2.1.reverse from h1]
  · show (M.1 ++ [k]).length = B.1 + 1
    rw [List.length_append, hl]; rfl
  · intro i j
    show fun_set (mR M) M.1.length (fun _ => none) i j = _
    unfold fun_set
    by_cases q : i = M.1.length
    · rw [if_pos q]; exact (h4 i j (by omega)).symm
    · rw [if_neg q]; exact h2 i j
  · intro i j
    show fun_set (mI M) M.1.length (fun _ => 0) i j = _
    unfold fun_set
    by_cases q : i = M.1.length
    · rw [if_pos q]; exact (h5 i j (by omega)).symm
    · rw [if_neg q]; exact h3 i j
  · intro i j hi
    rw [bk_len] at hi
    exact h4 i j (by omega)
  · intro i j hi
    rw [bk_len] at hi
    exact h5 i j (by omega)
  · show fun_set (mL M) M.1.length (fun _ => 0) = _
    rw [h6]
    funext i j
    unfold fun_set
    by_cases q : i = M.1.length
    · rw [if_pos q]
    · rw [if_neg q]
  · show fun_set (mD M) M.1.length (fun _ => 0) = _
    rw [h7]
    funext i j
    unfold fun_set
    by_cases q : i = M.1.length
    · rw [if_pos q]
    · rw [if_neg q]
theorem bOk_P {r : Nat} (h : bOk S B M) (hm : m < B.1) : bOk S (bP B m a r) (pR M m a r) := by
  obtain ⟨h0, h1, h9, h2, h3, h4, h5, h6, h7, h8⟩ := h
  refine ⟨h0, h1, h9, ?_, h3, ?_, h5, h6, h7, h8⟩
  · intro i j
    show fun_set (mR M) m (fun_set (mR M m) a (some r)) i j = bif (Nat.beq m i && Nat.beq a j) then some r else lkR B.2.2.1 i j
    unfold fun_set
    by_cases q : m = i ∧ a = j
    · rw [(bq_and m i a j).mpr q, if_pos q.1.symm, if_pos q.2.symm]; rfl
    · rw [show (Nat.beq m i && Nat.beq a j) = false from Bool.eq_false_iff.mpr (fun h => q ((bq_and m i a j).mp h))]
      show _ = lkR B.2.2.1 i j
      rw [← h2 i j]
      by_cases q1 : i = m
      · rw [if_pos q1]
        by_cases q2 : j = a
        · exact absurd ⟨q1.symm, q2.symm⟩ q
        · rw [if_neg q2, q1]
      · rw [if_neg q1]
  · intro i j hi
    show (bif (Nat.beq m i && Nat.beq a j) then some r else lkR B.2.2.1 i j) = none
    have hi2 : B.1 ≤ i := hi
    have e9 : (Nat.beq m i && Nat.beq a j) = false := Bool.eq_false_iff.mpr (fun h => by have := ((bq_and m i a j).mp h).1; omega)
    rw [e9]
    exact h4 i j hi
theorem bOk_I {v : Int32} (h : bOk S B M) (hm : m < B.1) : bOk S (bJv B m a v) (pI M m a v) := by
  obtain ⟨h0, h1, h9, h2, h3, h4, h5, h6, h7, h8⟩ := h
  refine ⟨h0, h1, h9, h2, ?_, h4, ?_, h6, h7, h8⟩
  · intro i j
    show fun_set (mI M) m (fun_set (mI M m) a v) i j = bif (Nat.beq m i && Nat.beq a j) then v else lkI B.2.2.2 i j
    unfold fun_set
    by_cases q : m = i ∧ a = j
    · rw [(bq_and m i a j).mpr q, if_pos q.1.symm, if_pos q.2.symm]; rfl
    · rw [show (Nat.beq m i && Nat.beq a j) = false from Bool.eq_false_iff.mpr (fun h => q ((bq_and m i a j).mp h))]
      show _ = lkI B.2.2.2 i j
      rw [← h3 i j]
      by_cases q1 : i = m
      · rw [if_pos q1]
        by_cases q2 : j = a
        · exact absurd ⟨q1.symm, q2.symm⟩ q
        · rw [if_neg q2, q1]
      · rw [if_neg q1]
  · intro i j hi
    show (bif (Nat.beq m i && Nat.beq a j) then v else lkI B.2.2.2 i j) = 0
    have hi2 : B.1 ≤ i := hi
    have e9 : (Nat.beq m i && Nat.beq a j) = false := Bool.eq_false_iff.mpr (fun h => by have := ((bq_and m i a j).mp h).1; omega)
    rw [e9]
    exact h5 i j hi
theorem bOk_C (h : bOk S B M) (hm : m < B.1) : bOk S (bC B m a k) (cR M m a k) := by
  unfold bC cR
  rw [bOk_len h]
  exact bOk_P (bOk_N h) (by rw [bk_len]; omega)
def fOk (f : Mem → Nat → Mem) (g : Bld → Nat → Bld) : Prop := ∀ (S : Nat × (Nat → Int32)) (B : Bld) (M : Mem) (m : Nat), bOk S B M → m < B.1 → bOk S (g B m) (f M m) ∧ B.1 ≤ (g B m).1
theorem bC_len : (bC B m a k).1 = B.1 + 1 := rfl
theorem bOk_O {f : Mem → Nat → Mem} {g : Bld → Nat → Bld} {c : Nat} (hf : fOk f g) (h : bOk S B M) (hm : m < B.1) : bOk S (bO g c m a B) (nO f c m a M) ∧ B.1 ≤ (bO g c m a B).1 := by
  unfold bO nO
  rw [bOk_len h]
  have h1 := bOk_N (k := .inr c) h
  have hl := bk_len (B := B) (k := .inr c)
  have h2 := hf _ _ _ B.1 h1 (by rw [hl]; omega)
  exact ⟨bOk_P h2.1 (by omega), by show B.1 ≤ (g (bN B (.inr c)) B.1).1; omega⟩
theorem bOk_Os {f : Mem → Nat → Mem} {g : Bld → Nat → Bld} {c : Nat} (hf : fOk f g) (h : bOk S B M) (hm : a < B.1) : ∀ i, bOk S (bOs g c a B i) (nOs f c a M i) ∧ B.1 ≤ (bOs g c a B i).1
  | 0 => by rw [nOs.eq_1]; exact ⟨h, Nat.le_refl _⟩
  | i + 1 => by
    have ih := bOk_Os (c := c) hf h hm i
    rw [nOs.eq_2]
    have h2 := bOk_O (c := c) (a := i) hf ih.1 (show a < _ by omega)
    exact ⟨h2.1, Nat.le_trans ih.2 h2.2⟩
end
def X2b (B : Bld) (m : Nat) : Bld := bC B m 0 (kI 32)
def X0b (B : Bld) (m : Nat) : Bld := bC B m 0 (kI 32)
def X4b (B : Bld) (m : Nat) : Bld := bC B m 0 (kI 600)
def X1b (B : Bld) (m : Nat) : Bld := bC (bC (bC B m 0 (kI 32)) m 1 (kI 32)) m 2 (kI 32)
def X3b (B : Bld) (m : Nat) : Bld := bC (bC (bC B m 0 (kI 256)) m 1 (kI 32)) m 2 (kI 32)
def X5b (B : Bld) (m : Nat) : Bld := bJv (bJv (bOs X2b 2 B.1 (bC B m 0 (.inl (.object kMx, 6))) 6) m 1 8) m 2 4
theorem X2_b : fOk X2M X2b := fun S B M m h hm => ⟨bOk_C h hm, by unfold X2b; rw [bC_len]; omega⟩
theorem X0_b : fOk X0M X0b := fun S B M m h hm => ⟨bOk_C h hm, by unfold X0b; rw [bC_len]; omega⟩
theorem X4_b : fOk X4M X4b := fun S B M m h hm => ⟨bOk_C h hm, by unfold X4b; rw [bC_len]; omega⟩
theorem X1_b : fOk X1M X1b := fun S B M m h hm => ⟨bOk_C (bOk_C (bOk_C h hm) (by rw [bC_len]; omega)) (by rw [bC_len, bC_len]; omega), by unfold X1b; rw [bC_len, bC_len, bC_len]; omega⟩
theorem X3_b : fOk X3M X3b := fun S B M m h hm => ⟨bOk_C (bOk_C (bOk_C h hm) (by rw [bC_len]; omega)) (by rw [bC_len, bC_len]; omega), by unfold X3b; rw [bC_len, bC_len, bC_len]; omega⟩
theorem X5_b : fOk X5M X5b := fun S B M m h hm => by
  have h1 := bOk_C (a := 0) (k := .inl (.object kMx, 6)) h hm
  have hl := bC_len (B := B) (m := m) (a := 0) (k := .inl (.object kMx, 6))
  have h2 := bOk_Os (c := 2) (a := B.1) X2_b h1 (by omega) 6
  unfold X5M X5b
  rw [bOk_len h]
  refine ⟨bOk_I (bOk_I h2.1 (by omega)) ?_, ?_⟩
  · show m < (bOs X2b 2 B.1 (bC B m 0 (.inl (.object kMx, 6))) 6).1
    omega
  · show B.1 ≤ (bOs X2b 2 B.1 (bC B m 0 (.inl (.object kMx, 6))) 6).1
    omega
def Q3b (B : Bld) (m : Nat) : Bld := bO X5b 5 m 2 (bO X5b 5 m 1 (bO X4b 4 m 0 B))
def Q4b (B : Bld) (m : Nat) : Bld := bC (Q3b B m) m 3 (.inl (.object kSt, 8))
def Q5b (B : Bld) (m : Nat) : Bld := bOs X5b 5 (Q3b B m).1 (Q4b B m) 8
def Q7b (B : Bld) (m : Nat) : Bld := bOs X5b 5 B.1 (bC B m 6 (.inl (.object kSt, 2))) 2
def Q9b (B : Bld) (m : Nat) : Bld := bOs X0b 0 (bC B m 7 (.inl (.boolean, 2))).1 (bC (bC B m 7 (.inl (.boolean, 2))) m 8 (.inl (.object kCl, 6))) 6
def Qzb (B : Bld) (m : Nat) : Bld := bC (bC (bC (bO X1b 1 m 10 (bO X3b 3 m 9 B)) m 11 (kI 32)) m 12 (kI 32)) m 13 (kI 32)
def X6b (B : Bld) (m : Nat) : Bld := Qzb (Q9b (Q7b (Q5b B m) m) m) m
section
variable {S : Nat × (Nat → Int32)} {B : Bld} {M : Mem} {m : Nat}
theorem Q5_b (h : bOk S B M) (hm : m < B.1) : bOk S (Q5b B m) (Q5M M m) ∧ m < (Q5b B m).1 := by
  have h1 := bOk_O (c := 4) (a := 0) X4_b h hm
  have h2 := bOk_O (c := 5) (a := 1) X5_b h1.1 (show m < _ by omega)
  have h3 := bOk_O (c := 5) (a := 2) X5_b h2.1 (show m < _ by omega)
  have h3a : bOk S (Q3b B m) (nO X5M 5 m 2 (nO X5M 5 m 1 (nO X4M 4 m 0 M))) := h3.1
  have hm3 : m < (Q3b B m).1 := by unfold Q3b; omega
  have h4 : bOk S (Q4b B m) (Q4M M m) := bOk_C h3a hm3
  have hl : (Q4b B m).1 = (Q3b B m).1 + 1 := bC_len
  unfold Q5b Q5M
  rw [bOk_len h3a]
  have h5 := bOk_Os (c := 5) (a := (Q3b B m).1) X5_b h4 (by omega) 8
  exact ⟨h5.1, by omega⟩
theorem Q7_b (h : bOk S B M) (hm : m < B.1) : bOk S (Q7b B m) (Q7M M m) ∧ m < (Q7b B m).1 := by
  have h4 := bOk_C (a := 6) (k := .inl (.object kSt, 2)) h hm
  have hl := bC_len (B := B) (m := m) (a := 6) (k := .inl (.object kSt, 2))
  unfold Q7b Q7M
  rw [bOk_len h]
  have h5 := bOk_Os (c := 5) (a := B.1) X5_b h4 (by omega) 2
  exact ⟨h5.1, by omega⟩
theorem Q9_b (h : bOk S B M) (hm : m < B.1) : bOk S (Q9b B m) (Q9M M m) ∧ m < (Q9b B m).1 := by
  have h3 := bOk_C (a := 7) (k := .inl (.boolean, 2)) h hm
  have hl3 := bC_len (B := B) (m := m) (a := 7) (k := .inl (.boolean, 2))
  have h4 := bOk_C (m := m) (a := 8) (k := .inl (.object kCl, 6)) h3 (by omega)
  have hl := bC_len (B := bC B m 7 (.inl (.boolean, 2))) (m := m) (a := 8) (k := .inl (.object kCl, 6))
  unfold Q9b Q9M
  rw [bOk_len h3]
  have h5 := bOk_Os (c := 0) (a := (bC B m 7 (.inl (.boolean, 2))).1) X0_b h4 (by omega) 6
  exact ⟨h5.1, by omega⟩
theorem Qz_b (h : bOk S B M) (hm : m < B.1) : bOk S (Qzb B m) (QzM M m) ∧ m < (Qzb B m).1 := by
  have h1 := bOk_O (c := 3) (a := 9) X3_b h hm
  have h2 := bOk_O (c := 1) (a := 10) X1_b h1.1 (show m < _ by omega)
  have h3 := bOk_C (m := m) (a := 11) (k := kI 32) h2.1 (by omega)
  have l3 := bC_len (B := bO X1b 1 m 10 (bO X3b 3 m 9 B)) (m := m) (a := 11) (k := kI 32)
  have h4 := bOk_C (m := m) (a := 12) (k := kI 32) h3 (by omega)
  have l4 := bC_len (B := bC (bO X1b 1 m 10 (bO X3b 3 m 9 B)) m 11 (kI 32)) (m := m) (a := 12) (k := kI 32)
  have h5 := bOk_C (m := m) (a := 13) (k := kI 32) h4 (by omega)
  have l5 := bC_len (B := bC (bC (bO X1b 1 m 10 (bO X3b 3 m 9 B)) m 11 (kI 32)) m 12 (kI 32)) (m := m) (a := 13) (k := kI 32)
  exact ⟨h5, by unfold Qzb; omega⟩
theorem X6_b (h : bOk S B M) (hm : m < B.1) : bOk S (X6b B m) (X6M M m) := by
  have h1 := Q5_b h hm
  have h2 := Q7_b h1.1 h1.2
  have h3 := Q9_b h2.1 h2.2
  exact (Qz_b h3.1 h3.2).1
end
def R1b (B : Bld) (m : Nat) : Bld := bC (bC (bC (bC B m 0 (kL 220)) m 1 (kL 220)) m 2 (kL 1760)) m 3 (kL 440)
def R2b (B : Bld) (m : Nat) : Bld := bJv (bC (bC B m 4 (.inl (.boolean, 2))) m 7 (.inl (.byte, 600))) m 15 (-1)
def R3b (B : Bld) (m : Nat) : Bld := bC (bC (bC (bC B m 16 (kL 32)) m 17 (kL 32)) m 18 (kL 32)) m 19 (kI 32)
def R4b (B : Bld) (m : Nat) : Bld := bC (bC (bC B m 20 (kL 32)) m 21 (kI 32)) m 23 (.inl (.byte, 32))
def R0b (B : Bld) (m : Nat) : Bld := R4b (R3b (R2b (R1b B m) m) m) m
section
variable {S : Nat × (Nat → Int32)} {B : Bld} {M : Mem} {m : Nat}
theorem bOk_C' {a : Nat} {k : Knd} (h : bOk S B M ∧ m < B.1) : bOk S (bC B m a k) (cR M m a k) ∧ m < (bC B m a k).1 := ⟨bOk_C h.1 h.2, by rw [bC_len]; have := h.2; omega⟩
theorem bOk_I' {a : Nat} {v : Int32} (h : bOk S B M ∧ m < B.1) : bOk S (bJv B m a v) (pI M m a v) ∧ m < (bJv B m a v).1 := ⟨bOk_I h.1 h.2, h.2⟩
theorem R0_b (h : bOk S B M) (hm : m < B.1) : bOk S (R0b B m) (R0M M m) :=
  (bOk_C' (bOk_C' (bOk_C' (bOk_C' (bOk_C' (bOk_C' (bOk_C' (bOk_I' (bOk_C' (bOk_C' (bOk_C' (bOk_C' (bOk_C' (bOk_C' ⟨h, hm⟩)))))))))))))).1
end
/-- a run's first memory: nothing but the script -/
def M00 (L : Nat) (xs : Nat → Int32) : Mem := ([], true, fun _ _ => 0, fun _ _ => 0, fun _ _ => none, fun _ _ => 0, (L, xs))
def B00 : Bld := (0, [], [], [])
def BMd : Bld := R0b (bN (X6b (bN B00 (.inr 6)) 0) (.inr 7)) 198
def FI : List (Nat × Nat × Int32) := (198, 15, -1) :: ([159, 145, 130, 116, 102, 88, 74, 60, 46, 32, 17, 3].flatMap fun b => [(b, 2, 4), (b, 1, 8)])
theorem bOk_00 (L : Nat) (xs : Nat → Int32) : bOk (L, xs) B00 (M00 L xs) := ⟨rfl, rfl, rfl, fun _ _ => rfl, fun _ _ => rfl, fun _ _ _ => rfl, fun _ _ _ => rfl, rfl, rfl, rfl⟩
end
-- 331.made
section
/-! what is made, checked -/
set_option maxRecDepth 20000 in
theorem BMd_K : BMd.2.1 = (layC ++ layM).reverse := by decide +kernel
set_option maxRecDepth 20000 in
theorem BMd_I : BMd.2.2.2 = FI := by decide +kernel
set_option maxRecDepth 20000 in
theorem BMd_N : BMd.1 = 212 := by decide +kernel
def FR : List (Nat × Nat × Nat) := [(198, 23, 211), (198, 21, 210), (198, 20, 209), (198, 19, 208), (198, 18, 207), (198, 17, 206), (198, 16, 205), (198, 7, 204), (198, 4, 203), (198, 3, 202), (198, 2, 201), (198, 1, 200), (198, 0, 199), (0, 13, 197), (0, 12, 196), (0, 11, 195), (0, 10, 191), (191, 2, 194), (191, 1, 193), (191, 0, 192), (0, 9, 187), (187, 2, 190), (187, 1, 189), (187, 0, 188), (174, 5, 185), (185, 0, 186), (174, 4, 183), (183, 0, 184), (174, 3, 181), (181, 0, 182), (174, 2, 179), (179, 0, 180), (174, 1, 177), (177, 0, 178), (174, 0, 175), (175, 0, 176), (0, 8, 174), (0, 7, 173), (144, 1, 159), (160, 5, 171), (171, 0, 172), (160, 4, 169), (169, 0, 170), (160, 3, 167), (167, 0, 168), (160, 2, 165), (165, 0, 166), (160, 1, 163), (163, 0, 164), (160, 0, 161), (161, 0, 162), (159, 0, 160), (144, 0, 145), (146, 5, 157), (157, 0, 158), (146, 4, 155), (155, 0, 156), (146, 3, 153), (153, 0, 154), (146, 2, 151), (151, 0, 152), (146, 1, 149), (149, 0, 150), (146, 0, 147), (147, 0, 148), (145, 0, 146), (0, 6, 144), (31, 7, 130), (131, 5, 142), (142, 0, 143), (131, 4, 140), (140, 0, 141), (131, 3, 138), (138, 0, 139), (131, 2, 136), (136, 0, 137), (131, 1, 134), (134, 0, 135), (131, 0, 132), (132, 0, 133), (130, 0, 131), (31, 6, 116), (117, 5, 128), (128, 0, 129), (117, 4, 126), (126, 0, 127), (117, 3, 124), (124, 0, 125), (117, 2, 122), (122, 0, 123), (117, 1, 120), (120, 0, 121), (117, 0, 118), (118, 0, 119), (116, 0, 117), (31, 5, 102), (103, 5, 114), (114, 0, 115), (103, 4, 112), (112, 0, 113), (103, 3, 110), (110, 0, 111), (103, 2, 108), (108, 0, 109), (103, 1, 106), (106, 0, 107), (103, 0, 104), (104, 0, 105), (102, 0, 103), (31, 4, 88), (89, 5, 100), (100, 0, 101), (89, 4, 98), (98, 0, 99), (89, 3, 96), (96, 0, 97), (89, 2, 94), (94, 0, 95), (89, 1, 92), (92, 0, 93), (89, 0, 90), (90, 0, 91), (88, 0, 89), (31, 3, 74), (75, 5, 86), (86, 0, 87), (75, 4, 84), (84, 0, 85), (75, 3, 82), (82, 0, 83), (75, 2, 80), (80, 0, 81), (75, 1, 78), (78, 0, 79), (75, 0, 76), (76, 0, 77), (74, 0, 75), (31, 2, 60), (61, 5, 72), (72, 0, 73), (61, 4, 70), (70, 0, 71), (61, 3, 68), (68, 0, 69), (61, 2, 66), (66, 0, 67), (61, 1, 64), (64, 0, 65), (61, 0, 62), (62, 0, 63), (60, 0, 61), (31, 1, 46), (47, 5, 58), (58, 0, 59), (47, 4, 56), (56, 0, 57), (47, 3, 54), (54, 0, 55), (47, 2, 52), (52, 0, 53), (47, 1, 50), (50, 0, 51), (47, 0, 48), (48, 0, 49), (46, 0, 47), (31, 0, 32), (33, 5, 44), (44, 0, 45), (33, 4, 42), (42, 0, 43), (33, 3, 40), (40, 0, 41), (33, 2, 38), (38, 0, 39), (33, 1, 36), (36, 0, 37), (33, 0, 34), (34, 0, 35), (32, 0, 33), (0, 3, 31), (0, 2, 17), (18, 5, 29), (29, 0, 30), (18, 4, 27), (27, 0, 28), (18, 3, 25), (25, 0, 26), (18, 2, 23), (23, 0, 24), (18, 1, 21), (21, 0, 22), (18, 0, 19), (19, 0, 20), (17, 0, 18), (0, 1, 3), (4, 5, 15), (15, 0, 16), (4, 4, 13), (13, 0, 14), (4, 3, 11), (11, 0, 12), (4, 2, 9), (9, 0, 10), (4, 1, 7), (7, 0, 8), (4, 0, 5), (5, 0, 6), (3, 0, 4), (0, 0, 1), (1, 0, 2)]
set_option maxRecDepth 20000 in
theorem BMd_R : BMd.2.2.1 = FR := by decide +kernel
end
-- 332.made
section
/-! the shape of what is made -/
theorem refSt_j {b i j : Nat} (h : 25 ≤ j) : refSt b i j = none := by
  unfold refSt
  by_cases h0 : i = b
  · rw [if_pos h0, if_neg (by omega)]
  rw [if_neg h0]
  by_cases h1 : i = b + 1
  · rw [if_pos h1, if_neg (by omega)]
  rw [if_neg h1, if_neg (by omega)]
theorem getD_j {L : List (Option Nat)} {j : Nat} (h : L.length ≤ j) : L.getD j none = none := by
  rw [List.getD_eq_getElem?_getD, List.getElem?_eq_none h]; rfl
theorem ref0_j {j : Nat} (h : 25 ≤ j) : ref0 j = none := getD_j (Nat.le_trans (by decide) h)
theorem ref198_j {j : Nat} (h : 25 ≤ j) : ref198 j = none := getD_j (Nat.le_trans (by decide) h)
theorem REFT_j {i j : Nat} (h : 25 ≤ j) : REFT i j = none := by
  unfold REFT
  by_cases h0 : i = 0
  · rw [if_pos h0]; exact ref0_j h
  rw [if_neg h0]
  by_cases h1 : i = 1
  · rw [if_pos h1]; exact if_neg (by omega)
  rw [if_neg h1]
  by_cases h2 : i < 17
  · rw [if_pos h2]; exact refSt_j h
  rw [if_neg h2]
  by_cases h3 : i < 31
  · rw [if_pos h3]; exact refSt_j h
  rw [if_neg h3]
  by_cases h4 : i = 31
  · rw [if_pos h4]; exact if_neg (by omega)
  rw [if_neg h4]
  by_cases h5 : i < 144
  · rw [if_pos h5]; exact refSt_j h
  rw [if_neg h5]
  by_cases h6 : i = 144
  · rw [if_pos h6]; exact if_neg (by omega)
  rw [if_neg h6]
  by_cases h7 : i < 159
  · rw [if_pos h7]; exact refSt_j h
  rw [if_neg h7]
  by_cases h8 : i < 173
  · rw [if_pos h8]; exact refSt_j h
  rw [if_neg h8]
  by_cases h9 : i = 174
  · rw [if_pos h9]; exact if_neg (by omega)
  rw [if_neg h9]
  by_cases h10 : i < 175
  · rw [if_pos h10]
  rw [if_neg h10]
  by_cases h11 : i < 187
  · rw [if_pos h11]; exact if_neg (by omega)
  rw [if_neg h11]
  by_cases h12 : i = 187
  · rw [if_pos h12]; exact if_neg (by omega)
  rw [if_neg h12]
  by_cases h13 : i = 191
  · rw [if_pos h13]; exact if_neg (by omega)
  rw [if_neg h13]
  by_cases h14 : i = 198
  · rw [if_pos h14]; exact ref198_j h
  rw [if_neg h14]
theorem REFT_i {i j : Nat} (h : 214 ≤ i) : REFT i j = none := by
  unfold REFT
  rw [if_neg (show ¬ i = 0 by omega), if_neg (show ¬ i = 1 by omega), if_neg (show ¬ i < 17 by omega), if_neg (show ¬ i < 31 by omega), if_neg (show ¬ i = 31 by omega), if_neg (show ¬ i < 144 by omega), if_neg (show ¬ i = 144 by omega), if_neg (show ¬ i < 159 by omega), if_neg (show ¬ i < 173 by omega), if_neg (show ¬ i = 174 by omega), if_neg (show ¬ i < 175 by omega), if_neg (show ¬ i < 187 by omega), if_neg (show ¬ i = 187 by omega), if_neg (show ¬ i = 191 by omega), if_neg (show ¬ i = 198 by omega)]
theorem REFT_b {i j r : Nat} (h : REFT i j = some r) : i < 214 ∧ j < 25 := by
  constructor
  · rcases Nat.lt_or_ge i 214 with q | q
    · exact q
    · rw [REFT_i q] at h; cases h
  · rcases Nat.lt_or_ge j 25 with q | q
    · exact q
    · rw [REFT_j q] at h; cases h
def chkO : Option Nat → Option Nat → Bool
  | none, _ => true
  | some _, none => false
  | some r, some q => Nat.beq r q
def allB (f : Nat → Bool) : Nat → Bool
  | 0 => true
  | n + 1 => allB f n && f n
def chkI (i : Nat) : Bool := allB (fun j => chkO (REFT i j) (lkR FR i j)) 25
theorem recB {f : Nat → Bool} : ∀ {n : Nat}, allB f n = true → ∀ i, i < n → f i = true
  | 0, _, i, hi => absurd hi (by omega)
  | n + 1, h, i, hi => by
    rw [allB.eq_2, Bool.and_eq_true] at h
    rcases Nat.lt_or_ge i n with q | q
    · exact recB h.1 i q
    · rw [show i = n by omega]; exact h.2
set_option maxRecDepth 20000 in
theorem chkR_ok : allB chkI 214 = true := by decide +kernel
theorem FR_ok {i j r : Nat} (h : REFT i j = some r) : lkR FR i j = some r := by
  obtain ⟨h1, h2⟩ := REFT_b h
  have h3 : chkO (REFT i j) (lkR FR i j) = true := recB (f := fun j => chkO (REFT i j) (lkR FR i j)) (n := 25) (recB (f := chkI) (n := 214) chkR_ok i h1) j h2
  rw [h] at h3
  generalize lkR FR i j = y at *
  cases y with
  | none => cases h3
  | some q => rw [Nat.eq_of_beq_eq_true (show Nat.beq r q = true from h3)]
end
-- 333.made
section
/-! the first memory -/
/-- the memory when all is made -/
def M0 (L : Nat) (xs : Nat → Int32) : Mem := nK (nK (X7M (nK (X6M (nK (M00 L xs) (.inr 6)) 0) (.inr 7)) 198) (kL 1)) (.inl (.double, 1))
set_option maxRecDepth 20000 in
theorem lenX6 : (X6b (bN B00 (.inr 6)) 0).1 = 198 := by decide +kernel
theorem madeX (L : Nat) (xs : Nat → Int32) : bOk (L, xs) (X6b (bN B00 (.inr 6)) 0) (X6M (nK (M00 L xs) (.inr 6)) 0) := X6_b (m := 0) (bOk_N (k := .inr 6) (bOk_00 L xs)) (Nat.lt_succ_self 0)
theorem made (L : Nat) (xs : Nat → Int32) : bOk (L, xs) BMd (R0M (nK (X6M (nK (M00 L xs) (.inr 6)) 0) (.inr 7)) 198) := by
  have h2 := madeX L xs
  have hl := lenX6
  have hB : BMd = R0b (bN (X6b (bN B00 (.inr 6)) 0) (.inr 7)) 198 := rfl
  rw [hB]
  generalize X6b (bN B00 (.inr 6)) 0 = X at *
  generalize X6M (nK (M00 L xs) (.inr 6)) 0 = Y at *
  exact R0_b (bOk_N h2) (by show 198 < X.1 + 1; omega)
/-- a new desk and a new reference -/
def Frs (M : Mem) : Prop := Shp M ∧ (∀ i j, mI M i j = lkI FI i j) ∧ mL M = fun_set (fun _ _ => 0) 199 (bgF (fun _ => 0) 8) ∧ mD M = fun _ _ => 0
theorem lenM (L : Nat) (xs : Nat → Int32) : (mK (nK (X6M (nK (M00 L xs) (.inr 6)) 0) (.inr 7))).length = 199 := by
  have h2 := madeX L xs
  have hl := lenX6
  generalize X6b (bN B00 (.inr 6)) 0 = X at *
  generalize X6M (nK (M00 L xs) (.inr 6)) 0 = Y at *
  have h3 := bOk_len (bOk_N (k := .inr 7) h2)
  rw [h3]
  show X.1 + 1 = 199
  rw [hl]
theorem M0_f (L : Nat) (xs : Nat → Int32) : Frs (sX (M0 L xs)) ∧ mS (sX (M0 L xs)) = (L, xs) := by
  obtain ⟨h0, h1, -, h2, h3, h4, h5, h6, h7, h8⟩ := made L xs
  have hl := lenM L xs
  have e1 := BMd_K
  have e2 := BMd_R
  have e3 := BMd_I
  have hBl := BMd_N
  generalize BMd = B at *
  rw [e1, List.reverse_reverse] at h1
  rw [hBl] at h4 h5
  rw [e2] at h2 h4
  rw [e3] at h3 h5
  clear e1 e2 e3 hBl
  obtain ⟨P0, hP0⟩ : ∃ P0, P0 = nK (X6M (nK (M00 L xs) (.inr 6)) 0) (.inr 7) := ⟨_, rfl⟩
  unfold M0 X7M
  rw [← hP0] at h0 h1 h2 h3 h6 h7 h8 hl ⊢
  clear hP0
  rw [hl]
  generalize R0M P0 198 = P at *
  have hp : P.1.length = 212 := by rw [show P.1 = layC ++ layM from h1]; rfl
  have hp2 : (P.1 ++ [kL 1]).length = 213 := by rw [List.length_append, hp]; rfl
  refine ⟨⟨⟨?_, rfl, ?_⟩, ?_, ?_, ?_⟩, h8⟩
  · show P.1 ++ [kL 1] ++ [.inl (.double, 1)] = layC ++ layM ++ layO
    rw [show P.1 = layC ++ layM from h1, List.append_assoc]; rfl
  · intro i j r h
    have h9 := FR_ok h
    show fun_set (fun_set (mR P) P.1.length (fun _ => none)) (P.1 ++ [kL 1]).length (fun _ => none) i j = some r
    rw [hp, hp2]
    unfold fun_set
    by_cases q1 : i = 213
    · rw [h4 i j (by omega)] at h9; cases h9
    · rw [if_neg q1]
      by_cases q2 : i = 212
      · rw [h4 i j (by omega)] at h9; cases h9
      · rw [if_neg q2, h2]; exact h9
  · intro i j
    show fun_set (fun_set (mI P) P.1.length (fun _ => 0)) (P.1 ++ [kL 1]).length (fun _ => 0) i j = _
    rw [hp, hp2]
    unfold fun_set
    by_cases q1 : i = 213
    · rw [if_pos q1]; exact (h5 i j (by omega)).symm
    · rw [if_neg q1]
      by_cases q2 : i = 212
      · rw [if_pos q2]; exact (h5 i j (by omega)).symm
      · rw [if_neg q2]; exact h3 i j
  · show fun_set (fun_set (fun_set (mL P) 199 (bgF (mL P 199) 8)) P.1.length (fun _ => 0)) (P.1 ++ [kL 1]).length (fun _ => 0) = _
    rw [hp, hp2, h6]
    funext i j
    unfold fun_set
    by_cases q1 : i = 213
    · rw [if_pos q1, if_neg (by omega)]
    · rw [if_neg q1]
      by_cases q2 : i = 212
      · rw [if_pos q2, if_neg (by omega)]
      · rw [if_neg q2]
  · show fun_set (fun_set (mD P) P.1.length (fun _ => 0)) (P.1 ++ [kL 1]).length (fun _ => 0) = _
    rw [h7]
    funext i j
    unfold fun_set
    by_cases q1 : i = (P.1 ++ [kL 1]).length
    · rw [if_pos q1]
    · rw [if_neg q1]
      by_cases q2 : i = P.1.length
      · rw [if_pos q2]
      · rw [if_neg q2]
end
-- 40.start
section
/-! the start: what the Statement gives, as Ctx has it -/
def fN : List Cond := flatC (Jvm.Cond.and given_1 narrow_1)
theorem fN_list {ws : List Cond} (ps : List Nat) (hp : ws = ps.filterMap (fun i => fN[i]?)) : ∀ w ∈ ws, w ∈ fN := by
  intro w hw
  rw [hp] at hw
  obtain ⟨i, -, hi⟩ := List.mem_filterMap.mp hw
  exact List.mem_of_getElem? hi
theorem tb_list {ws : List Cond} (ps : List Nat) (hp : ws = ps.filterMap (fun i => lw_tbl[i]?)) : ∀ w ∈ ws, w ∈ lw_tbl := by
  intro w hw
  rw [hp] at hw
  obtain ⟨i, -, hi⟩ := List.mem_filterMap.mp hw
  exact List.mem_of_getElem? hi
abbrev sTm (q : String × Nat × String × List Int32) : Term := .string q.1 q.2.1
abbrev sVl (q : String × Nat × String × List Int32) : Term := .field (sTm q) "java/lang/String" "value" "[B"
def sNd (q : String × Nat × String × List Int32) : List Cond := [.exactly (sTm q) "java/lang/String", .eq (.field (sTm q) "java/lang/String" "coder" "B") (.int 0), .arrayOf (sVl q) .byte, .eq (.length (sVl q)) (.int (Int32.ofNat q.2.2.2.length))] ++ (List.range q.2.2.2.length).map (fun j => .eq (.elem (sVl q) (.int (Int32.ofNat j))) (.int (q.2.2.2.getD j 0)))
set_option maxRecDepth 20000 in
theorem sN_0 : ∀ w ∈ sNd ("BitDesk$Reader", 65, "size", [115, 105, 122, 101]), w ∈ fN := fN_list [62, 63, 64, 65, 66, 67, 68, 69] (by decide +kernel)
theorem sR_0 : (Jvm.Cond.stringRef "BitDesk$Reader" (65 : Nat) "size") ∈ lw_tbl := List.mem_of_getElem? (i := 364) (by decide +kernel)
set_option maxRecDepth 20000 in
theorem sN_1 : ∀ w ∈ sNd ("BitDesk$Reader", 84, "edge", [101, 100, 103, 101]), w ∈ fN := fN_list [70, 71, 72, 73, 74, 75, 76, 77] (by decide +kernel)
theorem sR_1 : (Jvm.Cond.stringRef "BitDesk$Reader" (84 : Nat) "edge") ∈ lw_tbl := List.mem_of_getElem? (i := 452) (by decide +kernel)
set_option maxRecDepth 20000 in
theorem sN_2 : ∀ w ∈ sNd ("BitDesk$Reader", 89, "row", [114, 111, 119]), w ∈ fN := fN_list [79, 80, 81, 82, 83, 84, 85] (by decide +kernel)
theorem sR_2 : (Jvm.Cond.stringRef "BitDesk$Reader" (89 : Nat) "row") ∈ lw_tbl := List.mem_of_getElem? (i := 457) (by decide +kernel)
set_option maxRecDepth 20000 in
theorem sN_3 : ∀ w ∈ sNd ("BitDesk$Reader", 94, "fill", [102, 105, 108, 108]), w ∈ fN := fN_list [88, 89, 90, 91, 92, 93, 94, 95] (by decide +kernel)
theorem sR_3 : (Jvm.Cond.stringRef "BitDesk$Reader" (94 : Nat) "fill") ∈ lw_tbl := List.mem_of_getElem? (i := 466) (by decide +kernel)
set_option maxRecDepth 20000 in
theorem sN_4 : ∀ w ∈ sNd ("BitDesk$Reader", 122, "unit", [117, 110, 105, 116]), w ∈ fN := fN_list [99, 100, 101, 102, 103, 104, 105, 106] (by decide +kernel)
theorem sR_4 : (Jvm.Cond.stringRef "BitDesk$Reader" (122 : Nat) "unit") ∈ lw_tbl := List.mem_of_getElem? (i := 475) (by decide +kernel)
set_option maxRecDepth 20000 in
theorem sN_5 : ∀ w ∈ sNd ("BitDesk$Reader", 124, "ones", [111, 110, 101, 115]), w ∈ fN := fN_list [111, 112, 113, 114, 115, 116, 117, 118] (by decide +kernel)
theorem sR_5 : (Jvm.Cond.stringRef "BitDesk$Reader" (124 : Nat) "ones") ∈ lw_tbl := List.mem_of_getElem? (i := 476) (by decide +kernel)
set_option maxRecDepth 20000 in
theorem sN_6 : ∀ w ∈ sNd ("BitDesk$Reader", 129, "ring", [114, 105, 110, 103]), w ∈ fN := fN_list [124, 125, 126, 127, 128, 129, 130, 131] (by decide +kernel)
theorem sR_6 : (Jvm.Cond.stringRef "BitDesk$Reader" (129 : Nat) "ring") ∈ lw_tbl := List.mem_of_getElem? (i := 480) (by decide +kernel)
set_option maxRecDepth 20000 in
theorem sN_7 : ∀ w ∈ sNd ("BitDesk$Reader", 131, "lower", [108, 111, 119, 101, 114]), w ∈ fN := fN_list [138, 139, 140, 141, 142, 143, 144, 145, 146] (by decide +kernel)
theorem sR_7 : (Jvm.Cond.stringRef "BitDesk$Reader" (131 : Nat) "lower") ∈ lw_tbl := List.mem_of_getElem? (i := 481) (by decide +kernel)
set_option maxRecDepth 20000 in
theorem sN_8 : ∀ w ∈ sNd ("BitDesk$Reader", 99, "keep", [107, 101, 101, 112]), w ∈ fN := fN_list [154, 155, 156, 157, 158, 159, 160, 161] (by decide +kernel)
theorem sR_8 : (Jvm.Cond.stringRef "BitDesk$Reader" (99 : Nat) "keep") ∈ lw_tbl := List.mem_of_getElem? (i := 482) (by decide +kernel)
set_option maxRecDepth 20000 in
theorem sN_9 : ∀ w ∈ sNd ("BitDesk$Reader", 104, "block", [98, 108, 111, 99, 107]), w ∈ fN := fN_list [170, 171, 172, 173, 174, 175, 176, 177, 178] (by decide +kernel)
theorem sR_9 : (Jvm.Cond.stringRef "BitDesk$Reader" (104 : Nat) "block") ∈ lw_tbl := List.mem_of_getElem? (i := 487) (by decide +kernel)
set_option maxRecDepth 20000 in
theorem sN_10 : ∀ w ∈ sNd ("BitDesk", 333, "out of range", [111, 117, 116, 32, 111, 102, 32, 114, 97, 110, 103, 101]), w ∈ fN := fN_list [188, 189, 190, 191, 192, 193, 194, 195, 196, 197, 198, 199, 200, 201, 202, 203] (by decide +kernel)
theorem sR_10 : (Jvm.Cond.stringRef "BitDesk" (333 : Nat) "out of range") ∈ lw_tbl := List.mem_of_getElem? (i := 584) (by decide +kernel)
set_option maxRecDepth 20000 in
theorem sN_11 : ∀ w ∈ sNd ("BitDesk", 321, "no such slot", [110, 111, 32, 115, 117, 99, 104, 32, 115, 108, 111, 116]), w ∈ fN := fN_list [214, 215, 216, 217, 218, 219, 220, 221, 222, 223, 224, 225, 226, 227, 228, 229] (by decide +kernel)
theorem sR_11 : (Jvm.Cond.stringRef "BitDesk" (321 : Nat) "no such slot") ∈ lw_tbl := List.mem_of_getElem? (i := 643) (by decide +kernel)
set_option maxRecDepth 20000 in
theorem sN_12 : ∀ w ∈ sNd ("BitDesk", 326, "no such row, column or node", [110, 111, 32, 115, 117, 99, 104, 32, 114, 111, 119, 44, 32, 99, 111, 108, 117, 109, 110, 32, 111, 114, 32, 110, 111, 100, 101]), w ∈ fN := fN_list [241, 242, 243, 244, 245, 246, 247, 248, 249, 250, 251, 252, 253, 254, 255, 256, 257, 258, 259, 260, 261, 262, 263, 264, 265, 266, 267, 268, 269, 270, 271] (by decide +kernel)
theorem sR_12 : (Jvm.Cond.stringRef "BitDesk" (326 : Nat) "no such row, column or node") ∈ lw_tbl := List.mem_of_getElem? (i := 654) (by decide +kernel)
set_option maxRecDepth 20000 in
theorem sN_13 : ∀ w ∈ sNd ("BitDeskModel", 135, "size", [115, 105, 122, 101]), w ∈ fN := fN_list [284, 285, 286, 287, 288, 289, 290, 291] (by decide +kernel)
theorem sR_13 : (Jvm.Cond.stringRef "BitDeskModel" (135 : Nat) "size") ∈ lw_tbl := List.mem_of_getElem? (i := 1330) (by decide +kernel)
set_option maxRecDepth 20000 in
theorem sN_14 : ∀ w ∈ sNd ("BitDeskModel", 161, "edge", [101, 100, 103, 101]), w ∈ fN := fN_list [305, 306, 307, 308, 309, 310, 311, 312] (by decide +kernel)
theorem sR_14 : (Jvm.Cond.stringRef "BitDeskModel" (161 : Nat) "edge") ∈ lw_tbl := List.mem_of_getElem? (i := 1357) (by decide +kernel)
set_option maxRecDepth 20000 in
theorem sN_15 : ∀ w ∈ sNd ("BitDeskModel", 166, "row", [114, 111, 119]), w ∈ fN := fN_list [327, 328, 329, 330, 331, 332, 333] (by decide +kernel)
theorem sR_15 : (Jvm.Cond.stringRef "BitDeskModel" (166 : Nat) "row") ∈ lw_tbl := List.mem_of_getElem? (i := 1370) (by decide +kernel)
set_option maxRecDepth 20000 in
theorem sN_16 : ∀ w ∈ sNd ("BitDeskModel", 171, "fill", [102, 105, 108, 108]), w ∈ fN := fN_list [349, 350, 351, 352, 353, 354, 355, 356] (by decide +kernel)
theorem sR_16 : (Jvm.Cond.stringRef "BitDeskModel" (171 : Nat) "fill") ∈ lw_tbl := List.mem_of_getElem? (i := 1375) (by decide +kernel)
set_option maxRecDepth 20000 in
theorem sN_17 : ∀ w ∈ sNd ("BitDeskModel", 146, "unit", [117, 110, 105, 116]), w ∈ fN := fN_list [373, 374, 375, 376, 377, 378, 379, 380] (by decide +kernel)
theorem sR_17 : (Jvm.Cond.stringRef "BitDeskModel" (146 : Nat) "unit") ∈ lw_tbl := List.mem_of_getElem? (i := 1384) (by decide +kernel)
set_option maxRecDepth 20000 in
theorem sN_18 : ∀ w ∈ sNd ("BitDeskModel", 148, "ones", [111, 110, 101, 115]), w ∈ fN := fN_list [398, 399, 400, 401, 402, 403, 404, 405] (by decide +kernel)
theorem sR_18 : (Jvm.Cond.stringRef "BitDeskModel" (148 : Nat) "ones") ∈ lw_tbl := List.mem_of_getElem? (i := 1385) (by decide +kernel)
set_option maxRecDepth 20000 in
theorem sN_19 : ∀ w ∈ sNd ("BitDeskModel", 150, "ring", [114, 105, 110, 103]), w ∈ fN := fN_list [424, 425, 426, 427, 428, 429, 430, 431] (by decide +kernel)
theorem sR_19 : (Jvm.Cond.stringRef "BitDeskModel" (150 : Nat) "ring") ∈ lw_tbl := List.mem_of_getElem? (i := 1386) (by decide +kernel)
set_option maxRecDepth 20000 in
theorem sN_20 : ∀ w ∈ sNd ("BitDeskModel", 152, "lower", [108, 111, 119, 101, 114]), w ∈ fN := fN_list [451, 452, 453, 454, 455, 456, 457, 458, 459] (by decide +kernel)
theorem sR_20 : (Jvm.Cond.stringRef "BitDeskModel" (152 : Nat) "lower") ∈ lw_tbl := List.mem_of_getElem? (i := 1387) (by decide +kernel)
set_option maxRecDepth 20000 in
theorem sN_21 : ∀ w ∈ sNd ("BitDeskModel", 176, "keep", [107, 101, 101, 112]), w ∈ fN := fN_list [480, 481, 482, 483, 484, 485, 486, 487] (by decide +kernel)
theorem sR_21 : (Jvm.Cond.stringRef "BitDeskModel" (176 : Nat) "keep") ∈ lw_tbl := List.mem_of_getElem? (i := 1391) (by decide +kernel)
set_option maxRecDepth 20000 in
theorem sN_22 : ∀ w ∈ sNd ("BitDeskModel", 181, "block", [98, 108, 111, 99, 107]), w ∈ fN := fN_list [509, 510, 511, 512, 513, 514, 515, 516, 517] (by decide +kernel)
theorem sR_22 : (Jvm.Cond.stringRef "BitDeskModel" (181 : Nat) "block") ∈ lw_tbl := List.mem_of_getElem? (i := 1396) (by decide +kernel)
theorem sAll : ∀ (k : Nat) (q : String × Nat × String × List Int32), strT[k]? = some q → (∀ w ∈ sNd q, w ∈ fN) ∧ Cond.stringRef q.1 q.2.1 q.2.2.1 ∈ lw_tbl := by
  intro k q hq
  match k, hq with
  | 0, hq => exact (Option.some.inj (hq : some _ = some q)) ▸ ⟨sN_0, sR_0⟩
  | 1, hq => exact (Option.some.inj (hq : some _ = some q)) ▸ ⟨sN_1, sR_1⟩
  | 2, hq => exact (Option.some.inj (hq : some _ = some q)) ▸ ⟨sN_2, sR_2⟩
  | 3, hq => exact (Option.some.inj (hq : some _ = some q)) ▸ ⟨sN_3, sR_3⟩
  | 4, hq => exact (Option.some.inj (hq : some _ = some q)) ▸ ⟨sN_4, sR_4⟩
  | 5, hq => exact (Option.some.inj (hq : some _ = some q)) ▸ ⟨sN_5, sR_5⟩
  | 6, hq => exact (Option.some.inj (hq : some _ = some q)) ▸ ⟨sN_6, sR_6⟩
  | 7, hq => exact (Option.some.inj (hq : some _ = some q)) ▸ ⟨sN_7, sR_7⟩
  | 8, hq => exact (Option.some.inj (hq : some _ = some q)) ▸ ⟨sN_8, sR_8⟩
  | 9, hq => exact (Option.some.inj (hq : some _ = some q)) ▸ ⟨sN_9, sR_9⟩
  | 10, hq => exact (Option.some.inj (hq : some _ = some q)) ▸ ⟨sN_10, sR_10⟩
  | 11, hq => exact (Option.some.inj (hq : some _ = some q)) ▸ ⟨sN_11, sR_11⟩
  | 12, hq => exact (Option.some.inj (hq : some _ = some q)) ▸ ⟨sN_12, sR_12⟩
  | 13, hq => exact (Option.some.inj (hq : some _ = some q)) ▸ ⟨sN_13, sR_13⟩
  | 14, hq => exact (Option.some.inj (hq : some _ = some q)) ▸ ⟨sN_14, sR_14⟩
  | 15, hq => exact (Option.some.inj (hq : some _ = some q)) ▸ ⟨sN_15, sR_15⟩
  | 16, hq => exact (Option.some.inj (hq : some _ = some q)) ▸ ⟨sN_16, sR_16⟩
  | 17, hq => exact (Option.some.inj (hq : some _ = some q)) ▸ ⟨sN_17, sR_17⟩
  | 18, hq => exact (Option.some.inj (hq : some _ = some q)) ▸ ⟨sN_18, sR_18⟩
  | 19, hq => exact (Option.some.inj (hq : some _ = some q)) ▸ ⟨sN_19, sR_19⟩
  | 20, hq => exact (Option.some.inj (hq : some _ = some q)) ▸ ⟨sN_20, sR_20⟩
  | 21, hq => exact (Option.some.inj (hq : some _ = some q)) ▸ ⟨sN_21, sR_21⟩
  | 22, hq => exact (Option.some.inj (hq : some _ = some q)) ▸ ⟨sN_22, sR_22⟩
  | k + 23, hq => simp [strT] at hq
theorem vk_S1 {len : List Nat} {byt : List (List Int32)} {adK adV : Nat → Nat} {A : Nat → Prop} {U : State} {H : Heap} (h : vk_S 1 len byt adK adV A U H) : vk_S 1 len byt (fun _ => adK 0) (fun _ => adV 0) A U H :=
  ⟨fun i hi => by
    have e : i = 0 := by omega
    subst e
    exact h.1 0 hi, fun i j hi hj _ => by omega⟩
theorem cx_str {s : State} {a : Array Value} (hts : ∀ w ∈ lw_tbl, w.before a s = true) (hs : ∀ w ∈ fN, w.before a s = true) (A : Nat → Prop) (hA : ∀ a : Nat, a < s.heap.size → ¬ A a) (k : Nat) : ∃ p : Nat × Nat, ∀ q, strT[k]? = some q → vk_R q.1 q.2.1 q.2.2.1 p.1 s ∧ vk_S 1 [q.2.2.2.length] [q.2.2.2] (fun _ => p.1) (fun _ => p.2) A s s.heap := by
  cases hq : strT[k]? with
  | none => exact ⟨(0, 0), fun q h => by cases h⟩
  | some q =>
    obtain ⟨h1, h2⟩ := sAll k q hq
    have g0 := hs _ (h1 _ (List.mem_append_left _ (List.mem_of_getElem? (i := 0) rfl)))
    have g1 := hs _ (h1 _ (List.mem_append_left _ (List.mem_of_getElem? (i := 1) rfl)))
    have g2 := hs _ (h1 _ (List.mem_append_left _ (List.mem_of_getElem? (i := 2) rfl)))
    have g3 := hs _ (h1 _ (List.mem_append_left _ (List.mem_of_getElem? (i := 3) rfl)))
    have g4 : ∀ j, j < q.2.2.2.length → (Cond.eq (.elem (sVl q) (.int (Int32.ofNat j))) (.int (q.2.2.2.getD j 0))).before a s = true := fun j hj => hs _ (h1 _ (List.mem_append_right _ (List.mem_map.mpr ⟨j, List.mem_range.mpr hj, rfl⟩)))
    have hn : q.2.2.2.length < 2 ^ 31 := by
      have : ∀ x ∈ strT, x.2.2.2.length < 100 := by decide +kernel
      have := this q (List.mem_of_getElem? hq)
      omega
    obtain ⟨adK, adV, w1, w2⟩ := vk_Sof (args := a) (s := s) (N := 1) (tm := fun _ => sTm q) (len := [q.2.2.2.length]) (byt := [q.2.2.2]) (A := A)
      (fun i hi => by have e : i = 0 := by omega
                      subst e; exact hn)
      (fun i hi => g0) (fun i hi => g1) (fun i hi => g2)
      (fun i hi => by have e : i = 0 := by omega
                      subst e; exact g3)
      (fun i hi j hj => by have e : i = 0 := by omega
                           subst e; exact g4 j hj)
      (fun i j hi hj hij => by omega) hA
    refine ⟨(adK 0, adV 0), fun q' hq' => ?_⟩
    cases hq'
    exact ⟨vk_R.of (hts _ h2) (w2 0 (by decide)), vk_S1 w1⟩
set_option maxRecDepth 20000 in
theorem nwl_tb : ∀ w ∈ NWL, w ∈ lw_tbl := tb_list [134, 136, 138, 169, 170, 172, 173, 175, 177, 179, 192, 193, 195, 196, 197, 199, 200, 201, 203, 205, 226, 228, 248, 250, 276, 279, 477, 791, 825, 826, 917, 965, 1098, 1116] (by decide +kernel)
theorem cx_nwl {s : State} {a : Array Value} (hts : ∀ w ∈ lw_tbl, w.before a s = true) : ∀ w ∈ NWL, va_Nw w s := fun w hw => by
  have h0 := hts w (nwl_tb w hw)
  unfold NWL at hw
  rcases List.mem_append.mp hw with h | h
  · obtain ⟨q, -, rfl⟩ := List.mem_map.mp h
    exact va_Nw.of rfl h0
  · obtain ⟨q, -, rfl⟩ := List.mem_map.mp h
    exact va_Nw.of rfl h0
set_option maxRecDepth 20000 in
theorem dcl_tb : ∀ w ∈ xDcl.map Cond.declares, w ∈ lw_tbl := tb_list [548, 550, 552] (by decide +kernel)
theorem cx_prim {s : State} {a : Array Value} {ty : FieldType} (h : (Cond.arrayClass ty).before a s = true) (hp : ∀ cA, s.vm.findClass ("[" ++ ty.toString) = some cA → va_RA s cA ty) : ∃ cA, ArrOfT s cA ty ∧ va_RA s cA ty := by
  obtain ⟨c, k, comp, h1, h2, h3⟩ := Cond.arrayClass_spec h
  exact ⟨c, fun n z => ⟨fun k h => (by cases h), k, h2, comp, h3⟩, hp c h1⟩
theorem cx_obj {s : State} {a : Array Value} {C : String} (h : (Cond.arrayOver (.object C)).before a s = true) : ∃ cA, ArrOfT s cA (.object C) ∧ va_RA s cA (.object C) := by
  obtain ⟨comp, c, k, h1, -, h2, h3, h4⟩ := Cond.arrayOver_spec h
  exact ⟨c, fun n z => ⟨fun k h => (by cases h), k, h2, comp, h3⟩, k, comp, h2, h3, h1, h4⟩
theorem cx_arr {s : State} {a : Array Value} (hts : ∀ w ∈ lw_tbl, w.before a s = true) : ∃ gA : FieldType → ClassId, (ArrOfT s (gA .int) .int ∧ va_RA s (gA .int) .int) ∧ (ArrOfT s (gA .long) .long ∧ va_RA s (gA .long) .long) ∧ (ArrOfT s (gA .byte) .byte ∧ va_RA s (gA .byte) .byte) ∧ (ArrOfT s (gA .boolean) .boolean ∧ va_RA s (gA .boolean) .boolean) ∧ (ArrOfT s (gA .double) .double ∧ va_RA s (gA .double) .double) ∧ (ArrOfT s (gA (.object kSt)) (.object kSt) ∧ va_RA s (gA (.object kSt)) (.object kSt)) ∧ (ArrOfT s (gA (.object kMx)) (.object kMx) ∧ va_RA s (gA (.object kMx)) (.object kMx)) ∧ (ArrOfT s (gA (.object kCl)) (.object kCl) ∧ va_RA s (gA (.object kCl)) (.object kCl)) := by
  obtain ⟨a0, b0⟩ := cx_prim (ty := .int) (hts _ (List.mem_of_getElem? (i := 154) (by decide +kernel))) (fun _ h => h)
  obtain ⟨a1, b1⟩ := cx_prim (ty := .long) (hts _ (List.mem_of_getElem? (i := 1292) (by decide +kernel))) (fun _ h => h)
  obtain ⟨a2, b2⟩ := cx_prim (ty := .byte) (hts _ (List.mem_of_getElem? (i := 515) (by decide +kernel))) (fun _ h => h)
  obtain ⟨a3, b3⟩ := cx_prim (ty := .boolean) (hts _ (List.mem_of_getElem? (i := 234) (by decide +kernel))) (fun _ h => h)
  obtain ⟨a4, b4⟩ := cx_prim (ty := .double) (hts _ (List.mem_of_getElem? (i := 1784) (by decide +kernel))) (fun _ h => h)
  obtain ⟨a5, b5⟩ := cx_obj (C := kSt) (hts _ (List.mem_of_getElem? (i := 217) (by decide +kernel)))
  obtain ⟨a6, b6⟩ := cx_obj (C := kMx) (hts _ (List.mem_of_getElem? (i := 162) (by decide +kernel)))
  obtain ⟨a7, b7⟩ := cx_obj (C := kCl) (hts _ (List.mem_of_getElem? (i := 219) (by decide +kernel)))
  refine ⟨fun t => match t with
    | .int => a0
    | .long => a1
    | .byte => a2
    | .boolean => a3
    | .double => a4
    | .object C => if C = kSt then a5 else if C = kMx then a6 else a7
    | _ => 0, b0, b1, b2, b3, b4, ?_, ?_, ?_⟩
  · dsimp only; rw [if_pos rfl]; exact b5
  · dsimp only; rw [if_neg (by decide), if_pos rfl]; exact b6
  · dsimp only; rw [if_neg (by decide), if_neg (by decide)]; exact b7
theorem cx_cls {s : State} {a : Array Value} (hts : ∀ w ∈ lw_tbl, w.before a s = true) : ∃ D : va_G, ∀ (c : Nat) (q : vw_C), vwCl[c]? = some q → u_Kn s q.1 q.2.1 q.2.2 (D.1 c) (D.2 c) := by
  obtain ⟨c0, i0, k0⟩ := u_known (C := RX0) (T := TX0) (N := 2) (n := 2) hts (fun w hw => (List.mem_filter.mp (inW0 w hw)).1) (hts _ (List.mem_of_getElem? (i := 220) (by decide +kernel)))
  obtain ⟨c1, i1, k1⟩ := u_known (C := RX1) (T := TX1) (N := 4) (n := 4) hts (fun w hw => (List.mem_filter.mp (inW1 w hw)).1) (hts _ (List.mem_of_getElem? (i := 269) (by decide +kernel)))
  obtain ⟨c2, i2, k2⟩ := u_known (C := RX2) (T := TX2) (N := 5) (n := 5) hts (fun w hw => (List.mem_filter.mp (inW2 w hw)).1) (hts _ (List.mem_of_getElem? (i := 163) (by decide +kernel)))
  obtain ⟨c3, i3, k3⟩ := u_known (C := RX3) (T := TX3) (N := 8) (n := 8) hts (fun w hw => (List.mem_filter.mp (inW3 w hw)).1) (hts _ (List.mem_of_getElem? (i := 236) (by decide +kernel)))
  obtain ⟨c4, i4, k4⟩ := u_known (C := RX4) (T := TX4) (N := 7) (n := 7) hts (fun w hw => (List.mem_filter.mp (inW4 w hw)).1) (hts _ (List.mem_of_getElem? (i := 124) (by decide +kernel)))
  obtain ⟨c5, i5, k5⟩ := u_known (C := RX5) (T := TX5) (N := 5) (n := 5) hts (fun w hw => (List.mem_filter.mp (inW5 w hw)).1) (hts _ (List.mem_of_getElem? (i := 156) (by decide +kernel)))
  obtain ⟨c6, i6, k6⟩ := u_known (C := RX6) (T := TX6) (N := 15) (n := 15) hts (fun w hw => (List.mem_filter.mp (inW6 w hw)).1) (hts _ (List.mem_of_getElem? (i := 116) (by decide +kernel)))
  obtain ⟨c7, i7, k7⟩ := u_known (C := RX7) (T := TX7) (N := 25) (n := 25) hts (fun w hw => (List.mem_filter.mp (inW7 w hw)).1) (hts _ (List.mem_of_getElem? (i := 1207) (by decide +kernel)))
  refine ⟨(fun k => [c0, c1, c2, c3, c4, c5, c6, c7].getD k 0, fun k => [i0, i1, i2, i3, i4, i5, i6, i7].getD k (fun _ => 0)), ?_⟩
  intro c q hq
  match c, hq with
  | 0, hq => exact (Option.some.inj (hq : some _ = some q)) ▸ k0
  | 1, hq => exact (Option.some.inj (hq : some _ = some q)) ▸ k1
  | 2, hq => exact (Option.some.inj (hq : some _ = some q)) ▸ k2
  | 3, hq => exact (Option.some.inj (hq : some _ = some q)) ▸ k3
  | 4, hq => exact (Option.some.inj (hq : some _ = some q)) ▸ k4
  | 5, hq => exact (Option.some.inj (hq : some _ = some q)) ▸ k5
  | 6, hq => exact (Option.some.inj (hq : some _ = some q)) ▸ k6
  | 7, hq => exact (Option.some.inj (hq : some _ = some q)) ▸ k7
  | k + 8, hq => simp at hq
theorem ctx_start {l : Launch} {s : State} {b L : Nat} {xs : Nat → Int32} (hfl : l.flags = flags0) (hts : ∀ w ∈ lw_tbl, w.before #[Value.ref b] s = true) (hX : va_X b L xs s s.heap) (hbl : b < s.heap.size) (hgv : (Jvm.Cond.and given_1 narrow_1).before #[Value.ref b] s = true) : ∃ G : Gl, Ctx l G s ∧ gB G = s.heap.size ∧ gScr G = b ∧ gLen G = L ∧ gXs G = xs := by
  have hs : ∀ w ∈ fN, w.before #[Value.ref b] s = true := flat_of_before _ hgv
  have hA : ∀ a : Nat, a < s.heap.size → ¬ (fun q => s.heap.size ≤ q) a := fun a h => Nat.not_le.mpr h
  obtain ⟨gA, x0, x1, x2, x3, x4, x5, x6, x7⟩ := cx_arr hts
  obtain ⟨D, hD⟩ := cx_cls hts
  obtain ⟨f, hf⟩ := Classical.axiomOfChoice (cx_str hts hs (fun q => s.heap.size ≤ q) hA)
  have z1 := vx_Zqof (C := "java/lang/Throwable") (n := "UNASSIGNED_STACK") (d := "[Ljava/lang/StackTraceElement;") (args := #[Value.ref b]) (A := fun q => s.heap.size ≤ q) (hts _ (List.mem_of_getElem? (i := 571) (by decide +kernel))) (hts _ (List.mem_of_getElem? (i := 109) (by decide +kernel))) (hs _ (List.mem_of_getElem? (i := 9) (by decide +kernel))) hA
  have z2 := vx_Zqof (C := "java/lang/Throwable") (n := "SUPPRESSED_SENTINEL") (d := "Ljava/util/List;") (args := #[Value.ref b]) (A := fun q => s.heap.size ≤ q) (hts _ (List.mem_of_getElem? (i := 573) (by decide +kernel))) (hts _ (List.mem_of_getElem? (i := 109) (by decide +kernel))) (hs _ (List.mem_of_getElem? (i := 10) (by decide +kernel))) hA
  have z3 := va_Zof (C := "java/lang/String") (n := "COMPACT_STRINGS") (d := "Z") (args := #[Value.ref b]) (A := fun q => s.heap.size ≤ q) (hts _ (List.mem_of_getElem? (i := 378) (by decide +kernel))) (hts _ (List.mem_of_getElem? (i := 103) (by decide +kernel))) (va_eqi (z := 1) (hs _ (List.mem_of_getElem? (i := 4) (by decide +kernel)))) hA
  have z4 := va_Zqof (C := "jdk/internal/util/Preconditions") (n := "SIOOBE_FORMATTER") (d := "Ljava/util/function/BiFunction;") (args := #[Value.ref b]) (A := fun q => s.heap.size ≤ q) (hts _ (List.mem_of_getElem? (i := 394) (by decide +kernel))) (hts _ (List.mem_of_getElem? (i := 105) (by decide +kernel))) (hs _ (List.mem_of_getElem? (i := 5) (by decide +kernel))) hA
  obtain ⟨fm, z5⟩ : ∃ fm : Value, va_Z "jdk/internal/util/Preconditions" "SIOOBE_FORMATTER" "Ljava/util/function/BiFunction;" fm (fun q => s.heap.size ≤ q) s s.heap ∧ (fm = .null ∨ ∃ a, fm = .ref a) := by
    rcases z4 with h | ⟨t, h⟩
    · exact ⟨_, h, Or.inl rfl⟩
    · exact ⟨_, h, Or.inr ⟨t, rfl⟩⟩
  refine ⟨(s.heap.size, b, L, xs, fun k => (f k).1, fun k => (f k).2, gA, D, fm), ⟨?_, ⟨hD, ?_⟩, cx_nwl hts, z1, z2, fun k q hq => hf k q hq, z3, z5, hX, hbl, Nat.le_refl _, ?_, ?_, ?_, ?_, ?_, ?_, ?_⟩, rfl, rfl, rfl, rfl⟩
  · unfold Launch.stackTraces; rw [hfl]; decide
  · intro k q hq
    match k, hq with
    | 0, hq => exact (Option.some.inj (hq : some _ = some q)) ▸ x0
    | 1, hq => exact (Option.some.inj (hq : some _ = some q)) ▸ x1
    | 2, hq => exact (Option.some.inj (hq : some _ = some q)) ▸ x2
    | 3, hq => exact (Option.some.inj (hq : some _ = some q)) ▸ x3
    | 4, hq => exact (Option.some.inj (hq : some _ = some q)) ▸ x4
    | 5, hq => exact (Option.some.inj (hq : some _ = some q)) ▸ x5
    | 6, hq => exact (Option.some.inj (hq : some _ = some q)) ▸ x6
    | 7, hq => exact (Option.some.inj (hq : some _ = some q)) ▸ x7
    | k + 8, hq => simp [tyl] at hq
  · exact va_Nw.of rfl (hts _ (List.mem_of_getElem? (i := 636) (by decide +kernel)))
  · exact va_Nw.of rfl (hts _ (List.mem_of_getElem? (i := 546) (by decide +kernel)))
  · exact va_Nc.of (hs _ (List.mem_of_getElem? (i := 28) (by decide +kernel)))
  · exact va_AO.of (hts _ (List.mem_of_getElem? (i := 217) (by decide +kernel)))
  · exact va_AO.of (hts _ (List.mem_of_getElem? (i := 162) (by decide +kernel)))
  · exact va_AO.of (hts _ (List.mem_of_getElem? (i := 219) (by decide +kernel)))
  · exact fun x hx => va_Nw.of rfl (hts _ (dcl_tb _ (List.mem_map.mpr ⟨x, hx, rfl⟩)))
end
-- 50.lawn
section
/-! the law's names; its code in pieces; its rows -/
def RL : String := "BitDeskLaw"
abbrev cL_count : ByteArray := method_3_code
def yL_count : MethodName := ⟨RL, "count", "(LBitDesk;I[J)I"⟩
abbrev cL_bit : ByteArray := method_4_code
def yL_bit : MethodName := ⟨RL, "bit", "(LBitDesk;III[J)I"⟩
abbrev cL_row : ByteArray := method_5_code
def yL_row : MethodName := ⟨RL, "row", "(LBitDesk;II[J)I"⟩
abbrev cL_rank : ByteArray := method_6_code
def yL_rank : MethodName := ⟨RL, "rank", "(LBitDesk;III[J)I"⟩
abbrev cL_select : ByteArray := method_7_code
def yL_select : MethodName := ⟨RL, "select", "(LBitDesk;III[J)I"⟩
abbrev cL_ones : ByteArray := method_8_code
def yL_ones : MethodName := ⟨RL, "ones", "(LBitDesk;I[J)I"⟩
abbrev cL_columnOnes : ByteArray := method_9_code
def yL_columnOnes : MethodName := ⟨RL, "columnOnes", "(LBitDesk;II[J)I"⟩
abbrev cL_sameAs : ByteArray := method_10_code
def yL_sameAs : MethodName := ⟨RL, "sameAs", "(LBitDesk;II[J)I"⟩
abbrev cL_classes : ByteArray := method_11_code
def yL_classes : MethodName := ⟨RL, "classes", "(LBitDesk;I[J)I"⟩
abbrev cL_classOf : ByteArray := method_12_code
def yL_classOf : MethodName := ⟨RL, "classOf", "(LBitDesk;II[J)I"⟩
abbrev cL_find : ByteArray := method_13_code
def yL_find : MethodName := ⟨RL, "find", "(LBitDesk;IJ[J)I"⟩
abbrev cL_nearest : ByteArray := method_14_code
def yL_nearest : MethodName := ⟨RL, "nearest", "(LBitDesk;II[J)I"⟩
abbrev cL_density : ByteArray := method_15_code
def yL_density : MethodName := ⟨RL, "density", "(LBitDesk;I[D)I"⟩
abbrev cL_isSymmetric : ByteArray := method_16_code
def yL_isSymmetric : MethodName := ⟨RL, "isSymmetric", "(LBitDesk;I[J)I"⟩
abbrev cL_reaches : ByteArray := method_17_code
def yL_reaches : MethodName := ⟨RL, "reaches", "(LBitDesk;III[J)I"⟩
abbrev cL_reached : ByteArray := method_18_code
def yL_reached : MethodName := ⟨RL, "reached", "(LBitDesk;II[J)I"⟩
abbrev cL_pairs : ByteArray := method_19_code
def yL_pairs : MethodName := ⟨RL, "pairs", "(LBitDesk;I[J)I"⟩
abbrev cL_meanReach : ByteArray := method_20_code
def yL_meanReach : MethodName := ⟨RL, "meanReach", "(LBitDesk;I[D)I"⟩
abbrev cL_component : ByteArray := method_21_code
def yL_component : MethodName := ⟨RL, "component", "(LBitDesk;II[J)I"⟩
abbrev cL_components : ByteArray := method_22_code
def yL_components : MethodName := ⟨RL, "components", "(LBitDesk;I[J)I"⟩
abbrev cL_distance : ByteArray := method_23_code
def yL_distance : MethodName := ⟨RL, "distance", "(LBitDesk;III[J)I"⟩
abbrev cL_stepAt : ByteArray := method_24_code
def yL_stepAt : MethodName := ⟨RL, "stepAt", "(LBitDesk;IIII[J)I"⟩
abbrev cL_around : ByteArray := method_25_code
def yL_around : MethodName := ⟨RL, "around", "(LBitDesk;II[J)I"⟩
abbrev cL_girth : ByteArray := method_26_code
def yL_girth : MethodName := ⟨RL, "girth", "(LBitDesk;I[J)I"⟩
abbrev cL_order : ByteArray := method_27_code
def yL_order : MethodName := ⟨RL, "order", "(LBitDesk;II[J)I"⟩
abbrev cL_gained : ByteArray := method_28_code
def yL_gained : MethodName := ⟨RL, "gained", "(LBitDesk;III[J)I"⟩
abbrev cL_lost : ByteArray := method_29_code
def yL_lost : MethodName := ⟨RL, "lost", "(LBitDesk;III[J)I"⟩
abbrev cL_bestEdge : ByteArray := method_30_code
def yL_bestEdge : MethodName := ⟨RL, "bestEdge", "(LBitDesk;I[J)I"⟩
abbrev cL_weakest : ByteArray := method_31_code
def yL_weakest : MethodName := ⟨RL, "weakest", "(LBitDesk;I[J)I"⟩
abbrev cL_triangles : ByteArray := method_32_code
def yL_triangles : MethodName := ⟨RL, "triangles", "(LBitDesk;I[J)I"⟩
abbrev cL_fieldRank : ByteArray := method_33_code
def yL_fieldRank : MethodName := ⟨RL, "fieldRank", "(LBitDesk;I[J)I"⟩
abbrev cL_solve : ByteArray := method_34_code
def yL_solve : MethodName := ⟨RL, "solve", "(LBitDesk;IJ[J)I"⟩
abbrev cL_freedom : ByteArray := method_35_code
def yL_freedom : MethodName := ⟨RL, "freedom", "(LBitDesk;IJ[J)I"⟩
abbrev cL_pivot : ByteArray := method_36_code
def yL_pivot : MethodName := ⟨RL, "pivot", "(LBitDesk;II[J)I"⟩
abbrev cL_put : ByteArray := method_37_code
def yL_put : MethodName := ⟨RL, "put", "(LBitDesk;IIIZ[J)I"⟩
abbrev cL_setRow : ByteArray := method_38_code
def yL_setRow : MethodName := ⟨RL, "setRow", "(LBitDesk;IIJ[J)I"⟩
abbrev cL_copy : ByteArray := method_39_code
def yL_copy : MethodName := ⟨RL, "copy", "(LBitDesk;II[J)I"⟩
abbrev cL_transpose : ByteArray := method_40_code
def yL_transpose : MethodName := ⟨RL, "transpose", "(LBitDesk;II[J)I"⟩
abbrev cL_combine : ByteArray := method_41_code
def yL_combine : MethodName := ⟨RL, "combine", "(LBitDesk;IIII[J)I"⟩
abbrev cL_product : ByteArray := method_42_code
def yL_product : MethodName := ⟨RL, "product", "(LBitDesk;IIIZ[J)I"⟩
abbrev cL_power : ByteArray := method_43_code
def yL_power : MethodName := ⟨RL, "power", "(LBitDesk;IIIZ[J)I"⟩
abbrev cL_invert : ByteArray := method_44_code
def yL_invert : MethodName := ⟨RL, "invert", "(LBitDesk;II[J)I"⟩
abbrev cL_close : ByteArray := method_45_code
def yL_close : MethodName := ⟨RL, "close", "(LBitDesk;II[J)I"⟩
abbrev cL_reduce : ByteArray := method_46_code
def yL_reduce : MethodName := ⟨RL, "reduce", "(LBitDesk;II[J)I"⟩
abbrev cL_exchange : ByteArray := method_47_code
def yL_exchange : MethodName := ⟨RL, "exchange", "(LBitDesk;III[J)I"⟩
abbrev cL_keep : ByteArray := method_48_code
def yL_keep : MethodName := ⟨RL, "keep", "(LBitDesk;IZ[J)I"⟩
abbrev cL_setBlock : ByteArray := method_49_code
def yL_setBlock : MethodName := ⟨RL, "setBlock", "(LBitDesk;I[J)I"⟩
abbrev cL_kept : ByteArray := method_50_code
def yL_kept : MethodName := ⟨RL, "kept", "(LBitDesk;II[J)I"⟩
abbrev cL_work : ByteArray := method_51_code
def yL_work : MethodName := ⟨RL, "work", "(LBitDesk;I[J)I"⟩
abbrev cL_writeRow : ByteArray := method_52_code
def yL_writeRow : MethodName := ⟨RL, "writeRow", "(LBitDesk;II[J)I"⟩
abbrev cL_saveSnapshot : ByteArray := method_53_code
def yL_saveSnapshot : MethodName := ⟨RL, "saveSnapshot", "(LBitDesk;I[J)I"⟩
abbrev cL_restoreSnapshot : ByteArray := method_54_code
def yL_restoreSnapshot : MethodName := ⟨RL, "restoreSnapshot", "(LBitDesk;I[J)I"⟩
abbrev cL_law : ByteArray := code
def yL_law : MethodName := ⟨RL, "law", "([I)Z"⟩
theorem dL_count_0 : decode cL_count 0 = .ok (.aload_n 2, 1) := by decide +kernel
theorem dL_count_1 : decode cL_count 1 = .ok (.iconst 0, 1) := by decide +kernel
theorem dL_count_2 : decode cL_count 2 = .ok (.aload_n 0, 1) := by decide +kernel
theorem dL_count_3 : decode cL_count 3 = .ok (.iload_n 1, 1) := by decide +kernel
theorem dL_count_4 : decode cL_count 4 = .ok (.invokevirtual 7, 3) := by decide +kernel
theorem dL_count_7 : decode cL_count 7 = .ok (.i2l, 1) := by decide +kernel
theorem dL_count_8 : decode cL_count 8 = .ok (.lastore, 1) := by decide +kernel
theorem dL_count_9 : decode cL_count 9 = .ok (.goto 6, 3) := by decide +kernel
theorem dL_count_12 : decode cL_count 12 = .ok (.astore_n 3, 1) := by decide +kernel
theorem dL_count_13 : decode cL_count 13 = .ok (.iconst 1, 1) := by decide +kernel
theorem dL_count_14 : decode cL_count 14 = .ok (.ireturn, 1) := by decide +kernel
theorem dL_count_15 : decode cL_count 15 = .ok (.iconst 0, 1) := by decide +kernel
theorem dL_count_16 : decode cL_count 16 = .ok (.ireturn, 1) := by decide +kernel
theorem dL_bit_0 : decode cL_bit 0 = .ok (.aload 4, 2) := by decide +kernel
theorem dL_bit_2 : decode cL_bit 2 = .ok (.iconst 0, 1) := by decide +kernel
theorem dL_bit_3 : decode cL_bit 3 = .ok (.aload_n 0, 1) := by decide +kernel
theorem dL_bit_4 : decode cL_bit 4 = .ok (.iload_n 1, 1) := by decide +kernel
theorem dL_bit_5 : decode cL_bit 5 = .ok (.iload_n 2, 1) := by decide +kernel
theorem dL_bit_6 : decode cL_bit 6 = .ok (.iload_n 3, 1) := by decide +kernel
theorem dL_bit_7 : decode cL_bit 7 = .ok (.invokevirtual 15, 3) := by decide +kernel
theorem dL_bit_10 : decode cL_bit 10 = .ok (.i2l, 1) := by decide +kernel
theorem dL_bit_11 : decode cL_bit 11 = .ok (.lastore, 1) := by decide +kernel
theorem dL_bit_12 : decode cL_bit 12 = .ok (.goto 7, 3) := by decide +kernel
theorem dL_bit_15 : decode cL_bit 15 = .ok (.astore 5, 2) := by decide +kernel
theorem dL_bit_17 : decode cL_bit 17 = .ok (.iconst 1, 1) := by decide +kernel
theorem dL_bit_18 : decode cL_bit 18 = .ok (.ireturn, 1) := by decide +kernel
theorem dL_bit_19 : decode cL_bit 19 = .ok (.iconst 0, 1) := by decide +kernel
theorem dL_bit_20 : decode cL_bit 20 = .ok (.ireturn, 1) := by decide +kernel
theorem dL_row_0 : decode cL_row 0 = .ok (.aload_n 3, 1) := by decide +kernel
theorem dL_row_1 : decode cL_row 1 = .ok (.iconst 0, 1) := by decide +kernel
theorem dL_row_2 : decode cL_row 2 = .ok (.aload_n 0, 1) := by decide +kernel
theorem dL_row_3 : decode cL_row 3 = .ok (.iload_n 1, 1) := by decide +kernel
theorem dL_row_4 : decode cL_row 4 = .ok (.iload_n 2, 1) := by decide +kernel
theorem dL_row_5 : decode cL_row 5 = .ok (.invokevirtual 21, 3) := by decide +kernel
theorem dL_row_8 : decode cL_row 8 = .ok (.lastore, 1) := by decide +kernel
theorem dL_row_9 : decode cL_row 9 = .ok (.goto 7, 3) := by decide +kernel
theorem dL_row_12 : decode cL_row 12 = .ok (.astore 4, 2) := by decide +kernel
theorem dL_row_14 : decode cL_row 14 = .ok (.iconst 1, 1) := by decide +kernel
theorem dL_row_15 : decode cL_row 15 = .ok (.ireturn, 1) := by decide +kernel
theorem dL_row_16 : decode cL_row 16 = .ok (.iconst 0, 1) := by decide +kernel
theorem dL_row_17 : decode cL_row 17 = .ok (.ireturn, 1) := by decide +kernel
theorem dL_rank_0 : decode cL_rank 0 = .ok (.aload 4, 2) := by decide +kernel
theorem dL_rank_2 : decode cL_rank 2 = .ok (.iconst 0, 1) := by decide +kernel
theorem dL_rank_3 : decode cL_rank 3 = .ok (.aload_n 0, 1) := by decide +kernel
theorem dL_rank_4 : decode cL_rank 4 = .ok (.iload_n 1, 1) := by decide +kernel
theorem dL_rank_5 : decode cL_rank 5 = .ok (.iload_n 2, 1) := by decide +kernel
theorem dL_rank_6 : decode cL_rank 6 = .ok (.iload_n 3, 1) := by decide +kernel
theorem dL_rank_7 : decode cL_rank 7 = .ok (.invokevirtual 25, 3) := by decide +kernel
theorem dL_rank_10 : decode cL_rank 10 = .ok (.i2l, 1) := by decide +kernel
theorem dL_rank_11 : decode cL_rank 11 = .ok (.lastore, 1) := by decide +kernel
theorem dL_rank_12 : decode cL_rank 12 = .ok (.goto 11, 3) := by decide +kernel
theorem dL_rank_15 : decode cL_rank 15 = .ok (.astore 5, 2) := by decide +kernel
theorem dL_rank_17 : decode cL_rank 17 = .ok (.iconst 1, 1) := by decide +kernel
theorem dL_rank_18 : decode cL_rank 18 = .ok (.ireturn, 1) := by decide +kernel
theorem dL_rank_19 : decode cL_rank 19 = .ok (.astore 5, 2) := by decide +kernel
theorem dL_rank_21 : decode cL_rank 21 = .ok (.iconst 2, 1) := by decide +kernel
theorem dL_rank_22 : decode cL_rank 22 = .ok (.ireturn, 1) := by decide +kernel
theorem dL_rank_23 : decode cL_rank 23 = .ok (.iconst 0, 1) := by decide +kernel
theorem dL_rank_24 : decode cL_rank 24 = .ok (.ireturn, 1) := by decide +kernel
theorem dL_select_0 : decode cL_select 0 = .ok (.aload 4, 2) := by decide +kernel
theorem dL_select_2 : decode cL_select 2 = .ok (.iconst 0, 1) := by decide +kernel
theorem dL_select_3 : decode cL_select 3 = .ok (.aload_n 0, 1) := by decide +kernel
theorem dL_select_4 : decode cL_select 4 = .ok (.iload_n 1, 1) := by decide +kernel
theorem dL_select_5 : decode cL_select 5 = .ok (.iload_n 2, 1) := by decide +kernel
theorem dL_select_6 : decode cL_select 6 = .ok (.iload_n 3, 1) := by decide +kernel
theorem dL_select_7 : decode cL_select 7 = .ok (.invokevirtual 28, 3) := by decide +kernel
theorem dL_select_10 : decode cL_select 10 = .ok (.i2l, 1) := by decide +kernel
theorem dL_select_11 : decode cL_select 11 = .ok (.lastore, 1) := by decide +kernel
theorem dL_select_12 : decode cL_select 12 = .ok (.goto 7, 3) := by decide +kernel
theorem dL_select_15 : decode cL_select 15 = .ok (.astore 5, 2) := by decide +kernel
theorem dL_select_17 : decode cL_select 17 = .ok (.iconst 1, 1) := by decide +kernel
theorem dL_select_18 : decode cL_select 18 = .ok (.ireturn, 1) := by decide +kernel
theorem dL_select_19 : decode cL_select 19 = .ok (.iconst 0, 1) := by decide +kernel
theorem dL_select_20 : decode cL_select 20 = .ok (.ireturn, 1) := by decide +kernel
theorem dL_ones_0 : decode cL_ones 0 = .ok (.aload_n 2, 1) := by decide +kernel
theorem dL_ones_1 : decode cL_ones 1 = .ok (.iconst 0, 1) := by decide +kernel
theorem dL_ones_2 : decode cL_ones 2 = .ok (.aload_n 0, 1) := by decide +kernel
theorem dL_ones_3 : decode cL_ones 3 = .ok (.iload_n 1, 1) := by decide +kernel
theorem dL_ones_4 : decode cL_ones 4 = .ok (.invokevirtual 31, 3) := by decide +kernel
theorem dL_ones_7 : decode cL_ones 7 = .ok (.i2l, 1) := by decide +kernel
theorem dL_ones_8 : decode cL_ones 8 = .ok (.lastore, 1) := by decide +kernel
theorem dL_ones_9 : decode cL_ones 9 = .ok (.goto 6, 3) := by decide +kernel
theorem dL_ones_12 : decode cL_ones 12 = .ok (.astore_n 3, 1) := by decide +kernel
theorem dL_ones_13 : decode cL_ones 13 = .ok (.iconst 1, 1) := by decide +kernel
theorem dL_ones_14 : decode cL_ones 14 = .ok (.ireturn, 1) := by decide +kernel
theorem dL_ones_15 : decode cL_ones 15 = .ok (.iconst 0, 1) := by decide +kernel
theorem dL_ones_16 : decode cL_ones 16 = .ok (.ireturn, 1) := by decide +kernel
theorem dL_columnOnes_0 : decode cL_columnOnes 0 = .ok (.aload_n 3, 1) := by decide +kernel
theorem dL_columnOnes_1 : decode cL_columnOnes 1 = .ok (.iconst 0, 1) := by decide +kernel
theorem dL_columnOnes_2 : decode cL_columnOnes 2 = .ok (.aload_n 0, 1) := by decide +kernel
theorem dL_columnOnes_3 : decode cL_columnOnes 3 = .ok (.iload_n 1, 1) := by decide +kernel
theorem dL_columnOnes_4 : decode cL_columnOnes 4 = .ok (.iload_n 2, 1) := by decide +kernel
theorem dL_columnOnes_5 : decode cL_columnOnes 5 = .ok (.invokevirtual 34, 3) := by decide +kernel
theorem dL_columnOnes_8 : decode cL_columnOnes 8 = .ok (.i2l, 1) := by decide +kernel
theorem dL_columnOnes_9 : decode cL_columnOnes 9 = .ok (.lastore, 1) := by decide +kernel
theorem dL_columnOnes_10 : decode cL_columnOnes 10 = .ok (.goto 7, 3) := by decide +kernel
theorem dL_columnOnes_13 : decode cL_columnOnes 13 = .ok (.astore 4, 2) := by decide +kernel
theorem dL_columnOnes_15 : decode cL_columnOnes 15 = .ok (.iconst 1, 1) := by decide +kernel
theorem dL_columnOnes_16 : decode cL_columnOnes 16 = .ok (.ireturn, 1) := by decide +kernel
theorem dL_columnOnes_17 : decode cL_columnOnes 17 = .ok (.iconst 0, 1) := by decide +kernel
theorem dL_columnOnes_18 : decode cL_columnOnes 18 = .ok (.ireturn, 1) := by decide +kernel
theorem dL_sameAs_0 : decode cL_sameAs 0 = .ok (.aload_n 3, 1) := by decide +kernel
theorem dL_sameAs_1 : decode cL_sameAs 1 = .ok (.iconst 0, 1) := by decide +kernel
theorem dL_sameAs_2 : decode cL_sameAs 2 = .ok (.aload_n 0, 1) := by decide +kernel
theorem dL_sameAs_3 : decode cL_sameAs 3 = .ok (.iload_n 1, 1) := by decide +kernel
theorem dL_sameAs_4 : decode cL_sameAs 4 = .ok (.iload_n 2, 1) := by decide +kernel
theorem dL_sameAs_5 : decode cL_sameAs 5 = .ok (.invokevirtual 38, 3) := by decide +kernel
theorem dL_sameAs_8 : decode cL_sameAs 8 = .ok (.i2l, 1) := by decide +kernel
theorem dL_sameAs_9 : decode cL_sameAs 9 = .ok (.lastore, 1) := by decide +kernel
theorem dL_sameAs_10 : decode cL_sameAs 10 = .ok (.goto 7, 3) := by decide +kernel
theorem dL_sameAs_13 : decode cL_sameAs 13 = .ok (.astore 4, 2) := by decide +kernel
theorem dL_sameAs_15 : decode cL_sameAs 15 = .ok (.iconst 1, 1) := by decide +kernel
theorem dL_sameAs_16 : decode cL_sameAs 16 = .ok (.ireturn, 1) := by decide +kernel
theorem dL_sameAs_17 : decode cL_sameAs 17 = .ok (.iconst 0, 1) := by decide +kernel
theorem dL_sameAs_18 : decode cL_sameAs 18 = .ok (.ireturn, 1) := by decide +kernel
theorem dL_classes_0 : decode cL_classes 0 = .ok (.aload_n 2, 1) := by decide +kernel
theorem dL_classes_1 : decode cL_classes 1 = .ok (.iconst 0, 1) := by decide +kernel
theorem dL_classes_2 : decode cL_classes 2 = .ok (.aload_n 0, 1) := by decide +kernel
theorem dL_classes_3 : decode cL_classes 3 = .ok (.iload_n 1, 1) := by decide +kernel
theorem dL_classes_4 : decode cL_classes 4 = .ok (.invokevirtual 41, 3) := by decide +kernel
theorem dL_classes_7 : decode cL_classes 7 = .ok (.i2l, 1) := by decide +kernel
theorem dL_classes_8 : decode cL_classes 8 = .ok (.lastore, 1) := by decide +kernel
theorem dL_classes_9 : decode cL_classes 9 = .ok (.goto 6, 3) := by decide +kernel
theorem dL_classes_12 : decode cL_classes 12 = .ok (.astore_n 3, 1) := by decide +kernel
theorem dL_classes_13 : decode cL_classes 13 = .ok (.iconst 1, 1) := by decide +kernel
theorem dL_classes_14 : decode cL_classes 14 = .ok (.ireturn, 1) := by decide +kernel
theorem dL_classes_15 : decode cL_classes 15 = .ok (.iconst 0, 1) := by decide +kernel
theorem dL_classes_16 : decode cL_classes 16 = .ok (.ireturn, 1) := by decide +kernel
theorem dL_classOf_0 : decode cL_classOf 0 = .ok (.aload_n 3, 1) := by decide +kernel
theorem dL_classOf_1 : decode cL_classOf 1 = .ok (.iconst 0, 1) := by decide +kernel
theorem dL_classOf_2 : decode cL_classOf 2 = .ok (.aload_n 0, 1) := by decide +kernel
theorem dL_classOf_3 : decode cL_classOf 3 = .ok (.iload_n 1, 1) := by decide +kernel
theorem dL_classOf_4 : decode cL_classOf 4 = .ok (.iload_n 2, 1) := by decide +kernel
theorem dL_classOf_5 : decode cL_classOf 5 = .ok (.invokevirtual 44, 3) := by decide +kernel
theorem dL_classOf_8 : decode cL_classOf 8 = .ok (.i2l, 1) := by decide +kernel
theorem dL_classOf_9 : decode cL_classOf 9 = .ok (.lastore, 1) := by decide +kernel
theorem dL_classOf_10 : decode cL_classOf 10 = .ok (.goto 7, 3) := by decide +kernel
theorem dL_classOf_13 : decode cL_classOf 13 = .ok (.astore 4, 2) := by decide +kernel
theorem dL_classOf_15 : decode cL_classOf 15 = .ok (.iconst 1, 1) := by decide +kernel
theorem dL_classOf_16 : decode cL_classOf 16 = .ok (.ireturn, 1) := by decide +kernel
theorem dL_classOf_17 : decode cL_classOf 17 = .ok (.iconst 0, 1) := by decide +kernel
theorem dL_classOf_18 : decode cL_classOf 18 = .ok (.ireturn, 1) := by decide +kernel
theorem dL_find_0 : decode cL_find 0 = .ok (.aload 4, 2) := by decide +kernel
theorem dL_find_2 : decode cL_find 2 = .ok (.iconst 0, 1) := by decide +kernel
theorem dL_find_3 : decode cL_find 3 = .ok (.aload_n 0, 1) := by decide +kernel
theorem dL_find_4 : decode cL_find 4 = .ok (.iload_n 1, 1) := by decide +kernel
theorem dL_find_5 : decode cL_find 5 = .ok (.lload_n 2, 1) := by decide +kernel
theorem dL_find_6 : decode cL_find 6 = .ok (.invokevirtual 47, 3) := by decide +kernel
theorem dL_find_9 : decode cL_find 9 = .ok (.i2l, 1) := by decide +kernel
theorem dL_find_10 : decode cL_find 10 = .ok (.lastore, 1) := by decide +kernel
theorem dL_find_11 : decode cL_find 11 = .ok (.goto 7, 3) := by decide +kernel
theorem dL_find_14 : decode cL_find 14 = .ok (.astore 5, 2) := by decide +kernel
theorem dL_find_16 : decode cL_find 16 = .ok (.iconst 1, 1) := by decide +kernel
theorem dL_find_17 : decode cL_find 17 = .ok (.ireturn, 1) := by decide +kernel
theorem dL_find_18 : decode cL_find 18 = .ok (.iconst 0, 1) := by decide +kernel
theorem dL_find_19 : decode cL_find 19 = .ok (.ireturn, 1) := by decide +kernel
theorem dL_nearest_0 : decode cL_nearest 0 = .ok (.aload_n 3, 1) := by decide +kernel
theorem dL_nearest_1 : decode cL_nearest 1 = .ok (.iconst 0, 1) := by decide +kernel
theorem dL_nearest_2 : decode cL_nearest 2 = .ok (.aload_n 0, 1) := by decide +kernel
theorem dL_nearest_3 : decode cL_nearest 3 = .ok (.iload_n 1, 1) := by decide +kernel
theorem dL_nearest_4 : decode cL_nearest 4 = .ok (.iload_n 2, 1) := by decide +kernel
theorem dL_nearest_5 : decode cL_nearest 5 = .ok (.invokevirtual 51, 3) := by decide +kernel
theorem dL_nearest_8 : decode cL_nearest 8 = .ok (.i2l, 1) := by decide +kernel
theorem dL_nearest_9 : decode cL_nearest 9 = .ok (.lastore, 1) := by decide +kernel
theorem dL_nearest_10 : decode cL_nearest 10 = .ok (.goto 7, 3) := by decide +kernel
theorem dL_nearest_13 : decode cL_nearest 13 = .ok (.astore 4, 2) := by decide +kernel
theorem dL_nearest_15 : decode cL_nearest 15 = .ok (.iconst 1, 1) := by decide +kernel
theorem dL_nearest_16 : decode cL_nearest 16 = .ok (.ireturn, 1) := by decide +kernel
theorem dL_nearest_17 : decode cL_nearest 17 = .ok (.iconst 0, 1) := by decide +kernel
theorem dL_nearest_18 : decode cL_nearest 18 = .ok (.ireturn, 1) := by decide +kernel
theorem dL_density_0 : decode cL_density 0 = .ok (.aload_n 2, 1) := by decide +kernel
theorem dL_density_1 : decode cL_density 1 = .ok (.iconst 0, 1) := by decide +kernel
theorem dL_density_2 : decode cL_density 2 = .ok (.aload_n 0, 1) := by decide +kernel
theorem dL_density_3 : decode cL_density 3 = .ok (.iload_n 1, 1) := by decide +kernel
theorem dL_density_4 : decode cL_density 4 = .ok (.invokevirtual 54, 3) := by decide +kernel
theorem dL_density_7 : decode cL_density 7 = .ok (.dastore, 1) := by decide +kernel
theorem dL_density_8 : decode cL_density 8 = .ok (.goto 6, 3) := by decide +kernel
theorem dL_density_11 : decode cL_density 11 = .ok (.astore_n 3, 1) := by decide +kernel
theorem dL_density_12 : decode cL_density 12 = .ok (.iconst 1, 1) := by decide +kernel
theorem dL_density_13 : decode cL_density 13 = .ok (.ireturn, 1) := by decide +kernel
theorem dL_density_14 : decode cL_density 14 = .ok (.iconst 0, 1) := by decide +kernel
theorem dL_density_15 : decode cL_density 15 = .ok (.ireturn, 1) := by decide +kernel
theorem dL_isSymmetric_0 : decode cL_isSymmetric 0 = .ok (.aload_n 2, 1) := by decide +kernel
theorem dL_isSymmetric_1 : decode cL_isSymmetric 1 = .ok (.iconst 0, 1) := by decide +kernel
theorem dL_isSymmetric_2 : decode cL_isSymmetric 2 = .ok (.aload_n 0, 1) := by decide +kernel
theorem dL_isSymmetric_3 : decode cL_isSymmetric 3 = .ok (.iload_n 1, 1) := by decide +kernel
theorem dL_isSymmetric_4 : decode cL_isSymmetric 4 = .ok (.invokevirtual 58, 3) := by decide +kernel
theorem dL_isSymmetric_7 : decode cL_isSymmetric 7 = .ok (.ifCond .eq 7, 3) := by decide +kernel
theorem dL_isSymmetric_10 : decode cL_isSymmetric 10 = .ok (.lconst 1, 1) := by decide +kernel
theorem dL_isSymmetric_11 : decode cL_isSymmetric 11 = .ok (.goto 4, 3) := by decide +kernel
theorem dL_isSymmetric_14 : decode cL_isSymmetric 14 = .ok (.lconst 0, 1) := by decide +kernel
theorem dL_isSymmetric_15 : decode cL_isSymmetric 15 = .ok (.lastore, 1) := by decide +kernel
theorem dL_isSymmetric_16 : decode cL_isSymmetric 16 = .ok (.goto 6, 3) := by decide +kernel
theorem dL_isSymmetric_19 : decode cL_isSymmetric 19 = .ok (.astore_n 3, 1) := by decide +kernel
theorem dL_isSymmetric_20 : decode cL_isSymmetric 20 = .ok (.iconst 1, 1) := by decide +kernel
theorem dL_isSymmetric_21 : decode cL_isSymmetric 21 = .ok (.ireturn, 1) := by decide +kernel
theorem dL_isSymmetric_22 : decode cL_isSymmetric 22 = .ok (.iconst 0, 1) := by decide +kernel
theorem dL_isSymmetric_23 : decode cL_isSymmetric 23 = .ok (.ireturn, 1) := by decide +kernel
theorem dL_reaches_0 : decode cL_reaches 0 = .ok (.aload 4, 2) := by decide +kernel
theorem dL_reaches_2 : decode cL_reaches 2 = .ok (.iconst 0, 1) := by decide +kernel
theorem dL_reaches_3 : decode cL_reaches 3 = .ok (.aload_n 0, 1) := by decide +kernel
theorem dL_reaches_4 : decode cL_reaches 4 = .ok (.iload_n 1, 1) := by decide +kernel
theorem dL_reaches_5 : decode cL_reaches 5 = .ok (.iload_n 2, 1) := by decide +kernel
theorem dL_reaches_6 : decode cL_reaches 6 = .ok (.iload_n 3, 1) := by decide +kernel
theorem dL_reaches_7 : decode cL_reaches 7 = .ok (.invokevirtual 62, 3) := by decide +kernel
theorem dL_reaches_10 : decode cL_reaches 10 = .ok (.i2l, 1) := by decide +kernel
theorem dL_reaches_11 : decode cL_reaches 11 = .ok (.lastore, 1) := by decide +kernel
theorem dL_reaches_12 : decode cL_reaches 12 = .ok (.goto 7, 3) := by decide +kernel
theorem dL_reaches_15 : decode cL_reaches 15 = .ok (.astore 5, 2) := by decide +kernel
theorem dL_reaches_17 : decode cL_reaches 17 = .ok (.iconst 1, 1) := by decide +kernel
theorem dL_reaches_18 : decode cL_reaches 18 = .ok (.ireturn, 1) := by decide +kernel
theorem dL_reaches_19 : decode cL_reaches 19 = .ok (.iconst 0, 1) := by decide +kernel
theorem dL_reaches_20 : decode cL_reaches 20 = .ok (.ireturn, 1) := by decide +kernel
theorem dL_reached_0 : decode cL_reached 0 = .ok (.aload_n 3, 1) := by decide +kernel
theorem dL_reached_1 : decode cL_reached 1 = .ok (.iconst 0, 1) := by decide +kernel
theorem dL_reached_2 : decode cL_reached 2 = .ok (.aload_n 0, 1) := by decide +kernel
theorem dL_reached_3 : decode cL_reached 3 = .ok (.iload_n 1, 1) := by decide +kernel
theorem dL_reached_4 : decode cL_reached 4 = .ok (.iload_n 2, 1) := by decide +kernel
theorem dL_reached_5 : decode cL_reached 5 = .ok (.invokevirtual 65, 3) := by decide +kernel
theorem dL_reached_8 : decode cL_reached 8 = .ok (.i2l, 1) := by decide +kernel
theorem dL_reached_9 : decode cL_reached 9 = .ok (.lastore, 1) := by decide +kernel
theorem dL_reached_10 : decode cL_reached 10 = .ok (.goto 7, 3) := by decide +kernel
theorem dL_reached_13 : decode cL_reached 13 = .ok (.astore 4, 2) := by decide +kernel
theorem dL_reached_15 : decode cL_reached 15 = .ok (.iconst 1, 1) := by decide +kernel
theorem dL_reached_16 : decode cL_reached 16 = .ok (.ireturn, 1) := by decide +kernel
theorem dL_reached_17 : decode cL_reached 17 = .ok (.iconst 0, 1) := by decide +kernel
theorem dL_reached_18 : decode cL_reached 18 = .ok (.ireturn, 1) := by decide +kernel
theorem dL_pairs_0 : decode cL_pairs 0 = .ok (.aload_n 2, 1) := by decide +kernel
theorem dL_pairs_1 : decode cL_pairs 1 = .ok (.iconst 0, 1) := by decide +kernel
theorem dL_pairs_2 : decode cL_pairs 2 = .ok (.aload_n 0, 1) := by decide +kernel
theorem dL_pairs_3 : decode cL_pairs 3 = .ok (.iload_n 1, 1) := by decide +kernel
theorem dL_pairs_4 : decode cL_pairs 4 = .ok (.invokevirtual 68, 3) := by decide +kernel
theorem dL_pairs_7 : decode cL_pairs 7 = .ok (.i2l, 1) := by decide +kernel
theorem dL_pairs_8 : decode cL_pairs 8 = .ok (.lastore, 1) := by decide +kernel
theorem dL_pairs_9 : decode cL_pairs 9 = .ok (.goto 6, 3) := by decide +kernel
theorem dL_pairs_12 : decode cL_pairs 12 = .ok (.astore_n 3, 1) := by decide +kernel
theorem dL_pairs_13 : decode cL_pairs 13 = .ok (.iconst 1, 1) := by decide +kernel
theorem dL_pairs_14 : decode cL_pairs 14 = .ok (.ireturn, 1) := by decide +kernel
theorem dL_pairs_15 : decode cL_pairs 15 = .ok (.iconst 0, 1) := by decide +kernel
theorem dL_pairs_16 : decode cL_pairs 16 = .ok (.ireturn, 1) := by decide +kernel
theorem dL_meanReach_0 : decode cL_meanReach 0 = .ok (.aload_n 2, 1) := by decide +kernel
theorem dL_meanReach_1 : decode cL_meanReach 1 = .ok (.iconst 0, 1) := by decide +kernel
theorem dL_meanReach_2 : decode cL_meanReach 2 = .ok (.aload_n 0, 1) := by decide +kernel
theorem dL_meanReach_3 : decode cL_meanReach 3 = .ok (.iload_n 1, 1) := by decide +kernel
theorem dL_meanReach_4 : decode cL_meanReach 4 = .ok (.invokevirtual 71, 3) := by decide +kernel
theorem dL_meanReach_7 : decode cL_meanReach 7 = .ok (.f2d, 1) := by decide +kernel
theorem dL_meanReach_8 : decode cL_meanReach 8 = .ok (.dastore, 1) := by decide +kernel
theorem dL_meanReach_9 : decode cL_meanReach 9 = .ok (.goto 6, 3) := by decide +kernel
theorem dL_meanReach_12 : decode cL_meanReach 12 = .ok (.astore_n 3, 1) := by decide +kernel
theorem dL_meanReach_13 : decode cL_meanReach 13 = .ok (.iconst 1, 1) := by decide +kernel
theorem dL_meanReach_14 : decode cL_meanReach 14 = .ok (.ireturn, 1) := by decide +kernel
theorem dL_meanReach_15 : decode cL_meanReach 15 = .ok (.iconst 0, 1) := by decide +kernel
theorem dL_meanReach_16 : decode cL_meanReach 16 = .ok (.ireturn, 1) := by decide +kernel
theorem dL_component_0 : decode cL_component 0 = .ok (.aload_n 3, 1) := by decide +kernel
theorem dL_component_1 : decode cL_component 1 = .ok (.iconst 0, 1) := by decide +kernel
theorem dL_component_2 : decode cL_component 2 = .ok (.aload_n 0, 1) := by decide +kernel
theorem dL_component_3 : decode cL_component 3 = .ok (.iload_n 1, 1) := by decide +kernel
theorem dL_component_4 : decode cL_component 4 = .ok (.iload_n 2, 1) := by decide +kernel
theorem dL_component_5 : decode cL_component 5 = .ok (.invokevirtual 75, 3) := by decide +kernel
theorem dL_component_8 : decode cL_component 8 = .ok (.i2l, 1) := by decide +kernel
theorem dL_component_9 : decode cL_component 9 = .ok (.lastore, 1) := by decide +kernel
theorem dL_component_10 : decode cL_component 10 = .ok (.goto 7, 3) := by decide +kernel
theorem dL_component_13 : decode cL_component 13 = .ok (.astore 4, 2) := by decide +kernel
theorem dL_component_15 : decode cL_component 15 = .ok (.iconst 1, 1) := by decide +kernel
theorem dL_component_16 : decode cL_component 16 = .ok (.ireturn, 1) := by decide +kernel
theorem dL_component_17 : decode cL_component 17 = .ok (.iconst 0, 1) := by decide +kernel
theorem dL_component_18 : decode cL_component 18 = .ok (.ireturn, 1) := by decide +kernel
theorem dL_components_0 : decode cL_components 0 = .ok (.aload_n 2, 1) := by decide +kernel
theorem dL_components_1 : decode cL_components 1 = .ok (.iconst 0, 1) := by decide +kernel
theorem dL_components_2 : decode cL_components 2 = .ok (.aload_n 0, 1) := by decide +kernel
theorem dL_components_3 : decode cL_components 3 = .ok (.iload_n 1, 1) := by decide +kernel
theorem dL_components_4 : decode cL_components 4 = .ok (.invokevirtual 78, 3) := by decide +kernel
theorem dL_components_7 : decode cL_components 7 = .ok (.i2l, 1) := by decide +kernel
theorem dL_components_8 : decode cL_components 8 = .ok (.lastore, 1) := by decide +kernel
theorem dL_components_9 : decode cL_components 9 = .ok (.goto 6, 3) := by decide +kernel
theorem dL_components_12 : decode cL_components 12 = .ok (.astore_n 3, 1) := by decide +kernel
theorem dL_components_13 : decode cL_components 13 = .ok (.iconst 1, 1) := by decide +kernel
theorem dL_components_14 : decode cL_components 14 = .ok (.ireturn, 1) := by decide +kernel
theorem dL_components_15 : decode cL_components 15 = .ok (.iconst 0, 1) := by decide +kernel
theorem dL_components_16 : decode cL_components 16 = .ok (.ireturn, 1) := by decide +kernel
theorem dL_distance_0 : decode cL_distance 0 = .ok (.aload 4, 2) := by decide +kernel
theorem dL_distance_2 : decode cL_distance 2 = .ok (.iconst 0, 1) := by decide +kernel
theorem dL_distance_3 : decode cL_distance 3 = .ok (.aload_n 0, 1) := by decide +kernel
theorem dL_distance_4 : decode cL_distance 4 = .ok (.iload_n 1, 1) := by decide +kernel
theorem dL_distance_5 : decode cL_distance 5 = .ok (.iload_n 2, 1) := by decide +kernel
theorem dL_distance_6 : decode cL_distance 6 = .ok (.iload_n 3, 1) := by decide +kernel
theorem dL_distance_7 : decode cL_distance 7 = .ok (.invokevirtual 81, 3) := by decide +kernel
theorem dL_distance_10 : decode cL_distance 10 = .ok (.i2l, 1) := by decide +kernel
theorem dL_distance_11 : decode cL_distance 11 = .ok (.lastore, 1) := by decide +kernel
theorem dL_distance_12 : decode cL_distance 12 = .ok (.goto 7, 3) := by decide +kernel
theorem dL_distance_15 : decode cL_distance 15 = .ok (.astore 5, 2) := by decide +kernel
theorem dL_distance_17 : decode cL_distance 17 = .ok (.iconst 1, 1) := by decide +kernel
theorem dL_distance_18 : decode cL_distance 18 = .ok (.ireturn, 1) := by decide +kernel
theorem dL_distance_19 : decode cL_distance 19 = .ok (.iconst 0, 1) := by decide +kernel
theorem dL_distance_20 : decode cL_distance 20 = .ok (.ireturn, 1) := by decide +kernel
theorem dL_stepAt_0 : decode cL_stepAt 0 = .ok (.aload 5, 2) := by decide +kernel
theorem dL_stepAt_2 : decode cL_stepAt 2 = .ok (.iconst 0, 1) := by decide +kernel
theorem dL_stepAt_3 : decode cL_stepAt 3 = .ok (.aload_n 0, 1) := by decide +kernel
theorem dL_stepAt_4 : decode cL_stepAt 4 = .ok (.iload_n 1, 1) := by decide +kernel
theorem dL_stepAt_5 : decode cL_stepAt 5 = .ok (.iload_n 2, 1) := by decide +kernel
theorem dL_stepAt_6 : decode cL_stepAt 6 = .ok (.iload_n 3, 1) := by decide +kernel
theorem dL_stepAt_7 : decode cL_stepAt 7 = .ok (.iload 4, 2) := by decide +kernel
theorem dL_stepAt_9 : decode cL_stepAt 9 = .ok (.invokevirtual 84, 3) := by decide +kernel
theorem dL_stepAt_12 : decode cL_stepAt 12 = .ok (.i2l, 1) := by decide +kernel
theorem dL_stepAt_13 : decode cL_stepAt 13 = .ok (.lastore, 1) := by decide +kernel
theorem dL_stepAt_14 : decode cL_stepAt 14 = .ok (.goto 7, 3) := by decide +kernel
theorem dL_stepAt_17 : decode cL_stepAt 17 = .ok (.astore 6, 2) := by decide +kernel
theorem dL_stepAt_19 : decode cL_stepAt 19 = .ok (.iconst 1, 1) := by decide +kernel
theorem dL_stepAt_20 : decode cL_stepAt 20 = .ok (.ireturn, 1) := by decide +kernel
theorem dL_stepAt_21 : decode cL_stepAt 21 = .ok (.iconst 0, 1) := by decide +kernel
theorem dL_stepAt_22 : decode cL_stepAt 22 = .ok (.ireturn, 1) := by decide +kernel
theorem dL_around_0 : decode cL_around 0 = .ok (.aload_n 3, 1) := by decide +kernel
theorem dL_around_1 : decode cL_around 1 = .ok (.iconst 0, 1) := by decide +kernel
theorem dL_around_2 : decode cL_around 2 = .ok (.aload_n 0, 1) := by decide +kernel
theorem dL_around_3 : decode cL_around 3 = .ok (.iload_n 1, 1) := by decide +kernel
theorem dL_around_4 : decode cL_around 4 = .ok (.iload_n 2, 1) := by decide +kernel
theorem dL_around_5 : decode cL_around 5 = .ok (.invokevirtual 88, 3) := by decide +kernel
theorem dL_around_8 : decode cL_around 8 = .ok (.i2l, 1) := by decide +kernel
theorem dL_around_9 : decode cL_around 9 = .ok (.lastore, 1) := by decide +kernel
theorem dL_around_10 : decode cL_around 10 = .ok (.goto 7, 3) := by decide +kernel
theorem dL_around_13 : decode cL_around 13 = .ok (.astore 4, 2) := by decide +kernel
theorem dL_around_15 : decode cL_around 15 = .ok (.iconst 1, 1) := by decide +kernel
theorem dL_around_16 : decode cL_around 16 = .ok (.ireturn, 1) := by decide +kernel
theorem dL_around_17 : decode cL_around 17 = .ok (.iconst 0, 1) := by decide +kernel
theorem dL_around_18 : decode cL_around 18 = .ok (.ireturn, 1) := by decide +kernel
theorem dL_girth_0 : decode cL_girth 0 = .ok (.aload_n 2, 1) := by decide +kernel
theorem dL_girth_1 : decode cL_girth 1 = .ok (.iconst 0, 1) := by decide +kernel
theorem dL_girth_2 : decode cL_girth 2 = .ok (.aload_n 0, 1) := by decide +kernel
theorem dL_girth_3 : decode cL_girth 3 = .ok (.iload_n 1, 1) := by decide +kernel
theorem dL_girth_4 : decode cL_girth 4 = .ok (.invokevirtual 91, 3) := by decide +kernel
theorem dL_girth_7 : decode cL_girth 7 = .ok (.i2l, 1) := by decide +kernel
theorem dL_girth_8 : decode cL_girth 8 = .ok (.lastore, 1) := by decide +kernel
theorem dL_girth_9 : decode cL_girth 9 = .ok (.goto 6, 3) := by decide +kernel
theorem dL_girth_12 : decode cL_girth 12 = .ok (.astore_n 3, 1) := by decide +kernel
theorem dL_girth_13 : decode cL_girth 13 = .ok (.iconst 1, 1) := by decide +kernel
theorem dL_girth_14 : decode cL_girth 14 = .ok (.ireturn, 1) := by decide +kernel
theorem dL_girth_15 : decode cL_girth 15 = .ok (.iconst 0, 1) := by decide +kernel
theorem dL_girth_16 : decode cL_girth 16 = .ok (.ireturn, 1) := by decide +kernel
theorem dL_order_0 : decode cL_order 0 = .ok (.aload_n 3, 1) := by decide +kernel
theorem dL_order_1 : decode cL_order 1 = .ok (.iconst 0, 1) := by decide +kernel
theorem dL_order_2 : decode cL_order 2 = .ok (.aload_n 0, 1) := by decide +kernel
theorem dL_order_3 : decode cL_order 3 = .ok (.iload_n 1, 1) := by decide +kernel
theorem dL_order_4 : decode cL_order 4 = .ok (.iload_n 2, 1) := by decide +kernel
theorem dL_order_5 : decode cL_order 5 = .ok (.invokevirtual 94, 3) := by decide +kernel
theorem dL_order_8 : decode cL_order 8 = .ok (.i2l, 1) := by decide +kernel
theorem dL_order_9 : decode cL_order 9 = .ok (.lastore, 1) := by decide +kernel
theorem dL_order_10 : decode cL_order 10 = .ok (.goto 7, 3) := by decide +kernel
theorem dL_order_13 : decode cL_order 13 = .ok (.astore 4, 2) := by decide +kernel
theorem dL_order_15 : decode cL_order 15 = .ok (.iconst 1, 1) := by decide +kernel
theorem dL_order_16 : decode cL_order 16 = .ok (.ireturn, 1) := by decide +kernel
theorem dL_order_17 : decode cL_order 17 = .ok (.iconst 0, 1) := by decide +kernel
theorem dL_order_18 : decode cL_order 18 = .ok (.ireturn, 1) := by decide +kernel
theorem dL_gained_0 : decode cL_gained 0 = .ok (.aload 4, 2) := by decide +kernel
theorem dL_gained_2 : decode cL_gained 2 = .ok (.iconst 0, 1) := by decide +kernel
theorem dL_gained_3 : decode cL_gained 3 = .ok (.aload_n 0, 1) := by decide +kernel
theorem dL_gained_4 : decode cL_gained 4 = .ok (.iload_n 1, 1) := by decide +kernel
theorem dL_gained_5 : decode cL_gained 5 = .ok (.iload_n 2, 1) := by decide +kernel
theorem dL_gained_6 : decode cL_gained 6 = .ok (.iload_n 3, 1) := by decide +kernel
theorem dL_gained_7 : decode cL_gained 7 = .ok (.invokevirtual 97, 3) := by decide +kernel
theorem dL_gained_10 : decode cL_gained 10 = .ok (.i2l, 1) := by decide +kernel
theorem dL_gained_11 : decode cL_gained 11 = .ok (.lastore, 1) := by decide +kernel
theorem dL_gained_12 : decode cL_gained 12 = .ok (.goto 7, 3) := by decide +kernel
theorem dL_gained_15 : decode cL_gained 15 = .ok (.astore 5, 2) := by decide +kernel
theorem dL_gained_17 : decode cL_gained 17 = .ok (.iconst 1, 1) := by decide +kernel
theorem dL_gained_18 : decode cL_gained 18 = .ok (.ireturn, 1) := by decide +kernel
theorem dL_gained_19 : decode cL_gained 19 = .ok (.iconst 0, 1) := by decide +kernel
theorem dL_gained_20 : decode cL_gained 20 = .ok (.ireturn, 1) := by decide +kernel
theorem dL_lost_0 : decode cL_lost 0 = .ok (.aload 4, 2) := by decide +kernel
theorem dL_lost_2 : decode cL_lost 2 = .ok (.iconst 0, 1) := by decide +kernel
theorem dL_lost_3 : decode cL_lost 3 = .ok (.aload_n 0, 1) := by decide +kernel
theorem dL_lost_4 : decode cL_lost 4 = .ok (.iload_n 1, 1) := by decide +kernel
theorem dL_lost_5 : decode cL_lost 5 = .ok (.iload_n 2, 1) := by decide +kernel
theorem dL_lost_6 : decode cL_lost 6 = .ok (.iload_n 3, 1) := by decide +kernel
theorem dL_lost_7 : decode cL_lost 7 = .ok (.invokevirtual 100, 3) := by decide +kernel
theorem dL_lost_10 : decode cL_lost 10 = .ok (.i2l, 1) := by decide +kernel
theorem dL_lost_11 : decode cL_lost 11 = .ok (.lastore, 1) := by decide +kernel
theorem dL_lost_12 : decode cL_lost 12 = .ok (.goto 7, 3) := by decide +kernel
theorem dL_lost_15 : decode cL_lost 15 = .ok (.astore 5, 2) := by decide +kernel
theorem dL_lost_17 : decode cL_lost 17 = .ok (.iconst 1, 1) := by decide +kernel
theorem dL_lost_18 : decode cL_lost 18 = .ok (.ireturn, 1) := by decide +kernel
theorem dL_lost_19 : decode cL_lost 19 = .ok (.iconst 0, 1) := by decide +kernel
theorem dL_lost_20 : decode cL_lost 20 = .ok (.ireturn, 1) := by decide +kernel
theorem dL_bestEdge_0 : decode cL_bestEdge 0 = .ok (.aload_n 2, 1) := by decide +kernel
theorem dL_bestEdge_1 : decode cL_bestEdge 1 = .ok (.iconst 0, 1) := by decide +kernel
theorem dL_bestEdge_2 : decode cL_bestEdge 2 = .ok (.aload_n 0, 1) := by decide +kernel
theorem dL_bestEdge_3 : decode cL_bestEdge 3 = .ok (.iload_n 1, 1) := by decide +kernel
theorem dL_bestEdge_4 : decode cL_bestEdge 4 = .ok (.invokevirtual 103, 3) := by decide +kernel
theorem dL_bestEdge_7 : decode cL_bestEdge 7 = .ok (.i2l, 1) := by decide +kernel
theorem dL_bestEdge_8 : decode cL_bestEdge 8 = .ok (.lastore, 1) := by decide +kernel
theorem dL_bestEdge_9 : decode cL_bestEdge 9 = .ok (.goto 6, 3) := by decide +kernel
theorem dL_bestEdge_12 : decode cL_bestEdge 12 = .ok (.astore_n 3, 1) := by decide +kernel
theorem dL_bestEdge_13 : decode cL_bestEdge 13 = .ok (.iconst 1, 1) := by decide +kernel
theorem dL_bestEdge_14 : decode cL_bestEdge 14 = .ok (.ireturn, 1) := by decide +kernel
theorem dL_bestEdge_15 : decode cL_bestEdge 15 = .ok (.iconst 0, 1) := by decide +kernel
theorem dL_bestEdge_16 : decode cL_bestEdge 16 = .ok (.ireturn, 1) := by decide +kernel
theorem dL_weakest_0 : decode cL_weakest 0 = .ok (.aload_n 2, 1) := by decide +kernel
theorem dL_weakest_1 : decode cL_weakest 1 = .ok (.iconst 0, 1) := by decide +kernel
theorem dL_weakest_2 : decode cL_weakest 2 = .ok (.aload_n 0, 1) := by decide +kernel
theorem dL_weakest_3 : decode cL_weakest 3 = .ok (.iload_n 1, 1) := by decide +kernel
theorem dL_weakest_4 : decode cL_weakest 4 = .ok (.invokevirtual 106, 3) := by decide +kernel
theorem dL_weakest_7 : decode cL_weakest 7 = .ok (.i2l, 1) := by decide +kernel
theorem dL_weakest_8 : decode cL_weakest 8 = .ok (.lastore, 1) := by decide +kernel
theorem dL_weakest_9 : decode cL_weakest 9 = .ok (.goto 6, 3) := by decide +kernel
theorem dL_weakest_12 : decode cL_weakest 12 = .ok (.astore_n 3, 1) := by decide +kernel
theorem dL_weakest_13 : decode cL_weakest 13 = .ok (.iconst 1, 1) := by decide +kernel
theorem dL_weakest_14 : decode cL_weakest 14 = .ok (.ireturn, 1) := by decide +kernel
theorem dL_weakest_15 : decode cL_weakest 15 = .ok (.iconst 0, 1) := by decide +kernel
theorem dL_weakest_16 : decode cL_weakest 16 = .ok (.ireturn, 1) := by decide +kernel
theorem dL_triangles_0 : decode cL_triangles 0 = .ok (.aload_n 2, 1) := by decide +kernel
theorem dL_triangles_1 : decode cL_triangles 1 = .ok (.iconst 0, 1) := by decide +kernel
theorem dL_triangles_2 : decode cL_triangles 2 = .ok (.aload_n 0, 1) := by decide +kernel
theorem dL_triangles_3 : decode cL_triangles 3 = .ok (.iload_n 1, 1) := by decide +kernel
theorem dL_triangles_4 : decode cL_triangles 4 = .ok (.invokevirtual 109, 3) := by decide +kernel
theorem dL_triangles_7 : decode cL_triangles 7 = .ok (.i2l, 1) := by decide +kernel
theorem dL_triangles_8 : decode cL_triangles 8 = .ok (.lastore, 1) := by decide +kernel
theorem dL_triangles_9 : decode cL_triangles 9 = .ok (.goto 6, 3) := by decide +kernel
theorem dL_triangles_12 : decode cL_triangles 12 = .ok (.astore_n 3, 1) := by decide +kernel
theorem dL_triangles_13 : decode cL_triangles 13 = .ok (.iconst 1, 1) := by decide +kernel
theorem dL_triangles_14 : decode cL_triangles 14 = .ok (.ireturn, 1) := by decide +kernel
theorem dL_triangles_15 : decode cL_triangles 15 = .ok (.iconst 0, 1) := by decide +kernel
theorem dL_triangles_16 : decode cL_triangles 16 = .ok (.ireturn, 1) := by decide +kernel
theorem dL_fieldRank_0 : decode cL_fieldRank 0 = .ok (.aload_n 2, 1) := by decide +kernel
theorem dL_fieldRank_1 : decode cL_fieldRank 1 = .ok (.iconst 0, 1) := by decide +kernel
theorem dL_fieldRank_2 : decode cL_fieldRank 2 = .ok (.aload_n 0, 1) := by decide +kernel
theorem dL_fieldRank_3 : decode cL_fieldRank 3 = .ok (.iload_n 1, 1) := by decide +kernel
theorem dL_fieldRank_4 : decode cL_fieldRank 4 = .ok (.invokevirtual 112, 3) := by decide +kernel
theorem dL_fieldRank_7 : decode cL_fieldRank 7 = .ok (.i2l, 1) := by decide +kernel
theorem dL_fieldRank_8 : decode cL_fieldRank 8 = .ok (.lastore, 1) := by decide +kernel
theorem dL_fieldRank_9 : decode cL_fieldRank 9 = .ok (.goto 6, 3) := by decide +kernel
theorem dL_fieldRank_12 : decode cL_fieldRank 12 = .ok (.astore_n 3, 1) := by decide +kernel
theorem dL_fieldRank_13 : decode cL_fieldRank 13 = .ok (.iconst 1, 1) := by decide +kernel
theorem dL_fieldRank_14 : decode cL_fieldRank 14 = .ok (.ireturn, 1) := by decide +kernel
theorem dL_fieldRank_15 : decode cL_fieldRank 15 = .ok (.iconst 0, 1) := by decide +kernel
theorem dL_fieldRank_16 : decode cL_fieldRank 16 = .ok (.ireturn, 1) := by decide +kernel
theorem dL_solve_0 : decode cL_solve 0 = .ok (.aload 4, 2) := by decide +kernel
theorem dL_solve_2 : decode cL_solve 2 = .ok (.iconst 0, 1) := by decide +kernel
theorem dL_solve_3 : decode cL_solve 3 = .ok (.aload_n 0, 1) := by decide +kernel
theorem dL_solve_4 : decode cL_solve 4 = .ok (.iload_n 1, 1) := by decide +kernel
theorem dL_solve_5 : decode cL_solve 5 = .ok (.lload_n 2, 1) := by decide +kernel
theorem dL_solve_6 : decode cL_solve 6 = .ok (.invokevirtual 115, 3) := by decide +kernel
theorem dL_solve_9 : decode cL_solve 9 = .ok (.lastore, 1) := by decide +kernel
theorem dL_solve_10 : decode cL_solve 10 = .ok (.goto 7, 3) := by decide +kernel
theorem dL_solve_13 : decode cL_solve 13 = .ok (.astore 5, 2) := by decide +kernel
theorem dL_solve_15 : decode cL_solve 15 = .ok (.iconst 1, 1) := by decide +kernel
theorem dL_solve_16 : decode cL_solve 16 = .ok (.ireturn, 1) := by decide +kernel
theorem dL_solve_17 : decode cL_solve 17 = .ok (.iconst 0, 1) := by decide +kernel
theorem dL_solve_18 : decode cL_solve 18 = .ok (.ireturn, 1) := by decide +kernel
theorem dL_freedom_0 : decode cL_freedom 0 = .ok (.aload 4, 2) := by decide +kernel
theorem dL_freedom_2 : decode cL_freedom 2 = .ok (.iconst 0, 1) := by decide +kernel
theorem dL_freedom_3 : decode cL_freedom 3 = .ok (.aload_n 0, 1) := by decide +kernel
theorem dL_freedom_4 : decode cL_freedom 4 = .ok (.iload_n 1, 1) := by decide +kernel
theorem dL_freedom_5 : decode cL_freedom 5 = .ok (.lload_n 2, 1) := by decide +kernel
theorem dL_freedom_6 : decode cL_freedom 6 = .ok (.invokevirtual 119, 3) := by decide +kernel
theorem dL_freedom_9 : decode cL_freedom 9 = .ok (.i2l, 1) := by decide +kernel
theorem dL_freedom_10 : decode cL_freedom 10 = .ok (.lastore, 1) := by decide +kernel
theorem dL_freedom_11 : decode cL_freedom 11 = .ok (.goto 7, 3) := by decide +kernel
theorem dL_freedom_14 : decode cL_freedom 14 = .ok (.astore 5, 2) := by decide +kernel
theorem dL_freedom_16 : decode cL_freedom 16 = .ok (.iconst 1, 1) := by decide +kernel
theorem dL_freedom_17 : decode cL_freedom 17 = .ok (.ireturn, 1) := by decide +kernel
theorem dL_freedom_18 : decode cL_freedom 18 = .ok (.iconst 0, 1) := by decide +kernel
theorem dL_freedom_19 : decode cL_freedom 19 = .ok (.ireturn, 1) := by decide +kernel
theorem dL_pivot_0 : decode cL_pivot 0 = .ok (.aload_n 3, 1) := by decide +kernel
theorem dL_pivot_1 : decode cL_pivot 1 = .ok (.iconst 0, 1) := by decide +kernel
theorem dL_pivot_2 : decode cL_pivot 2 = .ok (.aload_n 0, 1) := by decide +kernel
theorem dL_pivot_3 : decode cL_pivot 3 = .ok (.iload_n 1, 1) := by decide +kernel
theorem dL_pivot_4 : decode cL_pivot 4 = .ok (.iload_n 2, 1) := by decide +kernel
theorem dL_pivot_5 : decode cL_pivot 5 = .ok (.invokevirtual 122, 3) := by decide +kernel
theorem dL_pivot_8 : decode cL_pivot 8 = .ok (.i2l, 1) := by decide +kernel
theorem dL_pivot_9 : decode cL_pivot 9 = .ok (.lastore, 1) := by decide +kernel
theorem dL_pivot_10 : decode cL_pivot 10 = .ok (.goto 7, 3) := by decide +kernel
theorem dL_pivot_13 : decode cL_pivot 13 = .ok (.astore 4, 2) := by decide +kernel
theorem dL_pivot_15 : decode cL_pivot 15 = .ok (.iconst 1, 1) := by decide +kernel
theorem dL_pivot_16 : decode cL_pivot 16 = .ok (.ireturn, 1) := by decide +kernel
theorem dL_pivot_17 : decode cL_pivot 17 = .ok (.iconst 0, 1) := by decide +kernel
theorem dL_pivot_18 : decode cL_pivot 18 = .ok (.ireturn, 1) := by decide +kernel
theorem dL_put_0 : decode cL_put 0 = .ok (.aload 5, 2) := by decide +kernel
theorem dL_put_2 : decode cL_put 2 = .ok (.iconst 0, 1) := by decide +kernel
theorem dL_put_3 : decode cL_put 3 = .ok (.aload_n 0, 1) := by decide +kernel
theorem dL_put_4 : decode cL_put 4 = .ok (.iload_n 1, 1) := by decide +kernel
theorem dL_put_5 : decode cL_put 5 = .ok (.iload_n 2, 1) := by decide +kernel
theorem dL_put_6 : decode cL_put 6 = .ok (.iload_n 3, 1) := by decide +kernel
theorem dL_put_7 : decode cL_put 7 = .ok (.iload 4, 2) := by decide +kernel
theorem dL_put_9 : decode cL_put 9 = .ok (.invokevirtual 125, 3) := by decide +kernel
theorem dL_put_12 : decode cL_put 12 = .ok (.i2l, 1) := by decide +kernel
theorem dL_put_13 : decode cL_put 13 = .ok (.lastore, 1) := by decide +kernel
theorem dL_put_14 : decode cL_put 14 = .ok (.goto 7, 3) := by decide +kernel
theorem dL_put_17 : decode cL_put 17 = .ok (.astore 6, 2) := by decide +kernel
theorem dL_put_19 : decode cL_put 19 = .ok (.iconst 1, 1) := by decide +kernel
theorem dL_put_20 : decode cL_put 20 = .ok (.ireturn, 1) := by decide +kernel
theorem dL_put_21 : decode cL_put 21 = .ok (.iconst 0, 1) := by decide +kernel
theorem dL_put_22 : decode cL_put 22 = .ok (.ireturn, 1) := by decide +kernel
theorem dL_setRow_0 : decode cL_setRow 0 = .ok (.aload 5, 2) := by decide +kernel
theorem dL_setRow_2 : decode cL_setRow 2 = .ok (.iconst 0, 1) := by decide +kernel
theorem dL_setRow_3 : decode cL_setRow 3 = .ok (.aload_n 0, 1) := by decide +kernel
theorem dL_setRow_4 : decode cL_setRow 4 = .ok (.iload_n 1, 1) := by decide +kernel
theorem dL_setRow_5 : decode cL_setRow 5 = .ok (.iload_n 2, 1) := by decide +kernel
theorem dL_setRow_6 : decode cL_setRow 6 = .ok (.lload_n 3, 1) := by decide +kernel
theorem dL_setRow_7 : decode cL_setRow 7 = .ok (.invokevirtual 129, 3) := by decide +kernel
theorem dL_setRow_10 : decode cL_setRow 10 = .ok (.i2l, 1) := by decide +kernel
theorem dL_setRow_11 : decode cL_setRow 11 = .ok (.lastore, 1) := by decide +kernel
theorem dL_setRow_12 : decode cL_setRow 12 = .ok (.goto 7, 3) := by decide +kernel
theorem dL_setRow_15 : decode cL_setRow 15 = .ok (.astore 6, 2) := by decide +kernel
theorem dL_setRow_17 : decode cL_setRow 17 = .ok (.iconst 1, 1) := by decide +kernel
theorem dL_setRow_18 : decode cL_setRow 18 = .ok (.ireturn, 1) := by decide +kernel
theorem dL_setRow_19 : decode cL_setRow 19 = .ok (.iconst 0, 1) := by decide +kernel
theorem dL_setRow_20 : decode cL_setRow 20 = .ok (.ireturn, 1) := by decide +kernel
theorem dL_copy_0 : decode cL_copy 0 = .ok (.aload_n 3, 1) := by decide +kernel
theorem dL_copy_1 : decode cL_copy 1 = .ok (.iconst 0, 1) := by decide +kernel
theorem dL_copy_2 : decode cL_copy 2 = .ok (.aload_n 0, 1) := by decide +kernel
theorem dL_copy_3 : decode cL_copy 3 = .ok (.iload_n 1, 1) := by decide +kernel
theorem dL_copy_4 : decode cL_copy 4 = .ok (.iload_n 2, 1) := by decide +kernel
theorem dL_copy_5 : decode cL_copy 5 = .ok (.invokevirtual 133, 3) := by decide +kernel
theorem dL_copy_8 : decode cL_copy 8 = .ok (.i2l, 1) := by decide +kernel
theorem dL_copy_9 : decode cL_copy 9 = .ok (.lastore, 1) := by decide +kernel
theorem dL_copy_10 : decode cL_copy 10 = .ok (.goto 7, 3) := by decide +kernel
theorem dL_copy_13 : decode cL_copy 13 = .ok (.astore 4, 2) := by decide +kernel
theorem dL_copy_15 : decode cL_copy 15 = .ok (.iconst 1, 1) := by decide +kernel
theorem dL_copy_16 : decode cL_copy 16 = .ok (.ireturn, 1) := by decide +kernel
theorem dL_copy_17 : decode cL_copy 17 = .ok (.iconst 0, 1) := by decide +kernel
theorem dL_copy_18 : decode cL_copy 18 = .ok (.ireturn, 1) := by decide +kernel
theorem dL_transpose_0 : decode cL_transpose 0 = .ok (.aload_n 3, 1) := by decide +kernel
theorem dL_transpose_1 : decode cL_transpose 1 = .ok (.iconst 0, 1) := by decide +kernel
theorem dL_transpose_2 : decode cL_transpose 2 = .ok (.aload_n 0, 1) := by decide +kernel
theorem dL_transpose_3 : decode cL_transpose 3 = .ok (.iload_n 1, 1) := by decide +kernel
theorem dL_transpose_4 : decode cL_transpose 4 = .ok (.iload_n 2, 1) := by decide +kernel
theorem dL_transpose_5 : decode cL_transpose 5 = .ok (.invokevirtual 136, 3) := by decide +kernel
theorem dL_transpose_8 : decode cL_transpose 8 = .ok (.i2l, 1) := by decide +kernel
theorem dL_transpose_9 : decode cL_transpose 9 = .ok (.lastore, 1) := by decide +kernel
theorem dL_transpose_10 : decode cL_transpose 10 = .ok (.goto 7, 3) := by decide +kernel
theorem dL_transpose_13 : decode cL_transpose 13 = .ok (.astore 4, 2) := by decide +kernel
theorem dL_transpose_15 : decode cL_transpose 15 = .ok (.iconst 1, 1) := by decide +kernel
theorem dL_transpose_16 : decode cL_transpose 16 = .ok (.ireturn, 1) := by decide +kernel
theorem dL_transpose_17 : decode cL_transpose 17 = .ok (.iconst 0, 1) := by decide +kernel
theorem dL_transpose_18 : decode cL_transpose 18 = .ok (.ireturn, 1) := by decide +kernel
theorem dL_combine_0 : decode cL_combine 0 = .ok (.aload 5, 2) := by decide +kernel
theorem dL_combine_2 : decode cL_combine 2 = .ok (.iconst 0, 1) := by decide +kernel
theorem dL_combine_3 : decode cL_combine 3 = .ok (.aload_n 0, 1) := by decide +kernel
theorem dL_combine_4 : decode cL_combine 4 = .ok (.iload_n 1, 1) := by decide +kernel
theorem dL_combine_5 : decode cL_combine 5 = .ok (.iload_n 2, 1) := by decide +kernel
theorem dL_combine_6 : decode cL_combine 6 = .ok (.iload_n 3, 1) := by decide +kernel
theorem dL_combine_7 : decode cL_combine 7 = .ok (.iload 4, 2) := by decide +kernel
theorem dL_combine_9 : decode cL_combine 9 = .ok (.invokevirtual 139, 3) := by decide +kernel
theorem dL_combine_12 : decode cL_combine 12 = .ok (.i2l, 1) := by decide +kernel
theorem dL_combine_13 : decode cL_combine 13 = .ok (.lastore, 1) := by decide +kernel
theorem dL_combine_14 : decode cL_combine 14 = .ok (.goto 11, 3) := by decide +kernel
theorem dL_combine_17 : decode cL_combine 17 = .ok (.astore 6, 2) := by decide +kernel
theorem dL_combine_19 : decode cL_combine 19 = .ok (.iconst 1, 1) := by decide +kernel
theorem dL_combine_20 : decode cL_combine 20 = .ok (.ireturn, 1) := by decide +kernel
theorem dL_combine_21 : decode cL_combine 21 = .ok (.astore 6, 2) := by decide +kernel
theorem dL_combine_23 : decode cL_combine 23 = .ok (.iconst 2, 1) := by decide +kernel
theorem dL_combine_24 : decode cL_combine 24 = .ok (.ireturn, 1) := by decide +kernel
theorem dL_combine_25 : decode cL_combine 25 = .ok (.iconst 0, 1) := by decide +kernel
theorem dL_combine_26 : decode cL_combine 26 = .ok (.ireturn, 1) := by decide +kernel
theorem dL_product_0 : decode cL_product 0 = .ok (.aload 5, 2) := by decide +kernel
theorem dL_product_2 : decode cL_product 2 = .ok (.iconst 0, 1) := by decide +kernel
theorem dL_product_3 : decode cL_product 3 = .ok (.aload_n 0, 1) := by decide +kernel
theorem dL_product_4 : decode cL_product 4 = .ok (.iload_n 1, 1) := by decide +kernel
theorem dL_product_5 : decode cL_product 5 = .ok (.iload_n 2, 1) := by decide +kernel
theorem dL_product_6 : decode cL_product 6 = .ok (.iload_n 3, 1) := by decide +kernel
theorem dL_product_7 : decode cL_product 7 = .ok (.iload 4, 2) := by decide +kernel
theorem dL_product_9 : decode cL_product 9 = .ok (.invokevirtual 142, 3) := by decide +kernel
theorem dL_product_12 : decode cL_product 12 = .ok (.i2l, 1) := by decide +kernel
theorem dL_product_13 : decode cL_product 13 = .ok (.lastore, 1) := by decide +kernel
theorem dL_product_14 : decode cL_product 14 = .ok (.goto 7, 3) := by decide +kernel
theorem dL_product_17 : decode cL_product 17 = .ok (.astore 6, 2) := by decide +kernel
theorem dL_product_19 : decode cL_product 19 = .ok (.iconst 1, 1) := by decide +kernel
theorem dL_product_20 : decode cL_product 20 = .ok (.ireturn, 1) := by decide +kernel
theorem dL_product_21 : decode cL_product 21 = .ok (.iconst 0, 1) := by decide +kernel
theorem dL_product_22 : decode cL_product 22 = .ok (.ireturn, 1) := by decide +kernel
theorem dL_power_0 : decode cL_power 0 = .ok (.aload 5, 2) := by decide +kernel
theorem dL_power_2 : decode cL_power 2 = .ok (.iconst 0, 1) := by decide +kernel
theorem dL_power_3 : decode cL_power 3 = .ok (.aload_n 0, 1) := by decide +kernel
theorem dL_power_4 : decode cL_power 4 = .ok (.iload_n 1, 1) := by decide +kernel
theorem dL_power_5 : decode cL_power 5 = .ok (.iload_n 2, 1) := by decide +kernel
theorem dL_power_6 : decode cL_power 6 = .ok (.iload_n 3, 1) := by decide +kernel
theorem dL_power_7 : decode cL_power 7 = .ok (.iload 4, 2) := by decide +kernel
theorem dL_power_9 : decode cL_power 9 = .ok (.invokevirtual 145, 3) := by decide +kernel
theorem dL_power_12 : decode cL_power 12 = .ok (.i2l, 1) := by decide +kernel
theorem dL_power_13 : decode cL_power 13 = .ok (.lastore, 1) := by decide +kernel
theorem dL_power_14 : decode cL_power 14 = .ok (.goto 11, 3) := by decide +kernel
theorem dL_power_17 : decode cL_power 17 = .ok (.astore 6, 2) := by decide +kernel
theorem dL_power_19 : decode cL_power 19 = .ok (.iconst 1, 1) := by decide +kernel
theorem dL_power_20 : decode cL_power 20 = .ok (.ireturn, 1) := by decide +kernel
theorem dL_power_21 : decode cL_power 21 = .ok (.astore 6, 2) := by decide +kernel
theorem dL_power_23 : decode cL_power 23 = .ok (.iconst 2, 1) := by decide +kernel
theorem dL_power_24 : decode cL_power 24 = .ok (.ireturn, 1) := by decide +kernel
theorem dL_power_25 : decode cL_power 25 = .ok (.iconst 0, 1) := by decide +kernel
theorem dL_power_26 : decode cL_power 26 = .ok (.ireturn, 1) := by decide +kernel
theorem dL_invert_0 : decode cL_invert 0 = .ok (.aload_n 3, 1) := by decide +kernel
theorem dL_invert_1 : decode cL_invert 1 = .ok (.iconst 0, 1) := by decide +kernel
theorem dL_invert_2 : decode cL_invert 2 = .ok (.aload_n 0, 1) := by decide +kernel
theorem dL_invert_3 : decode cL_invert 3 = .ok (.iload_n 1, 1) := by decide +kernel
theorem dL_invert_4 : decode cL_invert 4 = .ok (.iload_n 2, 1) := by decide +kernel
theorem dL_invert_5 : decode cL_invert 5 = .ok (.invokevirtual 148, 3) := by decide +kernel
theorem dL_invert_8 : decode cL_invert 8 = .ok (.i2l, 1) := by decide +kernel
theorem dL_invert_9 : decode cL_invert 9 = .ok (.lastore, 1) := by decide +kernel
theorem dL_invert_10 : decode cL_invert 10 = .ok (.goto 7, 3) := by decide +kernel
theorem dL_invert_13 : decode cL_invert 13 = .ok (.astore 4, 2) := by decide +kernel
theorem dL_invert_15 : decode cL_invert 15 = .ok (.iconst 1, 1) := by decide +kernel
theorem dL_invert_16 : decode cL_invert 16 = .ok (.ireturn, 1) := by decide +kernel
theorem dL_invert_17 : decode cL_invert 17 = .ok (.iconst 0, 1) := by decide +kernel
theorem dL_invert_18 : decode cL_invert 18 = .ok (.ireturn, 1) := by decide +kernel
theorem dL_close_0 : decode cL_close 0 = .ok (.aload_n 3, 1) := by decide +kernel
theorem dL_close_1 : decode cL_close 1 = .ok (.iconst 0, 1) := by decide +kernel
theorem dL_close_2 : decode cL_close 2 = .ok (.aload_n 0, 1) := by decide +kernel
theorem dL_close_3 : decode cL_close 3 = .ok (.iload_n 1, 1) := by decide +kernel
theorem dL_close_4 : decode cL_close 4 = .ok (.iload_n 2, 1) := by decide +kernel
theorem dL_close_5 : decode cL_close 5 = .ok (.invokevirtual 151, 3) := by decide +kernel
theorem dL_close_8 : decode cL_close 8 = .ok (.i2l, 1) := by decide +kernel
theorem dL_close_9 : decode cL_close 9 = .ok (.lastore, 1) := by decide +kernel
theorem dL_close_10 : decode cL_close 10 = .ok (.goto 7, 3) := by decide +kernel
theorem dL_close_13 : decode cL_close 13 = .ok (.astore 4, 2) := by decide +kernel
theorem dL_close_15 : decode cL_close 15 = .ok (.iconst 1, 1) := by decide +kernel
theorem dL_close_16 : decode cL_close 16 = .ok (.ireturn, 1) := by decide +kernel
theorem dL_close_17 : decode cL_close 17 = .ok (.iconst 0, 1) := by decide +kernel
theorem dL_close_18 : decode cL_close 18 = .ok (.ireturn, 1) := by decide +kernel
theorem dL_reduce_0 : decode cL_reduce 0 = .ok (.aload_n 3, 1) := by decide +kernel
theorem dL_reduce_1 : decode cL_reduce 1 = .ok (.iconst 0, 1) := by decide +kernel
theorem dL_reduce_2 : decode cL_reduce 2 = .ok (.aload_n 0, 1) := by decide +kernel
theorem dL_reduce_3 : decode cL_reduce 3 = .ok (.iload_n 1, 1) := by decide +kernel
theorem dL_reduce_4 : decode cL_reduce 4 = .ok (.iload_n 2, 1) := by decide +kernel
theorem dL_reduce_5 : decode cL_reduce 5 = .ok (.invokevirtual 154, 3) := by decide +kernel
theorem dL_reduce_8 : decode cL_reduce 8 = .ok (.i2l, 1) := by decide +kernel
theorem dL_reduce_9 : decode cL_reduce 9 = .ok (.lastore, 1) := by decide +kernel
theorem dL_reduce_10 : decode cL_reduce 10 = .ok (.goto 7, 3) := by decide +kernel
theorem dL_reduce_13 : decode cL_reduce 13 = .ok (.astore 4, 2) := by decide +kernel
theorem dL_reduce_15 : decode cL_reduce 15 = .ok (.iconst 1, 1) := by decide +kernel
theorem dL_reduce_16 : decode cL_reduce 16 = .ok (.ireturn, 1) := by decide +kernel
theorem dL_reduce_17 : decode cL_reduce 17 = .ok (.iconst 0, 1) := by decide +kernel
theorem dL_reduce_18 : decode cL_reduce 18 = .ok (.ireturn, 1) := by decide +kernel
theorem dL_exchange_0 : decode cL_exchange 0 = .ok (.aload 4, 2) := by decide +kernel
theorem dL_exchange_2 : decode cL_exchange 2 = .ok (.iconst 0, 1) := by decide +kernel
theorem dL_exchange_3 : decode cL_exchange 3 = .ok (.aload_n 0, 1) := by decide +kernel
theorem dL_exchange_4 : decode cL_exchange 4 = .ok (.iload_n 1, 1) := by decide +kernel
theorem dL_exchange_5 : decode cL_exchange 5 = .ok (.iload_n 2, 1) := by decide +kernel
theorem dL_exchange_6 : decode cL_exchange 6 = .ok (.iload_n 3, 1) := by decide +kernel
theorem dL_exchange_7 : decode cL_exchange 7 = .ok (.invokevirtual 157, 3) := by decide +kernel
theorem dL_exchange_10 : decode cL_exchange 10 = .ok (.i2l, 1) := by decide +kernel
theorem dL_exchange_11 : decode cL_exchange 11 = .ok (.lastore, 1) := by decide +kernel
theorem dL_exchange_12 : decode cL_exchange 12 = .ok (.goto 7, 3) := by decide +kernel
theorem dL_exchange_15 : decode cL_exchange 15 = .ok (.astore 5, 2) := by decide +kernel
theorem dL_exchange_17 : decode cL_exchange 17 = .ok (.iconst 1, 1) := by decide +kernel
theorem dL_exchange_18 : decode cL_exchange 18 = .ok (.ireturn, 1) := by decide +kernel
theorem dL_exchange_19 : decode cL_exchange 19 = .ok (.iconst 0, 1) := by decide +kernel
theorem dL_exchange_20 : decode cL_exchange 20 = .ok (.ireturn, 1) := by decide +kernel
theorem dL_keep_0 : decode cL_keep 0 = .ok (.aload_n 3, 1) := by decide +kernel
theorem dL_keep_1 : decode cL_keep 1 = .ok (.iconst 0, 1) := by decide +kernel
theorem dL_keep_2 : decode cL_keep 2 = .ok (.aload_n 0, 1) := by decide +kernel
theorem dL_keep_3 : decode cL_keep 3 = .ok (.iload_n 1, 1) := by decide +kernel
theorem dL_keep_4 : decode cL_keep 4 = .ok (.iload_n 2, 1) := by decide +kernel
theorem dL_keep_5 : decode cL_keep 5 = .ok (.invokevirtual 160, 3) := by decide +kernel
theorem dL_keep_8 : decode cL_keep 8 = .ok (.i2l, 1) := by decide +kernel
theorem dL_keep_9 : decode cL_keep 9 = .ok (.lastore, 1) := by decide +kernel
theorem dL_keep_10 : decode cL_keep 10 = .ok (.goto 7, 3) := by decide +kernel
theorem dL_keep_13 : decode cL_keep 13 = .ok (.astore 4, 2) := by decide +kernel
theorem dL_keep_15 : decode cL_keep 15 = .ok (.iconst 1, 1) := by decide +kernel
theorem dL_keep_16 : decode cL_keep 16 = .ok (.ireturn, 1) := by decide +kernel
theorem dL_keep_17 : decode cL_keep 17 = .ok (.iconst 0, 1) := by decide +kernel
theorem dL_keep_18 : decode cL_keep 18 = .ok (.ireturn, 1) := by decide +kernel
theorem dL_setBlock_0 : decode cL_setBlock 0 = .ok (.aload_n 2, 1) := by decide +kernel
theorem dL_setBlock_1 : decode cL_setBlock 1 = .ok (.iconst 0, 1) := by decide +kernel
theorem dL_setBlock_2 : decode cL_setBlock 2 = .ok (.aload_n 0, 1) := by decide +kernel
theorem dL_setBlock_3 : decode cL_setBlock 3 = .ok (.iload_n 1, 1) := by decide +kernel
theorem dL_setBlock_4 : decode cL_setBlock 4 = .ok (.invokevirtual 164, 3) := by decide +kernel
theorem dL_setBlock_7 : decode cL_setBlock 7 = .ok (.i2l, 1) := by decide +kernel
theorem dL_setBlock_8 : decode cL_setBlock 8 = .ok (.lastore, 1) := by decide +kernel
theorem dL_setBlock_9 : decode cL_setBlock 9 = .ok (.goto 6, 3) := by decide +kernel
theorem dL_setBlock_12 : decode cL_setBlock 12 = .ok (.astore_n 3, 1) := by decide +kernel
theorem dL_setBlock_13 : decode cL_setBlock 13 = .ok (.iconst 1, 1) := by decide +kernel
theorem dL_setBlock_14 : decode cL_setBlock 14 = .ok (.ireturn, 1) := by decide +kernel
theorem dL_setBlock_15 : decode cL_setBlock 15 = .ok (.iconst 0, 1) := by decide +kernel
theorem dL_setBlock_16 : decode cL_setBlock 16 = .ok (.ireturn, 1) := by decide +kernel
theorem dL_kept_0 : decode cL_kept 0 = .ok (.aload_n 3, 1) := by decide +kernel
theorem dL_kept_1 : decode cL_kept 1 = .ok (.iconst 0, 1) := by decide +kernel
theorem dL_kept_2 : decode cL_kept 2 = .ok (.aload_n 0, 1) := by decide +kernel
theorem dL_kept_3 : decode cL_kept 3 = .ok (.iload_n 1, 1) := by decide +kernel
theorem dL_kept_4 : decode cL_kept 4 = .ok (.iload_n 2, 1) := by decide +kernel
theorem dL_kept_5 : decode cL_kept 5 = .ok (.invokevirtual 167, 3) := by decide +kernel
theorem dL_kept_8 : decode cL_kept 8 = .ok (.i2l, 1) := by decide +kernel
theorem dL_kept_9 : decode cL_kept 9 = .ok (.lastore, 1) := by decide +kernel
theorem dL_kept_10 : decode cL_kept 10 = .ok (.goto 11, 3) := by decide +kernel
theorem dL_kept_13 : decode cL_kept 13 = .ok (.astore 4, 2) := by decide +kernel
theorem dL_kept_15 : decode cL_kept 15 = .ok (.iconst 1, 1) := by decide +kernel
theorem dL_kept_16 : decode cL_kept 16 = .ok (.ireturn, 1) := by decide +kernel
theorem dL_kept_17 : decode cL_kept 17 = .ok (.astore 4, 2) := by decide +kernel
theorem dL_kept_19 : decode cL_kept 19 = .ok (.iconst 2, 1) := by decide +kernel
theorem dL_kept_20 : decode cL_kept 20 = .ok (.ireturn, 1) := by decide +kernel
theorem dL_kept_21 : decode cL_kept 21 = .ok (.iconst 0, 1) := by decide +kernel
theorem dL_kept_22 : decode cL_kept 22 = .ok (.ireturn, 1) := by decide +kernel
theorem dL_work_0 : decode cL_work 0 = .ok (.aload_n 2, 1) := by decide +kernel
theorem dL_work_1 : decode cL_work 1 = .ok (.iconst 0, 1) := by decide +kernel
theorem dL_work_2 : decode cL_work 2 = .ok (.aload_n 0, 1) := by decide +kernel
theorem dL_work_3 : decode cL_work 3 = .ok (.iload_n 1, 1) := by decide +kernel
theorem dL_work_4 : decode cL_work 4 = .ok (.invokevirtual 170, 3) := by decide +kernel
theorem dL_work_7 : decode cL_work 7 = .ok (.i2l, 1) := by decide +kernel
theorem dL_work_8 : decode cL_work 8 = .ok (.lastore, 1) := by decide +kernel
theorem dL_work_9 : decode cL_work 9 = .ok (.goto 6, 3) := by decide +kernel
theorem dL_work_12 : decode cL_work 12 = .ok (.astore_n 3, 1) := by decide +kernel
theorem dL_work_13 : decode cL_work 13 = .ok (.iconst 1, 1) := by decide +kernel
theorem dL_work_14 : decode cL_work 14 = .ok (.ireturn, 1) := by decide +kernel
theorem dL_work_15 : decode cL_work 15 = .ok (.iconst 0, 1) := by decide +kernel
theorem dL_work_16 : decode cL_work 16 = .ok (.ireturn, 1) := by decide +kernel
theorem dL_writeRow_0 : decode cL_writeRow 0 = .ok (.aload_n 3, 1) := by decide +kernel
theorem dL_writeRow_1 : decode cL_writeRow 1 = .ok (.iconst 0, 1) := by decide +kernel
theorem dL_writeRow_2 : decode cL_writeRow 2 = .ok (.aload_n 0, 1) := by decide +kernel
theorem dL_writeRow_3 : decode cL_writeRow 3 = .ok (.iload_n 1, 1) := by decide +kernel
theorem dL_writeRow_4 : decode cL_writeRow 4 = .ok (.iload_n 2, 1) := by decide +kernel
theorem dL_writeRow_5 : decode cL_writeRow 5 = .ok (.invokevirtual 173, 3) := by decide +kernel
theorem dL_writeRow_8 : decode cL_writeRow 8 = .ok (.i2l, 1) := by decide +kernel
theorem dL_writeRow_9 : decode cL_writeRow 9 = .ok (.lastore, 1) := by decide +kernel
theorem dL_writeRow_10 : decode cL_writeRow 10 = .ok (.goto 7, 3) := by decide +kernel
theorem dL_writeRow_13 : decode cL_writeRow 13 = .ok (.astore 4, 2) := by decide +kernel
theorem dL_writeRow_15 : decode cL_writeRow 15 = .ok (.iconst 1, 1) := by decide +kernel
theorem dL_writeRow_16 : decode cL_writeRow 16 = .ok (.ireturn, 1) := by decide +kernel
theorem dL_writeRow_17 : decode cL_writeRow 17 = .ok (.iconst 0, 1) := by decide +kernel
theorem dL_writeRow_18 : decode cL_writeRow 18 = .ok (.ireturn, 1) := by decide +kernel
theorem dL_saveSnapshot_0 : decode cL_saveSnapshot 0 = .ok (.aload_n 2, 1) := by decide +kernel
theorem dL_saveSnapshot_1 : decode cL_saveSnapshot 1 = .ok (.iconst 0, 1) := by decide +kernel
theorem dL_saveSnapshot_2 : decode cL_saveSnapshot 2 = .ok (.aload_n 0, 1) := by decide +kernel
theorem dL_saveSnapshot_3 : decode cL_saveSnapshot 3 = .ok (.iload_n 1, 1) := by decide +kernel
theorem dL_saveSnapshot_4 : decode cL_saveSnapshot 4 = .ok (.invokevirtual 176, 3) := by decide +kernel
theorem dL_saveSnapshot_7 : decode cL_saveSnapshot 7 = .ok (.i2l, 1) := by decide +kernel
theorem dL_saveSnapshot_8 : decode cL_saveSnapshot 8 = .ok (.lastore, 1) := by decide +kernel
theorem dL_saveSnapshot_9 : decode cL_saveSnapshot 9 = .ok (.goto 6, 3) := by decide +kernel
theorem dL_saveSnapshot_12 : decode cL_saveSnapshot 12 = .ok (.astore_n 3, 1) := by decide +kernel
theorem dL_saveSnapshot_13 : decode cL_saveSnapshot 13 = .ok (.iconst 1, 1) := by decide +kernel
theorem dL_saveSnapshot_14 : decode cL_saveSnapshot 14 = .ok (.ireturn, 1) := by decide +kernel
theorem dL_saveSnapshot_15 : decode cL_saveSnapshot 15 = .ok (.iconst 0, 1) := by decide +kernel
theorem dL_saveSnapshot_16 : decode cL_saveSnapshot 16 = .ok (.ireturn, 1) := by decide +kernel
theorem dL_restoreSnapshot_0 : decode cL_restoreSnapshot 0 = .ok (.aload_n 2, 1) := by decide +kernel
theorem dL_restoreSnapshot_1 : decode cL_restoreSnapshot 1 = .ok (.iconst 0, 1) := by decide +kernel
theorem dL_restoreSnapshot_2 : decode cL_restoreSnapshot 2 = .ok (.aload_n 0, 1) := by decide +kernel
theorem dL_restoreSnapshot_3 : decode cL_restoreSnapshot 3 = .ok (.iload_n 1, 1) := by decide +kernel
theorem dL_restoreSnapshot_4 : decode cL_restoreSnapshot 4 = .ok (.invokevirtual 179, 3) := by decide +kernel
theorem dL_restoreSnapshot_7 : decode cL_restoreSnapshot 7 = .ok (.i2l, 1) := by decide +kernel
theorem dL_restoreSnapshot_8 : decode cL_restoreSnapshot 8 = .ok (.lastore, 1) := by decide +kernel
theorem dL_restoreSnapshot_9 : decode cL_restoreSnapshot 9 = .ok (.goto 6, 3) := by decide +kernel
theorem dL_restoreSnapshot_12 : decode cL_restoreSnapshot 12 = .ok (.astore_n 3, 1) := by decide +kernel
theorem dL_restoreSnapshot_13 : decode cL_restoreSnapshot 13 = .ok (.iconst 1, 1) := by decide +kernel
theorem dL_restoreSnapshot_14 : decode cL_restoreSnapshot 14 = .ok (.ireturn, 1) := by decide +kernel
theorem dL_restoreSnapshot_15 : decode cL_restoreSnapshot 15 = .ok (.iconst 0, 1) := by decide +kernel
theorem dL_restoreSnapshot_16 : decode cL_restoreSnapshot 16 = .ok (.ireturn, 1) := by decide +kernel
def lTL_86 : List UInt8 := [132, 5, 5, 167, 245, 89, 4, 172]
def lTL_85 : List UInt8 := [7, 167, 0, 31, 43, 42, 21, 5, 4, 96, 46, 45, 184, 1, 125, 54, 6, 44, 42, 21, 5, 4, 96, 46, 182, 1, 127, 54, 7, 167, 0, 3] ++ lTL_86
def lTL_84 : List UInt8 := [44, 182, 1, 121, 87, 167, 0, 59, 43, 42, 21, 5, 4, 96, 46, 45, 184, 1, 122, 54, 6, 44, 42, 21, 5, 4, 96, 46, 182, 1, 124, 54] ++ lTL_85
def lTL_83 : List UInt8 := [0, 97, 43, 42, 21, 5, 4, 96, 46, 182, 1, 114, 87, 44, 42, 21, 5, 4, 96, 46, 182, 1, 117, 87, 167, 0, 72, 43, 182, 1, 118, 87] ++ lTL_84
def lTL_82 : List UInt8 := [46, 42, 21, 5, 5, 96, 46, 45, 184, 1, 111, 54, 6, 44, 42, 21, 5, 4, 96, 46, 42, 21, 5, 5, 96, 46, 182, 1, 113, 54, 7, 167] ++ lTL_83
def lTL_81 : List UInt8 := [21, 5, 4, 96, 46, 45, 184, 1, 108, 54, 6, 44, 42, 21, 5, 4, 96, 46, 182, 1, 110, 54, 7, 167, 0, 137, 43, 42, 21, 5, 4, 96] ++ lTL_82
def lTL_80 : List UInt8 := [5, 96, 46, 45, 184, 1, 105, 54, 6, 44, 42, 21, 5, 4, 96, 46, 42, 21, 5, 5, 96, 46, 182, 1, 107, 54, 7, 167, 0, 165, 43, 42] ++ lTL_81
def lTL_79 : List UInt8 := [46, 45, 184, 1, 102, 54, 6, 44, 42, 21, 5, 4, 96, 46, 182, 1, 104, 54, 7, 167, 0, 205, 43, 42, 21, 5, 4, 96, 46, 42, 21, 5] ++ lTL_80
def lTL_78 : List UInt8 := [5, 4, 96, 46, 42, 21, 5, 5, 96, 46, 153, 0, 7, 4, 167, 0, 4, 3, 182, 1, 101, 54, 7, 167, 0, 233, 43, 42, 21, 5, 4, 96] ++ lTL_79
def lTL_77 : List UInt8 := [1, 33, 43, 42, 21, 5, 4, 96, 46, 42, 21, 5, 5, 96, 46, 153, 0, 7, 4, 167, 0, 4, 3, 45, 184, 1, 98, 54, 6, 44, 42, 21] ++ lTL_78
def lTL_76 : List UInt8 := [46, 45, 184, 1, 95, 54, 6, 44, 42, 21, 5, 4, 96, 46, 42, 21, 5, 5, 96, 46, 42, 21, 5, 6, 96, 46, 182, 1, 97, 54, 7, 167] ++ lTL_77
def lTL_75 : List UInt8 := [42, 21, 5, 5, 96, 46, 182, 1, 94, 54, 7, 167, 1, 85, 43, 42, 21, 5, 4, 96, 46, 42, 21, 5, 5, 96, 46, 42, 21, 5, 6, 96] ++ lTL_76
def lTL_74 : List UInt8 := [91, 54, 7, 167, 1, 125, 43, 42, 21, 5, 4, 96, 46, 42, 21, 5, 5, 96, 46, 45, 184, 1, 92, 54, 6, 44, 42, 21, 5, 4, 96, 46] ++ lTL_75
def lTL_73 : List UInt8 := [21, 5, 4, 96, 46, 42, 21, 5, 5, 96, 46, 45, 184, 1, 89, 54, 6, 44, 42, 21, 5, 4, 96, 46, 42, 21, 5, 5, 96, 46, 182, 1] ++ lTL_74
def lTL_72 : List UInt8 := [5, 96, 46, 45, 184, 1, 86, 54, 6, 44, 42, 21, 5, 4, 96, 46, 42, 21, 5, 5, 96, 46, 182, 1, 88, 54, 7, 167, 1, 165, 43, 42] ++ lTL_73
def lTL_71 : List UInt8 := [42, 21, 5, 7, 96, 46, 153, 0, 7, 4, 167, 0, 4, 3, 182, 1, 85, 54, 7, 167, 1, 205, 43, 42, 21, 5, 4, 96, 46, 42, 21, 5] ++ lTL_72
def lTL_70 : List UInt8 := [0, 7, 4, 167, 0, 4, 3, 45, 184, 1, 83, 54, 6, 44, 42, 21, 5, 4, 96, 46, 42, 21, 5, 5, 96, 46, 42, 21, 5, 6, 96, 46] ++ lTL_71
def lTL_69 : List UInt8 := [82, 54, 7, 167, 2, 29, 43, 42, 21, 5, 4, 96, 46, 42, 21, 5, 5, 96, 46, 42, 21, 5, 6, 96, 46, 42, 21, 5, 7, 96, 46, 153] ++ lTL_70
def lTL_68 : List UInt8 := [5, 4, 96, 46, 42, 21, 5, 5, 96, 46, 42, 21, 5, 6, 96, 46, 42, 21, 5, 7, 96, 46, 153, 0, 7, 4, 167, 0, 4, 3, 182, 1] ++ lTL_69
def lTL_67 : List UInt8 := [5, 96, 46, 42, 21, 5, 6, 96, 46, 42, 21, 5, 7, 96, 46, 153, 0, 7, 4, 167, 0, 4, 3, 45, 184, 1, 80, 54, 6, 44, 42, 21] ++ lTL_68
def lTL_66 : List UInt8 := [96, 46, 42, 21, 5, 6, 96, 46, 42, 21, 5, 7, 96, 46, 182, 1, 79, 54, 7, 167, 2, 109, 43, 42, 21, 5, 4, 96, 46, 42, 21, 5] ++ lTL_67
def lTL_65 : List UInt8 := [5, 96, 46, 42, 21, 5, 6, 96, 46, 42, 21, 5, 7, 96, 46, 45, 184, 1, 77, 54, 6, 44, 42, 21, 5, 4, 96, 46, 42, 21, 5, 5] ++ lTL_66
def lTL_64 : List UInt8 := [6, 44, 42, 21, 5, 4, 96, 46, 42, 21, 5, 5, 96, 46, 182, 1, 76, 54, 7, 167, 2, 173, 43, 42, 21, 5, 4, 96, 46, 42, 21, 5] ++ lTL_65
def lTL_63 : List UInt8 := [42, 21, 5, 5, 96, 46, 182, 1, 73, 54, 7, 167, 2, 213, 43, 42, 21, 5, 4, 96, 46, 42, 21, 5, 5, 96, 46, 45, 184, 1, 74, 54] ++ lTL_64
def lTL_62 : List UInt8 := [70, 54, 7, 167, 2, 253, 43, 42, 21, 5, 4, 96, 46, 42, 21, 5, 5, 96, 46, 45, 184, 1, 71, 54, 6, 44, 42, 21, 5, 4, 96, 46] ++ lTL_63
def lTL_61 : List UInt8 := [96, 46, 42, 21, 5, 5, 96, 46, 42, 21, 5, 6, 96, 46, 133, 16, 32, 121, 42, 21, 5, 7, 96, 46, 133, 20, 0, 186, 127, 129, 182, 1] ++ lTL_62
def lTL_60 : List UInt8 := [21, 5, 6, 96, 46, 133, 16, 32, 121, 42, 21, 5, 7, 96, 46, 133, 20, 0, 186, 127, 129, 45, 184, 1, 67, 54, 6, 44, 42, 21, 5, 4] ++ lTL_61
def lTL_59 : List UInt8 := [96, 46, 153, 0, 7, 4, 167, 0, 4, 3, 182, 1, 66, 54, 7, 167, 3, 81, 43, 42, 21, 5, 4, 96, 46, 42, 21, 5, 5, 96, 46, 42] ++ lTL_60
def lTL_58 : List UInt8 := [0, 4, 3, 45, 184, 1, 63, 54, 6, 44, 42, 21, 5, 4, 96, 46, 42, 21, 5, 5, 96, 46, 42, 21, 5, 6, 96, 46, 42, 21, 5, 7] ++ lTL_59
def lTL_57 : List UInt8 := [3, 161, 43, 42, 21, 5, 4, 96, 46, 42, 21, 5, 5, 96, 46, 42, 21, 5, 6, 96, 46, 42, 21, 5, 7, 96, 46, 153, 0, 7, 4, 167] ++ lTL_58
def lTL_56 : List UInt8 := [46, 42, 21, 5, 5, 96, 46, 45, 184, 1, 60, 54, 6, 44, 42, 21, 5, 4, 96, 46, 42, 21, 5, 5, 96, 46, 182, 1, 62, 54, 7, 167] ++ lTL_57
def lTL_55 : List UInt8 := [96, 46, 133, 16, 32, 121, 42, 21, 5, 6, 96, 46, 133, 20, 0, 186, 127, 129, 182, 1, 59, 54, 7, 167, 3, 201, 43, 42, 21, 5, 4, 96] ++ lTL_56
def lTL_54 : List UInt8 := [16, 32, 121, 42, 21, 5, 6, 96, 46, 133, 20, 0, 186, 127, 129, 45, 184, 1, 57, 54, 6, 44, 42, 21, 5, 4, 96, 46, 42, 21, 5, 5] ++ lTL_55
def lTL_53 : List UInt8 := [5, 6, 96, 46, 133, 20, 0, 186, 127, 129, 182, 1, 56, 55, 7, 167, 4, 17, 43, 42, 21, 5, 4, 96, 46, 42, 21, 5, 5, 96, 46, 133] ++ lTL_54
def lTL_52 : List UInt8 := [46, 133, 20, 0, 186, 127, 129, 45, 184, 1, 54, 54, 6, 44, 42, 21, 5, 4, 96, 46, 42, 21, 5, 5, 96, 46, 133, 16, 32, 121, 42, 21] ++ lTL_53
def lTL_51 : List UInt8 := [96, 46, 182, 1, 53, 54, 7, 167, 4, 89, 43, 42, 21, 5, 4, 96, 46, 42, 21, 5, 5, 96, 46, 133, 16, 32, 121, 42, 21, 5, 6, 96] ++ lTL_52
def lTL_50 : List UInt8 := [42, 21, 5, 4, 96, 46, 182, 1, 50, 54, 7, 167, 4, 117, 43, 42, 21, 5, 4, 96, 46, 45, 184, 1, 51, 54, 6, 44, 42, 21, 5, 4] ++ lTL_51
def lTL_49 : List UInt8 := [154, 0, 15, 45, 3, 47, 21, 7, 133, 148, 153, 0, 5, 3, 172, 167, 4, 145, 43, 42, 21, 5, 4, 96, 46, 45, 184, 1, 48, 54, 6, 44] ++ lTL_50
def lTL_48 : List UInt8 := [46, 45, 184, 1, 42, 54, 6, 44, 42, 21, 5, 4, 96, 46, 182, 1, 44, 54, 7, 44, 182, 1, 45, 21, 6, 159, 0, 5, 3, 172, 21, 6] ++ lTL_49
def lTL_47 : List UInt8 := [21, 5, 4, 96, 46, 45, 184, 1, 39, 54, 6, 44, 42, 21, 5, 4, 96, 46, 182, 1, 41, 54, 7, 167, 4, 201, 43, 42, 21, 5, 4, 96] ++ lTL_48
def lTL_46 : List UInt8 := [36, 54, 6, 44, 42, 21, 5, 4, 96, 46, 42, 21, 5, 5, 96, 46, 42, 21, 5, 6, 96, 46, 182, 1, 38, 54, 7, 167, 4, 229, 43, 42] ++ lTL_47
def lTL_45 : List UInt8 := [96, 46, 182, 1, 35, 54, 7, 167, 5, 25, 43, 42, 21, 5, 4, 96, 46, 42, 21, 5, 5, 96, 46, 42, 21, 5, 6, 96, 46, 45, 184, 1] ++ lTL_46
def lTL_44 : List UInt8 := [5, 96, 46, 42, 21, 5, 6, 96, 46, 45, 184, 1, 33, 54, 6, 44, 42, 21, 5, 4, 96, 46, 42, 21, 5, 5, 96, 46, 42, 21, 5, 6] ++ lTL_45
def lTL_43 : List UInt8 := [6, 44, 42, 21, 5, 4, 96, 46, 42, 21, 5, 5, 96, 46, 182, 1, 32, 54, 7, 167, 5, 77, 43, 42, 21, 5, 4, 96, 46, 42, 21, 5] ++ lTL_44
def lTL_42 : List UInt8 := [42, 21, 5, 4, 96, 46, 182, 1, 29, 54, 7, 167, 5, 117, 43, 42, 21, 5, 4, 96, 46, 42, 21, 5, 5, 96, 46, 45, 184, 1, 30, 54] ++ lTL_43
def lTL_41 : List UInt8 := [5, 4, 96, 46, 42, 21, 5, 5, 96, 46, 182, 1, 26, 54, 7, 167, 5, 145, 43, 42, 21, 5, 4, 96, 46, 45, 184, 1, 27, 54, 6, 44] ++ lTL_42
def lTL_40 : List UInt8 := [96, 46, 182, 1, 23, 54, 7, 167, 5, 185, 43, 42, 21, 5, 4, 96, 46, 42, 21, 5, 5, 96, 46, 45, 184, 1, 24, 54, 6, 44, 42, 21] ++ lTL_41
def lTL_39 : List UInt8 := [7, 96, 46, 45, 184, 1, 20, 54, 6, 44, 42, 21, 5, 4, 96, 46, 42, 21, 5, 5, 96, 46, 42, 21, 5, 6, 96, 46, 42, 21, 5, 7] ++ lTL_40
def lTL_38 : List UInt8 := [96, 46, 182, 1, 19, 54, 7, 167, 5, 249, 43, 42, 21, 5, 4, 96, 46, 42, 21, 5, 5, 96, 46, 42, 21, 5, 6, 96, 46, 42, 21, 5] ++ lTL_39
def lTL_37 : List UInt8 := [5, 96, 46, 42, 21, 5, 6, 96, 46, 45, 184, 1, 17, 54, 6, 44, 42, 21, 5, 4, 96, 46, 42, 21, 5, 5, 96, 46, 42, 21, 5, 6] ++ lTL_38
def lTL_36 : List UInt8 := [46, 45, 184, 1, 14, 54, 6, 44, 42, 21, 5, 4, 96, 46, 182, 1, 16, 54, 7, 167, 6, 45, 43, 42, 21, 5, 4, 96, 46, 42, 21, 5] ++ lTL_37
def lTL_35 : List UInt8 := [184, 1, 11, 54, 6, 44, 42, 21, 5, 4, 96, 46, 42, 21, 5, 5, 96, 46, 182, 1, 13, 54, 7, 167, 6, 73, 43, 42, 21, 5, 4, 96] ++ lTL_36
def lTL_34 : List UInt8 := [8, 54, 6, 44, 42, 21, 5, 4, 96, 46, 182, 1, 10, 56, 7, 167, 6, 113, 43, 42, 21, 5, 4, 96, 46, 42, 21, 5, 5, 96, 46, 45] ++ lTL_35
def lTL_33 : List UInt8 := [45, 184, 1, 5, 54, 6, 44, 42, 21, 5, 4, 96, 46, 182, 1, 7, 54, 7, 167, 6, 142, 43, 42, 21, 5, 4, 96, 46, 25, 4, 184, 1] ++ lTL_34
def lTL_32 : List UInt8 := [1, 2, 54, 6, 44, 42, 21, 5, 4, 96, 46, 42, 21, 5, 5, 96, 46, 182, 1, 4, 54, 7, 167, 6, 170, 43, 42, 21, 5, 4, 96, 46] ++ lTL_33
def lTL_31 : List UInt8 := [5, 96, 46, 42, 21, 5, 6, 96, 46, 182, 1, 1, 54, 7, 167, 6, 210, 43, 42, 21, 5, 4, 96, 46, 42, 21, 5, 5, 96, 46, 45, 184] ++ lTL_32
def lTL_30 : List UInt8 := [5, 4, 96, 46, 42, 21, 5, 5, 96, 46, 42, 21, 5, 6, 96, 46, 45, 184, 0, 255, 54, 6, 44, 42, 21, 5, 4, 96, 46, 42, 21, 5] ++ lTL_31
def lTL_29 : List UInt8 := [34, 43, 42, 21, 5, 4, 96, 46, 45, 184, 0, 252, 54, 6, 44, 42, 21, 5, 4, 96, 46, 182, 0, 254, 54, 7, 167, 7, 6, 43, 42, 21] ++ lTL_30
def lTL_28 : List UInt8 := [7, 167, 7, 63, 43, 42, 21, 5, 4, 96, 46, 25, 4, 184, 0, 248, 54, 6, 44, 42, 21, 5, 4, 96, 46, 182, 0, 251, 57, 7, 167, 7] ++ lTL_29
def lTL_27 : List UInt8 := [4, 96, 46, 42, 21, 5, 5, 96, 46, 45, 184, 0, 245, 54, 6, 44, 42, 21, 5, 4, 96, 46, 42, 21, 5, 5, 96, 46, 182, 0, 247, 54] ++ lTL_28
def lTL_26 : List UInt8 := [5, 5, 96, 46, 133, 16, 32, 121, 42, 21, 5, 6, 96, 46, 133, 20, 0, 186, 127, 129, 182, 0, 244, 54, 7, 167, 7, 103, 43, 42, 21, 5] ++ lTL_27
def lTL_25 : List UInt8 := [46, 133, 16, 32, 121, 42, 21, 5, 6, 96, 46, 133, 20, 0, 186, 127, 129, 45, 184, 0, 241, 54, 6, 44, 42, 21, 5, 4, 96, 46, 42, 21] ++ lTL_26
def lTL_24 : List UInt8 := [42, 21, 5, 4, 96, 46, 42, 21, 5, 5, 96, 46, 182, 0, 240, 54, 7, 167, 7, 175, 43, 42, 21, 5, 4, 96, 46, 42, 21, 5, 5, 96] ++ lTL_25
def lTL_23 : List UInt8 := [5, 4, 96, 46, 182, 0, 237, 54, 7, 167, 7, 215, 43, 42, 21, 5, 4, 96, 46, 42, 21, 5, 5, 96, 46, 45, 184, 0, 238, 54, 6, 44] ++ lTL_24
def lTL_22 : List UInt8 := [96, 46, 42, 21, 5, 5, 96, 46, 182, 0, 234, 54, 7, 167, 7, 243, 43, 42, 21, 5, 4, 96, 46, 45, 184, 0, 235, 54, 6, 44, 42, 21] ++ lTL_23
def lTL_21 : List UInt8 := [182, 0, 231, 54, 7, 167, 8, 27, 43, 42, 21, 5, 4, 96, 46, 42, 21, 5, 5, 96, 46, 45, 184, 0, 232, 54, 6, 44, 42, 21, 5, 4] ++ lTL_22
def lTL_20 : List UInt8 := [43, 42, 21, 5, 4, 96, 46, 42, 21, 5, 5, 96, 46, 45, 184, 0, 229, 54, 6, 44, 42, 21, 5, 4, 96, 46, 42, 21, 5, 5, 96, 46] ++ lTL_21
def lTL_19 : List UInt8 := [7, 167, 8, 95, 43, 42, 21, 5, 4, 96, 46, 45, 184, 0, 226, 54, 6, 44, 42, 21, 5, 4, 96, 46, 182, 0, 228, 54, 7, 167, 8, 67] ++ lTL_20
def lTL_18 : List UInt8 := [6, 96, 46, 45, 184, 0, 223, 54, 6, 44, 42, 21, 5, 4, 96, 46, 42, 21, 5, 5, 96, 46, 42, 21, 5, 6, 96, 46, 182, 0, 225, 54] ++ lTL_19
def lTL_17 : List UInt8 := [96, 46, 42, 21, 5, 6, 96, 46, 182, 0, 222, 54, 7, 167, 8, 147, 43, 42, 21, 5, 4, 96, 46, 42, 21, 5, 5, 96, 46, 42, 21, 5] ++ lTL_18
def lTL_16 : List UInt8 := [4, 96, 46, 42, 21, 5, 5, 96, 46, 42, 21, 5, 6, 96, 46, 45, 184, 0, 220, 54, 6, 44, 42, 21, 5, 4, 96, 46, 42, 21, 5, 5] ++ lTL_17
def lTL_15 : List UInt8 := [46, 45, 184, 0, 216, 54, 6, 44, 42, 21, 5, 4, 96, 46, 42, 21, 5, 5, 96, 46, 182, 0, 219, 55, 7, 167, 8, 199, 43, 42, 21, 5] ++ lTL_16
def lTL_14 : List UInt8 := [42, 21, 5, 5, 96, 46, 42, 21, 5, 6, 96, 46, 182, 0, 215, 54, 7, 167, 8, 239, 43, 42, 21, 5, 4, 96, 46, 42, 21, 5, 5, 96] ++ lTL_15
def lTL_13 : List UInt8 := [43, 42, 21, 5, 4, 96, 46, 42, 21, 5, 5, 96, 46, 42, 21, 5, 6, 96, 46, 45, 184, 0, 212, 54, 6, 44, 42, 21, 5, 4, 96, 46] ++ lTL_14
def lTL_12 : List UInt8 := [87, 167, 9, 63, 43, 42, 21, 5, 4, 96, 46, 45, 184, 0, 206, 54, 6, 44, 42, 21, 5, 4, 96, 46, 182, 0, 211, 54, 7, 167, 9, 35] ++ lTL_13
def lTL_11 : List UInt8 := [193, 87, 44, 182, 0, 197, 87, 167, 9, 89, 43, 182, 0, 198, 87, 44, 182, 0, 201, 87, 167, 9, 76, 43, 182, 0, 202, 87, 44, 182, 0, 205] ++ lTL_12
def lTL_10 : List UInt8 := [42, 21, 5, 4, 96, 46, 133, 16, 32, 121, 42, 21, 5, 5, 96, 46, 133, 20, 0, 186, 127, 129, 182, 0, 192, 87, 167, 9, 102, 43, 182, 0] ++ lTL_11
def lTL_9 : List UInt8 := [0, 0, 10, 120, 43, 42, 21, 5, 4, 96, 46, 133, 16, 32, 121, 42, 21, 5, 5, 96, 46, 133, 20, 0, 186, 127, 129, 182, 0, 188, 87, 44] ++ lTL_10
def lTL_8 : List UInt8 := [0, 0, 9, 118, 0, 0, 9, 174, 0, 0, 9, 202, 0, 0, 9, 242, 0, 0, 10, 14, 0, 0, 10, 54, 0, 0, 10, 79, 0, 0, 10, 92] ++ lTL_9
def lTL_7 : List UInt8 := [0, 0, 7, 194, 0, 0, 7, 234, 0, 0, 8, 42, 0, 0, 8, 122, 0, 0, 8, 202, 0, 0, 8, 242, 0, 0, 9, 26, 0, 0, 9, 66] ++ lTL_8
def lTL_6 : List UInt8 := [0, 0, 6, 6, 0, 0, 6, 34, 0, 0, 6, 62, 0, 0, 6, 134, 0, 0, 6, 206, 0, 0, 6, 246, 0, 0, 7, 70, 0, 0, 7, 154] ++ lTL_7
def lTL_5 : List UInt8 := [0, 0, 4, 158, 0, 0, 4, 222, 0, 0, 5, 6, 0, 0, 5, 34, 0, 0, 5, 74, 0, 0, 5, 126, 0, 0, 5, 178, 0, 0, 5, 206] ++ lTL_6
def lTL_4 : List UInt8 := [0, 0, 3, 117, 0, 0, 3, 145, 0, 0, 3, 197, 0, 0, 3, 237, 0, 0, 4, 9, 0, 0, 4, 38, 0, 0, 4, 78, 0, 0, 4, 106] ++ lTL_5
def lTL_3 : List UInt8 := [0, 0, 2, 56, 0, 0, 2, 84, 0, 0, 2, 124, 0, 0, 2, 164, 0, 0, 2, 192, 0, 0, 2, 232, 0, 0, 3, 48, 0, 0, 3, 88] ++ lTL_4
def lTL_2 : List UInt8 := [0, 0, 1, 49, 0, 0, 1, 62, 0, 0, 1, 75, 0, 0, 1, 88, 0, 0, 1, 116, 0, 0, 1, 168, 0, 0, 1, 208, 0, 0, 2, 4] ++ lTL_3
def lTL_1 : List UInt8 := [8, 100, 163, 10, 164, 42, 21, 5, 46, 16, 63, 126, 170, 0, 0, 0, 0, 0, 10, 148, 0, 0, 0, 0, 0, 0, 0, 57, 0, 0, 0, 248] ++ lTL_2
def lTL_0 : List UInt8 := [187, 0, 8, 89, 183, 0, 182, 76, 187, 0, 183, 89, 183, 0, 185, 77, 4, 188, 11, 78, 4, 188, 7, 58, 4, 3, 54, 5, 21, 5, 42, 190] ++ lTL_1
set_option maxRecDepth 100000 in
theorem lDL_0 : cL_law.data.toList.drop 0 = lTL_0 := by decide +kernel
theorem lDL_1 : cL_law.data.toList.drop 32 = lTL_1 := drp9 (c := [187, 0, 8, 89, 183, 0, 182, 76, 187, 0, 183, 89, 183, 0, 185, 77, 4, 188, 11, 78, 4, 188, 7, 58, 4, 3, 54, 5, 21, 5, 42, 190]) 32 lDL_0 rfl
theorem lDL_2 : cL_law.data.toList.drop 64 = lTL_2 := drp9 (c := [8, 100, 163, 10, 164, 42, 21, 5, 46, 16, 63, 126, 170, 0, 0, 0, 0, 0, 10, 148, 0, 0, 0, 0, 0, 0, 0, 57, 0, 0, 0, 248]) 32 lDL_1 rfl
theorem lDL_3 : cL_law.data.toList.drop 96 = lTL_3 := drp9 (c := [0, 0, 1, 49, 0, 0, 1, 62, 0, 0, 1, 75, 0, 0, 1, 88, 0, 0, 1, 116, 0, 0, 1, 168, 0, 0, 1, 208, 0, 0, 2, 4]) 32 lDL_2 rfl
theorem lDL_4 : cL_law.data.toList.drop 128 = lTL_4 := drp9 (c := [0, 0, 2, 56, 0, 0, 2, 84, 0, 0, 2, 124, 0, 0, 2, 164, 0, 0, 2, 192, 0, 0, 2, 232, 0, 0, 3, 48, 0, 0, 3, 88]) 32 lDL_3 rfl
theorem lDL_5 : cL_law.data.toList.drop 160 = lTL_5 := drp9 (c := [0, 0, 3, 117, 0, 0, 3, 145, 0, 0, 3, 197, 0, 0, 3, 237, 0, 0, 4, 9, 0, 0, 4, 38, 0, 0, 4, 78, 0, 0, 4, 106]) 32 lDL_4 rfl
theorem lDL_6 : cL_law.data.toList.drop 192 = lTL_6 := drp9 (c := [0, 0, 4, 158, 0, 0, 4, 222, 0, 0, 5, 6, 0, 0, 5, 34, 0, 0, 5, 74, 0, 0, 5, 126, 0, 0, 5, 178, 0, 0, 5, 206]) 32 lDL_5 rfl
theorem lDL_7 : cL_law.data.toList.drop 224 = lTL_7 := drp9 (c := [0, 0, 6, 6, 0, 0, 6, 34, 0, 0, 6, 62, 0, 0, 6, 134, 0, 0, 6, 206, 0, 0, 6, 246, 0, 0, 7, 70, 0, 0, 7, 154]) 32 lDL_6 rfl
theorem lDL_8 : cL_law.data.toList.drop 256 = lTL_8 := drp9 (c := [0, 0, 7, 194, 0, 0, 7, 234, 0, 0, 8, 42, 0, 0, 8, 122, 0, 0, 8, 202, 0, 0, 8, 242, 0, 0, 9, 26, 0, 0, 9, 66]) 32 lDL_7 rfl
theorem lDL_9 : cL_law.data.toList.drop 288 = lTL_9 := drp9 (c := [0, 0, 9, 118, 0, 0, 9, 174, 0, 0, 9, 202, 0, 0, 9, 242, 0, 0, 10, 14, 0, 0, 10, 54, 0, 0, 10, 79, 0, 0, 10, 92]) 32 lDL_8 rfl
theorem lDL_10 : cL_law.data.toList.drop 320 = lTL_10 := drp9 (c := [0, 0, 10, 120, 43, 42, 21, 5, 4, 96, 46, 133, 16, 32, 121, 42, 21, 5, 5, 96, 46, 133, 20, 0, 186, 127, 129, 182, 0, 188, 87, 44]) 32 lDL_9 rfl
theorem lDL_11 : cL_law.data.toList.drop 352 = lTL_11 := drp9 (c := [42, 21, 5, 4, 96, 46, 133, 16, 32, 121, 42, 21, 5, 5, 96, 46, 133, 20, 0, 186, 127, 129, 182, 0, 192, 87, 167, 9, 102, 43, 182, 0]) 32 lDL_10 rfl
theorem lDL_12 : cL_law.data.toList.drop 384 = lTL_12 := drp9 (c := [193, 87, 44, 182, 0, 197, 87, 167, 9, 89, 43, 182, 0, 198, 87, 44, 182, 0, 201, 87, 167, 9, 76, 43, 182, 0, 202, 87, 44, 182, 0, 205]) 32 lDL_11 rfl
theorem lDL_13 : cL_law.data.toList.drop 416 = lTL_13 := drp9 (c := [87, 167, 9, 63, 43, 42, 21, 5, 4, 96, 46, 45, 184, 0, 206, 54, 6, 44, 42, 21, 5, 4, 96, 46, 182, 0, 211, 54, 7, 167, 9, 35]) 32 lDL_12 rfl
theorem lDL_14 : cL_law.data.toList.drop 448 = lTL_14 := drp9 (c := [43, 42, 21, 5, 4, 96, 46, 42, 21, 5, 5, 96, 46, 42, 21, 5, 6, 96, 46, 45, 184, 0, 212, 54, 6, 44, 42, 21, 5, 4, 96, 46]) 32 lDL_13 rfl
theorem lDL_15 : cL_law.data.toList.drop 480 = lTL_15 := drp9 (c := [42, 21, 5, 5, 96, 46, 42, 21, 5, 6, 96, 46, 182, 0, 215, 54, 7, 167, 8, 239, 43, 42, 21, 5, 4, 96, 46, 42, 21, 5, 5, 96]) 32 lDL_14 rfl
theorem lDL_16 : cL_law.data.toList.drop 512 = lTL_16 := drp9 (c := [46, 45, 184, 0, 216, 54, 6, 44, 42, 21, 5, 4, 96, 46, 42, 21, 5, 5, 96, 46, 182, 0, 219, 55, 7, 167, 8, 199, 43, 42, 21, 5]) 32 lDL_15 rfl
theorem lDL_17 : cL_law.data.toList.drop 544 = lTL_17 := drp9 (c := [4, 96, 46, 42, 21, 5, 5, 96, 46, 42, 21, 5, 6, 96, 46, 45, 184, 0, 220, 54, 6, 44, 42, 21, 5, 4, 96, 46, 42, 21, 5, 5]) 32 lDL_16 rfl
theorem lDL_18 : cL_law.data.toList.drop 576 = lTL_18 := drp9 (c := [96, 46, 42, 21, 5, 6, 96, 46, 182, 0, 222, 54, 7, 167, 8, 147, 43, 42, 21, 5, 4, 96, 46, 42, 21, 5, 5, 96, 46, 42, 21, 5]) 32 lDL_17 rfl
theorem lDL_19 : cL_law.data.toList.drop 608 = lTL_19 := drp9 (c := [6, 96, 46, 45, 184, 0, 223, 54, 6, 44, 42, 21, 5, 4, 96, 46, 42, 21, 5, 5, 96, 46, 42, 21, 5, 6, 96, 46, 182, 0, 225, 54]) 32 lDL_18 rfl
theorem lDL_20 : cL_law.data.toList.drop 640 = lTL_20 := drp9 (c := [7, 167, 8, 95, 43, 42, 21, 5, 4, 96, 46, 45, 184, 0, 226, 54, 6, 44, 42, 21, 5, 4, 96, 46, 182, 0, 228, 54, 7, 167, 8, 67]) 32 lDL_19 rfl
theorem lDL_21 : cL_law.data.toList.drop 672 = lTL_21 := drp9 (c := [43, 42, 21, 5, 4, 96, 46, 42, 21, 5, 5, 96, 46, 45, 184, 0, 229, 54, 6, 44, 42, 21, 5, 4, 96, 46, 42, 21, 5, 5, 96, 46]) 32 lDL_20 rfl
theorem lDL_22 : cL_law.data.toList.drop 704 = lTL_22 := drp9 (c := [182, 0, 231, 54, 7, 167, 8, 27, 43, 42, 21, 5, 4, 96, 46, 42, 21, 5, 5, 96, 46, 45, 184, 0, 232, 54, 6, 44, 42, 21, 5, 4]) 32 lDL_21 rfl
theorem lDL_23 : cL_law.data.toList.drop 736 = lTL_23 := drp9 (c := [96, 46, 42, 21, 5, 5, 96, 46, 182, 0, 234, 54, 7, 167, 7, 243, 43, 42, 21, 5, 4, 96, 46, 45, 184, 0, 235, 54, 6, 44, 42, 21]) 32 lDL_22 rfl
theorem lDL_24 : cL_law.data.toList.drop 768 = lTL_24 := drp9 (c := [5, 4, 96, 46, 182, 0, 237, 54, 7, 167, 7, 215, 43, 42, 21, 5, 4, 96, 46, 42, 21, 5, 5, 96, 46, 45, 184, 0, 238, 54, 6, 44]) 32 lDL_23 rfl
theorem lDL_25 : cL_law.data.toList.drop 800 = lTL_25 := drp9 (c := [42, 21, 5, 4, 96, 46, 42, 21, 5, 5, 96, 46, 182, 0, 240, 54, 7, 167, 7, 175, 43, 42, 21, 5, 4, 96, 46, 42, 21, 5, 5, 96]) 32 lDL_24 rfl
theorem lDL_26 : cL_law.data.toList.drop 832 = lTL_26 := drp9 (c := [46, 133, 16, 32, 121, 42, 21, 5, 6, 96, 46, 133, 20, 0, 186, 127, 129, 45, 184, 0, 241, 54, 6, 44, 42, 21, 5, 4, 96, 46, 42, 21]) 32 lDL_25 rfl
theorem lDL_27 : cL_law.data.toList.drop 864 = lTL_27 := drp9 (c := [5, 5, 96, 46, 133, 16, 32, 121, 42, 21, 5, 6, 96, 46, 133, 20, 0, 186, 127, 129, 182, 0, 244, 54, 7, 167, 7, 103, 43, 42, 21, 5]) 32 lDL_26 rfl
theorem lDL_28 : cL_law.data.toList.drop 896 = lTL_28 := drp9 (c := [4, 96, 46, 42, 21, 5, 5, 96, 46, 45, 184, 0, 245, 54, 6, 44, 42, 21, 5, 4, 96, 46, 42, 21, 5, 5, 96, 46, 182, 0, 247, 54]) 32 lDL_27 rfl
theorem lDL_29 : cL_law.data.toList.drop 928 = lTL_29 := drp9 (c := [7, 167, 7, 63, 43, 42, 21, 5, 4, 96, 46, 25, 4, 184, 0, 248, 54, 6, 44, 42, 21, 5, 4, 96, 46, 182, 0, 251, 57, 7, 167, 7]) 32 lDL_28 rfl
theorem lDL_30 : cL_law.data.toList.drop 960 = lTL_30 := drp9 (c := [34, 43, 42, 21, 5, 4, 96, 46, 45, 184, 0, 252, 54, 6, 44, 42, 21, 5, 4, 96, 46, 182, 0, 254, 54, 7, 167, 7, 6, 43, 42, 21]) 32 lDL_29 rfl
theorem lDL_31 : cL_law.data.toList.drop 992 = lTL_31 := drp9 (c := [5, 4, 96, 46, 42, 21, 5, 5, 96, 46, 42, 21, 5, 6, 96, 46, 45, 184, 0, 255, 54, 6, 44, 42, 21, 5, 4, 96, 46, 42, 21, 5]) 32 lDL_30 rfl
theorem lDL_32 : cL_law.data.toList.drop 1024 = lTL_32 := drp9 (c := [5, 96, 46, 42, 21, 5, 6, 96, 46, 182, 1, 1, 54, 7, 167, 6, 210, 43, 42, 21, 5, 4, 96, 46, 42, 21, 5, 5, 96, 46, 45, 184]) 32 lDL_31 rfl
theorem lDL_33 : cL_law.data.toList.drop 1056 = lTL_33 := drp9 (c := [1, 2, 54, 6, 44, 42, 21, 5, 4, 96, 46, 42, 21, 5, 5, 96, 46, 182, 1, 4, 54, 7, 167, 6, 170, 43, 42, 21, 5, 4, 96, 46]) 32 lDL_32 rfl
theorem lDL_34 : cL_law.data.toList.drop 1088 = lTL_34 := drp9 (c := [45, 184, 1, 5, 54, 6, 44, 42, 21, 5, 4, 96, 46, 182, 1, 7, 54, 7, 167, 6, 142, 43, 42, 21, 5, 4, 96, 46, 25, 4, 184, 1]) 32 lDL_33 rfl
theorem lDL_35 : cL_law.data.toList.drop 1120 = lTL_35 := drp9 (c := [8, 54, 6, 44, 42, 21, 5, 4, 96, 46, 182, 1, 10, 56, 7, 167, 6, 113, 43, 42, 21, 5, 4, 96, 46, 42, 21, 5, 5, 96, 46, 45]) 32 lDL_34 rfl
theorem lDL_36 : cL_law.data.toList.drop 1152 = lTL_36 := drp9 (c := [184, 1, 11, 54, 6, 44, 42, 21, 5, 4, 96, 46, 42, 21, 5, 5, 96, 46, 182, 1, 13, 54, 7, 167, 6, 73, 43, 42, 21, 5, 4, 96]) 32 lDL_35 rfl
theorem lDL_37 : cL_law.data.toList.drop 1184 = lTL_37 := drp9 (c := [46, 45, 184, 1, 14, 54, 6, 44, 42, 21, 5, 4, 96, 46, 182, 1, 16, 54, 7, 167, 6, 45, 43, 42, 21, 5, 4, 96, 46, 42, 21, 5]) 32 lDL_36 rfl
theorem lDL_38 : cL_law.data.toList.drop 1216 = lTL_38 := drp9 (c := [5, 96, 46, 42, 21, 5, 6, 96, 46, 45, 184, 1, 17, 54, 6, 44, 42, 21, 5, 4, 96, 46, 42, 21, 5, 5, 96, 46, 42, 21, 5, 6]) 32 lDL_37 rfl
theorem lDL_39 : cL_law.data.toList.drop 1248 = lTL_39 := drp9 (c := [96, 46, 182, 1, 19, 54, 7, 167, 5, 249, 43, 42, 21, 5, 4, 96, 46, 42, 21, 5, 5, 96, 46, 42, 21, 5, 6, 96, 46, 42, 21, 5]) 32 lDL_38 rfl
theorem lDL_40 : cL_law.data.toList.drop 1280 = lTL_40 := drp9 (c := [7, 96, 46, 45, 184, 1, 20, 54, 6, 44, 42, 21, 5, 4, 96, 46, 42, 21, 5, 5, 96, 46, 42, 21, 5, 6, 96, 46, 42, 21, 5, 7]) 32 lDL_39 rfl
theorem lDL_41 : cL_law.data.toList.drop 1312 = lTL_41 := drp9 (c := [96, 46, 182, 1, 23, 54, 7, 167, 5, 185, 43, 42, 21, 5, 4, 96, 46, 42, 21, 5, 5, 96, 46, 45, 184, 1, 24, 54, 6, 44, 42, 21]) 32 lDL_40 rfl
theorem lDL_42 : cL_law.data.toList.drop 1344 = lTL_42 := drp9 (c := [5, 4, 96, 46, 42, 21, 5, 5, 96, 46, 182, 1, 26, 54, 7, 167, 5, 145, 43, 42, 21, 5, 4, 96, 46, 45, 184, 1, 27, 54, 6, 44]) 32 lDL_41 rfl
theorem lDL_43 : cL_law.data.toList.drop 1376 = lTL_43 := drp9 (c := [42, 21, 5, 4, 96, 46, 182, 1, 29, 54, 7, 167, 5, 117, 43, 42, 21, 5, 4, 96, 46, 42, 21, 5, 5, 96, 46, 45, 184, 1, 30, 54]) 32 lDL_42 rfl
theorem lDL_44 : cL_law.data.toList.drop 1408 = lTL_44 := drp9 (c := [6, 44, 42, 21, 5, 4, 96, 46, 42, 21, 5, 5, 96, 46, 182, 1, 32, 54, 7, 167, 5, 77, 43, 42, 21, 5, 4, 96, 46, 42, 21, 5]) 32 lDL_43 rfl
theorem lDL_45 : cL_law.data.toList.drop 1440 = lTL_45 := drp9 (c := [5, 96, 46, 42, 21, 5, 6, 96, 46, 45, 184, 1, 33, 54, 6, 44, 42, 21, 5, 4, 96, 46, 42, 21, 5, 5, 96, 46, 42, 21, 5, 6]) 32 lDL_44 rfl
theorem lDL_46 : cL_law.data.toList.drop 1472 = lTL_46 := drp9 (c := [96, 46, 182, 1, 35, 54, 7, 167, 5, 25, 43, 42, 21, 5, 4, 96, 46, 42, 21, 5, 5, 96, 46, 42, 21, 5, 6, 96, 46, 45, 184, 1]) 32 lDL_45 rfl
theorem lDL_47 : cL_law.data.toList.drop 1504 = lTL_47 := drp9 (c := [36, 54, 6, 44, 42, 21, 5, 4, 96, 46, 42, 21, 5, 5, 96, 46, 42, 21, 5, 6, 96, 46, 182, 1, 38, 54, 7, 167, 4, 229, 43, 42]) 32 lDL_46 rfl
theorem lDL_48 : cL_law.data.toList.drop 1536 = lTL_48 := drp9 (c := [21, 5, 4, 96, 46, 45, 184, 1, 39, 54, 6, 44, 42, 21, 5, 4, 96, 46, 182, 1, 41, 54, 7, 167, 4, 201, 43, 42, 21, 5, 4, 96]) 32 lDL_47 rfl
theorem lDL_49 : cL_law.data.toList.drop 1568 = lTL_49 := drp9 (c := [46, 45, 184, 1, 42, 54, 6, 44, 42, 21, 5, 4, 96, 46, 182, 1, 44, 54, 7, 44, 182, 1, 45, 21, 6, 159, 0, 5, 3, 172, 21, 6]) 32 lDL_48 rfl
theorem lDL_50 : cL_law.data.toList.drop 1600 = lTL_50 := drp9 (c := [154, 0, 15, 45, 3, 47, 21, 7, 133, 148, 153, 0, 5, 3, 172, 167, 4, 145, 43, 42, 21, 5, 4, 96, 46, 45, 184, 1, 48, 54, 6, 44]) 32 lDL_49 rfl
theorem lDL_51 : cL_law.data.toList.drop 1632 = lTL_51 := drp9 (c := [42, 21, 5, 4, 96, 46, 182, 1, 50, 54, 7, 167, 4, 117, 43, 42, 21, 5, 4, 96, 46, 45, 184, 1, 51, 54, 6, 44, 42, 21, 5, 4]) 32 lDL_50 rfl
theorem lDL_52 : cL_law.data.toList.drop 1664 = lTL_52 := drp9 (c := [96, 46, 182, 1, 53, 54, 7, 167, 4, 89, 43, 42, 21, 5, 4, 96, 46, 42, 21, 5, 5, 96, 46, 133, 16, 32, 121, 42, 21, 5, 6, 96]) 32 lDL_51 rfl
theorem lDL_53 : cL_law.data.toList.drop 1696 = lTL_53 := drp9 (c := [46, 133, 20, 0, 186, 127, 129, 45, 184, 1, 54, 54, 6, 44, 42, 21, 5, 4, 96, 46, 42, 21, 5, 5, 96, 46, 133, 16, 32, 121, 42, 21]) 32 lDL_52 rfl
theorem lDL_54 : cL_law.data.toList.drop 1728 = lTL_54 := drp9 (c := [5, 6, 96, 46, 133, 20, 0, 186, 127, 129, 182, 1, 56, 55, 7, 167, 4, 17, 43, 42, 21, 5, 4, 96, 46, 42, 21, 5, 5, 96, 46, 133]) 32 lDL_53 rfl
theorem lDL_55 : cL_law.data.toList.drop 1760 = lTL_55 := drp9 (c := [16, 32, 121, 42, 21, 5, 6, 96, 46, 133, 20, 0, 186, 127, 129, 45, 184, 1, 57, 54, 6, 44, 42, 21, 5, 4, 96, 46, 42, 21, 5, 5]) 32 lDL_54 rfl
theorem lDL_56 : cL_law.data.toList.drop 1792 = lTL_56 := drp9 (c := [96, 46, 133, 16, 32, 121, 42, 21, 5, 6, 96, 46, 133, 20, 0, 186, 127, 129, 182, 1, 59, 54, 7, 167, 3, 201, 43, 42, 21, 5, 4, 96]) 32 lDL_55 rfl
theorem lDL_57 : cL_law.data.toList.drop 1824 = lTL_57 := drp9 (c := [46, 42, 21, 5, 5, 96, 46, 45, 184, 1, 60, 54, 6, 44, 42, 21, 5, 4, 96, 46, 42, 21, 5, 5, 96, 46, 182, 1, 62, 54, 7, 167]) 32 lDL_56 rfl
theorem lDL_58 : cL_law.data.toList.drop 1856 = lTL_58 := drp9 (c := [3, 161, 43, 42, 21, 5, 4, 96, 46, 42, 21, 5, 5, 96, 46, 42, 21, 5, 6, 96, 46, 42, 21, 5, 7, 96, 46, 153, 0, 7, 4, 167]) 32 lDL_57 rfl
theorem lDL_59 : cL_law.data.toList.drop 1888 = lTL_59 := drp9 (c := [0, 4, 3, 45, 184, 1, 63, 54, 6, 44, 42, 21, 5, 4, 96, 46, 42, 21, 5, 5, 96, 46, 42, 21, 5, 6, 96, 46, 42, 21, 5, 7]) 32 lDL_58 rfl
theorem lDL_60 : cL_law.data.toList.drop 1920 = lTL_60 := drp9 (c := [96, 46, 153, 0, 7, 4, 167, 0, 4, 3, 182, 1, 66, 54, 7, 167, 3, 81, 43, 42, 21, 5, 4, 96, 46, 42, 21, 5, 5, 96, 46, 42]) 32 lDL_59 rfl
theorem lDL_61 : cL_law.data.toList.drop 1952 = lTL_61 := drp9 (c := [21, 5, 6, 96, 46, 133, 16, 32, 121, 42, 21, 5, 7, 96, 46, 133, 20, 0, 186, 127, 129, 45, 184, 1, 67, 54, 6, 44, 42, 21, 5, 4]) 32 lDL_60 rfl
theorem lDL_62 : cL_law.data.toList.drop 1984 = lTL_62 := drp9 (c := [96, 46, 42, 21, 5, 5, 96, 46, 42, 21, 5, 6, 96, 46, 133, 16, 32, 121, 42, 21, 5, 7, 96, 46, 133, 20, 0, 186, 127, 129, 182, 1]) 32 lDL_61 rfl
theorem lDL_63 : cL_law.data.toList.drop 2016 = lTL_63 := drp9 (c := [70, 54, 7, 167, 2, 253, 43, 42, 21, 5, 4, 96, 46, 42, 21, 5, 5, 96, 46, 45, 184, 1, 71, 54, 6, 44, 42, 21, 5, 4, 96, 46]) 32 lDL_62 rfl
theorem lDL_64 : cL_law.data.toList.drop 2048 = lTL_64 := drp9 (c := [42, 21, 5, 5, 96, 46, 182, 1, 73, 54, 7, 167, 2, 213, 43, 42, 21, 5, 4, 96, 46, 42, 21, 5, 5, 96, 46, 45, 184, 1, 74, 54]) 32 lDL_63 rfl
theorem lDL_65 : cL_law.data.toList.drop 2080 = lTL_65 := drp9 (c := [6, 44, 42, 21, 5, 4, 96, 46, 42, 21, 5, 5, 96, 46, 182, 1, 76, 54, 7, 167, 2, 173, 43, 42, 21, 5, 4, 96, 46, 42, 21, 5]) 32 lDL_64 rfl
theorem lDL_66 : cL_law.data.toList.drop 2112 = lTL_66 := drp9 (c := [5, 96, 46, 42, 21, 5, 6, 96, 46, 42, 21, 5, 7, 96, 46, 45, 184, 1, 77, 54, 6, 44, 42, 21, 5, 4, 96, 46, 42, 21, 5, 5]) 32 lDL_65 rfl
theorem lDL_67 : cL_law.data.toList.drop 2144 = lTL_67 := drp9 (c := [96, 46, 42, 21, 5, 6, 96, 46, 42, 21, 5, 7, 96, 46, 182, 1, 79, 54, 7, 167, 2, 109, 43, 42, 21, 5, 4, 96, 46, 42, 21, 5]) 32 lDL_66 rfl
theorem lDL_68 : cL_law.data.toList.drop 2176 = lTL_68 := drp9 (c := [5, 96, 46, 42, 21, 5, 6, 96, 46, 42, 21, 5, 7, 96, 46, 153, 0, 7, 4, 167, 0, 4, 3, 45, 184, 1, 80, 54, 6, 44, 42, 21]) 32 lDL_67 rfl
theorem lDL_69 : cL_law.data.toList.drop 2208 = lTL_69 := drp9 (c := [5, 4, 96, 46, 42, 21, 5, 5, 96, 46, 42, 21, 5, 6, 96, 46, 42, 21, 5, 7, 96, 46, 153, 0, 7, 4, 167, 0, 4, 3, 182, 1]) 32 lDL_68 rfl
theorem lDL_70 : cL_law.data.toList.drop 2240 = lTL_70 := drp9 (c := [82, 54, 7, 167, 2, 29, 43, 42, 21, 5, 4, 96, 46, 42, 21, 5, 5, 96, 46, 42, 21, 5, 6, 96, 46, 42, 21, 5, 7, 96, 46, 153]) 32 lDL_69 rfl
theorem lDL_71 : cL_law.data.toList.drop 2272 = lTL_71 := drp9 (c := [0, 7, 4, 167, 0, 4, 3, 45, 184, 1, 83, 54, 6, 44, 42, 21, 5, 4, 96, 46, 42, 21, 5, 5, 96, 46, 42, 21, 5, 6, 96, 46]) 32 lDL_70 rfl
theorem lDL_72 : cL_law.data.toList.drop 2304 = lTL_72 := drp9 (c := [42, 21, 5, 7, 96, 46, 153, 0, 7, 4, 167, 0, 4, 3, 182, 1, 85, 54, 7, 167, 1, 205, 43, 42, 21, 5, 4, 96, 46, 42, 21, 5]) 32 lDL_71 rfl
theorem lDL_73 : cL_law.data.toList.drop 2336 = lTL_73 := drp9 (c := [5, 96, 46, 45, 184, 1, 86, 54, 6, 44, 42, 21, 5, 4, 96, 46, 42, 21, 5, 5, 96, 46, 182, 1, 88, 54, 7, 167, 1, 165, 43, 42]) 32 lDL_72 rfl
theorem lDL_74 : cL_law.data.toList.drop 2368 = lTL_74 := drp9 (c := [21, 5, 4, 96, 46, 42, 21, 5, 5, 96, 46, 45, 184, 1, 89, 54, 6, 44, 42, 21, 5, 4, 96, 46, 42, 21, 5, 5, 96, 46, 182, 1]) 32 lDL_73 rfl
theorem lDL_75 : cL_law.data.toList.drop 2400 = lTL_75 := drp9 (c := [91, 54, 7, 167, 1, 125, 43, 42, 21, 5, 4, 96, 46, 42, 21, 5, 5, 96, 46, 45, 184, 1, 92, 54, 6, 44, 42, 21, 5, 4, 96, 46]) 32 lDL_74 rfl
theorem lDL_76 : cL_law.data.toList.drop 2432 = lTL_76 := drp9 (c := [42, 21, 5, 5, 96, 46, 182, 1, 94, 54, 7, 167, 1, 85, 43, 42, 21, 5, 4, 96, 46, 42, 21, 5, 5, 96, 46, 42, 21, 5, 6, 96]) 32 lDL_75 rfl
theorem lDL_77 : cL_law.data.toList.drop 2464 = lTL_77 := drp9 (c := [46, 45, 184, 1, 95, 54, 6, 44, 42, 21, 5, 4, 96, 46, 42, 21, 5, 5, 96, 46, 42, 21, 5, 6, 96, 46, 182, 1, 97, 54, 7, 167]) 32 lDL_76 rfl
theorem lDL_78 : cL_law.data.toList.drop 2496 = lTL_78 := drp9 (c := [1, 33, 43, 42, 21, 5, 4, 96, 46, 42, 21, 5, 5, 96, 46, 153, 0, 7, 4, 167, 0, 4, 3, 45, 184, 1, 98, 54, 6, 44, 42, 21]) 32 lDL_77 rfl
theorem lDL_79 : cL_law.data.toList.drop 2528 = lTL_79 := drp9 (c := [5, 4, 96, 46, 42, 21, 5, 5, 96, 46, 153, 0, 7, 4, 167, 0, 4, 3, 182, 1, 101, 54, 7, 167, 0, 233, 43, 42, 21, 5, 4, 96]) 32 lDL_78 rfl
theorem lDL_80 : cL_law.data.toList.drop 2560 = lTL_80 := drp9 (c := [46, 45, 184, 1, 102, 54, 6, 44, 42, 21, 5, 4, 96, 46, 182, 1, 104, 54, 7, 167, 0, 205, 43, 42, 21, 5, 4, 96, 46, 42, 21, 5]) 32 lDL_79 rfl
theorem lDL_81 : cL_law.data.toList.drop 2592 = lTL_81 := drp9 (c := [5, 96, 46, 45, 184, 1, 105, 54, 6, 44, 42, 21, 5, 4, 96, 46, 42, 21, 5, 5, 96, 46, 182, 1, 107, 54, 7, 167, 0, 165, 43, 42]) 32 lDL_80 rfl
theorem lDL_82 : cL_law.data.toList.drop 2624 = lTL_82 := drp9 (c := [21, 5, 4, 96, 46, 45, 184, 1, 108, 54, 6, 44, 42, 21, 5, 4, 96, 46, 182, 1, 110, 54, 7, 167, 0, 137, 43, 42, 21, 5, 4, 96]) 32 lDL_81 rfl
theorem lDL_83 : cL_law.data.toList.drop 2656 = lTL_83 := drp9 (c := [46, 42, 21, 5, 5, 96, 46, 45, 184, 1, 111, 54, 6, 44, 42, 21, 5, 4, 96, 46, 42, 21, 5, 5, 96, 46, 182, 1, 113, 54, 7, 167]) 32 lDL_82 rfl
theorem lDL_84 : cL_law.data.toList.drop 2688 = lTL_84 := drp9 (c := [0, 97, 43, 42, 21, 5, 4, 96, 46, 182, 1, 114, 87, 44, 42, 21, 5, 4, 96, 46, 182, 1, 117, 87, 167, 0, 72, 43, 182, 1, 118, 87]) 32 lDL_83 rfl
theorem lDL_85 : cL_law.data.toList.drop 2720 = lTL_85 := drp9 (c := [44, 182, 1, 121, 87, 167, 0, 59, 43, 42, 21, 5, 4, 96, 46, 45, 184, 1, 122, 54, 6, 44, 42, 21, 5, 4, 96, 46, 182, 1, 124, 54]) 32 lDL_84 rfl
theorem lDL_86 : cL_law.data.toList.drop 2752 = lTL_86 := drp9 (c := [7, 167, 0, 31, 43, 42, 21, 5, 4, 96, 46, 45, 184, 1, 125, 54, 6, 44, 42, 21, 5, 4, 96, 46, 182, 1, 127, 54, 7, 167, 0, 3]) 32 lDL_85 rfl
section
variable {c : ByteArray} {pc : Nat}
theorem dw_791 (h : Pc9 c pc [187, 0, 8]) : decode c pc = .ok (.new 8, 3) := op_187 h rfl
theorem dw_792 (h : Pc9 c pc [183, 0, 182]) : decode c pc = .ok (.invokespecial 182, 3) := op_183 h rfl
theorem op_76 (h : Pc9 c pc [76]) : decode c pc = .ok (.astore_n 1, 1) := o_start (op := 76) (f := _) rfl (pc_at h 0 rfl) rfl rfl rfl
theorem dw_793 (h : Pc9 c pc [76]) : decode c pc = .ok (.astore_n 1, 1) := op_76 h
theorem dw_794 (h : Pc9 c pc [187, 0, 183]) : decode c pc = .ok (.new 183, 3) := op_187 h rfl
theorem dw_795 (h : Pc9 c pc [183, 0, 185]) : decode c pc = .ok (.invokespecial 185, 3) := op_183 h rfl
theorem dw_796 (h : Pc9 c pc [163, 10, 164]) : decode c pc = .ok (.if_icmp .gt 2724, 3) := op_163 h (by decide +kernel)
theorem dw_797 (h : Pc9 c pc [20, 0, 186]) : decode c pc = .ok (.ldc2_w 186, 3) := op_20 h rfl
theorem dw_798 (h : Pc9 c pc [182, 0, 188]) : decode c pc = .ok (.invokevirtual 188, 3) := op_182 h rfl
theorem dw_799 (h : Pc9 c pc [167, 9, 102]) : decode c pc = .ok (.goto 2406, 3) := op_167 h (by decide +kernel)
theorem dw_800 (h : Pc9 c pc [182, 0, 197]) : decode c pc = .ok (.invokevirtual 197, 3) := op_182 h rfl
theorem dw_801 (h : Pc9 c pc [167, 9, 89]) : decode c pc = .ok (.goto 2393, 3) := op_167 h (by decide +kernel)
theorem dw_802 (h : Pc9 c pc [182, 0, 201]) : decode c pc = .ok (.invokevirtual 201, 3) := op_182 h rfl
theorem dw_803 (h : Pc9 c pc [167, 9, 76]) : decode c pc = .ok (.goto 2380, 3) := op_167 h (by decide +kernel)
theorem dw_804 (h : Pc9 c pc [182, 0, 202]) : decode c pc = .ok (.invokevirtual 202, 3) := op_182 h rfl
theorem dw_805 (h : Pc9 c pc [182, 0, 205]) : decode c pc = .ok (.invokevirtual 205, 3) := op_182 h rfl
theorem dw_806 (h : Pc9 c pc [167, 9, 63]) : decode c pc = .ok (.goto 2367, 3) := op_167 h (by decide +kernel)
theorem dw_807 (h : Pc9 c pc [184, 0, 206]) : decode c pc = .ok (.invokestatic 206, 3) := op_184 h rfl
theorem dw_808 (h : Pc9 c pc [182, 0, 211]) : decode c pc = .ok (.invokevirtual 211, 3) := op_182 h rfl
theorem dw_809 (h : Pc9 c pc [167, 9, 35]) : decode c pc = .ok (.goto 2339, 3) := op_167 h (by decide +kernel)
theorem dw_810 (h : Pc9 c pc [184, 0, 212]) : decode c pc = .ok (.invokestatic 212, 3) := op_184 h rfl
theorem dw_811 (h : Pc9 c pc [182, 0, 215]) : decode c pc = .ok (.invokevirtual 215, 3) := op_182 h rfl
theorem dw_812 (h : Pc9 c pc [167, 8, 239]) : decode c pc = .ok (.goto 2287, 3) := op_167 h (by decide +kernel)
theorem dw_813 (h : Pc9 c pc [167, 8, 199]) : decode c pc = .ok (.goto 2247, 3) := op_167 h (by decide +kernel)
theorem dw_814 (h : Pc9 c pc [184, 0, 220]) : decode c pc = .ok (.invokestatic 220, 3) := op_184 h rfl
theorem dw_815 (h : Pc9 c pc [167, 8, 147]) : decode c pc = .ok (.goto 2195, 3) := op_167 h (by decide +kernel)
theorem dw_816 (h : Pc9 c pc [184, 0, 223]) : decode c pc = .ok (.invokestatic 223, 3) := op_184 h rfl
theorem dw_817 (h : Pc9 c pc [182, 0, 225]) : decode c pc = .ok (.invokevirtual 225, 3) := op_182 h rfl
theorem dw_818 (h : Pc9 c pc [167, 8, 95]) : decode c pc = .ok (.goto 2143, 3) := op_167 h (by decide +kernel)
theorem dw_819 (h : Pc9 c pc [184, 0, 226]) : decode c pc = .ok (.invokestatic 226, 3) := op_184 h rfl
theorem dw_820 (h : Pc9 c pc [182, 0, 228]) : decode c pc = .ok (.invokevirtual 228, 3) := op_182 h rfl
theorem dw_821 (h : Pc9 c pc [167, 8, 67]) : decode c pc = .ok (.goto 2115, 3) := op_167 h (by decide +kernel)
theorem dw_822 (h : Pc9 c pc [184, 0, 229]) : decode c pc = .ok (.invokestatic 229, 3) := op_184 h rfl
theorem dw_823 (h : Pc9 c pc [182, 0, 231]) : decode c pc = .ok (.invokevirtual 231, 3) := op_182 h rfl
theorem dw_824 (h : Pc9 c pc [167, 8, 27]) : decode c pc = .ok (.goto 2075, 3) := op_167 h (by decide +kernel)
theorem dw_825 (h : Pc9 c pc [184, 0, 232]) : decode c pc = .ok (.invokestatic 232, 3) := op_184 h rfl
theorem dw_826 (h : Pc9 c pc [167, 7, 243]) : decode c pc = .ok (.goto 2035, 3) := op_167 h (by decide +kernel)
theorem dw_827 (h : Pc9 c pc [184, 0, 235]) : decode c pc = .ok (.invokestatic 235, 3) := op_184 h rfl
theorem dw_828 (h : Pc9 c pc [167, 7, 215]) : decode c pc = .ok (.goto 2007, 3) := op_167 h (by decide +kernel)
theorem dw_829 (h : Pc9 c pc [184, 0, 238]) : decode c pc = .ok (.invokestatic 238, 3) := op_184 h rfl
theorem dw_830 (h : Pc9 c pc [167, 7, 175]) : decode c pc = .ok (.goto 1967, 3) := op_167 h (by decide +kernel)
theorem dw_831 (h : Pc9 c pc [184, 0, 241]) : decode c pc = .ok (.invokestatic 241, 3) := op_184 h rfl
theorem dw_832 (h : Pc9 c pc [167, 7, 103]) : decode c pc = .ok (.goto 1895, 3) := op_167 h (by decide +kernel)
theorem dw_833 (h : Pc9 c pc [184, 0, 245]) : decode c pc = .ok (.invokestatic 245, 3) := op_184 h rfl
theorem dw_834 (h : Pc9 c pc [167, 7, 63]) : decode c pc = .ok (.goto 1855, 3) := op_167 h (by decide +kernel)
theorem dw_835 (h : Pc9 c pc [184, 0, 248]) : decode c pc = .ok (.invokestatic 248, 3) := op_184 h rfl
theorem dw_836 (h : Pc9 c pc [182, 0, 251]) : decode c pc = .ok (.invokevirtual 251, 3) := op_182 h rfl
theorem op_57 {a : UInt8} {v : Nat} (h : Pc9 c pc [57, a]) (e : a.toNat = v) : decode c pc = .ok (.dstore v, 2) := o_start (op := 57) (f := _) rfl (pc_at h 0 rfl) rfl (k_u1 (g := fun x => .dstore x) (pc_at h 1 rfl) e) rfl
theorem dw_837 (h : Pc9 c pc [57, 7]) : decode c pc = .ok (.dstore 7, 2) := op_57 h rfl
theorem dw_838 (h : Pc9 c pc [167, 7, 34]) : decode c pc = .ok (.goto 1826, 3) := op_167 h (by decide +kernel)
theorem dw_839 (h : Pc9 c pc [184, 0, 252]) : decode c pc = .ok (.invokestatic 252, 3) := op_184 h rfl
theorem dw_840 (h : Pc9 c pc [182, 0, 254]) : decode c pc = .ok (.invokevirtual 254, 3) := op_182 h rfl
theorem dw_841 (h : Pc9 c pc [167, 7, 6]) : decode c pc = .ok (.goto 1798, 3) := op_167 h (by decide +kernel)
theorem dw_842 (h : Pc9 c pc [184, 0, 255]) : decode c pc = .ok (.invokestatic 255, 3) := op_184 h rfl
theorem dw_843 (h : Pc9 c pc [167, 6, 210]) : decode c pc = .ok (.goto 1746, 3) := op_167 h (by decide +kernel)
theorem dw_844 (h : Pc9 c pc [184, 1, 2]) : decode c pc = .ok (.invokestatic 258, 3) := op_184 h rfl
theorem dw_845 (h : Pc9 c pc [167, 6, 170]) : decode c pc = .ok (.goto 1706, 3) := op_167 h (by decide +kernel)
theorem dw_846 (h : Pc9 c pc [184, 1, 5]) : decode c pc = .ok (.invokestatic 261, 3) := op_184 h rfl
theorem dw_847 (h : Pc9 c pc [167, 6, 142]) : decode c pc = .ok (.goto 1678, 3) := op_167 h (by decide +kernel)
theorem dw_848 (h : Pc9 c pc [184, 1, 8]) : decode c pc = .ok (.invokestatic 264, 3) := op_184 h rfl
theorem dw_849 (h : Pc9 c pc [182, 1, 10]) : decode c pc = .ok (.invokevirtual 266, 3) := op_182 h rfl
theorem op_56 {a : UInt8} {v : Nat} (h : Pc9 c pc [56, a]) (e : a.toNat = v) : decode c pc = .ok (.fstore v, 2) := o_start (op := 56) (f := _) rfl (pc_at h 0 rfl) rfl (k_u1 (g := fun x => .fstore x) (pc_at h 1 rfl) e) rfl
theorem dw_850 (h : Pc9 c pc [56, 7]) : decode c pc = .ok (.fstore 7, 2) := op_56 h rfl
theorem dw_851 (h : Pc9 c pc [167, 6, 113]) : decode c pc = .ok (.goto 1649, 3) := op_167 h (by decide +kernel)
theorem dw_852 (h : Pc9 c pc [184, 1, 11]) : decode c pc = .ok (.invokestatic 267, 3) := op_184 h rfl
theorem dw_853 (h : Pc9 c pc [167, 6, 73]) : decode c pc = .ok (.goto 1609, 3) := op_167 h (by decide +kernel)
theorem dw_854 (h : Pc9 c pc [184, 1, 14]) : decode c pc = .ok (.invokestatic 270, 3) := op_184 h rfl
theorem dw_855 (h : Pc9 c pc [182, 1, 16]) : decode c pc = .ok (.invokevirtual 272, 3) := op_182 h rfl
theorem dw_856 (h : Pc9 c pc [167, 6, 45]) : decode c pc = .ok (.goto 1581, 3) := op_167 h (by decide +kernel)
theorem dw_857 (h : Pc9 c pc [184, 1, 17]) : decode c pc = .ok (.invokestatic 273, 3) := op_184 h rfl
theorem dw_858 (h : Pc9 c pc [182, 1, 19]) : decode c pc = .ok (.invokevirtual 275, 3) := op_182 h rfl
theorem dw_859 (h : Pc9 c pc [167, 5, 249]) : decode c pc = .ok (.goto 1529, 3) := op_167 h (by decide +kernel)
theorem dw_860 (h : Pc9 c pc [182, 1, 23]) : decode c pc = .ok (.invokevirtual 279, 3) := op_182 h rfl
theorem dw_861 (h : Pc9 c pc [167, 5, 185]) : decode c pc = .ok (.goto 1465, 3) := op_167 h (by decide +kernel)
theorem dw_862 (h : Pc9 c pc [184, 1, 24]) : decode c pc = .ok (.invokestatic 280, 3) := op_184 h rfl
theorem dw_863 (h : Pc9 c pc [167, 5, 145]) : decode c pc = .ok (.goto 1425, 3) := op_167 h (by decide +kernel)
theorem dw_864 (h : Pc9 c pc [184, 1, 27]) : decode c pc = .ok (.invokestatic 283, 3) := op_184 h rfl
theorem dw_865 (h : Pc9 c pc [182, 1, 29]) : decode c pc = .ok (.invokevirtual 285, 3) := op_182 h rfl
theorem dw_866 (h : Pc9 c pc [167, 5, 117]) : decode c pc = .ok (.goto 1397, 3) := op_167 h (by decide +kernel)
theorem dw_867 (h : Pc9 c pc [184, 1, 30]) : decode c pc = .ok (.invokestatic 286, 3) := op_184 h rfl
theorem dw_868 (h : Pc9 c pc [182, 1, 32]) : decode c pc = .ok (.invokevirtual 288, 3) := op_182 h rfl
theorem dw_869 (h : Pc9 c pc [167, 5, 77]) : decode c pc = .ok (.goto 1357, 3) := op_167 h (by decide +kernel)
theorem dw_870 (h : Pc9 c pc [184, 1, 33]) : decode c pc = .ok (.invokestatic 289, 3) := op_184 h rfl
theorem dw_871 (h : Pc9 c pc [182, 1, 35]) : decode c pc = .ok (.invokevirtual 291, 3) := op_182 h rfl
theorem dw_872 (h : Pc9 c pc [167, 5, 25]) : decode c pc = .ok (.goto 1305, 3) := op_167 h (by decide +kernel)
theorem dw_873 (h : Pc9 c pc [184, 1, 36]) : decode c pc = .ok (.invokestatic 292, 3) := op_184 h rfl
theorem dw_874 (h : Pc9 c pc [167, 4, 229]) : decode c pc = .ok (.goto 1253, 3) := op_167 h (by decide +kernel)
theorem dw_875 (h : Pc9 c pc [184, 1, 39]) : decode c pc = .ok (.invokestatic 295, 3) := op_184 h rfl
theorem dw_876 (h : Pc9 c pc [182, 1, 41]) : decode c pc = .ok (.invokevirtual 297, 3) := op_182 h rfl
theorem dw_877 (h : Pc9 c pc [167, 4, 201]) : decode c pc = .ok (.goto 1225, 3) := op_167 h (by decide +kernel)
theorem dw_878 (h : Pc9 c pc [184, 1, 42]) : decode c pc = .ok (.invokestatic 298, 3) := op_184 h rfl
theorem dw_879 (h : Pc9 c pc [182, 1, 45]) : decode c pc = .ok (.invokevirtual 301, 3) := op_182 h rfl
theorem dw_880 (h : Pc9 c pc [154, 0, 15]) : decode c pc = .ok (.ifCond .ne 15, 3) := op_154 h (by decide +kernel)
theorem dw_881 (h : Pc9 c pc [167, 4, 145]) : decode c pc = .ok (.goto 1169, 3) := op_167 h (by decide +kernel)
theorem dw_882 (h : Pc9 c pc [184, 1, 48]) : decode c pc = .ok (.invokestatic 304, 3) := op_184 h rfl
theorem dw_883 (h : Pc9 c pc [182, 1, 50]) : decode c pc = .ok (.invokevirtual 306, 3) := op_182 h rfl
theorem dw_884 (h : Pc9 c pc [167, 4, 117]) : decode c pc = .ok (.goto 1141, 3) := op_167 h (by decide +kernel)
theorem dw_885 (h : Pc9 c pc [184, 1, 51]) : decode c pc = .ok (.invokestatic 307, 3) := op_184 h rfl
theorem dw_886 (h : Pc9 c pc [182, 1, 53]) : decode c pc = .ok (.invokevirtual 309, 3) := op_182 h rfl
theorem dw_887 (h : Pc9 c pc [167, 4, 89]) : decode c pc = .ok (.goto 1113, 3) := op_167 h (by decide +kernel)
theorem dw_888 (h : Pc9 c pc [184, 1, 54]) : decode c pc = .ok (.invokestatic 310, 3) := op_184 h rfl
theorem dw_889 (h : Pc9 c pc [167, 4, 17]) : decode c pc = .ok (.goto 1041, 3) := op_167 h (by decide +kernel)
theorem dw_890 (h : Pc9 c pc [184, 1, 57]) : decode c pc = .ok (.invokestatic 313, 3) := op_184 h rfl
theorem dw_891 (h : Pc9 c pc [167, 3, 201]) : decode c pc = .ok (.goto 969, 3) := op_167 h (by decide +kernel)
theorem dw_892 (h : Pc9 c pc [184, 1, 60]) : decode c pc = .ok (.invokestatic 316, 3) := op_184 h rfl
theorem dw_893 (h : Pc9 c pc [167, 3, 161]) : decode c pc = .ok (.goto 929, 3) := op_167 h (by decide +kernel)
theorem dw_894 (h : Pc9 c pc [184, 1, 63]) : decode c pc = .ok (.invokestatic 319, 3) := op_184 h rfl
theorem dw_895 (h : Pc9 c pc [167, 3, 81]) : decode c pc = .ok (.goto 849, 3) := op_167 h (by decide +kernel)
theorem dw_896 (h : Pc9 c pc [184, 1, 67]) : decode c pc = .ok (.invokestatic 323, 3) := op_184 h rfl
theorem dw_897 (h : Pc9 c pc [182, 1, 70]) : decode c pc = .ok (.invokevirtual 326, 3) := op_182 h rfl
theorem dw_898 (h : Pc9 c pc [167, 2, 253]) : decode c pc = .ok (.goto 765, 3) := op_167 h (by decide +kernel)
theorem dw_899 (h : Pc9 c pc [184, 1, 71]) : decode c pc = .ok (.invokestatic 327, 3) := op_184 h rfl
theorem dw_900 (h : Pc9 c pc [182, 1, 73]) : decode c pc = .ok (.invokevirtual 329, 3) := op_182 h rfl
theorem dw_901 (h : Pc9 c pc [167, 2, 213]) : decode c pc = .ok (.goto 725, 3) := op_167 h (by decide +kernel)
theorem dw_902 (h : Pc9 c pc [184, 1, 74]) : decode c pc = .ok (.invokestatic 330, 3) := op_184 h rfl
theorem dw_903 (h : Pc9 c pc [182, 1, 76]) : decode c pc = .ok (.invokevirtual 332, 3) := op_182 h rfl
theorem dw_904 (h : Pc9 c pc [167, 2, 173]) : decode c pc = .ok (.goto 685, 3) := op_167 h (by decide +kernel)
theorem dw_905 (h : Pc9 c pc [184, 1, 77]) : decode c pc = .ok (.invokestatic 333, 3) := op_184 h rfl
theorem dw_906 (h : Pc9 c pc [167, 2, 109]) : decode c pc = .ok (.goto 621, 3) := op_167 h (by decide +kernel)
theorem dw_907 (h : Pc9 c pc [182, 1, 82]) : decode c pc = .ok (.invokevirtual 338, 3) := op_182 h rfl
theorem dw_908 (h : Pc9 c pc [167, 2, 29]) : decode c pc = .ok (.goto 541, 3) := op_167 h (by decide +kernel)
theorem dw_909 (h : Pc9 c pc [184, 1, 83]) : decode c pc = .ok (.invokestatic 339, 3) := op_184 h rfl
theorem dw_910 (h : Pc9 c pc [182, 1, 85]) : decode c pc = .ok (.invokevirtual 341, 3) := op_182 h rfl
theorem dw_911 (h : Pc9 c pc [167, 1, 205]) : decode c pc = .ok (.goto 461, 3) := op_167 h (by decide +kernel)
theorem dw_912 (h : Pc9 c pc [184, 1, 86]) : decode c pc = .ok (.invokestatic 342, 3) := op_184 h rfl
theorem dw_913 (h : Pc9 c pc [167, 1, 165]) : decode c pc = .ok (.goto 421, 3) := op_167 h (by decide +kernel)
theorem dw_914 (h : Pc9 c pc [184, 1, 89]) : decode c pc = .ok (.invokestatic 345, 3) := op_184 h rfl
theorem dw_915 (h : Pc9 c pc [182, 1, 91]) : decode c pc = .ok (.invokevirtual 347, 3) := op_182 h rfl
theorem dw_916 (h : Pc9 c pc [167, 1, 125]) : decode c pc = .ok (.goto 381, 3) := op_167 h (by decide +kernel)
theorem dw_917 (h : Pc9 c pc [184, 1, 92]) : decode c pc = .ok (.invokestatic 348, 3) := op_184 h rfl
theorem dw_918 (h : Pc9 c pc [182, 1, 94]) : decode c pc = .ok (.invokevirtual 350, 3) := op_182 h rfl
theorem dw_919 (h : Pc9 c pc [167, 1, 85]) : decode c pc = .ok (.goto 341, 3) := op_167 h (by decide +kernel)
theorem dw_920 (h : Pc9 c pc [184, 1, 95]) : decode c pc = .ok (.invokestatic 351, 3) := op_184 h rfl
theorem dw_921 (h : Pc9 c pc [182, 1, 97]) : decode c pc = .ok (.invokevirtual 353, 3) := op_182 h rfl
theorem dw_922 (h : Pc9 c pc [167, 1, 33]) : decode c pc = .ok (.goto 289, 3) := op_167 h (by decide +kernel)
theorem dw_923 (h : Pc9 c pc [184, 1, 98]) : decode c pc = .ok (.invokestatic 354, 3) := op_184 h rfl
theorem dw_924 (h : Pc9 c pc [182, 1, 101]) : decode c pc = .ok (.invokevirtual 357, 3) := op_182 h rfl
theorem dw_925 (h : Pc9 c pc [167, 0, 233]) : decode c pc = .ok (.goto 233, 3) := op_167 h (by decide +kernel)
theorem dw_926 (h : Pc9 c pc [184, 1, 102]) : decode c pc = .ok (.invokestatic 358, 3) := op_184 h rfl
theorem dw_927 (h : Pc9 c pc [182, 1, 104]) : decode c pc = .ok (.invokevirtual 360, 3) := op_182 h rfl
theorem dw_928 (h : Pc9 c pc [167, 0, 205]) : decode c pc = .ok (.goto 205, 3) := op_167 h (by decide +kernel)
theorem dw_929 (h : Pc9 c pc [184, 1, 105]) : decode c pc = .ok (.invokestatic 361, 3) := op_184 h rfl
theorem dw_930 (h : Pc9 c pc [182, 1, 107]) : decode c pc = .ok (.invokevirtual 363, 3) := op_182 h rfl
theorem dw_931 (h : Pc9 c pc [167, 0, 165]) : decode c pc = .ok (.goto 165, 3) := op_167 h (by decide +kernel)
theorem dw_932 (h : Pc9 c pc [184, 1, 108]) : decode c pc = .ok (.invokestatic 364, 3) := op_184 h rfl
theorem dw_933 (h : Pc9 c pc [182, 1, 110]) : decode c pc = .ok (.invokevirtual 366, 3) := op_182 h rfl
theorem dw_934 (h : Pc9 c pc [167, 0, 137]) : decode c pc = .ok (.goto 137, 3) := op_167 h (by decide +kernel)
theorem dw_935 (h : Pc9 c pc [184, 1, 111]) : decode c pc = .ok (.invokestatic 367, 3) := op_184 h rfl
theorem dw_936 (h : Pc9 c pc [182, 1, 113]) : decode c pc = .ok (.invokevirtual 369, 3) := op_182 h rfl
theorem dw_937 (h : Pc9 c pc [167, 0, 97]) : decode c pc = .ok (.goto 97, 3) := op_167 h (by decide +kernel)
theorem dw_938 (h : Pc9 c pc [182, 1, 114]) : decode c pc = .ok (.invokevirtual 370, 3) := op_182 h rfl
theorem dw_939 (h : Pc9 c pc [182, 1, 117]) : decode c pc = .ok (.invokevirtual 373, 3) := op_182 h rfl
theorem dw_940 (h : Pc9 c pc [167, 0, 72]) : decode c pc = .ok (.goto 72, 3) := op_167 h (by decide +kernel)
theorem dw_941 (h : Pc9 c pc [182, 1, 118]) : decode c pc = .ok (.invokevirtual 374, 3) := op_182 h rfl
theorem dw_942 (h : Pc9 c pc [182, 1, 121]) : decode c pc = .ok (.invokevirtual 377, 3) := op_182 h rfl
theorem dw_943 (h : Pc9 c pc [167, 0, 59]) : decode c pc = .ok (.goto 59, 3) := op_167 h (by decide +kernel)
theorem dw_944 (h : Pc9 c pc [184, 1, 122]) : decode c pc = .ok (.invokestatic 378, 3) := op_184 h rfl
theorem dw_945 (h : Pc9 c pc [182, 1, 124]) : decode c pc = .ok (.invokevirtual 380, 3) := op_182 h rfl
theorem dw_946 (h : Pc9 c pc [167, 0, 31]) : decode c pc = .ok (.goto 31, 3) := op_167 h (by decide +kernel)
theorem dw_947 (h : Pc9 c pc [184, 1, 125]) : decode c pc = .ok (.invokestatic 381, 3) := op_184 h rfl
theorem dw_948 (h : Pc9 c pc [182, 1, 127]) : decode c pc = .ok (.invokevirtual 383, 3) := op_182 h rfl
theorem dw_949 (h : Pc9 c pc [167, 0, 3]) : decode c pc = .ok (.goto 3, 3) := op_167 h (by decide +kernel)
theorem dw_950 (h : Pc9 c pc [132, 5, 5]) : decode c pc = .ok (.iinc 5 5, 3) := op_132 h rfl (by decide +kernel)
theorem dw_951 (h : Pc9 c pc [167, 245, 89]) : decode c pc = .ok (.goto (-2727), 3) := op_167 h (by decide +kernel)
end
theorem dL_law_0 : decode cL_law 0 = .ok (.new 8, 3) := dw_791 (pc9 (k := 0) (j := 0) lDL_0 rfl)
theorem dL_law_3 : decode cL_law 3 = .ok (.dup, 1) := dw_90 (pc9 (k := 0) (j := 3) lDL_0 rfl)
theorem dL_law_4 : decode cL_law 4 = .ok (.invokespecial 182, 3) := dw_792 (pc9 (k := 0) (j := 4) lDL_0 rfl)
theorem dL_law_7 : decode cL_law 7 = .ok (.astore_n 1, 1) := dw_793 (pc9 (k := 0) (j := 7) lDL_0 rfl)
theorem dL_law_8 : decode cL_law 8 = .ok (.new 183, 3) := dw_794 (pc9 (k := 0) (j := 8) lDL_0 rfl)
theorem dL_law_11 : decode cL_law 11 = .ok (.dup, 1) := dw_90 (pc9 (k := 0) (j := 11) lDL_0 rfl)
theorem dL_law_12 : decode cL_law 12 = .ok (.invokespecial 185, 3) := dw_795 (pc9 (k := 0) (j := 12) lDL_0 rfl)
theorem dL_law_15 : decode cL_law 15 = .ok (.astore_n 2, 1) := dw_347 (pc9 (k := 0) (j := 15) lDL_0 rfl)
theorem dL_law_16 : decode cL_law 16 = .ok (.iconst 1, 1) := dw_26 (pc9 (k := 0) (j := 16) lDL_0 rfl)
theorem dL_law_17 : decode cL_law 17 = .ok (.newarray .long, 2) := by decide +kernel
theorem dL_law_19 : decode cL_law 19 = .ok (.astore_n 3, 1) := dw_126 (pc9 (k := 0) (j := 19) lDL_0 rfl)
theorem dL_law_20 : decode cL_law 20 = .ok (.iconst 1, 1) := dw_26 (pc9 (k := 0) (j := 20) lDL_0 rfl)
theorem dL_law_21 : decode cL_law 21 = .ok (.newarray .double, 2) := by decide +kernel
theorem dL_law_23 : decode cL_law 23 = .ok (.astore 4, 2) := dw_127 (pc9 (k := 0) (j := 23) lDL_0 rfl)
theorem dL_law_25 : decode cL_law 25 = .ok (.iconst 0, 1) := dw_6 (pc9 (k := 0) (j := 25) lDL_0 rfl)
theorem dL_law_26 : decode cL_law 26 = .ok (.istore 5, 2) := dw_34 (pc9 (k := 0) (j := 26) lDL_0 rfl)
theorem dL_law_28 : decode cL_law 28 = .ok (.iload 5, 2) := dw_39 (pc9 (k := 0) (j := 28) lDL_0 rfl)
theorem dL_law_30 : decode cL_law 30 = .ok (.aload_n 0, 1) := dw_0 (pc9 (k := 0) (j := 30) lDL_0 rfl)
theorem dL_law_31 : decode cL_law 31 = .ok (.arraylength, 1) := dw_767 (pc9 (k := 0) (j := 31) lDL_0 rfl)
theorem dL_law_32 : decode cL_law 32 = .ok (.iconst 5, 1) := dw_216 (pc9 (k := 32) (j := 0) lDL_1 rfl)
theorem dL_law_33 : decode cL_law 33 = .ok (.isub, 1) := dw_122 (pc9 (k := 32) (j := 1) lDL_1 rfl)
theorem dL_law_34 : decode cL_law 34 = .ok (.if_icmp .gt 2724, 3) := dw_796 (pc9 (k := 32) (j := 2) lDL_1 rfl)
theorem dL_law_37 : decode cL_law 37 = .ok (.aload_n 0, 1) := dw_0 (pc9 (k := 32) (j := 5) lDL_1 rfl)
theorem dL_law_38 : decode cL_law 38 = .ok (.iload 5, 2) := dw_39 (pc9 (k := 32) (j := 6) lDL_1 rfl)
theorem dL_law_40 : decode cL_law 40 = .ok (.iaload, 1) := dw_16 (pc9 (k := 32) (j := 8) lDL_1 rfl)
theorem dL_law_41 : decode cL_law 41 = .ok (.bipush 63, 2) := dw_764 (pc9 (k := 32) (j := 9) lDL_1 rfl)
theorem dL_law_43 : decode cL_law 43 = .ok (.iand, 1) := dw_32 (pc9 (k := 32) (j := 11) lDL_1 rfl)
theorem dL_law_44 : decode cL_law 44 = .ok (.tableswitch 2708 0 57 #[248, 305, 318, 331, 344, 372, 424, 464, 516, 568, 596, 636, 676, 704, 744, 816, 856, 885, 913, 965, 1005, 1033, 1062, 1102, 1130, 1182, 1246, 1286, 1314, 1354, 1406, 1458, 1486, 1542, 1570, 1598, 1670, 1742, 1782, 1862, 1946, 1986, 2026, 2090, 2170, 2250, 2290, 2330, 2370, 2422, 2478, 2506, 2546, 2574, 2614, 2639, 2652, 2680], 248) := by decide +kernel
theorem dL_law_292 : decode cL_law 292 = .ok (.aload_n 1, 1) := dw_5 (pc9 (k := 288) (j := 4) lDL_9 rfl)
theorem dL_law_293 : decode cL_law 293 = .ok (.aload_n 0, 1) := dw_0 (pc9 (k := 288) (j := 5) lDL_9 rfl)
theorem dL_law_294 : decode cL_law 294 = .ok (.iload 5, 2) := dw_39 (pc9 (k := 288) (j := 6) lDL_9 rfl)
theorem dL_law_296 : decode cL_law 296 = .ok (.iconst 1, 1) := dw_26 (pc9 (k := 288) (j := 8) lDL_9 rfl)
theorem dL_law_297 : decode cL_law 297 = .ok (.iadd, 1) := dw_43 (pc9 (k := 288) (j := 9) lDL_9 rfl)
theorem dL_law_298 : decode cL_law 298 = .ok (.iaload, 1) := dw_16 (pc9 (k := 288) (j := 10) lDL_9 rfl)
theorem dL_law_299 : decode cL_law 299 = .ok (.i2l, 1) := dw_498 (pc9 (k := 288) (j := 11) lDL_9 rfl)
theorem dL_law_300 : decode cL_law 300 = .ok (.bipush 32, 2) := dw_2 (pc9 (k := 288) (j := 12) lDL_9 rfl)
theorem dL_law_302 : decode cL_law 302 = .ok (.lshl, 1) := dw_535 (pc9 (k := 288) (j := 14) lDL_9 rfl)
theorem dL_law_303 : decode cL_law 303 = .ok (.aload_n 0, 1) := dw_0 (pc9 (k := 288) (j := 15) lDL_9 rfl)
theorem dL_law_304 : decode cL_law 304 = .ok (.iload 5, 2) := dw_39 (pc9 (k := 288) (j := 16) lDL_9 rfl)
theorem dL_law_306 : decode cL_law 306 = .ok (.iconst 2, 1) := dw_260 (pc9 (k := 288) (j := 18) lDL_9 rfl)
theorem dL_law_307 : decode cL_law 307 = .ok (.iadd, 1) := dw_43 (pc9 (k := 288) (j := 19) lDL_9 rfl)
theorem dL_law_308 : decode cL_law 308 = .ok (.iaload, 1) := dw_16 (pc9 (k := 288) (j := 20) lDL_9 rfl)
theorem dL_law_309 : decode cL_law 309 = .ok (.i2l, 1) := dw_498 (pc9 (k := 288) (j := 21) lDL_9 rfl)
theorem dL_law_310 : decode cL_law 310 = .ok (.ldc2_w 186, 3) := dw_797 (pc9 (k := 288) (j := 22) lDL_9 rfl)
theorem dL_law_313 : decode cL_law 313 = .ok (.land, 1) := dw_161 (pc9 (k := 288) (j := 25) lDL_9 rfl)
theorem dL_law_314 : decode cL_law 314 = .ok (.lor, 1) := dw_572 (pc9 (k := 288) (j := 26) lDL_9 rfl)
theorem dL_law_315 : decode cL_law 315 = .ok (.invokevirtual 188, 3) := dw_798 (pc9 (k := 288) (j := 27) lDL_9 rfl)
theorem dL_law_318 : decode cL_law 318 = .ok (.pop, 1) := dw_441 (pc9 (k := 288) (j := 30) lDL_9 rfl)
theorem dL_law_319 : decode cL_law 319 = .ok (.aload_n 2, 1) := dw_52 (pc9 (k := 288) (j := 31) lDL_9 rfl)
theorem dL_law_320 : decode cL_law 320 = .ok (.aload_n 0, 1) := dw_0 (pc9 (k := 320) (j := 0) lDL_10 rfl)
theorem dL_law_321 : decode cL_law 321 = .ok (.iload 5, 2) := dw_39 (pc9 (k := 320) (j := 1) lDL_10 rfl)
theorem dL_law_323 : decode cL_law 323 = .ok (.iconst 1, 1) := dw_26 (pc9 (k := 320) (j := 3) lDL_10 rfl)
theorem dL_law_324 : decode cL_law 324 = .ok (.iadd, 1) := dw_43 (pc9 (k := 320) (j := 4) lDL_10 rfl)
theorem dL_law_325 : decode cL_law 325 = .ok (.iaload, 1) := dw_16 (pc9 (k := 320) (j := 5) lDL_10 rfl)
theorem dL_law_326 : decode cL_law 326 = .ok (.i2l, 1) := dw_498 (pc9 (k := 320) (j := 6) lDL_10 rfl)
theorem dL_law_327 : decode cL_law 327 = .ok (.bipush 32, 2) := dw_2 (pc9 (k := 320) (j := 7) lDL_10 rfl)
theorem dL_law_329 : decode cL_law 329 = .ok (.lshl, 1) := dw_535 (pc9 (k := 320) (j := 9) lDL_10 rfl)
theorem dL_law_330 : decode cL_law 330 = .ok (.aload_n 0, 1) := dw_0 (pc9 (k := 320) (j := 10) lDL_10 rfl)
theorem dL_law_331 : decode cL_law 331 = .ok (.iload 5, 2) := dw_39 (pc9 (k := 320) (j := 11) lDL_10 rfl)
theorem dL_law_333 : decode cL_law 333 = .ok (.iconst 2, 1) := dw_260 (pc9 (k := 320) (j := 13) lDL_10 rfl)
theorem dL_law_334 : decode cL_law 334 = .ok (.iadd, 1) := dw_43 (pc9 (k := 320) (j := 14) lDL_10 rfl)
theorem dL_law_335 : decode cL_law 335 = .ok (.iaload, 1) := dw_16 (pc9 (k := 320) (j := 15) lDL_10 rfl)
theorem dL_law_336 : decode cL_law 336 = .ok (.i2l, 1) := dw_498 (pc9 (k := 320) (j := 16) lDL_10 rfl)
theorem dL_law_337 : decode cL_law 337 = .ok (.ldc2_w 186, 3) := dw_797 (pc9 (k := 320) (j := 17) lDL_10 rfl)
theorem dL_law_340 : decode cL_law 340 = .ok (.land, 1) := dw_161 (pc9 (k := 320) (j := 20) lDL_10 rfl)
theorem dL_law_341 : decode cL_law 341 = .ok (.lor, 1) := dw_572 (pc9 (k := 320) (j := 21) lDL_10 rfl)
theorem dL_law_342 : decode cL_law 342 = .ok (.invokevirtual 192, 3) := dw_378 (pc9 (k := 320) (j := 22) lDL_10 rfl)
theorem dL_law_345 : decode cL_law 345 = .ok (.pop, 1) := dw_441 (pc9 (k := 320) (j := 25) lDL_10 rfl)
theorem dL_law_346 : decode cL_law 346 = .ok (.goto 2406, 3) := dw_799 (pc9 (k := 320) (j := 26) lDL_10 rfl)
theorem dL_law_349 : decode cL_law 349 = .ok (.aload_n 1, 1) := dw_5 (pc9 (k := 320) (j := 29) lDL_10 rfl)
theorem dL_law_350 : decode cL_law 350 = .ok (.invokevirtual 193, 3) := dw_608 (pc9 (k := 320) (j := 30) lDL_10 rfl)
theorem dL_law_353 : decode cL_law 353 = .ok (.pop, 1) := dw_441 (pc9 (k := 352) (j := 1) lDL_11 rfl)
theorem dL_law_354 : decode cL_law 354 = .ok (.aload_n 2, 1) := dw_52 (pc9 (k := 352) (j := 2) lDL_11 rfl)
theorem dL_law_355 : decode cL_law 355 = .ok (.invokevirtual 197, 3) := dw_800 (pc9 (k := 352) (j := 3) lDL_11 rfl)
theorem dL_law_358 : decode cL_law 358 = .ok (.pop, 1) := dw_441 (pc9 (k := 352) (j := 6) lDL_11 rfl)
theorem dL_law_359 : decode cL_law 359 = .ok (.goto 2393, 3) := dw_801 (pc9 (k := 352) (j := 7) lDL_11 rfl)
theorem dL_law_362 : decode cL_law 362 = .ok (.aload_n 1, 1) := dw_5 (pc9 (k := 352) (j := 10) lDL_11 rfl)
theorem dL_law_363 : decode cL_law 363 = .ok (.invokevirtual 198, 3) := dw_381 (pc9 (k := 352) (j := 11) lDL_11 rfl)
theorem dL_law_366 : decode cL_law 366 = .ok (.pop, 1) := dw_441 (pc9 (k := 352) (j := 14) lDL_11 rfl)
theorem dL_law_367 : decode cL_law 367 = .ok (.aload_n 2, 1) := dw_52 (pc9 (k := 352) (j := 15) lDL_11 rfl)
theorem dL_law_368 : decode cL_law 368 = .ok (.invokevirtual 201, 3) := dw_802 (pc9 (k := 352) (j := 16) lDL_11 rfl)
theorem dL_law_371 : decode cL_law 371 = .ok (.pop, 1) := dw_441 (pc9 (k := 352) (j := 19) lDL_11 rfl)
theorem dL_law_372 : decode cL_law 372 = .ok (.goto 2380, 3) := dw_803 (pc9 (k := 352) (j := 20) lDL_11 rfl)
theorem dL_law_375 : decode cL_law 375 = .ok (.aload_n 1, 1) := dw_5 (pc9 (k := 352) (j := 23) lDL_11 rfl)
theorem dL_law_376 : decode cL_law 376 = .ok (.invokevirtual 202, 3) := dw_804 (pc9 (k := 352) (j := 24) lDL_11 rfl)
theorem dL_law_379 : decode cL_law 379 = .ok (.pop, 1) := dw_441 (pc9 (k := 352) (j := 27) lDL_11 rfl)
theorem dL_law_380 : decode cL_law 380 = .ok (.aload_n 2, 1) := dw_52 (pc9 (k := 352) (j := 28) lDL_11 rfl)
theorem dL_law_381 : decode cL_law 381 = .ok (.invokevirtual 205, 3) := dw_805 (pc9 (k := 352) (j := 29) lDL_11 rfl)
theorem dL_law_384 : decode cL_law 384 = .ok (.pop, 1) := dw_441 (pc9 (k := 384) (j := 0) lDL_12 rfl)
theorem dL_law_385 : decode cL_law 385 = .ok (.goto 2367, 3) := dw_806 (pc9 (k := 384) (j := 1) lDL_12 rfl)
theorem dL_law_388 : decode cL_law 388 = .ok (.aload_n 1, 1) := dw_5 (pc9 (k := 384) (j := 4) lDL_12 rfl)
theorem dL_law_389 : decode cL_law 389 = .ok (.aload_n 0, 1) := dw_0 (pc9 (k := 384) (j := 5) lDL_12 rfl)
theorem dL_law_390 : decode cL_law 390 = .ok (.iload 5, 2) := dw_39 (pc9 (k := 384) (j := 6) lDL_12 rfl)
theorem dL_law_392 : decode cL_law 392 = .ok (.iconst 1, 1) := dw_26 (pc9 (k := 384) (j := 8) lDL_12 rfl)
theorem dL_law_393 : decode cL_law 393 = .ok (.iadd, 1) := dw_43 (pc9 (k := 384) (j := 9) lDL_12 rfl)
theorem dL_law_394 : decode cL_law 394 = .ok (.iaload, 1) := dw_16 (pc9 (k := 384) (j := 10) lDL_12 rfl)
theorem dL_law_395 : decode cL_law 395 = .ok (.aload_n 3, 1) := dw_119 (pc9 (k := 384) (j := 11) lDL_12 rfl)
theorem dL_law_396 : decode cL_law 396 = .ok (.invokestatic 206, 3) := dw_807 (pc9 (k := 384) (j := 12) lDL_12 rfl)
theorem dL_law_399 : decode cL_law 399 = .ok (.istore 6, 2) := dw_35 (pc9 (k := 384) (j := 15) lDL_12 rfl)
theorem dL_law_401 : decode cL_law 401 = .ok (.aload_n 2, 1) := dw_52 (pc9 (k := 384) (j := 17) lDL_12 rfl)
theorem dL_law_402 : decode cL_law 402 = .ok (.aload_n 0, 1) := dw_0 (pc9 (k := 384) (j := 18) lDL_12 rfl)
theorem dL_law_403 : decode cL_law 403 = .ok (.iload 5, 2) := dw_39 (pc9 (k := 384) (j := 19) lDL_12 rfl)
theorem dL_law_405 : decode cL_law 405 = .ok (.iconst 1, 1) := dw_26 (pc9 (k := 384) (j := 21) lDL_12 rfl)
theorem dL_law_406 : decode cL_law 406 = .ok (.iadd, 1) := dw_43 (pc9 (k := 384) (j := 22) lDL_12 rfl)
theorem dL_law_407 : decode cL_law 407 = .ok (.iaload, 1) := dw_16 (pc9 (k := 384) (j := 23) lDL_12 rfl)
theorem dL_law_408 : decode cL_law 408 = .ok (.invokevirtual 211, 3) := dw_808 (pc9 (k := 384) (j := 24) lDL_12 rfl)
theorem dL_law_411 : decode cL_law 411 = .ok (.istore 7, 2) := dw_58 (pc9 (k := 384) (j := 27) lDL_12 rfl)
theorem dL_law_413 : decode cL_law 413 = .ok (.goto 2339, 3) := dw_809 (pc9 (k := 384) (j := 29) lDL_12 rfl)
theorem dL_law_416 : decode cL_law 416 = .ok (.aload_n 1, 1) := dw_5 (pc9 (k := 416) (j := 0) lDL_13 rfl)
theorem dL_law_417 : decode cL_law 417 = .ok (.aload_n 0, 1) := dw_0 (pc9 (k := 416) (j := 1) lDL_13 rfl)
theorem dL_law_418 : decode cL_law 418 = .ok (.iload 5, 2) := dw_39 (pc9 (k := 416) (j := 2) lDL_13 rfl)
theorem dL_law_420 : decode cL_law 420 = .ok (.iconst 1, 1) := dw_26 (pc9 (k := 416) (j := 4) lDL_13 rfl)
theorem dL_law_421 : decode cL_law 421 = .ok (.iadd, 1) := dw_43 (pc9 (k := 416) (j := 5) lDL_13 rfl)
theorem dL_law_422 : decode cL_law 422 = .ok (.iaload, 1) := dw_16 (pc9 (k := 416) (j := 6) lDL_13 rfl)
theorem dL_law_423 : decode cL_law 423 = .ok (.aload_n 0, 1) := dw_0 (pc9 (k := 416) (j := 7) lDL_13 rfl)
theorem dL_law_424 : decode cL_law 424 = .ok (.iload 5, 2) := dw_39 (pc9 (k := 416) (j := 8) lDL_13 rfl)
theorem dL_law_426 : decode cL_law 426 = .ok (.iconst 2, 1) := dw_260 (pc9 (k := 416) (j := 10) lDL_13 rfl)
theorem dL_law_427 : decode cL_law 427 = .ok (.iadd, 1) := dw_43 (pc9 (k := 416) (j := 11) lDL_13 rfl)
theorem dL_law_428 : decode cL_law 428 = .ok (.iaload, 1) := dw_16 (pc9 (k := 416) (j := 12) lDL_13 rfl)
theorem dL_law_429 : decode cL_law 429 = .ok (.aload_n 0, 1) := dw_0 (pc9 (k := 416) (j := 13) lDL_13 rfl)
theorem dL_law_430 : decode cL_law 430 = .ok (.iload 5, 2) := dw_39 (pc9 (k := 416) (j := 14) lDL_13 rfl)
theorem dL_law_432 : decode cL_law 432 = .ok (.iconst 3, 1) := dw_221 (pc9 (k := 416) (j := 16) lDL_13 rfl)
theorem dL_law_433 : decode cL_law 433 = .ok (.iadd, 1) := dw_43 (pc9 (k := 416) (j := 17) lDL_13 rfl)
theorem dL_law_434 : decode cL_law 434 = .ok (.iaload, 1) := dw_16 (pc9 (k := 416) (j := 18) lDL_13 rfl)
theorem dL_law_435 : decode cL_law 435 = .ok (.aload_n 3, 1) := dw_119 (pc9 (k := 416) (j := 19) lDL_13 rfl)
theorem dL_law_436 : decode cL_law 436 = .ok (.invokestatic 212, 3) := dw_810 (pc9 (k := 416) (j := 20) lDL_13 rfl)
theorem dL_law_439 : decode cL_law 439 = .ok (.istore 6, 2) := dw_35 (pc9 (k := 416) (j := 23) lDL_13 rfl)
theorem dL_law_441 : decode cL_law 441 = .ok (.aload_n 2, 1) := dw_52 (pc9 (k := 416) (j := 25) lDL_13 rfl)
theorem dL_law_442 : decode cL_law 442 = .ok (.aload_n 0, 1) := dw_0 (pc9 (k := 416) (j := 26) lDL_13 rfl)
theorem dL_law_443 : decode cL_law 443 = .ok (.iload 5, 2) := dw_39 (pc9 (k := 416) (j := 27) lDL_13 rfl)
theorem dL_law_445 : decode cL_law 445 = .ok (.iconst 1, 1) := dw_26 (pc9 (k := 416) (j := 29) lDL_13 rfl)
theorem dL_law_446 : decode cL_law 446 = .ok (.iadd, 1) := dw_43 (pc9 (k := 416) (j := 30) lDL_13 rfl)
theorem dL_law_447 : decode cL_law 447 = .ok (.iaload, 1) := dw_16 (pc9 (k := 416) (j := 31) lDL_13 rfl)
theorem dL_law_448 : decode cL_law 448 = .ok (.aload_n 0, 1) := dw_0 (pc9 (k := 448) (j := 0) lDL_14 rfl)
theorem dL_law_449 : decode cL_law 449 = .ok (.iload 5, 2) := dw_39 (pc9 (k := 448) (j := 1) lDL_14 rfl)
theorem dL_law_451 : decode cL_law 451 = .ok (.iconst 2, 1) := dw_260 (pc9 (k := 448) (j := 3) lDL_14 rfl)
theorem dL_law_452 : decode cL_law 452 = .ok (.iadd, 1) := dw_43 (pc9 (k := 448) (j := 4) lDL_14 rfl)
theorem dL_law_453 : decode cL_law 453 = .ok (.iaload, 1) := dw_16 (pc9 (k := 448) (j := 5) lDL_14 rfl)
theorem dL_law_454 : decode cL_law 454 = .ok (.aload_n 0, 1) := dw_0 (pc9 (k := 448) (j := 6) lDL_14 rfl)
theorem dL_law_455 : decode cL_law 455 = .ok (.iload 5, 2) := dw_39 (pc9 (k := 448) (j := 7) lDL_14 rfl)
theorem dL_law_457 : decode cL_law 457 = .ok (.iconst 3, 1) := dw_221 (pc9 (k := 448) (j := 9) lDL_14 rfl)
theorem dL_law_458 : decode cL_law 458 = .ok (.iadd, 1) := dw_43 (pc9 (k := 448) (j := 10) lDL_14 rfl)
theorem dL_law_459 : decode cL_law 459 = .ok (.iaload, 1) := dw_16 (pc9 (k := 448) (j := 11) lDL_14 rfl)
theorem dL_law_460 : decode cL_law 460 = .ok (.invokevirtual 215, 3) := dw_811 (pc9 (k := 448) (j := 12) lDL_14 rfl)
theorem dL_law_463 : decode cL_law 463 = .ok (.istore 7, 2) := dw_58 (pc9 (k := 448) (j := 15) lDL_14 rfl)
theorem dL_law_465 : decode cL_law 465 = .ok (.goto 2287, 3) := dw_812 (pc9 (k := 448) (j := 17) lDL_14 rfl)
theorem dL_law_468 : decode cL_law 468 = .ok (.aload_n 1, 1) := dw_5 (pc9 (k := 448) (j := 20) lDL_14 rfl)
theorem dL_law_469 : decode cL_law 469 = .ok (.aload_n 0, 1) := dw_0 (pc9 (k := 448) (j := 21) lDL_14 rfl)
theorem dL_law_470 : decode cL_law 470 = .ok (.iload 5, 2) := dw_39 (pc9 (k := 448) (j := 22) lDL_14 rfl)
theorem dL_law_472 : decode cL_law 472 = .ok (.iconst 1, 1) := dw_26 (pc9 (k := 448) (j := 24) lDL_14 rfl)
theorem dL_law_473 : decode cL_law 473 = .ok (.iadd, 1) := dw_43 (pc9 (k := 448) (j := 25) lDL_14 rfl)
theorem dL_law_474 : decode cL_law 474 = .ok (.iaload, 1) := dw_16 (pc9 (k := 448) (j := 26) lDL_14 rfl)
theorem dL_law_475 : decode cL_law 475 = .ok (.aload_n 0, 1) := dw_0 (pc9 (k := 448) (j := 27) lDL_14 rfl)
theorem dL_law_476 : decode cL_law 476 = .ok (.iload 5, 2) := dw_39 (pc9 (k := 448) (j := 28) lDL_14 rfl)
theorem dL_law_478 : decode cL_law 478 = .ok (.iconst 2, 1) := dw_260 (pc9 (k := 448) (j := 30) lDL_14 rfl)
theorem dL_law_479 : decode cL_law 479 = .ok (.iadd, 1) := dw_43 (pc9 (k := 448) (j := 31) lDL_14 rfl)
theorem dL_law_480 : decode cL_law 480 = .ok (.iaload, 1) := dw_16 (pc9 (k := 480) (j := 0) lDL_15 rfl)
theorem dL_law_481 : decode cL_law 481 = .ok (.aload_n 3, 1) := dw_119 (pc9 (k := 480) (j := 1) lDL_15 rfl)
theorem dL_law_482 : decode cL_law 482 = .ok (.invokestatic 216, 3) := dw_622 (pc9 (k := 480) (j := 2) lDL_15 rfl)
theorem dL_law_485 : decode cL_law 485 = .ok (.istore 6, 2) := dw_35 (pc9 (k := 480) (j := 5) lDL_15 rfl)
theorem dL_law_487 : decode cL_law 487 = .ok (.aload_n 2, 1) := dw_52 (pc9 (k := 480) (j := 7) lDL_15 rfl)
theorem dL_law_488 : decode cL_law 488 = .ok (.aload_n 0, 1) := dw_0 (pc9 (k := 480) (j := 8) lDL_15 rfl)
theorem dL_law_489 : decode cL_law 489 = .ok (.iload 5, 2) := dw_39 (pc9 (k := 480) (j := 9) lDL_15 rfl)
theorem dL_law_491 : decode cL_law 491 = .ok (.iconst 1, 1) := dw_26 (pc9 (k := 480) (j := 11) lDL_15 rfl)
theorem dL_law_492 : decode cL_law 492 = .ok (.iadd, 1) := dw_43 (pc9 (k := 480) (j := 12) lDL_15 rfl)
theorem dL_law_493 : decode cL_law 493 = .ok (.iaload, 1) := dw_16 (pc9 (k := 480) (j := 13) lDL_15 rfl)
theorem dL_law_494 : decode cL_law 494 = .ok (.aload_n 0, 1) := dw_0 (pc9 (k := 480) (j := 14) lDL_15 rfl)
theorem dL_law_495 : decode cL_law 495 = .ok (.iload 5, 2) := dw_39 (pc9 (k := 480) (j := 15) lDL_15 rfl)
theorem dL_law_497 : decode cL_law 497 = .ok (.iconst 2, 1) := dw_260 (pc9 (k := 480) (j := 17) lDL_15 rfl)
theorem dL_law_498 : decode cL_law 498 = .ok (.iadd, 1) := dw_43 (pc9 (k := 480) (j := 18) lDL_15 rfl)
theorem dL_law_499 : decode cL_law 499 = .ok (.iaload, 1) := dw_16 (pc9 (k := 480) (j := 19) lDL_15 rfl)
theorem dL_law_500 : decode cL_law 500 = .ok (.invokevirtual 219, 3) := dw_407 (pc9 (k := 480) (j := 20) lDL_15 rfl)
theorem dL_law_503 : decode cL_law 503 = .ok (.lstore 7, 2) := dw_737 (pc9 (k := 480) (j := 23) lDL_15 rfl)
theorem dL_law_505 : decode cL_law 505 = .ok (.goto 2247, 3) := dw_813 (pc9 (k := 480) (j := 25) lDL_15 rfl)
theorem dL_law_508 : decode cL_law 508 = .ok (.aload_n 1, 1) := dw_5 (pc9 (k := 480) (j := 28) lDL_15 rfl)
theorem dL_law_509 : decode cL_law 509 = .ok (.aload_n 0, 1) := dw_0 (pc9 (k := 480) (j := 29) lDL_15 rfl)
theorem dL_law_510 : decode cL_law 510 = .ok (.iload 5, 2) := dw_39 (pc9 (k := 480) (j := 30) lDL_15 rfl)
theorem dL_law_512 : decode cL_law 512 = .ok (.iconst 1, 1) := dw_26 (pc9 (k := 512) (j := 0) lDL_16 rfl)
theorem dL_law_513 : decode cL_law 513 = .ok (.iadd, 1) := dw_43 (pc9 (k := 512) (j := 1) lDL_16 rfl)
theorem dL_law_514 : decode cL_law 514 = .ok (.iaload, 1) := dw_16 (pc9 (k := 512) (j := 2) lDL_16 rfl)
theorem dL_law_515 : decode cL_law 515 = .ok (.aload_n 0, 1) := dw_0 (pc9 (k := 512) (j := 3) lDL_16 rfl)
theorem dL_law_516 : decode cL_law 516 = .ok (.iload 5, 2) := dw_39 (pc9 (k := 512) (j := 4) lDL_16 rfl)
theorem dL_law_518 : decode cL_law 518 = .ok (.iconst 2, 1) := dw_260 (pc9 (k := 512) (j := 6) lDL_16 rfl)
theorem dL_law_519 : decode cL_law 519 = .ok (.iadd, 1) := dw_43 (pc9 (k := 512) (j := 7) lDL_16 rfl)
theorem dL_law_520 : decode cL_law 520 = .ok (.iaload, 1) := dw_16 (pc9 (k := 512) (j := 8) lDL_16 rfl)
theorem dL_law_521 : decode cL_law 521 = .ok (.aload_n 0, 1) := dw_0 (pc9 (k := 512) (j := 9) lDL_16 rfl)
theorem dL_law_522 : decode cL_law 522 = .ok (.iload 5, 2) := dw_39 (pc9 (k := 512) (j := 10) lDL_16 rfl)
theorem dL_law_524 : decode cL_law 524 = .ok (.iconst 3, 1) := dw_221 (pc9 (k := 512) (j := 12) lDL_16 rfl)
theorem dL_law_525 : decode cL_law 525 = .ok (.iadd, 1) := dw_43 (pc9 (k := 512) (j := 13) lDL_16 rfl)
theorem dL_law_526 : decode cL_law 526 = .ok (.iaload, 1) := dw_16 (pc9 (k := 512) (j := 14) lDL_16 rfl)
theorem dL_law_527 : decode cL_law 527 = .ok (.aload_n 3, 1) := dw_119 (pc9 (k := 512) (j := 15) lDL_16 rfl)
theorem dL_law_528 : decode cL_law 528 = .ok (.invokestatic 220, 3) := dw_814 (pc9 (k := 512) (j := 16) lDL_16 rfl)
theorem dL_law_531 : decode cL_law 531 = .ok (.istore 6, 2) := dw_35 (pc9 (k := 512) (j := 19) lDL_16 rfl)
theorem dL_law_533 : decode cL_law 533 = .ok (.aload_n 2, 1) := dw_52 (pc9 (k := 512) (j := 21) lDL_16 rfl)
theorem dL_law_534 : decode cL_law 534 = .ok (.aload_n 0, 1) := dw_0 (pc9 (k := 512) (j := 22) lDL_16 rfl)
theorem dL_law_535 : decode cL_law 535 = .ok (.iload 5, 2) := dw_39 (pc9 (k := 512) (j := 23) lDL_16 rfl)
theorem dL_law_537 : decode cL_law 537 = .ok (.iconst 1, 1) := dw_26 (pc9 (k := 512) (j := 25) lDL_16 rfl)
theorem dL_law_538 : decode cL_law 538 = .ok (.iadd, 1) := dw_43 (pc9 (k := 512) (j := 26) lDL_16 rfl)
theorem dL_law_539 : decode cL_law 539 = .ok (.iaload, 1) := dw_16 (pc9 (k := 512) (j := 27) lDL_16 rfl)
theorem dL_law_540 : decode cL_law 540 = .ok (.aload_n 0, 1) := dw_0 (pc9 (k := 512) (j := 28) lDL_16 rfl)
theorem dL_law_541 : decode cL_law 541 = .ok (.iload 5, 2) := dw_39 (pc9 (k := 512) (j := 29) lDL_16 rfl)
theorem dL_law_543 : decode cL_law 543 = .ok (.iconst 2, 1) := dw_260 (pc9 (k := 512) (j := 31) lDL_16 rfl)
theorem dL_law_544 : decode cL_law 544 = .ok (.iadd, 1) := dw_43 (pc9 (k := 544) (j := 0) lDL_17 rfl)
theorem dL_law_545 : decode cL_law 545 = .ok (.iaload, 1) := dw_16 (pc9 (k := 544) (j := 1) lDL_17 rfl)
theorem dL_law_546 : decode cL_law 546 = .ok (.aload_n 0, 1) := dw_0 (pc9 (k := 544) (j := 2) lDL_17 rfl)
theorem dL_law_547 : decode cL_law 547 = .ok (.iload 5, 2) := dw_39 (pc9 (k := 544) (j := 3) lDL_17 rfl)
theorem dL_law_549 : decode cL_law 549 = .ok (.iconst 3, 1) := dw_221 (pc9 (k := 544) (j := 5) lDL_17 rfl)
theorem dL_law_550 : decode cL_law 550 = .ok (.iadd, 1) := dw_43 (pc9 (k := 544) (j := 6) lDL_17 rfl)
theorem dL_law_551 : decode cL_law 551 = .ok (.iaload, 1) := dw_16 (pc9 (k := 544) (j := 7) lDL_17 rfl)
theorem dL_law_552 : decode cL_law 552 = .ok (.invokevirtual 222, 3) := dw_408 (pc9 (k := 544) (j := 8) lDL_17 rfl)
theorem dL_law_555 : decode cL_law 555 = .ok (.istore 7, 2) := dw_58 (pc9 (k := 544) (j := 11) lDL_17 rfl)
theorem dL_law_557 : decode cL_law 557 = .ok (.goto 2195, 3) := dw_815 (pc9 (k := 544) (j := 13) lDL_17 rfl)
theorem dL_law_560 : decode cL_law 560 = .ok (.aload_n 1, 1) := dw_5 (pc9 (k := 544) (j := 16) lDL_17 rfl)
theorem dL_law_561 : decode cL_law 561 = .ok (.aload_n 0, 1) := dw_0 (pc9 (k := 544) (j := 17) lDL_17 rfl)
theorem dL_law_562 : decode cL_law 562 = .ok (.iload 5, 2) := dw_39 (pc9 (k := 544) (j := 18) lDL_17 rfl)
theorem dL_law_564 : decode cL_law 564 = .ok (.iconst 1, 1) := dw_26 (pc9 (k := 544) (j := 20) lDL_17 rfl)
theorem dL_law_565 : decode cL_law 565 = .ok (.iadd, 1) := dw_43 (pc9 (k := 544) (j := 21) lDL_17 rfl)
theorem dL_law_566 : decode cL_law 566 = .ok (.iaload, 1) := dw_16 (pc9 (k := 544) (j := 22) lDL_17 rfl)
theorem dL_law_567 : decode cL_law 567 = .ok (.aload_n 0, 1) := dw_0 (pc9 (k := 544) (j := 23) lDL_17 rfl)
theorem dL_law_568 : decode cL_law 568 = .ok (.iload 5, 2) := dw_39 (pc9 (k := 544) (j := 24) lDL_17 rfl)
theorem dL_law_570 : decode cL_law 570 = .ok (.iconst 2, 1) := dw_260 (pc9 (k := 544) (j := 26) lDL_17 rfl)
theorem dL_law_571 : decode cL_law 571 = .ok (.iadd, 1) := dw_43 (pc9 (k := 544) (j := 27) lDL_17 rfl)
theorem dL_law_572 : decode cL_law 572 = .ok (.iaload, 1) := dw_16 (pc9 (k := 544) (j := 28) lDL_17 rfl)
theorem dL_law_573 : decode cL_law 573 = .ok (.aload_n 0, 1) := dw_0 (pc9 (k := 544) (j := 29) lDL_17 rfl)
theorem dL_law_574 : decode cL_law 574 = .ok (.iload 5, 2) := dw_39 (pc9 (k := 544) (j := 30) lDL_17 rfl)
theorem dL_law_576 : decode cL_law 576 = .ok (.iconst 3, 1) := dw_221 (pc9 (k := 576) (j := 0) lDL_18 rfl)
theorem dL_law_577 : decode cL_law 577 = .ok (.iadd, 1) := dw_43 (pc9 (k := 576) (j := 1) lDL_18 rfl)
theorem dL_law_578 : decode cL_law 578 = .ok (.iaload, 1) := dw_16 (pc9 (k := 576) (j := 2) lDL_18 rfl)
theorem dL_law_579 : decode cL_law 579 = .ok (.aload_n 3, 1) := dw_119 (pc9 (k := 576) (j := 3) lDL_18 rfl)
theorem dL_law_580 : decode cL_law 580 = .ok (.invokestatic 223, 3) := dw_816 (pc9 (k := 576) (j := 4) lDL_18 rfl)
theorem dL_law_583 : decode cL_law 583 = .ok (.istore 6, 2) := dw_35 (pc9 (k := 576) (j := 7) lDL_18 rfl)
theorem dL_law_585 : decode cL_law 585 = .ok (.aload_n 2, 1) := dw_52 (pc9 (k := 576) (j := 9) lDL_18 rfl)
theorem dL_law_586 : decode cL_law 586 = .ok (.aload_n 0, 1) := dw_0 (pc9 (k := 576) (j := 10) lDL_18 rfl)
theorem dL_law_587 : decode cL_law 587 = .ok (.iload 5, 2) := dw_39 (pc9 (k := 576) (j := 11) lDL_18 rfl)
theorem dL_law_589 : decode cL_law 589 = .ok (.iconst 1, 1) := dw_26 (pc9 (k := 576) (j := 13) lDL_18 rfl)
theorem dL_law_590 : decode cL_law 590 = .ok (.iadd, 1) := dw_43 (pc9 (k := 576) (j := 14) lDL_18 rfl)
theorem dL_law_591 : decode cL_law 591 = .ok (.iaload, 1) := dw_16 (pc9 (k := 576) (j := 15) lDL_18 rfl)
theorem dL_law_592 : decode cL_law 592 = .ok (.aload_n 0, 1) := dw_0 (pc9 (k := 576) (j := 16) lDL_18 rfl)
theorem dL_law_593 : decode cL_law 593 = .ok (.iload 5, 2) := dw_39 (pc9 (k := 576) (j := 17) lDL_18 rfl)
theorem dL_law_595 : decode cL_law 595 = .ok (.iconst 2, 1) := dw_260 (pc9 (k := 576) (j := 19) lDL_18 rfl)
theorem dL_law_596 : decode cL_law 596 = .ok (.iadd, 1) := dw_43 (pc9 (k := 576) (j := 20) lDL_18 rfl)
theorem dL_law_597 : decode cL_law 597 = .ok (.iaload, 1) := dw_16 (pc9 (k := 576) (j := 21) lDL_18 rfl)
theorem dL_law_598 : decode cL_law 598 = .ok (.aload_n 0, 1) := dw_0 (pc9 (k := 576) (j := 22) lDL_18 rfl)
theorem dL_law_599 : decode cL_law 599 = .ok (.iload 5, 2) := dw_39 (pc9 (k := 576) (j := 23) lDL_18 rfl)
theorem dL_law_601 : decode cL_law 601 = .ok (.iconst 3, 1) := dw_221 (pc9 (k := 576) (j := 25) lDL_18 rfl)
theorem dL_law_602 : decode cL_law 602 = .ok (.iadd, 1) := dw_43 (pc9 (k := 576) (j := 26) lDL_18 rfl)
theorem dL_law_603 : decode cL_law 603 = .ok (.iaload, 1) := dw_16 (pc9 (k := 576) (j := 27) lDL_18 rfl)
theorem dL_law_604 : decode cL_law 604 = .ok (.invokevirtual 225, 3) := dw_817 (pc9 (k := 576) (j := 28) lDL_18 rfl)
theorem dL_law_607 : decode cL_law 607 = .ok (.istore 7, 2) := dw_58 (pc9 (k := 576) (j := 31) lDL_18 rfl)
theorem dL_law_609 : decode cL_law 609 = .ok (.goto 2143, 3) := dw_818 (pc9 (k := 608) (j := 1) lDL_19 rfl)
theorem dL_law_612 : decode cL_law 612 = .ok (.aload_n 1, 1) := dw_5 (pc9 (k := 608) (j := 4) lDL_19 rfl)
theorem dL_law_613 : decode cL_law 613 = .ok (.aload_n 0, 1) := dw_0 (pc9 (k := 608) (j := 5) lDL_19 rfl)
theorem dL_law_614 : decode cL_law 614 = .ok (.iload 5, 2) := dw_39 (pc9 (k := 608) (j := 6) lDL_19 rfl)
theorem dL_law_616 : decode cL_law 616 = .ok (.iconst 1, 1) := dw_26 (pc9 (k := 608) (j := 8) lDL_19 rfl)
theorem dL_law_617 : decode cL_law 617 = .ok (.iadd, 1) := dw_43 (pc9 (k := 608) (j := 9) lDL_19 rfl)
theorem dL_law_618 : decode cL_law 618 = .ok (.iaload, 1) := dw_16 (pc9 (k := 608) (j := 10) lDL_19 rfl)
theorem dL_law_619 : decode cL_law 619 = .ok (.aload_n 3, 1) := dw_119 (pc9 (k := 608) (j := 11) lDL_19 rfl)
theorem dL_law_620 : decode cL_law 620 = .ok (.invokestatic 226, 3) := dw_819 (pc9 (k := 608) (j := 12) lDL_19 rfl)
theorem dL_law_623 : decode cL_law 623 = .ok (.istore 6, 2) := dw_35 (pc9 (k := 608) (j := 15) lDL_19 rfl)
theorem dL_law_625 : decode cL_law 625 = .ok (.aload_n 2, 1) := dw_52 (pc9 (k := 608) (j := 17) lDL_19 rfl)
theorem dL_law_626 : decode cL_law 626 = .ok (.aload_n 0, 1) := dw_0 (pc9 (k := 608) (j := 18) lDL_19 rfl)
theorem dL_law_627 : decode cL_law 627 = .ok (.iload 5, 2) := dw_39 (pc9 (k := 608) (j := 19) lDL_19 rfl)
theorem dL_law_629 : decode cL_law 629 = .ok (.iconst 1, 1) := dw_26 (pc9 (k := 608) (j := 21) lDL_19 rfl)
theorem dL_law_630 : decode cL_law 630 = .ok (.iadd, 1) := dw_43 (pc9 (k := 608) (j := 22) lDL_19 rfl)
theorem dL_law_631 : decode cL_law 631 = .ok (.iaload, 1) := dw_16 (pc9 (k := 608) (j := 23) lDL_19 rfl)
theorem dL_law_632 : decode cL_law 632 = .ok (.invokevirtual 228, 3) := dw_820 (pc9 (k := 608) (j := 24) lDL_19 rfl)
theorem dL_law_635 : decode cL_law 635 = .ok (.istore 7, 2) := dw_58 (pc9 (k := 608) (j := 27) lDL_19 rfl)
theorem dL_law_637 : decode cL_law 637 = .ok (.goto 2115, 3) := dw_821 (pc9 (k := 608) (j := 29) lDL_19 rfl)
theorem dL_law_640 : decode cL_law 640 = .ok (.aload_n 1, 1) := dw_5 (pc9 (k := 640) (j := 0) lDL_20 rfl)
theorem dL_law_641 : decode cL_law 641 = .ok (.aload_n 0, 1) := dw_0 (pc9 (k := 640) (j := 1) lDL_20 rfl)
theorem dL_law_642 : decode cL_law 642 = .ok (.iload 5, 2) := dw_39 (pc9 (k := 640) (j := 2) lDL_20 rfl)
theorem dL_law_644 : decode cL_law 644 = .ok (.iconst 1, 1) := dw_26 (pc9 (k := 640) (j := 4) lDL_20 rfl)
theorem dL_law_645 : decode cL_law 645 = .ok (.iadd, 1) := dw_43 (pc9 (k := 640) (j := 5) lDL_20 rfl)
theorem dL_law_646 : decode cL_law 646 = .ok (.iaload, 1) := dw_16 (pc9 (k := 640) (j := 6) lDL_20 rfl)
theorem dL_law_647 : decode cL_law 647 = .ok (.aload_n 0, 1) := dw_0 (pc9 (k := 640) (j := 7) lDL_20 rfl)
theorem dL_law_648 : decode cL_law 648 = .ok (.iload 5, 2) := dw_39 (pc9 (k := 640) (j := 8) lDL_20 rfl)
theorem dL_law_650 : decode cL_law 650 = .ok (.iconst 2, 1) := dw_260 (pc9 (k := 640) (j := 10) lDL_20 rfl)
theorem dL_law_651 : decode cL_law 651 = .ok (.iadd, 1) := dw_43 (pc9 (k := 640) (j := 11) lDL_20 rfl)
theorem dL_law_652 : decode cL_law 652 = .ok (.iaload, 1) := dw_16 (pc9 (k := 640) (j := 12) lDL_20 rfl)
theorem dL_law_653 : decode cL_law 653 = .ok (.aload_n 3, 1) := dw_119 (pc9 (k := 640) (j := 13) lDL_20 rfl)
theorem dL_law_654 : decode cL_law 654 = .ok (.invokestatic 229, 3) := dw_822 (pc9 (k := 640) (j := 14) lDL_20 rfl)
theorem dL_law_657 : decode cL_law 657 = .ok (.istore 6, 2) := dw_35 (pc9 (k := 640) (j := 17) lDL_20 rfl)
theorem dL_law_659 : decode cL_law 659 = .ok (.aload_n 2, 1) := dw_52 (pc9 (k := 640) (j := 19) lDL_20 rfl)
theorem dL_law_660 : decode cL_law 660 = .ok (.aload_n 0, 1) := dw_0 (pc9 (k := 640) (j := 20) lDL_20 rfl)
theorem dL_law_661 : decode cL_law 661 = .ok (.iload 5, 2) := dw_39 (pc9 (k := 640) (j := 21) lDL_20 rfl)
theorem dL_law_663 : decode cL_law 663 = .ok (.iconst 1, 1) := dw_26 (pc9 (k := 640) (j := 23) lDL_20 rfl)
theorem dL_law_664 : decode cL_law 664 = .ok (.iadd, 1) := dw_43 (pc9 (k := 640) (j := 24) lDL_20 rfl)
theorem dL_law_665 : decode cL_law 665 = .ok (.iaload, 1) := dw_16 (pc9 (k := 640) (j := 25) lDL_20 rfl)
theorem dL_law_666 : decode cL_law 666 = .ok (.aload_n 0, 1) := dw_0 (pc9 (k := 640) (j := 26) lDL_20 rfl)
theorem dL_law_667 : decode cL_law 667 = .ok (.iload 5, 2) := dw_39 (pc9 (k := 640) (j := 27) lDL_20 rfl)
theorem dL_law_669 : decode cL_law 669 = .ok (.iconst 2, 1) := dw_260 (pc9 (k := 640) (j := 29) lDL_20 rfl)
theorem dL_law_670 : decode cL_law 670 = .ok (.iadd, 1) := dw_43 (pc9 (k := 640) (j := 30) lDL_20 rfl)
theorem dL_law_671 : decode cL_law 671 = .ok (.iaload, 1) := dw_16 (pc9 (k := 640) (j := 31) lDL_20 rfl)
theorem dL_law_672 : decode cL_law 672 = .ok (.invokevirtual 231, 3) := dw_823 (pc9 (k := 672) (j := 0) lDL_21 rfl)
theorem dL_law_675 : decode cL_law 675 = .ok (.istore 7, 2) := dw_58 (pc9 (k := 672) (j := 3) lDL_21 rfl)
theorem dL_law_677 : decode cL_law 677 = .ok (.goto 2075, 3) := dw_824 (pc9 (k := 672) (j := 5) lDL_21 rfl)
theorem dL_law_680 : decode cL_law 680 = .ok (.aload_n 1, 1) := dw_5 (pc9 (k := 672) (j := 8) lDL_21 rfl)
theorem dL_law_681 : decode cL_law 681 = .ok (.aload_n 0, 1) := dw_0 (pc9 (k := 672) (j := 9) lDL_21 rfl)
theorem dL_law_682 : decode cL_law 682 = .ok (.iload 5, 2) := dw_39 (pc9 (k := 672) (j := 10) lDL_21 rfl)
theorem dL_law_684 : decode cL_law 684 = .ok (.iconst 1, 1) := dw_26 (pc9 (k := 672) (j := 12) lDL_21 rfl)
theorem dL_law_685 : decode cL_law 685 = .ok (.iadd, 1) := dw_43 (pc9 (k := 672) (j := 13) lDL_21 rfl)
theorem dL_law_686 : decode cL_law 686 = .ok (.iaload, 1) := dw_16 (pc9 (k := 672) (j := 14) lDL_21 rfl)
theorem dL_law_687 : decode cL_law 687 = .ok (.aload_n 0, 1) := dw_0 (pc9 (k := 672) (j := 15) lDL_21 rfl)
theorem dL_law_688 : decode cL_law 688 = .ok (.iload 5, 2) := dw_39 (pc9 (k := 672) (j := 16) lDL_21 rfl)
theorem dL_law_690 : decode cL_law 690 = .ok (.iconst 2, 1) := dw_260 (pc9 (k := 672) (j := 18) lDL_21 rfl)
theorem dL_law_691 : decode cL_law 691 = .ok (.iadd, 1) := dw_43 (pc9 (k := 672) (j := 19) lDL_21 rfl)
theorem dL_law_692 : decode cL_law 692 = .ok (.iaload, 1) := dw_16 (pc9 (k := 672) (j := 20) lDL_21 rfl)
theorem dL_law_693 : decode cL_law 693 = .ok (.aload_n 3, 1) := dw_119 (pc9 (k := 672) (j := 21) lDL_21 rfl)
theorem dL_law_694 : decode cL_law 694 = .ok (.invokestatic 232, 3) := dw_825 (pc9 (k := 672) (j := 22) lDL_21 rfl)
theorem dL_law_697 : decode cL_law 697 = .ok (.istore 6, 2) := dw_35 (pc9 (k := 672) (j := 25) lDL_21 rfl)
theorem dL_law_699 : decode cL_law 699 = .ok (.aload_n 2, 1) := dw_52 (pc9 (k := 672) (j := 27) lDL_21 rfl)
theorem dL_law_700 : decode cL_law 700 = .ok (.aload_n 0, 1) := dw_0 (pc9 (k := 672) (j := 28) lDL_21 rfl)
theorem dL_law_701 : decode cL_law 701 = .ok (.iload 5, 2) := dw_39 (pc9 (k := 672) (j := 29) lDL_21 rfl)
theorem dL_law_703 : decode cL_law 703 = .ok (.iconst 1, 1) := dw_26 (pc9 (k := 672) (j := 31) lDL_21 rfl)
theorem dL_law_704 : decode cL_law 704 = .ok (.iadd, 1) := dw_43 (pc9 (k := 704) (j := 0) lDL_22 rfl)
theorem dL_law_705 : decode cL_law 705 = .ok (.iaload, 1) := dw_16 (pc9 (k := 704) (j := 1) lDL_22 rfl)
theorem dL_law_706 : decode cL_law 706 = .ok (.aload_n 0, 1) := dw_0 (pc9 (k := 704) (j := 2) lDL_22 rfl)
theorem dL_law_707 : decode cL_law 707 = .ok (.iload 5, 2) := dw_39 (pc9 (k := 704) (j := 3) lDL_22 rfl)
theorem dL_law_709 : decode cL_law 709 = .ok (.iconst 2, 1) := dw_260 (pc9 (k := 704) (j := 5) lDL_22 rfl)
theorem dL_law_710 : decode cL_law 710 = .ok (.iadd, 1) := dw_43 (pc9 (k := 704) (j := 6) lDL_22 rfl)
theorem dL_law_711 : decode cL_law 711 = .ok (.iaload, 1) := dw_16 (pc9 (k := 704) (j := 7) lDL_22 rfl)
theorem dL_law_712 : decode cL_law 712 = .ok (.invokevirtual 234, 3) := dw_414 (pc9 (k := 704) (j := 8) lDL_22 rfl)
theorem dL_law_715 : decode cL_law 715 = .ok (.istore 7, 2) := dw_58 (pc9 (k := 704) (j := 11) lDL_22 rfl)
theorem dL_law_717 : decode cL_law 717 = .ok (.goto 2035, 3) := dw_826 (pc9 (k := 704) (j := 13) lDL_22 rfl)
theorem dL_law_720 : decode cL_law 720 = .ok (.aload_n 1, 1) := dw_5 (pc9 (k := 704) (j := 16) lDL_22 rfl)
theorem dL_law_721 : decode cL_law 721 = .ok (.aload_n 0, 1) := dw_0 (pc9 (k := 704) (j := 17) lDL_22 rfl)
theorem dL_law_722 : decode cL_law 722 = .ok (.iload 5, 2) := dw_39 (pc9 (k := 704) (j := 18) lDL_22 rfl)
theorem dL_law_724 : decode cL_law 724 = .ok (.iconst 1, 1) := dw_26 (pc9 (k := 704) (j := 20) lDL_22 rfl)
theorem dL_law_725 : decode cL_law 725 = .ok (.iadd, 1) := dw_43 (pc9 (k := 704) (j := 21) lDL_22 rfl)
theorem dL_law_726 : decode cL_law 726 = .ok (.iaload, 1) := dw_16 (pc9 (k := 704) (j := 22) lDL_22 rfl)
theorem dL_law_727 : decode cL_law 727 = .ok (.aload_n 3, 1) := dw_119 (pc9 (k := 704) (j := 23) lDL_22 rfl)
theorem dL_law_728 : decode cL_law 728 = .ok (.invokestatic 235, 3) := dw_827 (pc9 (k := 704) (j := 24) lDL_22 rfl)
theorem dL_law_731 : decode cL_law 731 = .ok (.istore 6, 2) := dw_35 (pc9 (k := 704) (j := 27) lDL_22 rfl)
theorem dL_law_733 : decode cL_law 733 = .ok (.aload_n 2, 1) := dw_52 (pc9 (k := 704) (j := 29) lDL_22 rfl)
theorem dL_law_734 : decode cL_law 734 = .ok (.aload_n 0, 1) := dw_0 (pc9 (k := 704) (j := 30) lDL_22 rfl)
theorem dL_law_735 : decode cL_law 735 = .ok (.iload 5, 2) := dw_39 (pc9 (k := 704) (j := 31) lDL_22 rfl)
theorem dL_law_737 : decode cL_law 737 = .ok (.iconst 1, 1) := dw_26 (pc9 (k := 736) (j := 1) lDL_23 rfl)
theorem dL_law_738 : decode cL_law 738 = .ok (.iadd, 1) := dw_43 (pc9 (k := 736) (j := 2) lDL_23 rfl)
theorem dL_law_739 : decode cL_law 739 = .ok (.iaload, 1) := dw_16 (pc9 (k := 736) (j := 3) lDL_23 rfl)
theorem dL_law_740 : decode cL_law 740 = .ok (.invokevirtual 237, 3) := dw_415 (pc9 (k := 736) (j := 4) lDL_23 rfl)
theorem dL_law_743 : decode cL_law 743 = .ok (.istore 7, 2) := dw_58 (pc9 (k := 736) (j := 7) lDL_23 rfl)
theorem dL_law_745 : decode cL_law 745 = .ok (.goto 2007, 3) := dw_828 (pc9 (k := 736) (j := 9) lDL_23 rfl)
theorem dL_law_748 : decode cL_law 748 = .ok (.aload_n 1, 1) := dw_5 (pc9 (k := 736) (j := 12) lDL_23 rfl)
theorem dL_law_749 : decode cL_law 749 = .ok (.aload_n 0, 1) := dw_0 (pc9 (k := 736) (j := 13) lDL_23 rfl)
theorem dL_law_750 : decode cL_law 750 = .ok (.iload 5, 2) := dw_39 (pc9 (k := 736) (j := 14) lDL_23 rfl)
theorem dL_law_752 : decode cL_law 752 = .ok (.iconst 1, 1) := dw_26 (pc9 (k := 736) (j := 16) lDL_23 rfl)
theorem dL_law_753 : decode cL_law 753 = .ok (.iadd, 1) := dw_43 (pc9 (k := 736) (j := 17) lDL_23 rfl)
theorem dL_law_754 : decode cL_law 754 = .ok (.iaload, 1) := dw_16 (pc9 (k := 736) (j := 18) lDL_23 rfl)
theorem dL_law_755 : decode cL_law 755 = .ok (.aload_n 0, 1) := dw_0 (pc9 (k := 736) (j := 19) lDL_23 rfl)
theorem dL_law_756 : decode cL_law 756 = .ok (.iload 5, 2) := dw_39 (pc9 (k := 736) (j := 20) lDL_23 rfl)
theorem dL_law_758 : decode cL_law 758 = .ok (.iconst 2, 1) := dw_260 (pc9 (k := 736) (j := 22) lDL_23 rfl)
theorem dL_law_759 : decode cL_law 759 = .ok (.iadd, 1) := dw_43 (pc9 (k := 736) (j := 23) lDL_23 rfl)
theorem dL_law_760 : decode cL_law 760 = .ok (.iaload, 1) := dw_16 (pc9 (k := 736) (j := 24) lDL_23 rfl)
theorem dL_law_761 : decode cL_law 761 = .ok (.aload_n 3, 1) := dw_119 (pc9 (k := 736) (j := 25) lDL_23 rfl)
theorem dL_law_762 : decode cL_law 762 = .ok (.invokestatic 238, 3) := dw_829 (pc9 (k := 736) (j := 26) lDL_23 rfl)
theorem dL_law_765 : decode cL_law 765 = .ok (.istore 6, 2) := dw_35 (pc9 (k := 736) (j := 29) lDL_23 rfl)
theorem dL_law_767 : decode cL_law 767 = .ok (.aload_n 2, 1) := dw_52 (pc9 (k := 736) (j := 31) lDL_23 rfl)
theorem dL_law_768 : decode cL_law 768 = .ok (.aload_n 0, 1) := dw_0 (pc9 (k := 768) (j := 0) lDL_24 rfl)
theorem dL_law_769 : decode cL_law 769 = .ok (.iload 5, 2) := dw_39 (pc9 (k := 768) (j := 1) lDL_24 rfl)
theorem dL_law_771 : decode cL_law 771 = .ok (.iconst 1, 1) := dw_26 (pc9 (k := 768) (j := 3) lDL_24 rfl)
theorem dL_law_772 : decode cL_law 772 = .ok (.iadd, 1) := dw_43 (pc9 (k := 768) (j := 4) lDL_24 rfl)
theorem dL_law_773 : decode cL_law 773 = .ok (.iaload, 1) := dw_16 (pc9 (k := 768) (j := 5) lDL_24 rfl)
theorem dL_law_774 : decode cL_law 774 = .ok (.aload_n 0, 1) := dw_0 (pc9 (k := 768) (j := 6) lDL_24 rfl)
theorem dL_law_775 : decode cL_law 775 = .ok (.iload 5, 2) := dw_39 (pc9 (k := 768) (j := 7) lDL_24 rfl)
theorem dL_law_777 : decode cL_law 777 = .ok (.iconst 2, 1) := dw_260 (pc9 (k := 768) (j := 9) lDL_24 rfl)
theorem dL_law_778 : decode cL_law 778 = .ok (.iadd, 1) := dw_43 (pc9 (k := 768) (j := 10) lDL_24 rfl)
theorem dL_law_779 : decode cL_law 779 = .ok (.iaload, 1) := dw_16 (pc9 (k := 768) (j := 11) lDL_24 rfl)
theorem dL_law_780 : decode cL_law 780 = .ok (.invokevirtual 240, 3) := dw_417 (pc9 (k := 768) (j := 12) lDL_24 rfl)
theorem dL_law_783 : decode cL_law 783 = .ok (.istore 7, 2) := dw_58 (pc9 (k := 768) (j := 15) lDL_24 rfl)
theorem dL_law_785 : decode cL_law 785 = .ok (.goto 1967, 3) := dw_830 (pc9 (k := 768) (j := 17) lDL_24 rfl)
theorem dL_law_788 : decode cL_law 788 = .ok (.aload_n 1, 1) := dw_5 (pc9 (k := 768) (j := 20) lDL_24 rfl)
theorem dL_law_789 : decode cL_law 789 = .ok (.aload_n 0, 1) := dw_0 (pc9 (k := 768) (j := 21) lDL_24 rfl)
theorem dL_law_790 : decode cL_law 790 = .ok (.iload 5, 2) := dw_39 (pc9 (k := 768) (j := 22) lDL_24 rfl)
theorem dL_law_792 : decode cL_law 792 = .ok (.iconst 1, 1) := dw_26 (pc9 (k := 768) (j := 24) lDL_24 rfl)
theorem dL_law_793 : decode cL_law 793 = .ok (.iadd, 1) := dw_43 (pc9 (k := 768) (j := 25) lDL_24 rfl)
theorem dL_law_794 : decode cL_law 794 = .ok (.iaload, 1) := dw_16 (pc9 (k := 768) (j := 26) lDL_24 rfl)
theorem dL_law_795 : decode cL_law 795 = .ok (.aload_n 0, 1) := dw_0 (pc9 (k := 768) (j := 27) lDL_24 rfl)
theorem dL_law_796 : decode cL_law 796 = .ok (.iload 5, 2) := dw_39 (pc9 (k := 768) (j := 28) lDL_24 rfl)
theorem dL_law_798 : decode cL_law 798 = .ok (.iconst 2, 1) := dw_260 (pc9 (k := 768) (j := 30) lDL_24 rfl)
theorem dL_law_799 : decode cL_law 799 = .ok (.iadd, 1) := dw_43 (pc9 (k := 768) (j := 31) lDL_24 rfl)
theorem dL_law_800 : decode cL_law 800 = .ok (.iaload, 1) := dw_16 (pc9 (k := 800) (j := 0) lDL_25 rfl)
theorem dL_law_801 : decode cL_law 801 = .ok (.i2l, 1) := dw_498 (pc9 (k := 800) (j := 1) lDL_25 rfl)
theorem dL_law_802 : decode cL_law 802 = .ok (.bipush 32, 2) := dw_2 (pc9 (k := 800) (j := 2) lDL_25 rfl)
theorem dL_law_804 : decode cL_law 804 = .ok (.lshl, 1) := dw_535 (pc9 (k := 800) (j := 4) lDL_25 rfl)
theorem dL_law_805 : decode cL_law 805 = .ok (.aload_n 0, 1) := dw_0 (pc9 (k := 800) (j := 5) lDL_25 rfl)
theorem dL_law_806 : decode cL_law 806 = .ok (.iload 5, 2) := dw_39 (pc9 (k := 800) (j := 6) lDL_25 rfl)
theorem dL_law_808 : decode cL_law 808 = .ok (.iconst 3, 1) := dw_221 (pc9 (k := 800) (j := 8) lDL_25 rfl)
theorem dL_law_809 : decode cL_law 809 = .ok (.iadd, 1) := dw_43 (pc9 (k := 800) (j := 9) lDL_25 rfl)
theorem dL_law_810 : decode cL_law 810 = .ok (.iaload, 1) := dw_16 (pc9 (k := 800) (j := 10) lDL_25 rfl)
theorem dL_law_811 : decode cL_law 811 = .ok (.i2l, 1) := dw_498 (pc9 (k := 800) (j := 11) lDL_25 rfl)
theorem dL_law_812 : decode cL_law 812 = .ok (.ldc2_w 186, 3) := dw_797 (pc9 (k := 800) (j := 12) lDL_25 rfl)
theorem dL_law_815 : decode cL_law 815 = .ok (.land, 1) := dw_161 (pc9 (k := 800) (j := 15) lDL_25 rfl)
theorem dL_law_816 : decode cL_law 816 = .ok (.lor, 1) := dw_572 (pc9 (k := 800) (j := 16) lDL_25 rfl)
theorem dL_law_817 : decode cL_law 817 = .ok (.aload_n 3, 1) := dw_119 (pc9 (k := 800) (j := 17) lDL_25 rfl)
theorem dL_law_818 : decode cL_law 818 = .ok (.invokestatic 241, 3) := dw_831 (pc9 (k := 800) (j := 18) lDL_25 rfl)
theorem dL_law_821 : decode cL_law 821 = .ok (.istore 6, 2) := dw_35 (pc9 (k := 800) (j := 21) lDL_25 rfl)
theorem dL_law_823 : decode cL_law 823 = .ok (.aload_n 2, 1) := dw_52 (pc9 (k := 800) (j := 23) lDL_25 rfl)
theorem dL_law_824 : decode cL_law 824 = .ok (.aload_n 0, 1) := dw_0 (pc9 (k := 800) (j := 24) lDL_25 rfl)
theorem dL_law_825 : decode cL_law 825 = .ok (.iload 5, 2) := dw_39 (pc9 (k := 800) (j := 25) lDL_25 rfl)
theorem dL_law_827 : decode cL_law 827 = .ok (.iconst 1, 1) := dw_26 (pc9 (k := 800) (j := 27) lDL_25 rfl)
theorem dL_law_828 : decode cL_law 828 = .ok (.iadd, 1) := dw_43 (pc9 (k := 800) (j := 28) lDL_25 rfl)
theorem dL_law_829 : decode cL_law 829 = .ok (.iaload, 1) := dw_16 (pc9 (k := 800) (j := 29) lDL_25 rfl)
theorem dL_law_830 : decode cL_law 830 = .ok (.aload_n 0, 1) := dw_0 (pc9 (k := 800) (j := 30) lDL_25 rfl)
theorem dL_law_831 : decode cL_law 831 = .ok (.iload 5, 2) := dw_39 (pc9 (k := 800) (j := 31) lDL_25 rfl)
theorem dL_law_833 : decode cL_law 833 = .ok (.iconst 2, 1) := dw_260 (pc9 (k := 832) (j := 1) lDL_26 rfl)
theorem dL_law_834 : decode cL_law 834 = .ok (.iadd, 1) := dw_43 (pc9 (k := 832) (j := 2) lDL_26 rfl)
theorem dL_law_835 : decode cL_law 835 = .ok (.iaload, 1) := dw_16 (pc9 (k := 832) (j := 3) lDL_26 rfl)
theorem dL_law_836 : decode cL_law 836 = .ok (.i2l, 1) := dw_498 (pc9 (k := 832) (j := 4) lDL_26 rfl)
theorem dL_law_837 : decode cL_law 837 = .ok (.bipush 32, 2) := dw_2 (pc9 (k := 832) (j := 5) lDL_26 rfl)
theorem dL_law_839 : decode cL_law 839 = .ok (.lshl, 1) := dw_535 (pc9 (k := 832) (j := 7) lDL_26 rfl)
theorem dL_law_840 : decode cL_law 840 = .ok (.aload_n 0, 1) := dw_0 (pc9 (k := 832) (j := 8) lDL_26 rfl)
theorem dL_law_841 : decode cL_law 841 = .ok (.iload 5, 2) := dw_39 (pc9 (k := 832) (j := 9) lDL_26 rfl)
theorem dL_law_843 : decode cL_law 843 = .ok (.iconst 3, 1) := dw_221 (pc9 (k := 832) (j := 11) lDL_26 rfl)
theorem dL_law_844 : decode cL_law 844 = .ok (.iadd, 1) := dw_43 (pc9 (k := 832) (j := 12) lDL_26 rfl)
theorem dL_law_845 : decode cL_law 845 = .ok (.iaload, 1) := dw_16 (pc9 (k := 832) (j := 13) lDL_26 rfl)
theorem dL_law_846 : decode cL_law 846 = .ok (.i2l, 1) := dw_498 (pc9 (k := 832) (j := 14) lDL_26 rfl)
theorem dL_law_847 : decode cL_law 847 = .ok (.ldc2_w 186, 3) := dw_797 (pc9 (k := 832) (j := 15) lDL_26 rfl)
theorem dL_law_850 : decode cL_law 850 = .ok (.land, 1) := dw_161 (pc9 (k := 832) (j := 18) lDL_26 rfl)
theorem dL_law_851 : decode cL_law 851 = .ok (.lor, 1) := dw_572 (pc9 (k := 832) (j := 19) lDL_26 rfl)
theorem dL_law_852 : decode cL_law 852 = .ok (.invokevirtual 244, 3) := dw_419 (pc9 (k := 832) (j := 20) lDL_26 rfl)
theorem dL_law_855 : decode cL_law 855 = .ok (.istore 7, 2) := dw_58 (pc9 (k := 832) (j := 23) lDL_26 rfl)
theorem dL_law_857 : decode cL_law 857 = .ok (.goto 1895, 3) := dw_832 (pc9 (k := 832) (j := 25) lDL_26 rfl)
theorem dL_law_860 : decode cL_law 860 = .ok (.aload_n 1, 1) := dw_5 (pc9 (k := 832) (j := 28) lDL_26 rfl)
theorem dL_law_861 : decode cL_law 861 = .ok (.aload_n 0, 1) := dw_0 (pc9 (k := 832) (j := 29) lDL_26 rfl)
theorem dL_law_862 : decode cL_law 862 = .ok (.iload 5, 2) := dw_39 (pc9 (k := 832) (j := 30) lDL_26 rfl)
theorem dL_law_864 : decode cL_law 864 = .ok (.iconst 1, 1) := dw_26 (pc9 (k := 864) (j := 0) lDL_27 rfl)
theorem dL_law_865 : decode cL_law 865 = .ok (.iadd, 1) := dw_43 (pc9 (k := 864) (j := 1) lDL_27 rfl)
theorem dL_law_866 : decode cL_law 866 = .ok (.iaload, 1) := dw_16 (pc9 (k := 864) (j := 2) lDL_27 rfl)
theorem dL_law_867 : decode cL_law 867 = .ok (.aload_n 0, 1) := dw_0 (pc9 (k := 864) (j := 3) lDL_27 rfl)
theorem dL_law_868 : decode cL_law 868 = .ok (.iload 5, 2) := dw_39 (pc9 (k := 864) (j := 4) lDL_27 rfl)
theorem dL_law_870 : decode cL_law 870 = .ok (.iconst 2, 1) := dw_260 (pc9 (k := 864) (j := 6) lDL_27 rfl)
theorem dL_law_871 : decode cL_law 871 = .ok (.iadd, 1) := dw_43 (pc9 (k := 864) (j := 7) lDL_27 rfl)
theorem dL_law_872 : decode cL_law 872 = .ok (.iaload, 1) := dw_16 (pc9 (k := 864) (j := 8) lDL_27 rfl)
theorem dL_law_873 : decode cL_law 873 = .ok (.aload_n 3, 1) := dw_119 (pc9 (k := 864) (j := 9) lDL_27 rfl)
theorem dL_law_874 : decode cL_law 874 = .ok (.invokestatic 245, 3) := dw_833 (pc9 (k := 864) (j := 10) lDL_27 rfl)
theorem dL_law_877 : decode cL_law 877 = .ok (.istore 6, 2) := dw_35 (pc9 (k := 864) (j := 13) lDL_27 rfl)
theorem dL_law_879 : decode cL_law 879 = .ok (.aload_n 2, 1) := dw_52 (pc9 (k := 864) (j := 15) lDL_27 rfl)
theorem dL_law_880 : decode cL_law 880 = .ok (.aload_n 0, 1) := dw_0 (pc9 (k := 864) (j := 16) lDL_27 rfl)
theorem dL_law_881 : decode cL_law 881 = .ok (.iload 5, 2) := dw_39 (pc9 (k := 864) (j := 17) lDL_27 rfl)
theorem dL_law_883 : decode cL_law 883 = .ok (.iconst 1, 1) := dw_26 (pc9 (k := 864) (j := 19) lDL_27 rfl)
theorem dL_law_884 : decode cL_law 884 = .ok (.iadd, 1) := dw_43 (pc9 (k := 864) (j := 20) lDL_27 rfl)
theorem dL_law_885 : decode cL_law 885 = .ok (.iaload, 1) := dw_16 (pc9 (k := 864) (j := 21) lDL_27 rfl)
theorem dL_law_886 : decode cL_law 886 = .ok (.aload_n 0, 1) := dw_0 (pc9 (k := 864) (j := 22) lDL_27 rfl)
theorem dL_law_887 : decode cL_law 887 = .ok (.iload 5, 2) := dw_39 (pc9 (k := 864) (j := 23) lDL_27 rfl)
theorem dL_law_889 : decode cL_law 889 = .ok (.iconst 2, 1) := dw_260 (pc9 (k := 864) (j := 25) lDL_27 rfl)
theorem dL_law_890 : decode cL_law 890 = .ok (.iadd, 1) := dw_43 (pc9 (k := 864) (j := 26) lDL_27 rfl)
theorem dL_law_891 : decode cL_law 891 = .ok (.iaload, 1) := dw_16 (pc9 (k := 864) (j := 27) lDL_27 rfl)
theorem dL_law_892 : decode cL_law 892 = .ok (.invokevirtual 247, 3) := dw_420 (pc9 (k := 864) (j := 28) lDL_27 rfl)
theorem dL_law_895 : decode cL_law 895 = .ok (.istore 7, 2) := dw_58 (pc9 (k := 864) (j := 31) lDL_27 rfl)
theorem dL_law_897 : decode cL_law 897 = .ok (.goto 1855, 3) := dw_834 (pc9 (k := 896) (j := 1) lDL_28 rfl)
theorem dL_law_900 : decode cL_law 900 = .ok (.aload_n 1, 1) := dw_5 (pc9 (k := 896) (j := 4) lDL_28 rfl)
theorem dL_law_901 : decode cL_law 901 = .ok (.aload_n 0, 1) := dw_0 (pc9 (k := 896) (j := 5) lDL_28 rfl)
theorem dL_law_902 : decode cL_law 902 = .ok (.iload 5, 2) := dw_39 (pc9 (k := 896) (j := 6) lDL_28 rfl)
theorem dL_law_904 : decode cL_law 904 = .ok (.iconst 1, 1) := dw_26 (pc9 (k := 896) (j := 8) lDL_28 rfl)
theorem dL_law_905 : decode cL_law 905 = .ok (.iadd, 1) := dw_43 (pc9 (k := 896) (j := 9) lDL_28 rfl)
theorem dL_law_906 : decode cL_law 906 = .ok (.iaload, 1) := dw_16 (pc9 (k := 896) (j := 10) lDL_28 rfl)
theorem dL_law_907 : decode cL_law 907 = .ok (.aload 4, 2) := dw_134 (pc9 (k := 896) (j := 11) lDL_28 rfl)
theorem dL_law_909 : decode cL_law 909 = .ok (.invokestatic 248, 3) := dw_835 (pc9 (k := 896) (j := 13) lDL_28 rfl)
theorem dL_law_912 : decode cL_law 912 = .ok (.istore 6, 2) := dw_35 (pc9 (k := 896) (j := 16) lDL_28 rfl)
theorem dL_law_914 : decode cL_law 914 = .ok (.aload_n 2, 1) := dw_52 (pc9 (k := 896) (j := 18) lDL_28 rfl)
theorem dL_law_915 : decode cL_law 915 = .ok (.aload_n 0, 1) := dw_0 (pc9 (k := 896) (j := 19) lDL_28 rfl)
theorem dL_law_916 : decode cL_law 916 = .ok (.iload 5, 2) := dw_39 (pc9 (k := 896) (j := 20) lDL_28 rfl)
theorem dL_law_918 : decode cL_law 918 = .ok (.iconst 1, 1) := dw_26 (pc9 (k := 896) (j := 22) lDL_28 rfl)
theorem dL_law_919 : decode cL_law 919 = .ok (.iadd, 1) := dw_43 (pc9 (k := 896) (j := 23) lDL_28 rfl)
theorem dL_law_920 : decode cL_law 920 = .ok (.iaload, 1) := dw_16 (pc9 (k := 896) (j := 24) lDL_28 rfl)
theorem dL_law_921 : decode cL_law 921 = .ok (.invokevirtual 251, 3) := dw_836 (pc9 (k := 896) (j := 25) lDL_28 rfl)
theorem dL_law_924 : decode cL_law 924 = .ok (.dstore 7, 2) := dw_837 (pc9 (k := 896) (j := 28) lDL_28 rfl)
theorem dL_law_926 : decode cL_law 926 = .ok (.goto 1826, 3) := dw_838 (pc9 (k := 896) (j := 30) lDL_28 rfl)
theorem dL_law_929 : decode cL_law 929 = .ok (.aload_n 1, 1) := dw_5 (pc9 (k := 928) (j := 1) lDL_29 rfl)
theorem dL_law_930 : decode cL_law 930 = .ok (.aload_n 0, 1) := dw_0 (pc9 (k := 928) (j := 2) lDL_29 rfl)
theorem dL_law_931 : decode cL_law 931 = .ok (.iload 5, 2) := dw_39 (pc9 (k := 928) (j := 3) lDL_29 rfl)
theorem dL_law_933 : decode cL_law 933 = .ok (.iconst 1, 1) := dw_26 (pc9 (k := 928) (j := 5) lDL_29 rfl)
theorem dL_law_934 : decode cL_law 934 = .ok (.iadd, 1) := dw_43 (pc9 (k := 928) (j := 6) lDL_29 rfl)
theorem dL_law_935 : decode cL_law 935 = .ok (.iaload, 1) := dw_16 (pc9 (k := 928) (j := 7) lDL_29 rfl)
theorem dL_law_936 : decode cL_law 936 = .ok (.aload_n 3, 1) := dw_119 (pc9 (k := 928) (j := 8) lDL_29 rfl)
theorem dL_law_937 : decode cL_law 937 = .ok (.invokestatic 252, 3) := dw_839 (pc9 (k := 928) (j := 9) lDL_29 rfl)
theorem dL_law_940 : decode cL_law 940 = .ok (.istore 6, 2) := dw_35 (pc9 (k := 928) (j := 12) lDL_29 rfl)
theorem dL_law_942 : decode cL_law 942 = .ok (.aload_n 2, 1) := dw_52 (pc9 (k := 928) (j := 14) lDL_29 rfl)
theorem dL_law_943 : decode cL_law 943 = .ok (.aload_n 0, 1) := dw_0 (pc9 (k := 928) (j := 15) lDL_29 rfl)
theorem dL_law_944 : decode cL_law 944 = .ok (.iload 5, 2) := dw_39 (pc9 (k := 928) (j := 16) lDL_29 rfl)
theorem dL_law_946 : decode cL_law 946 = .ok (.iconst 1, 1) := dw_26 (pc9 (k := 928) (j := 18) lDL_29 rfl)
theorem dL_law_947 : decode cL_law 947 = .ok (.iadd, 1) := dw_43 (pc9 (k := 928) (j := 19) lDL_29 rfl)
theorem dL_law_948 : decode cL_law 948 = .ok (.iaload, 1) := dw_16 (pc9 (k := 928) (j := 20) lDL_29 rfl)
theorem dL_law_949 : decode cL_law 949 = .ok (.invokevirtual 254, 3) := dw_840 (pc9 (k := 928) (j := 21) lDL_29 rfl)
theorem dL_law_952 : decode cL_law 952 = .ok (.istore 7, 2) := dw_58 (pc9 (k := 928) (j := 24) lDL_29 rfl)
theorem dL_law_954 : decode cL_law 954 = .ok (.goto 1798, 3) := dw_841 (pc9 (k := 928) (j := 26) lDL_29 rfl)
theorem dL_law_957 : decode cL_law 957 = .ok (.aload_n 1, 1) := dw_5 (pc9 (k := 928) (j := 29) lDL_29 rfl)
theorem dL_law_958 : decode cL_law 958 = .ok (.aload_n 0, 1) := dw_0 (pc9 (k := 928) (j := 30) lDL_29 rfl)
theorem dL_law_959 : decode cL_law 959 = .ok (.iload 5, 2) := dw_39 (pc9 (k := 928) (j := 31) lDL_29 rfl)
theorem dL_law_961 : decode cL_law 961 = .ok (.iconst 1, 1) := dw_26 (pc9 (k := 960) (j := 1) lDL_30 rfl)
theorem dL_law_962 : decode cL_law 962 = .ok (.iadd, 1) := dw_43 (pc9 (k := 960) (j := 2) lDL_30 rfl)
theorem dL_law_963 : decode cL_law 963 = .ok (.iaload, 1) := dw_16 (pc9 (k := 960) (j := 3) lDL_30 rfl)
theorem dL_law_964 : decode cL_law 964 = .ok (.aload_n 0, 1) := dw_0 (pc9 (k := 960) (j := 4) lDL_30 rfl)
theorem dL_law_965 : decode cL_law 965 = .ok (.iload 5, 2) := dw_39 (pc9 (k := 960) (j := 5) lDL_30 rfl)
theorem dL_law_967 : decode cL_law 967 = .ok (.iconst 2, 1) := dw_260 (pc9 (k := 960) (j := 7) lDL_30 rfl)
theorem dL_law_968 : decode cL_law 968 = .ok (.iadd, 1) := dw_43 (pc9 (k := 960) (j := 8) lDL_30 rfl)
theorem dL_law_969 : decode cL_law 969 = .ok (.iaload, 1) := dw_16 (pc9 (k := 960) (j := 9) lDL_30 rfl)
theorem dL_law_970 : decode cL_law 970 = .ok (.aload_n 0, 1) := dw_0 (pc9 (k := 960) (j := 10) lDL_30 rfl)
theorem dL_law_971 : decode cL_law 971 = .ok (.iload 5, 2) := dw_39 (pc9 (k := 960) (j := 11) lDL_30 rfl)
theorem dL_law_973 : decode cL_law 973 = .ok (.iconst 3, 1) := dw_221 (pc9 (k := 960) (j := 13) lDL_30 rfl)
theorem dL_law_974 : decode cL_law 974 = .ok (.iadd, 1) := dw_43 (pc9 (k := 960) (j := 14) lDL_30 rfl)
theorem dL_law_975 : decode cL_law 975 = .ok (.iaload, 1) := dw_16 (pc9 (k := 960) (j := 15) lDL_30 rfl)
theorem dL_law_976 : decode cL_law 976 = .ok (.aload_n 3, 1) := dw_119 (pc9 (k := 960) (j := 16) lDL_30 rfl)
theorem dL_law_977 : decode cL_law 977 = .ok (.invokestatic 255, 3) := dw_842 (pc9 (k := 960) (j := 17) lDL_30 rfl)
theorem dL_law_980 : decode cL_law 980 = .ok (.istore 6, 2) := dw_35 (pc9 (k := 960) (j := 20) lDL_30 rfl)
theorem dL_law_982 : decode cL_law 982 = .ok (.aload_n 2, 1) := dw_52 (pc9 (k := 960) (j := 22) lDL_30 rfl)
theorem dL_law_983 : decode cL_law 983 = .ok (.aload_n 0, 1) := dw_0 (pc9 (k := 960) (j := 23) lDL_30 rfl)
theorem dL_law_984 : decode cL_law 984 = .ok (.iload 5, 2) := dw_39 (pc9 (k := 960) (j := 24) lDL_30 rfl)
theorem dL_law_986 : decode cL_law 986 = .ok (.iconst 1, 1) := dw_26 (pc9 (k := 960) (j := 26) lDL_30 rfl)
theorem dL_law_987 : decode cL_law 987 = .ok (.iadd, 1) := dw_43 (pc9 (k := 960) (j := 27) lDL_30 rfl)
theorem dL_law_988 : decode cL_law 988 = .ok (.iaload, 1) := dw_16 (pc9 (k := 960) (j := 28) lDL_30 rfl)
theorem dL_law_989 : decode cL_law 989 = .ok (.aload_n 0, 1) := dw_0 (pc9 (k := 960) (j := 29) lDL_30 rfl)
theorem dL_law_990 : decode cL_law 990 = .ok (.iload 5, 2) := dw_39 (pc9 (k := 960) (j := 30) lDL_30 rfl)
theorem dL_law_992 : decode cL_law 992 = .ok (.iconst 2, 1) := dw_260 (pc9 (k := 992) (j := 0) lDL_31 rfl)
theorem dL_law_993 : decode cL_law 993 = .ok (.iadd, 1) := dw_43 (pc9 (k := 992) (j := 1) lDL_31 rfl)
theorem dL_law_994 : decode cL_law 994 = .ok (.iaload, 1) := dw_16 (pc9 (k := 992) (j := 2) lDL_31 rfl)
theorem dL_law_995 : decode cL_law 995 = .ok (.aload_n 0, 1) := dw_0 (pc9 (k := 992) (j := 3) lDL_31 rfl)
theorem dL_law_996 : decode cL_law 996 = .ok (.iload 5, 2) := dw_39 (pc9 (k := 992) (j := 4) lDL_31 rfl)
theorem dL_law_998 : decode cL_law 998 = .ok (.iconst 3, 1) := dw_221 (pc9 (k := 992) (j := 6) lDL_31 rfl)
theorem dL_law_999 : decode cL_law 999 = .ok (.iadd, 1) := dw_43 (pc9 (k := 992) (j := 7) lDL_31 rfl)
theorem dL_law_1000 : decode cL_law 1000 = .ok (.iaload, 1) := dw_16 (pc9 (k := 992) (j := 8) lDL_31 rfl)
theorem dL_law_1001 : decode cL_law 1001 = .ok (.invokevirtual 257, 3) := dw_426 (pc9 (k := 992) (j := 9) lDL_31 rfl)
theorem dL_law_1004 : decode cL_law 1004 = .ok (.istore 7, 2) := dw_58 (pc9 (k := 992) (j := 12) lDL_31 rfl)
theorem dL_law_1006 : decode cL_law 1006 = .ok (.goto 1746, 3) := dw_843 (pc9 (k := 992) (j := 14) lDL_31 rfl)
theorem dL_law_1009 : decode cL_law 1009 = .ok (.aload_n 1, 1) := dw_5 (pc9 (k := 992) (j := 17) lDL_31 rfl)
theorem dL_law_1010 : decode cL_law 1010 = .ok (.aload_n 0, 1) := dw_0 (pc9 (k := 992) (j := 18) lDL_31 rfl)
theorem dL_law_1011 : decode cL_law 1011 = .ok (.iload 5, 2) := dw_39 (pc9 (k := 992) (j := 19) lDL_31 rfl)
theorem dL_law_1013 : decode cL_law 1013 = .ok (.iconst 1, 1) := dw_26 (pc9 (k := 992) (j := 21) lDL_31 rfl)
theorem dL_law_1014 : decode cL_law 1014 = .ok (.iadd, 1) := dw_43 (pc9 (k := 992) (j := 22) lDL_31 rfl)
theorem dL_law_1015 : decode cL_law 1015 = .ok (.iaload, 1) := dw_16 (pc9 (k := 992) (j := 23) lDL_31 rfl)
theorem dL_law_1016 : decode cL_law 1016 = .ok (.aload_n 0, 1) := dw_0 (pc9 (k := 992) (j := 24) lDL_31 rfl)
theorem dL_law_1017 : decode cL_law 1017 = .ok (.iload 5, 2) := dw_39 (pc9 (k := 992) (j := 25) lDL_31 rfl)
theorem dL_law_1019 : decode cL_law 1019 = .ok (.iconst 2, 1) := dw_260 (pc9 (k := 992) (j := 27) lDL_31 rfl)
theorem dL_law_1020 : decode cL_law 1020 = .ok (.iadd, 1) := dw_43 (pc9 (k := 992) (j := 28) lDL_31 rfl)
theorem dL_law_1021 : decode cL_law 1021 = .ok (.iaload, 1) := dw_16 (pc9 (k := 992) (j := 29) lDL_31 rfl)
theorem dL_law_1022 : decode cL_law 1022 = .ok (.aload_n 3, 1) := dw_119 (pc9 (k := 992) (j := 30) lDL_31 rfl)
theorem dL_law_1023 : decode cL_law 1023 = .ok (.invokestatic 258, 3) := dw_844 (pc9 (k := 992) (j := 31) lDL_31 rfl)
theorem dL_law_1026 : decode cL_law 1026 = .ok (.istore 6, 2) := dw_35 (pc9 (k := 1024) (j := 2) lDL_32 rfl)
theorem dL_law_1028 : decode cL_law 1028 = .ok (.aload_n 2, 1) := dw_52 (pc9 (k := 1024) (j := 4) lDL_32 rfl)
theorem dL_law_1029 : decode cL_law 1029 = .ok (.aload_n 0, 1) := dw_0 (pc9 (k := 1024) (j := 5) lDL_32 rfl)
theorem dL_law_1030 : decode cL_law 1030 = .ok (.iload 5, 2) := dw_39 (pc9 (k := 1024) (j := 6) lDL_32 rfl)
theorem dL_law_1032 : decode cL_law 1032 = .ok (.iconst 1, 1) := dw_26 (pc9 (k := 1024) (j := 8) lDL_32 rfl)
theorem dL_law_1033 : decode cL_law 1033 = .ok (.iadd, 1) := dw_43 (pc9 (k := 1024) (j := 9) lDL_32 rfl)
theorem dL_law_1034 : decode cL_law 1034 = .ok (.iaload, 1) := dw_16 (pc9 (k := 1024) (j := 10) lDL_32 rfl)
theorem dL_law_1035 : decode cL_law 1035 = .ok (.aload_n 0, 1) := dw_0 (pc9 (k := 1024) (j := 11) lDL_32 rfl)
theorem dL_law_1036 : decode cL_law 1036 = .ok (.iload 5, 2) := dw_39 (pc9 (k := 1024) (j := 12) lDL_32 rfl)
theorem dL_law_1038 : decode cL_law 1038 = .ok (.iconst 2, 1) := dw_260 (pc9 (k := 1024) (j := 14) lDL_32 rfl)
theorem dL_law_1039 : decode cL_law 1039 = .ok (.iadd, 1) := dw_43 (pc9 (k := 1024) (j := 15) lDL_32 rfl)
theorem dL_law_1040 : decode cL_law 1040 = .ok (.iaload, 1) := dw_16 (pc9 (k := 1024) (j := 16) lDL_32 rfl)
theorem dL_law_1041 : decode cL_law 1041 = .ok (.invokevirtual 260, 3) := dw_651 (pc9 (k := 1024) (j := 17) lDL_32 rfl)
theorem dL_law_1044 : decode cL_law 1044 = .ok (.istore 7, 2) := dw_58 (pc9 (k := 1024) (j := 20) lDL_32 rfl)
theorem dL_law_1046 : decode cL_law 1046 = .ok (.goto 1706, 3) := dw_845 (pc9 (k := 1024) (j := 22) lDL_32 rfl)
theorem dL_law_1049 : decode cL_law 1049 = .ok (.aload_n 1, 1) := dw_5 (pc9 (k := 1024) (j := 25) lDL_32 rfl)
theorem dL_law_1050 : decode cL_law 1050 = .ok (.aload_n 0, 1) := dw_0 (pc9 (k := 1024) (j := 26) lDL_32 rfl)
theorem dL_law_1051 : decode cL_law 1051 = .ok (.iload 5, 2) := dw_39 (pc9 (k := 1024) (j := 27) lDL_32 rfl)
theorem dL_law_1053 : decode cL_law 1053 = .ok (.iconst 1, 1) := dw_26 (pc9 (k := 1024) (j := 29) lDL_32 rfl)
theorem dL_law_1054 : decode cL_law 1054 = .ok (.iadd, 1) := dw_43 (pc9 (k := 1024) (j := 30) lDL_32 rfl)
theorem dL_law_1055 : decode cL_law 1055 = .ok (.iaload, 1) := dw_16 (pc9 (k := 1024) (j := 31) lDL_32 rfl)
theorem dL_law_1056 : decode cL_law 1056 = .ok (.aload_n 3, 1) := dw_119 (pc9 (k := 1056) (j := 0) lDL_33 rfl)
theorem dL_law_1057 : decode cL_law 1057 = .ok (.invokestatic 261, 3) := dw_846 (pc9 (k := 1056) (j := 1) lDL_33 rfl)
theorem dL_law_1060 : decode cL_law 1060 = .ok (.istore 6, 2) := dw_35 (pc9 (k := 1056) (j := 4) lDL_33 rfl)
theorem dL_law_1062 : decode cL_law 1062 = .ok (.aload_n 2, 1) := dw_52 (pc9 (k := 1056) (j := 6) lDL_33 rfl)
theorem dL_law_1063 : decode cL_law 1063 = .ok (.aload_n 0, 1) := dw_0 (pc9 (k := 1056) (j := 7) lDL_33 rfl)
theorem dL_law_1064 : decode cL_law 1064 = .ok (.iload 5, 2) := dw_39 (pc9 (k := 1056) (j := 8) lDL_33 rfl)
theorem dL_law_1066 : decode cL_law 1066 = .ok (.iconst 1, 1) := dw_26 (pc9 (k := 1056) (j := 10) lDL_33 rfl)
theorem dL_law_1067 : decode cL_law 1067 = .ok (.iadd, 1) := dw_43 (pc9 (k := 1056) (j := 11) lDL_33 rfl)
theorem dL_law_1068 : decode cL_law 1068 = .ok (.iaload, 1) := dw_16 (pc9 (k := 1056) (j := 12) lDL_33 rfl)
theorem dL_law_1069 : decode cL_law 1069 = .ok (.invokevirtual 263, 3) := dw_652 (pc9 (k := 1056) (j := 13) lDL_33 rfl)
theorem dL_law_1072 : decode cL_law 1072 = .ok (.istore 7, 2) := dw_58 (pc9 (k := 1056) (j := 16) lDL_33 rfl)
theorem dL_law_1074 : decode cL_law 1074 = .ok (.goto 1678, 3) := dw_847 (pc9 (k := 1056) (j := 18) lDL_33 rfl)
theorem dL_law_1077 : decode cL_law 1077 = .ok (.aload_n 1, 1) := dw_5 (pc9 (k := 1056) (j := 21) lDL_33 rfl)
theorem dL_law_1078 : decode cL_law 1078 = .ok (.aload_n 0, 1) := dw_0 (pc9 (k := 1056) (j := 22) lDL_33 rfl)
theorem dL_law_1079 : decode cL_law 1079 = .ok (.iload 5, 2) := dw_39 (pc9 (k := 1056) (j := 23) lDL_33 rfl)
theorem dL_law_1081 : decode cL_law 1081 = .ok (.iconst 1, 1) := dw_26 (pc9 (k := 1056) (j := 25) lDL_33 rfl)
theorem dL_law_1082 : decode cL_law 1082 = .ok (.iadd, 1) := dw_43 (pc9 (k := 1056) (j := 26) lDL_33 rfl)
theorem dL_law_1083 : decode cL_law 1083 = .ok (.iaload, 1) := dw_16 (pc9 (k := 1056) (j := 27) lDL_33 rfl)
theorem dL_law_1084 : decode cL_law 1084 = .ok (.aload 4, 2) := dw_134 (pc9 (k := 1056) (j := 28) lDL_33 rfl)
theorem dL_law_1086 : decode cL_law 1086 = .ok (.invokestatic 264, 3) := dw_848 (pc9 (k := 1056) (j := 30) lDL_33 rfl)
theorem dL_law_1089 : decode cL_law 1089 = .ok (.istore 6, 2) := dw_35 (pc9 (k := 1088) (j := 1) lDL_34 rfl)
theorem dL_law_1091 : decode cL_law 1091 = .ok (.aload_n 2, 1) := dw_52 (pc9 (k := 1088) (j := 3) lDL_34 rfl)
theorem dL_law_1092 : decode cL_law 1092 = .ok (.aload_n 0, 1) := dw_0 (pc9 (k := 1088) (j := 4) lDL_34 rfl)
theorem dL_law_1093 : decode cL_law 1093 = .ok (.iload 5, 2) := dw_39 (pc9 (k := 1088) (j := 5) lDL_34 rfl)
theorem dL_law_1095 : decode cL_law 1095 = .ok (.iconst 1, 1) := dw_26 (pc9 (k := 1088) (j := 7) lDL_34 rfl)
theorem dL_law_1096 : decode cL_law 1096 = .ok (.iadd, 1) := dw_43 (pc9 (k := 1088) (j := 8) lDL_34 rfl)
theorem dL_law_1097 : decode cL_law 1097 = .ok (.iaload, 1) := dw_16 (pc9 (k := 1088) (j := 9) lDL_34 rfl)
theorem dL_law_1098 : decode cL_law 1098 = .ok (.invokevirtual 266, 3) := dw_849 (pc9 (k := 1088) (j := 10) lDL_34 rfl)
theorem dL_law_1101 : decode cL_law 1101 = .ok (.fstore 7, 2) := dw_850 (pc9 (k := 1088) (j := 13) lDL_34 rfl)
theorem dL_law_1103 : decode cL_law 1103 = .ok (.goto 1649, 3) := dw_851 (pc9 (k := 1088) (j := 15) lDL_34 rfl)
theorem dL_law_1106 : decode cL_law 1106 = .ok (.aload_n 1, 1) := dw_5 (pc9 (k := 1088) (j := 18) lDL_34 rfl)
theorem dL_law_1107 : decode cL_law 1107 = .ok (.aload_n 0, 1) := dw_0 (pc9 (k := 1088) (j := 19) lDL_34 rfl)
theorem dL_law_1108 : decode cL_law 1108 = .ok (.iload 5, 2) := dw_39 (pc9 (k := 1088) (j := 20) lDL_34 rfl)
theorem dL_law_1110 : decode cL_law 1110 = .ok (.iconst 1, 1) := dw_26 (pc9 (k := 1088) (j := 22) lDL_34 rfl)
theorem dL_law_1111 : decode cL_law 1111 = .ok (.iadd, 1) := dw_43 (pc9 (k := 1088) (j := 23) lDL_34 rfl)
theorem dL_law_1112 : decode cL_law 1112 = .ok (.iaload, 1) := dw_16 (pc9 (k := 1088) (j := 24) lDL_34 rfl)
theorem dL_law_1113 : decode cL_law 1113 = .ok (.aload_n 0, 1) := dw_0 (pc9 (k := 1088) (j := 25) lDL_34 rfl)
theorem dL_law_1114 : decode cL_law 1114 = .ok (.iload 5, 2) := dw_39 (pc9 (k := 1088) (j := 26) lDL_34 rfl)
theorem dL_law_1116 : decode cL_law 1116 = .ok (.iconst 2, 1) := dw_260 (pc9 (k := 1088) (j := 28) lDL_34 rfl)
theorem dL_law_1117 : decode cL_law 1117 = .ok (.iadd, 1) := dw_43 (pc9 (k := 1088) (j := 29) lDL_34 rfl)
theorem dL_law_1118 : decode cL_law 1118 = .ok (.iaload, 1) := dw_16 (pc9 (k := 1088) (j := 30) lDL_34 rfl)
theorem dL_law_1119 : decode cL_law 1119 = .ok (.aload_n 3, 1) := dw_119 (pc9 (k := 1088) (j := 31) lDL_34 rfl)
theorem dL_law_1120 : decode cL_law 1120 = .ok (.invokestatic 267, 3) := dw_852 (pc9 (k := 1120) (j := 0) lDL_35 rfl)
theorem dL_law_1123 : decode cL_law 1123 = .ok (.istore 6, 2) := dw_35 (pc9 (k := 1120) (j := 3) lDL_35 rfl)
theorem dL_law_1125 : decode cL_law 1125 = .ok (.aload_n 2, 1) := dw_52 (pc9 (k := 1120) (j := 5) lDL_35 rfl)
theorem dL_law_1126 : decode cL_law 1126 = .ok (.aload_n 0, 1) := dw_0 (pc9 (k := 1120) (j := 6) lDL_35 rfl)
theorem dL_law_1127 : decode cL_law 1127 = .ok (.iload 5, 2) := dw_39 (pc9 (k := 1120) (j := 7) lDL_35 rfl)
theorem dL_law_1129 : decode cL_law 1129 = .ok (.iconst 1, 1) := dw_26 (pc9 (k := 1120) (j := 9) lDL_35 rfl)
theorem dL_law_1130 : decode cL_law 1130 = .ok (.iadd, 1) := dw_43 (pc9 (k := 1120) (j := 10) lDL_35 rfl)
theorem dL_law_1131 : decode cL_law 1131 = .ok (.iaload, 1) := dw_16 (pc9 (k := 1120) (j := 11) lDL_35 rfl)
theorem dL_law_1132 : decode cL_law 1132 = .ok (.aload_n 0, 1) := dw_0 (pc9 (k := 1120) (j := 12) lDL_35 rfl)
theorem dL_law_1133 : decode cL_law 1133 = .ok (.iload 5, 2) := dw_39 (pc9 (k := 1120) (j := 13) lDL_35 rfl)
theorem dL_law_1135 : decode cL_law 1135 = .ok (.iconst 2, 1) := dw_260 (pc9 (k := 1120) (j := 15) lDL_35 rfl)
theorem dL_law_1136 : decode cL_law 1136 = .ok (.iadd, 1) := dw_43 (pc9 (k := 1120) (j := 16) lDL_35 rfl)
theorem dL_law_1137 : decode cL_law 1137 = .ok (.iaload, 1) := dw_16 (pc9 (k := 1120) (j := 17) lDL_35 rfl)
theorem dL_law_1138 : decode cL_law 1138 = .ok (.invokevirtual 269, 3) := dw_431 (pc9 (k := 1120) (j := 18) lDL_35 rfl)
theorem dL_law_1141 : decode cL_law 1141 = .ok (.istore 7, 2) := dw_58 (pc9 (k := 1120) (j := 21) lDL_35 rfl)
theorem dL_law_1143 : decode cL_law 1143 = .ok (.goto 1609, 3) := dw_853 (pc9 (k := 1120) (j := 23) lDL_35 rfl)
theorem dL_law_1146 : decode cL_law 1146 = .ok (.aload_n 1, 1) := dw_5 (pc9 (k := 1120) (j := 26) lDL_35 rfl)
theorem dL_law_1147 : decode cL_law 1147 = .ok (.aload_n 0, 1) := dw_0 (pc9 (k := 1120) (j := 27) lDL_35 rfl)
theorem dL_law_1148 : decode cL_law 1148 = .ok (.iload 5, 2) := dw_39 (pc9 (k := 1120) (j := 28) lDL_35 rfl)
theorem dL_law_1150 : decode cL_law 1150 = .ok (.iconst 1, 1) := dw_26 (pc9 (k := 1120) (j := 30) lDL_35 rfl)
theorem dL_law_1151 : decode cL_law 1151 = .ok (.iadd, 1) := dw_43 (pc9 (k := 1120) (j := 31) lDL_35 rfl)
theorem dL_law_1152 : decode cL_law 1152 = .ok (.iaload, 1) := dw_16 (pc9 (k := 1152) (j := 0) lDL_36 rfl)
theorem dL_law_1153 : decode cL_law 1153 = .ok (.aload_n 3, 1) := dw_119 (pc9 (k := 1152) (j := 1) lDL_36 rfl)
theorem dL_law_1154 : decode cL_law 1154 = .ok (.invokestatic 270, 3) := dw_854 (pc9 (k := 1152) (j := 2) lDL_36 rfl)
theorem dL_law_1157 : decode cL_law 1157 = .ok (.istore 6, 2) := dw_35 (pc9 (k := 1152) (j := 5) lDL_36 rfl)
theorem dL_law_1159 : decode cL_law 1159 = .ok (.aload_n 2, 1) := dw_52 (pc9 (k := 1152) (j := 7) lDL_36 rfl)
theorem dL_law_1160 : decode cL_law 1160 = .ok (.aload_n 0, 1) := dw_0 (pc9 (k := 1152) (j := 8) lDL_36 rfl)
theorem dL_law_1161 : decode cL_law 1161 = .ok (.iload 5, 2) := dw_39 (pc9 (k := 1152) (j := 9) lDL_36 rfl)
theorem dL_law_1163 : decode cL_law 1163 = .ok (.iconst 1, 1) := dw_26 (pc9 (k := 1152) (j := 11) lDL_36 rfl)
theorem dL_law_1164 : decode cL_law 1164 = .ok (.iadd, 1) := dw_43 (pc9 (k := 1152) (j := 12) lDL_36 rfl)
theorem dL_law_1165 : decode cL_law 1165 = .ok (.iaload, 1) := dw_16 (pc9 (k := 1152) (j := 13) lDL_36 rfl)
theorem dL_law_1166 : decode cL_law 1166 = .ok (.invokevirtual 272, 3) := dw_855 (pc9 (k := 1152) (j := 14) lDL_36 rfl)
theorem dL_law_1169 : decode cL_law 1169 = .ok (.istore 7, 2) := dw_58 (pc9 (k := 1152) (j := 17) lDL_36 rfl)
theorem dL_law_1171 : decode cL_law 1171 = .ok (.goto 1581, 3) := dw_856 (pc9 (k := 1152) (j := 19) lDL_36 rfl)
theorem dL_law_1174 : decode cL_law 1174 = .ok (.aload_n 1, 1) := dw_5 (pc9 (k := 1152) (j := 22) lDL_36 rfl)
theorem dL_law_1175 : decode cL_law 1175 = .ok (.aload_n 0, 1) := dw_0 (pc9 (k := 1152) (j := 23) lDL_36 rfl)
theorem dL_law_1176 : decode cL_law 1176 = .ok (.iload 5, 2) := dw_39 (pc9 (k := 1152) (j := 24) lDL_36 rfl)
theorem dL_law_1178 : decode cL_law 1178 = .ok (.iconst 1, 1) := dw_26 (pc9 (k := 1152) (j := 26) lDL_36 rfl)
theorem dL_law_1179 : decode cL_law 1179 = .ok (.iadd, 1) := dw_43 (pc9 (k := 1152) (j := 27) lDL_36 rfl)
theorem dL_law_1180 : decode cL_law 1180 = .ok (.iaload, 1) := dw_16 (pc9 (k := 1152) (j := 28) lDL_36 rfl)
theorem dL_law_1181 : decode cL_law 1181 = .ok (.aload_n 0, 1) := dw_0 (pc9 (k := 1152) (j := 29) lDL_36 rfl)
theorem dL_law_1182 : decode cL_law 1182 = .ok (.iload 5, 2) := dw_39 (pc9 (k := 1152) (j := 30) lDL_36 rfl)
theorem dL_law_1184 : decode cL_law 1184 = .ok (.iconst 2, 1) := dw_260 (pc9 (k := 1184) (j := 0) lDL_37 rfl)
theorem dL_law_1185 : decode cL_law 1185 = .ok (.iadd, 1) := dw_43 (pc9 (k := 1184) (j := 1) lDL_37 rfl)
theorem dL_law_1186 : decode cL_law 1186 = .ok (.iaload, 1) := dw_16 (pc9 (k := 1184) (j := 2) lDL_37 rfl)
theorem dL_law_1187 : decode cL_law 1187 = .ok (.aload_n 0, 1) := dw_0 (pc9 (k := 1184) (j := 3) lDL_37 rfl)
theorem dL_law_1188 : decode cL_law 1188 = .ok (.iload 5, 2) := dw_39 (pc9 (k := 1184) (j := 4) lDL_37 rfl)
theorem dL_law_1190 : decode cL_law 1190 = .ok (.iconst 3, 1) := dw_221 (pc9 (k := 1184) (j := 6) lDL_37 rfl)
theorem dL_law_1191 : decode cL_law 1191 = .ok (.iadd, 1) := dw_43 (pc9 (k := 1184) (j := 7) lDL_37 rfl)
theorem dL_law_1192 : decode cL_law 1192 = .ok (.iaload, 1) := dw_16 (pc9 (k := 1184) (j := 8) lDL_37 rfl)
theorem dL_law_1193 : decode cL_law 1193 = .ok (.aload_n 3, 1) := dw_119 (pc9 (k := 1184) (j := 9) lDL_37 rfl)
theorem dL_law_1194 : decode cL_law 1194 = .ok (.invokestatic 273, 3) := dw_857 (pc9 (k := 1184) (j := 10) lDL_37 rfl)
theorem dL_law_1197 : decode cL_law 1197 = .ok (.istore 6, 2) := dw_35 (pc9 (k := 1184) (j := 13) lDL_37 rfl)
theorem dL_law_1199 : decode cL_law 1199 = .ok (.aload_n 2, 1) := dw_52 (pc9 (k := 1184) (j := 15) lDL_37 rfl)
theorem dL_law_1200 : decode cL_law 1200 = .ok (.aload_n 0, 1) := dw_0 (pc9 (k := 1184) (j := 16) lDL_37 rfl)
theorem dL_law_1201 : decode cL_law 1201 = .ok (.iload 5, 2) := dw_39 (pc9 (k := 1184) (j := 17) lDL_37 rfl)
theorem dL_law_1203 : decode cL_law 1203 = .ok (.iconst 1, 1) := dw_26 (pc9 (k := 1184) (j := 19) lDL_37 rfl)
theorem dL_law_1204 : decode cL_law 1204 = .ok (.iadd, 1) := dw_43 (pc9 (k := 1184) (j := 20) lDL_37 rfl)
theorem dL_law_1205 : decode cL_law 1205 = .ok (.iaload, 1) := dw_16 (pc9 (k := 1184) (j := 21) lDL_37 rfl)
theorem dL_law_1206 : decode cL_law 1206 = .ok (.aload_n 0, 1) := dw_0 (pc9 (k := 1184) (j := 22) lDL_37 rfl)
theorem dL_law_1207 : decode cL_law 1207 = .ok (.iload 5, 2) := dw_39 (pc9 (k := 1184) (j := 23) lDL_37 rfl)
theorem dL_law_1209 : decode cL_law 1209 = .ok (.iconst 2, 1) := dw_260 (pc9 (k := 1184) (j := 25) lDL_37 rfl)
theorem dL_law_1210 : decode cL_law 1210 = .ok (.iadd, 1) := dw_43 (pc9 (k := 1184) (j := 26) lDL_37 rfl)
theorem dL_law_1211 : decode cL_law 1211 = .ok (.iaload, 1) := dw_16 (pc9 (k := 1184) (j := 27) lDL_37 rfl)
theorem dL_law_1212 : decode cL_law 1212 = .ok (.aload_n 0, 1) := dw_0 (pc9 (k := 1184) (j := 28) lDL_37 rfl)
theorem dL_law_1213 : decode cL_law 1213 = .ok (.iload 5, 2) := dw_39 (pc9 (k := 1184) (j := 29) lDL_37 rfl)
theorem dL_law_1215 : decode cL_law 1215 = .ok (.iconst 3, 1) := dw_221 (pc9 (k := 1184) (j := 31) lDL_37 rfl)
theorem dL_law_1216 : decode cL_law 1216 = .ok (.iadd, 1) := dw_43 (pc9 (k := 1216) (j := 0) lDL_38 rfl)
theorem dL_law_1217 : decode cL_law 1217 = .ok (.iaload, 1) := dw_16 (pc9 (k := 1216) (j := 1) lDL_38 rfl)
theorem dL_law_1218 : decode cL_law 1218 = .ok (.invokevirtual 275, 3) := dw_858 (pc9 (k := 1216) (j := 2) lDL_38 rfl)
theorem dL_law_1221 : decode cL_law 1221 = .ok (.istore 7, 2) := dw_58 (pc9 (k := 1216) (j := 5) lDL_38 rfl)
theorem dL_law_1223 : decode cL_law 1223 = .ok (.goto 1529, 3) := dw_859 (pc9 (k := 1216) (j := 7) lDL_38 rfl)
theorem dL_law_1226 : decode cL_law 1226 = .ok (.aload_n 1, 1) := dw_5 (pc9 (k := 1216) (j := 10) lDL_38 rfl)
theorem dL_law_1227 : decode cL_law 1227 = .ok (.aload_n 0, 1) := dw_0 (pc9 (k := 1216) (j := 11) lDL_38 rfl)
theorem dL_law_1228 : decode cL_law 1228 = .ok (.iload 5, 2) := dw_39 (pc9 (k := 1216) (j := 12) lDL_38 rfl)
theorem dL_law_1230 : decode cL_law 1230 = .ok (.iconst 1, 1) := dw_26 (pc9 (k := 1216) (j := 14) lDL_38 rfl)
theorem dL_law_1231 : decode cL_law 1231 = .ok (.iadd, 1) := dw_43 (pc9 (k := 1216) (j := 15) lDL_38 rfl)
theorem dL_law_1232 : decode cL_law 1232 = .ok (.iaload, 1) := dw_16 (pc9 (k := 1216) (j := 16) lDL_38 rfl)
theorem dL_law_1233 : decode cL_law 1233 = .ok (.aload_n 0, 1) := dw_0 (pc9 (k := 1216) (j := 17) lDL_38 rfl)
theorem dL_law_1234 : decode cL_law 1234 = .ok (.iload 5, 2) := dw_39 (pc9 (k := 1216) (j := 18) lDL_38 rfl)
theorem dL_law_1236 : decode cL_law 1236 = .ok (.iconst 2, 1) := dw_260 (pc9 (k := 1216) (j := 20) lDL_38 rfl)
theorem dL_law_1237 : decode cL_law 1237 = .ok (.iadd, 1) := dw_43 (pc9 (k := 1216) (j := 21) lDL_38 rfl)
theorem dL_law_1238 : decode cL_law 1238 = .ok (.iaload, 1) := dw_16 (pc9 (k := 1216) (j := 22) lDL_38 rfl)
theorem dL_law_1239 : decode cL_law 1239 = .ok (.aload_n 0, 1) := dw_0 (pc9 (k := 1216) (j := 23) lDL_38 rfl)
theorem dL_law_1240 : decode cL_law 1240 = .ok (.iload 5, 2) := dw_39 (pc9 (k := 1216) (j := 24) lDL_38 rfl)
theorem dL_law_1242 : decode cL_law 1242 = .ok (.iconst 3, 1) := dw_221 (pc9 (k := 1216) (j := 26) lDL_38 rfl)
theorem dL_law_1243 : decode cL_law 1243 = .ok (.iadd, 1) := dw_43 (pc9 (k := 1216) (j := 27) lDL_38 rfl)
theorem dL_law_1244 : decode cL_law 1244 = .ok (.iaload, 1) := dw_16 (pc9 (k := 1216) (j := 28) lDL_38 rfl)
theorem dL_law_1245 : decode cL_law 1245 = .ok (.aload_n 0, 1) := dw_0 (pc9 (k := 1216) (j := 29) lDL_38 rfl)
theorem dL_law_1246 : decode cL_law 1246 = .ok (.iload 5, 2) := dw_39 (pc9 (k := 1216) (j := 30) lDL_38 rfl)
theorem dL_law_1248 : decode cL_law 1248 = .ok (.iconst 4, 1) := dw_280 (pc9 (k := 1248) (j := 0) lDL_39 rfl)
theorem dL_law_1249 : decode cL_law 1249 = .ok (.iadd, 1) := dw_43 (pc9 (k := 1248) (j := 1) lDL_39 rfl)
theorem dL_law_1250 : decode cL_law 1250 = .ok (.iaload, 1) := dw_16 (pc9 (k := 1248) (j := 2) lDL_39 rfl)
theorem dL_law_1251 : decode cL_law 1251 = .ok (.aload_n 3, 1) := dw_119 (pc9 (k := 1248) (j := 3) lDL_39 rfl)
theorem dL_law_1252 : decode cL_law 1252 = .ok (.invokestatic 276, 3) := dw_434 (pc9 (k := 1248) (j := 4) lDL_39 rfl)
theorem dL_law_1255 : decode cL_law 1255 = .ok (.istore 6, 2) := dw_35 (pc9 (k := 1248) (j := 7) lDL_39 rfl)
theorem dL_law_1257 : decode cL_law 1257 = .ok (.aload_n 2, 1) := dw_52 (pc9 (k := 1248) (j := 9) lDL_39 rfl)
theorem dL_law_1258 : decode cL_law 1258 = .ok (.aload_n 0, 1) := dw_0 (pc9 (k := 1248) (j := 10) lDL_39 rfl)
theorem dL_law_1259 : decode cL_law 1259 = .ok (.iload 5, 2) := dw_39 (pc9 (k := 1248) (j := 11) lDL_39 rfl)
theorem dL_law_1261 : decode cL_law 1261 = .ok (.iconst 1, 1) := dw_26 (pc9 (k := 1248) (j := 13) lDL_39 rfl)
theorem dL_law_1262 : decode cL_law 1262 = .ok (.iadd, 1) := dw_43 (pc9 (k := 1248) (j := 14) lDL_39 rfl)
theorem dL_law_1263 : decode cL_law 1263 = .ok (.iaload, 1) := dw_16 (pc9 (k := 1248) (j := 15) lDL_39 rfl)
theorem dL_law_1264 : decode cL_law 1264 = .ok (.aload_n 0, 1) := dw_0 (pc9 (k := 1248) (j := 16) lDL_39 rfl)
theorem dL_law_1265 : decode cL_law 1265 = .ok (.iload 5, 2) := dw_39 (pc9 (k := 1248) (j := 17) lDL_39 rfl)
theorem dL_law_1267 : decode cL_law 1267 = .ok (.iconst 2, 1) := dw_260 (pc9 (k := 1248) (j := 19) lDL_39 rfl)
theorem dL_law_1268 : decode cL_law 1268 = .ok (.iadd, 1) := dw_43 (pc9 (k := 1248) (j := 20) lDL_39 rfl)
theorem dL_law_1269 : decode cL_law 1269 = .ok (.iaload, 1) := dw_16 (pc9 (k := 1248) (j := 21) lDL_39 rfl)
theorem dL_law_1270 : decode cL_law 1270 = .ok (.aload_n 0, 1) := dw_0 (pc9 (k := 1248) (j := 22) lDL_39 rfl)
theorem dL_law_1271 : decode cL_law 1271 = .ok (.iload 5, 2) := dw_39 (pc9 (k := 1248) (j := 23) lDL_39 rfl)
theorem dL_law_1273 : decode cL_law 1273 = .ok (.iconst 3, 1) := dw_221 (pc9 (k := 1248) (j := 25) lDL_39 rfl)
theorem dL_law_1274 : decode cL_law 1274 = .ok (.iadd, 1) := dw_43 (pc9 (k := 1248) (j := 26) lDL_39 rfl)
theorem dL_law_1275 : decode cL_law 1275 = .ok (.iaload, 1) := dw_16 (pc9 (k := 1248) (j := 27) lDL_39 rfl)
theorem dL_law_1276 : decode cL_law 1276 = .ok (.aload_n 0, 1) := dw_0 (pc9 (k := 1248) (j := 28) lDL_39 rfl)
theorem dL_law_1277 : decode cL_law 1277 = .ok (.iload 5, 2) := dw_39 (pc9 (k := 1248) (j := 29) lDL_39 rfl)
theorem dL_law_1279 : decode cL_law 1279 = .ok (.iconst 4, 1) := dw_280 (pc9 (k := 1248) (j := 31) lDL_39 rfl)
theorem dL_law_1280 : decode cL_law 1280 = .ok (.iadd, 1) := dw_43 (pc9 (k := 1280) (j := 0) lDL_40 rfl)
theorem dL_law_1281 : decode cL_law 1281 = .ok (.iaload, 1) := dw_16 (pc9 (k := 1280) (j := 1) lDL_40 rfl)
theorem dL_law_1282 : decode cL_law 1282 = .ok (.invokevirtual 279, 3) := dw_860 (pc9 (k := 1280) (j := 2) lDL_40 rfl)
theorem dL_law_1285 : decode cL_law 1285 = .ok (.istore 7, 2) := dw_58 (pc9 (k := 1280) (j := 5) lDL_40 rfl)
theorem dL_law_1287 : decode cL_law 1287 = .ok (.goto 1465, 3) := dw_861 (pc9 (k := 1280) (j := 7) lDL_40 rfl)
theorem dL_law_1290 : decode cL_law 1290 = .ok (.aload_n 1, 1) := dw_5 (pc9 (k := 1280) (j := 10) lDL_40 rfl)
theorem dL_law_1291 : decode cL_law 1291 = .ok (.aload_n 0, 1) := dw_0 (pc9 (k := 1280) (j := 11) lDL_40 rfl)
theorem dL_law_1292 : decode cL_law 1292 = .ok (.iload 5, 2) := dw_39 (pc9 (k := 1280) (j := 12) lDL_40 rfl)
theorem dL_law_1294 : decode cL_law 1294 = .ok (.iconst 1, 1) := dw_26 (pc9 (k := 1280) (j := 14) lDL_40 rfl)
theorem dL_law_1295 : decode cL_law 1295 = .ok (.iadd, 1) := dw_43 (pc9 (k := 1280) (j := 15) lDL_40 rfl)
theorem dL_law_1296 : decode cL_law 1296 = .ok (.iaload, 1) := dw_16 (pc9 (k := 1280) (j := 16) lDL_40 rfl)
theorem dL_law_1297 : decode cL_law 1297 = .ok (.aload_n 0, 1) := dw_0 (pc9 (k := 1280) (j := 17) lDL_40 rfl)
theorem dL_law_1298 : decode cL_law 1298 = .ok (.iload 5, 2) := dw_39 (pc9 (k := 1280) (j := 18) lDL_40 rfl)
theorem dL_law_1300 : decode cL_law 1300 = .ok (.iconst 2, 1) := dw_260 (pc9 (k := 1280) (j := 20) lDL_40 rfl)
theorem dL_law_1301 : decode cL_law 1301 = .ok (.iadd, 1) := dw_43 (pc9 (k := 1280) (j := 21) lDL_40 rfl)
theorem dL_law_1302 : decode cL_law 1302 = .ok (.iaload, 1) := dw_16 (pc9 (k := 1280) (j := 22) lDL_40 rfl)
theorem dL_law_1303 : decode cL_law 1303 = .ok (.aload_n 3, 1) := dw_119 (pc9 (k := 1280) (j := 23) lDL_40 rfl)
theorem dL_law_1304 : decode cL_law 1304 = .ok (.invokestatic 280, 3) := dw_862 (pc9 (k := 1280) (j := 24) lDL_40 rfl)
theorem dL_law_1307 : decode cL_law 1307 = .ok (.istore 6, 2) := dw_35 (pc9 (k := 1280) (j := 27) lDL_40 rfl)
theorem dL_law_1309 : decode cL_law 1309 = .ok (.aload_n 2, 1) := dw_52 (pc9 (k := 1280) (j := 29) lDL_40 rfl)
theorem dL_law_1310 : decode cL_law 1310 = .ok (.aload_n 0, 1) := dw_0 (pc9 (k := 1280) (j := 30) lDL_40 rfl)
theorem dL_law_1311 : decode cL_law 1311 = .ok (.iload 5, 2) := dw_39 (pc9 (k := 1280) (j := 31) lDL_40 rfl)
theorem dL_law_1313 : decode cL_law 1313 = .ok (.iconst 1, 1) := dw_26 (pc9 (k := 1312) (j := 1) lDL_41 rfl)
theorem dL_law_1314 : decode cL_law 1314 = .ok (.iadd, 1) := dw_43 (pc9 (k := 1312) (j := 2) lDL_41 rfl)
theorem dL_law_1315 : decode cL_law 1315 = .ok (.iaload, 1) := dw_16 (pc9 (k := 1312) (j := 3) lDL_41 rfl)
theorem dL_law_1316 : decode cL_law 1316 = .ok (.aload_n 0, 1) := dw_0 (pc9 (k := 1312) (j := 4) lDL_41 rfl)
theorem dL_law_1317 : decode cL_law 1317 = .ok (.iload 5, 2) := dw_39 (pc9 (k := 1312) (j := 5) lDL_41 rfl)
theorem dL_law_1319 : decode cL_law 1319 = .ok (.iconst 2, 1) := dw_260 (pc9 (k := 1312) (j := 7) lDL_41 rfl)
theorem dL_law_1320 : decode cL_law 1320 = .ok (.iadd, 1) := dw_43 (pc9 (k := 1312) (j := 8) lDL_41 rfl)
theorem dL_law_1321 : decode cL_law 1321 = .ok (.iaload, 1) := dw_16 (pc9 (k := 1312) (j := 9) lDL_41 rfl)
theorem dL_law_1322 : decode cL_law 1322 = .ok (.invokevirtual 282, 3) := dw_435 (pc9 (k := 1312) (j := 10) lDL_41 rfl)
theorem dL_law_1325 : decode cL_law 1325 = .ok (.istore 7, 2) := dw_58 (pc9 (k := 1312) (j := 13) lDL_41 rfl)
theorem dL_law_1327 : decode cL_law 1327 = .ok (.goto 1425, 3) := dw_863 (pc9 (k := 1312) (j := 15) lDL_41 rfl)
theorem dL_law_1330 : decode cL_law 1330 = .ok (.aload_n 1, 1) := dw_5 (pc9 (k := 1312) (j := 18) lDL_41 rfl)
theorem dL_law_1331 : decode cL_law 1331 = .ok (.aload_n 0, 1) := dw_0 (pc9 (k := 1312) (j := 19) lDL_41 rfl)
theorem dL_law_1332 : decode cL_law 1332 = .ok (.iload 5, 2) := dw_39 (pc9 (k := 1312) (j := 20) lDL_41 rfl)
theorem dL_law_1334 : decode cL_law 1334 = .ok (.iconst 1, 1) := dw_26 (pc9 (k := 1312) (j := 22) lDL_41 rfl)
theorem dL_law_1335 : decode cL_law 1335 = .ok (.iadd, 1) := dw_43 (pc9 (k := 1312) (j := 23) lDL_41 rfl)
theorem dL_law_1336 : decode cL_law 1336 = .ok (.iaload, 1) := dw_16 (pc9 (k := 1312) (j := 24) lDL_41 rfl)
theorem dL_law_1337 : decode cL_law 1337 = .ok (.aload_n 3, 1) := dw_119 (pc9 (k := 1312) (j := 25) lDL_41 rfl)
theorem dL_law_1338 : decode cL_law 1338 = .ok (.invokestatic 283, 3) := dw_864 (pc9 (k := 1312) (j := 26) lDL_41 rfl)
theorem dL_law_1341 : decode cL_law 1341 = .ok (.istore 6, 2) := dw_35 (pc9 (k := 1312) (j := 29) lDL_41 rfl)
theorem dL_law_1343 : decode cL_law 1343 = .ok (.aload_n 2, 1) := dw_52 (pc9 (k := 1312) (j := 31) lDL_41 rfl)
theorem dL_law_1344 : decode cL_law 1344 = .ok (.aload_n 0, 1) := dw_0 (pc9 (k := 1344) (j := 0) lDL_42 rfl)
theorem dL_law_1345 : decode cL_law 1345 = .ok (.iload 5, 2) := dw_39 (pc9 (k := 1344) (j := 1) lDL_42 rfl)
theorem dL_law_1347 : decode cL_law 1347 = .ok (.iconst 1, 1) := dw_26 (pc9 (k := 1344) (j := 3) lDL_42 rfl)
theorem dL_law_1348 : decode cL_law 1348 = .ok (.iadd, 1) := dw_43 (pc9 (k := 1344) (j := 4) lDL_42 rfl)
theorem dL_law_1349 : decode cL_law 1349 = .ok (.iaload, 1) := dw_16 (pc9 (k := 1344) (j := 5) lDL_42 rfl)
theorem dL_law_1350 : decode cL_law 1350 = .ok (.invokevirtual 285, 3) := dw_865 (pc9 (k := 1344) (j := 6) lDL_42 rfl)
theorem dL_law_1353 : decode cL_law 1353 = .ok (.istore 7, 2) := dw_58 (pc9 (k := 1344) (j := 9) lDL_42 rfl)
theorem dL_law_1355 : decode cL_law 1355 = .ok (.goto 1397, 3) := dw_866 (pc9 (k := 1344) (j := 11) lDL_42 rfl)
theorem dL_law_1358 : decode cL_law 1358 = .ok (.aload_n 1, 1) := dw_5 (pc9 (k := 1344) (j := 14) lDL_42 rfl)
theorem dL_law_1359 : decode cL_law 1359 = .ok (.aload_n 0, 1) := dw_0 (pc9 (k := 1344) (j := 15) lDL_42 rfl)
theorem dL_law_1360 : decode cL_law 1360 = .ok (.iload 5, 2) := dw_39 (pc9 (k := 1344) (j := 16) lDL_42 rfl)
theorem dL_law_1362 : decode cL_law 1362 = .ok (.iconst 1, 1) := dw_26 (pc9 (k := 1344) (j := 18) lDL_42 rfl)
theorem dL_law_1363 : decode cL_law 1363 = .ok (.iadd, 1) := dw_43 (pc9 (k := 1344) (j := 19) lDL_42 rfl)
theorem dL_law_1364 : decode cL_law 1364 = .ok (.iaload, 1) := dw_16 (pc9 (k := 1344) (j := 20) lDL_42 rfl)
theorem dL_law_1365 : decode cL_law 1365 = .ok (.aload_n 0, 1) := dw_0 (pc9 (k := 1344) (j := 21) lDL_42 rfl)
theorem dL_law_1366 : decode cL_law 1366 = .ok (.iload 5, 2) := dw_39 (pc9 (k := 1344) (j := 22) lDL_42 rfl)
theorem dL_law_1368 : decode cL_law 1368 = .ok (.iconst 2, 1) := dw_260 (pc9 (k := 1344) (j := 24) lDL_42 rfl)
theorem dL_law_1369 : decode cL_law 1369 = .ok (.iadd, 1) := dw_43 (pc9 (k := 1344) (j := 25) lDL_42 rfl)
theorem dL_law_1370 : decode cL_law 1370 = .ok (.iaload, 1) := dw_16 (pc9 (k := 1344) (j := 26) lDL_42 rfl)
theorem dL_law_1371 : decode cL_law 1371 = .ok (.aload_n 3, 1) := dw_119 (pc9 (k := 1344) (j := 27) lDL_42 rfl)
theorem dL_law_1372 : decode cL_law 1372 = .ok (.invokestatic 286, 3) := dw_867 (pc9 (k := 1344) (j := 28) lDL_42 rfl)
theorem dL_law_1375 : decode cL_law 1375 = .ok (.istore 6, 2) := dw_35 (pc9 (k := 1344) (j := 31) lDL_42 rfl)
theorem dL_law_1377 : decode cL_law 1377 = .ok (.aload_n 2, 1) := dw_52 (pc9 (k := 1376) (j := 1) lDL_43 rfl)
theorem dL_law_1378 : decode cL_law 1378 = .ok (.aload_n 0, 1) := dw_0 (pc9 (k := 1376) (j := 2) lDL_43 rfl)
theorem dL_law_1379 : decode cL_law 1379 = .ok (.iload 5, 2) := dw_39 (pc9 (k := 1376) (j := 3) lDL_43 rfl)
theorem dL_law_1381 : decode cL_law 1381 = .ok (.iconst 1, 1) := dw_26 (pc9 (k := 1376) (j := 5) lDL_43 rfl)
theorem dL_law_1382 : decode cL_law 1382 = .ok (.iadd, 1) := dw_43 (pc9 (k := 1376) (j := 6) lDL_43 rfl)
theorem dL_law_1383 : decode cL_law 1383 = .ok (.iaload, 1) := dw_16 (pc9 (k := 1376) (j := 7) lDL_43 rfl)
theorem dL_law_1384 : decode cL_law 1384 = .ok (.aload_n 0, 1) := dw_0 (pc9 (k := 1376) (j := 8) lDL_43 rfl)
theorem dL_law_1385 : decode cL_law 1385 = .ok (.iload 5, 2) := dw_39 (pc9 (k := 1376) (j := 9) lDL_43 rfl)
theorem dL_law_1387 : decode cL_law 1387 = .ok (.iconst 2, 1) := dw_260 (pc9 (k := 1376) (j := 11) lDL_43 rfl)
theorem dL_law_1388 : decode cL_law 1388 = .ok (.iadd, 1) := dw_43 (pc9 (k := 1376) (j := 12) lDL_43 rfl)
theorem dL_law_1389 : decode cL_law 1389 = .ok (.iaload, 1) := dw_16 (pc9 (k := 1376) (j := 13) lDL_43 rfl)
theorem dL_law_1390 : decode cL_law 1390 = .ok (.invokevirtual 288, 3) := dw_868 (pc9 (k := 1376) (j := 14) lDL_43 rfl)
theorem dL_law_1393 : decode cL_law 1393 = .ok (.istore 7, 2) := dw_58 (pc9 (k := 1376) (j := 17) lDL_43 rfl)
theorem dL_law_1395 : decode cL_law 1395 = .ok (.goto 1357, 3) := dw_869 (pc9 (k := 1376) (j := 19) lDL_43 rfl)
theorem dL_law_1398 : decode cL_law 1398 = .ok (.aload_n 1, 1) := dw_5 (pc9 (k := 1376) (j := 22) lDL_43 rfl)
theorem dL_law_1399 : decode cL_law 1399 = .ok (.aload_n 0, 1) := dw_0 (pc9 (k := 1376) (j := 23) lDL_43 rfl)
theorem dL_law_1400 : decode cL_law 1400 = .ok (.iload 5, 2) := dw_39 (pc9 (k := 1376) (j := 24) lDL_43 rfl)
theorem dL_law_1402 : decode cL_law 1402 = .ok (.iconst 1, 1) := dw_26 (pc9 (k := 1376) (j := 26) lDL_43 rfl)
theorem dL_law_1403 : decode cL_law 1403 = .ok (.iadd, 1) := dw_43 (pc9 (k := 1376) (j := 27) lDL_43 rfl)
theorem dL_law_1404 : decode cL_law 1404 = .ok (.iaload, 1) := dw_16 (pc9 (k := 1376) (j := 28) lDL_43 rfl)
theorem dL_law_1405 : decode cL_law 1405 = .ok (.aload_n 0, 1) := dw_0 (pc9 (k := 1376) (j := 29) lDL_43 rfl)
theorem dL_law_1406 : decode cL_law 1406 = .ok (.iload 5, 2) := dw_39 (pc9 (k := 1376) (j := 30) lDL_43 rfl)
theorem dL_law_1408 : decode cL_law 1408 = .ok (.iconst 2, 1) := dw_260 (pc9 (k := 1408) (j := 0) lDL_44 rfl)
theorem dL_law_1409 : decode cL_law 1409 = .ok (.iadd, 1) := dw_43 (pc9 (k := 1408) (j := 1) lDL_44 rfl)
theorem dL_law_1410 : decode cL_law 1410 = .ok (.iaload, 1) := dw_16 (pc9 (k := 1408) (j := 2) lDL_44 rfl)
theorem dL_law_1411 : decode cL_law 1411 = .ok (.aload_n 0, 1) := dw_0 (pc9 (k := 1408) (j := 3) lDL_44 rfl)
theorem dL_law_1412 : decode cL_law 1412 = .ok (.iload 5, 2) := dw_39 (pc9 (k := 1408) (j := 4) lDL_44 rfl)
theorem dL_law_1414 : decode cL_law 1414 = .ok (.iconst 3, 1) := dw_221 (pc9 (k := 1408) (j := 6) lDL_44 rfl)
theorem dL_law_1415 : decode cL_law 1415 = .ok (.iadd, 1) := dw_43 (pc9 (k := 1408) (j := 7) lDL_44 rfl)
theorem dL_law_1416 : decode cL_law 1416 = .ok (.iaload, 1) := dw_16 (pc9 (k := 1408) (j := 8) lDL_44 rfl)
theorem dL_law_1417 : decode cL_law 1417 = .ok (.aload_n 3, 1) := dw_119 (pc9 (k := 1408) (j := 9) lDL_44 rfl)
theorem dL_law_1418 : decode cL_law 1418 = .ok (.invokestatic 289, 3) := dw_870 (pc9 (k := 1408) (j := 10) lDL_44 rfl)
theorem dL_law_1421 : decode cL_law 1421 = .ok (.istore 6, 2) := dw_35 (pc9 (k := 1408) (j := 13) lDL_44 rfl)
theorem dL_law_1423 : decode cL_law 1423 = .ok (.aload_n 2, 1) := dw_52 (pc9 (k := 1408) (j := 15) lDL_44 rfl)
theorem dL_law_1424 : decode cL_law 1424 = .ok (.aload_n 0, 1) := dw_0 (pc9 (k := 1408) (j := 16) lDL_44 rfl)
theorem dL_law_1425 : decode cL_law 1425 = .ok (.iload 5, 2) := dw_39 (pc9 (k := 1408) (j := 17) lDL_44 rfl)
theorem dL_law_1427 : decode cL_law 1427 = .ok (.iconst 1, 1) := dw_26 (pc9 (k := 1408) (j := 19) lDL_44 rfl)
theorem dL_law_1428 : decode cL_law 1428 = .ok (.iadd, 1) := dw_43 (pc9 (k := 1408) (j := 20) lDL_44 rfl)
theorem dL_law_1429 : decode cL_law 1429 = .ok (.iaload, 1) := dw_16 (pc9 (k := 1408) (j := 21) lDL_44 rfl)
theorem dL_law_1430 : decode cL_law 1430 = .ok (.aload_n 0, 1) := dw_0 (pc9 (k := 1408) (j := 22) lDL_44 rfl)
theorem dL_law_1431 : decode cL_law 1431 = .ok (.iload 5, 2) := dw_39 (pc9 (k := 1408) (j := 23) lDL_44 rfl)
theorem dL_law_1433 : decode cL_law 1433 = .ok (.iconst 2, 1) := dw_260 (pc9 (k := 1408) (j := 25) lDL_44 rfl)
theorem dL_law_1434 : decode cL_law 1434 = .ok (.iadd, 1) := dw_43 (pc9 (k := 1408) (j := 26) lDL_44 rfl)
theorem dL_law_1435 : decode cL_law 1435 = .ok (.iaload, 1) := dw_16 (pc9 (k := 1408) (j := 27) lDL_44 rfl)
theorem dL_law_1436 : decode cL_law 1436 = .ok (.aload_n 0, 1) := dw_0 (pc9 (k := 1408) (j := 28) lDL_44 rfl)
theorem dL_law_1437 : decode cL_law 1437 = .ok (.iload 5, 2) := dw_39 (pc9 (k := 1408) (j := 29) lDL_44 rfl)
theorem dL_law_1439 : decode cL_law 1439 = .ok (.iconst 3, 1) := dw_221 (pc9 (k := 1408) (j := 31) lDL_44 rfl)
theorem dL_law_1440 : decode cL_law 1440 = .ok (.iadd, 1) := dw_43 (pc9 (k := 1440) (j := 0) lDL_45 rfl)
theorem dL_law_1441 : decode cL_law 1441 = .ok (.iaload, 1) := dw_16 (pc9 (k := 1440) (j := 1) lDL_45 rfl)
theorem dL_law_1442 : decode cL_law 1442 = .ok (.invokevirtual 291, 3) := dw_871 (pc9 (k := 1440) (j := 2) lDL_45 rfl)
theorem dL_law_1445 : decode cL_law 1445 = .ok (.istore 7, 2) := dw_58 (pc9 (k := 1440) (j := 5) lDL_45 rfl)
theorem dL_law_1447 : decode cL_law 1447 = .ok (.goto 1305, 3) := dw_872 (pc9 (k := 1440) (j := 7) lDL_45 rfl)
theorem dL_law_1450 : decode cL_law 1450 = .ok (.aload_n 1, 1) := dw_5 (pc9 (k := 1440) (j := 10) lDL_45 rfl)
theorem dL_law_1451 : decode cL_law 1451 = .ok (.aload_n 0, 1) := dw_0 (pc9 (k := 1440) (j := 11) lDL_45 rfl)
theorem dL_law_1452 : decode cL_law 1452 = .ok (.iload 5, 2) := dw_39 (pc9 (k := 1440) (j := 12) lDL_45 rfl)
theorem dL_law_1454 : decode cL_law 1454 = .ok (.iconst 1, 1) := dw_26 (pc9 (k := 1440) (j := 14) lDL_45 rfl)
theorem dL_law_1455 : decode cL_law 1455 = .ok (.iadd, 1) := dw_43 (pc9 (k := 1440) (j := 15) lDL_45 rfl)
theorem dL_law_1456 : decode cL_law 1456 = .ok (.iaload, 1) := dw_16 (pc9 (k := 1440) (j := 16) lDL_45 rfl)
theorem dL_law_1457 : decode cL_law 1457 = .ok (.aload_n 0, 1) := dw_0 (pc9 (k := 1440) (j := 17) lDL_45 rfl)
theorem dL_law_1458 : decode cL_law 1458 = .ok (.iload 5, 2) := dw_39 (pc9 (k := 1440) (j := 18) lDL_45 rfl)
theorem dL_law_1460 : decode cL_law 1460 = .ok (.iconst 2, 1) := dw_260 (pc9 (k := 1440) (j := 20) lDL_45 rfl)
theorem dL_law_1461 : decode cL_law 1461 = .ok (.iadd, 1) := dw_43 (pc9 (k := 1440) (j := 21) lDL_45 rfl)
theorem dL_law_1462 : decode cL_law 1462 = .ok (.iaload, 1) := dw_16 (pc9 (k := 1440) (j := 22) lDL_45 rfl)
theorem dL_law_1463 : decode cL_law 1463 = .ok (.aload_n 0, 1) := dw_0 (pc9 (k := 1440) (j := 23) lDL_45 rfl)
theorem dL_law_1464 : decode cL_law 1464 = .ok (.iload 5, 2) := dw_39 (pc9 (k := 1440) (j := 24) lDL_45 rfl)
theorem dL_law_1466 : decode cL_law 1466 = .ok (.iconst 3, 1) := dw_221 (pc9 (k := 1440) (j := 26) lDL_45 rfl)
theorem dL_law_1467 : decode cL_law 1467 = .ok (.iadd, 1) := dw_43 (pc9 (k := 1440) (j := 27) lDL_45 rfl)
theorem dL_law_1468 : decode cL_law 1468 = .ok (.iaload, 1) := dw_16 (pc9 (k := 1440) (j := 28) lDL_45 rfl)
theorem dL_law_1469 : decode cL_law 1469 = .ok (.aload_n 3, 1) := dw_119 (pc9 (k := 1440) (j := 29) lDL_45 rfl)
theorem dL_law_1470 : decode cL_law 1470 = .ok (.invokestatic 292, 3) := dw_873 (pc9 (k := 1440) (j := 30) lDL_45 rfl)
theorem dL_law_1473 : decode cL_law 1473 = .ok (.istore 6, 2) := dw_35 (pc9 (k := 1472) (j := 1) lDL_46 rfl)
theorem dL_law_1475 : decode cL_law 1475 = .ok (.aload_n 2, 1) := dw_52 (pc9 (k := 1472) (j := 3) lDL_46 rfl)
theorem dL_law_1476 : decode cL_law 1476 = .ok (.aload_n 0, 1) := dw_0 (pc9 (k := 1472) (j := 4) lDL_46 rfl)
theorem dL_law_1477 : decode cL_law 1477 = .ok (.iload 5, 2) := dw_39 (pc9 (k := 1472) (j := 5) lDL_46 rfl)
theorem dL_law_1479 : decode cL_law 1479 = .ok (.iconst 1, 1) := dw_26 (pc9 (k := 1472) (j := 7) lDL_46 rfl)
theorem dL_law_1480 : decode cL_law 1480 = .ok (.iadd, 1) := dw_43 (pc9 (k := 1472) (j := 8) lDL_46 rfl)
theorem dL_law_1481 : decode cL_law 1481 = .ok (.iaload, 1) := dw_16 (pc9 (k := 1472) (j := 9) lDL_46 rfl)
theorem dL_law_1482 : decode cL_law 1482 = .ok (.aload_n 0, 1) := dw_0 (pc9 (k := 1472) (j := 10) lDL_46 rfl)
theorem dL_law_1483 : decode cL_law 1483 = .ok (.iload 5, 2) := dw_39 (pc9 (k := 1472) (j := 11) lDL_46 rfl)
theorem dL_law_1485 : decode cL_law 1485 = .ok (.iconst 2, 1) := dw_260 (pc9 (k := 1472) (j := 13) lDL_46 rfl)
theorem dL_law_1486 : decode cL_law 1486 = .ok (.iadd, 1) := dw_43 (pc9 (k := 1472) (j := 14) lDL_46 rfl)
theorem dL_law_1487 : decode cL_law 1487 = .ok (.iaload, 1) := dw_16 (pc9 (k := 1472) (j := 15) lDL_46 rfl)
theorem dL_law_1488 : decode cL_law 1488 = .ok (.aload_n 0, 1) := dw_0 (pc9 (k := 1472) (j := 16) lDL_46 rfl)
theorem dL_law_1489 : decode cL_law 1489 = .ok (.iload 5, 2) := dw_39 (pc9 (k := 1472) (j := 17) lDL_46 rfl)
theorem dL_law_1491 : decode cL_law 1491 = .ok (.iconst 3, 1) := dw_221 (pc9 (k := 1472) (j := 19) lDL_46 rfl)
theorem dL_law_1492 : decode cL_law 1492 = .ok (.iadd, 1) := dw_43 (pc9 (k := 1472) (j := 20) lDL_46 rfl)
theorem dL_law_1493 : decode cL_law 1493 = .ok (.iaload, 1) := dw_16 (pc9 (k := 1472) (j := 21) lDL_46 rfl)
theorem dL_law_1494 : decode cL_law 1494 = .ok (.invokevirtual 294, 3) := dw_690 (pc9 (k := 1472) (j := 22) lDL_46 rfl)
theorem dL_law_1497 : decode cL_law 1497 = .ok (.istore 7, 2) := dw_58 (pc9 (k := 1472) (j := 25) lDL_46 rfl)
theorem dL_law_1499 : decode cL_law 1499 = .ok (.goto 1253, 3) := dw_874 (pc9 (k := 1472) (j := 27) lDL_46 rfl)
theorem dL_law_1502 : decode cL_law 1502 = .ok (.aload_n 1, 1) := dw_5 (pc9 (k := 1472) (j := 30) lDL_46 rfl)
theorem dL_law_1503 : decode cL_law 1503 = .ok (.aload_n 0, 1) := dw_0 (pc9 (k := 1472) (j := 31) lDL_46 rfl)
theorem dL_law_1504 : decode cL_law 1504 = .ok (.iload 5, 2) := dw_39 (pc9 (k := 1504) (j := 0) lDL_47 rfl)
theorem dL_law_1506 : decode cL_law 1506 = .ok (.iconst 1, 1) := dw_26 (pc9 (k := 1504) (j := 2) lDL_47 rfl)
theorem dL_law_1507 : decode cL_law 1507 = .ok (.iadd, 1) := dw_43 (pc9 (k := 1504) (j := 3) lDL_47 rfl)
theorem dL_law_1508 : decode cL_law 1508 = .ok (.iaload, 1) := dw_16 (pc9 (k := 1504) (j := 4) lDL_47 rfl)
theorem dL_law_1509 : decode cL_law 1509 = .ok (.aload_n 3, 1) := dw_119 (pc9 (k := 1504) (j := 5) lDL_47 rfl)
theorem dL_law_1510 : decode cL_law 1510 = .ok (.invokestatic 295, 3) := dw_875 (pc9 (k := 1504) (j := 6) lDL_47 rfl)
theorem dL_law_1513 : decode cL_law 1513 = .ok (.istore 6, 2) := dw_35 (pc9 (k := 1504) (j := 9) lDL_47 rfl)
theorem dL_law_1515 : decode cL_law 1515 = .ok (.aload_n 2, 1) := dw_52 (pc9 (k := 1504) (j := 11) lDL_47 rfl)
theorem dL_law_1516 : decode cL_law 1516 = .ok (.aload_n 0, 1) := dw_0 (pc9 (k := 1504) (j := 12) lDL_47 rfl)
theorem dL_law_1517 : decode cL_law 1517 = .ok (.iload 5, 2) := dw_39 (pc9 (k := 1504) (j := 13) lDL_47 rfl)
theorem dL_law_1519 : decode cL_law 1519 = .ok (.iconst 1, 1) := dw_26 (pc9 (k := 1504) (j := 15) lDL_47 rfl)
theorem dL_law_1520 : decode cL_law 1520 = .ok (.iadd, 1) := dw_43 (pc9 (k := 1504) (j := 16) lDL_47 rfl)
theorem dL_law_1521 : decode cL_law 1521 = .ok (.iaload, 1) := dw_16 (pc9 (k := 1504) (j := 17) lDL_47 rfl)
theorem dL_law_1522 : decode cL_law 1522 = .ok (.invokevirtual 297, 3) := dw_876 (pc9 (k := 1504) (j := 18) lDL_47 rfl)
theorem dL_law_1525 : decode cL_law 1525 = .ok (.istore 7, 2) := dw_58 (pc9 (k := 1504) (j := 21) lDL_47 rfl)
theorem dL_law_1527 : decode cL_law 1527 = .ok (.goto 1225, 3) := dw_877 (pc9 (k := 1504) (j := 23) lDL_47 rfl)
theorem dL_law_1530 : decode cL_law 1530 = .ok (.aload_n 1, 1) := dw_5 (pc9 (k := 1504) (j := 26) lDL_47 rfl)
theorem dL_law_1531 : decode cL_law 1531 = .ok (.aload_n 0, 1) := dw_0 (pc9 (k := 1504) (j := 27) lDL_47 rfl)
theorem dL_law_1532 : decode cL_law 1532 = .ok (.iload 5, 2) := dw_39 (pc9 (k := 1504) (j := 28) lDL_47 rfl)
theorem dL_law_1534 : decode cL_law 1534 = .ok (.iconst 1, 1) := dw_26 (pc9 (k := 1504) (j := 30) lDL_47 rfl)
theorem dL_law_1535 : decode cL_law 1535 = .ok (.iadd, 1) := dw_43 (pc9 (k := 1504) (j := 31) lDL_47 rfl)
theorem dL_law_1536 : decode cL_law 1536 = .ok (.iaload, 1) := dw_16 (pc9 (k := 1536) (j := 0) lDL_48 rfl)
theorem dL_law_1537 : decode cL_law 1537 = .ok (.aload_n 3, 1) := dw_119 (pc9 (k := 1536) (j := 1) lDL_48 rfl)
theorem dL_law_1538 : decode cL_law 1538 = .ok (.invokestatic 298, 3) := dw_878 (pc9 (k := 1536) (j := 2) lDL_48 rfl)
theorem dL_law_1541 : decode cL_law 1541 = .ok (.istore 6, 2) := dw_35 (pc9 (k := 1536) (j := 5) lDL_48 rfl)
theorem dL_law_1543 : decode cL_law 1543 = .ok (.aload_n 2, 1) := dw_52 (pc9 (k := 1536) (j := 7) lDL_48 rfl)
theorem dL_law_1544 : decode cL_law 1544 = .ok (.aload_n 0, 1) := dw_0 (pc9 (k := 1536) (j := 8) lDL_48 rfl)
theorem dL_law_1545 : decode cL_law 1545 = .ok (.iload 5, 2) := dw_39 (pc9 (k := 1536) (j := 9) lDL_48 rfl)
theorem dL_law_1547 : decode cL_law 1547 = .ok (.iconst 1, 1) := dw_26 (pc9 (k := 1536) (j := 11) lDL_48 rfl)
theorem dL_law_1548 : decode cL_law 1548 = .ok (.iadd, 1) := dw_43 (pc9 (k := 1536) (j := 12) lDL_48 rfl)
theorem dL_law_1549 : decode cL_law 1549 = .ok (.iaload, 1) := dw_16 (pc9 (k := 1536) (j := 13) lDL_48 rfl)
theorem dL_law_1550 : decode cL_law 1550 = .ok (.invokevirtual 300, 3) := dw_709 (pc9 (k := 1536) (j := 14) lDL_48 rfl)
theorem dL_law_1553 : decode cL_law 1553 = .ok (.istore 7, 2) := dw_58 (pc9 (k := 1536) (j := 17) lDL_48 rfl)
theorem dL_law_1555 : decode cL_law 1555 = .ok (.aload_n 2, 1) := dw_52 (pc9 (k := 1536) (j := 19) lDL_48 rfl)
theorem dL_law_1556 : decode cL_law 1556 = .ok (.invokevirtual 301, 3) := dw_879 (pc9 (k := 1536) (j := 20) lDL_48 rfl)
theorem dL_law_1559 : decode cL_law 1559 = .ok (.iload 6, 2) := dw_36 (pc9 (k := 1536) (j := 23) lDL_48 rfl)
theorem dL_law_1561 : decode cL_law 1561 = .ok (.if_icmp .eq 5, 3) := dw_270 (pc9 (k := 1536) (j := 25) lDL_48 rfl)
theorem dL_law_1564 : decode cL_law 1564 = .ok (.iconst 0, 1) := dw_6 (pc9 (k := 1536) (j := 28) lDL_48 rfl)
theorem dL_law_1565 : decode cL_law 1565 = .ok (.ireturn, 1) := dw_31 (pc9 (k := 1536) (j := 29) lDL_48 rfl)
theorem dL_law_1566 : decode cL_law 1566 = .ok (.iload 6, 2) := dw_36 (pc9 (k := 1536) (j := 30) lDL_48 rfl)
theorem dL_law_1568 : decode cL_law 1568 = .ok (.ifCond .ne 15, 3) := dw_880 (pc9 (k := 1568) (j := 0) lDL_49 rfl)
theorem dL_law_1571 : decode cL_law 1571 = .ok (.aload_n 3, 1) := dw_119 (pc9 (k := 1568) (j := 3) lDL_49 rfl)
theorem dL_law_1572 : decode cL_law 1572 = .ok (.iconst 0, 1) := dw_6 (pc9 (k := 1568) (j := 4) lDL_49 rfl)
theorem dL_law_1573 : decode cL_law 1573 = .ok (.laload, 1) := dw_521 (pc9 (k := 1568) (j := 5) lDL_49 rfl)
theorem dL_law_1574 : decode cL_law 1574 = .ok (.iload 7, 2) := dw_59 (pc9 (k := 1568) (j := 6) lDL_49 rfl)
theorem dL_law_1576 : decode cL_law 1576 = .ok (.i2l, 1) := dw_498 (pc9 (k := 1568) (j := 8) lDL_49 rfl)
theorem dL_law_1577 : decode cL_law 1577 = .ok (.lcmp, 1) := dw_163 (pc9 (k := 1568) (j := 9) lDL_49 rfl)
theorem dL_law_1578 : decode cL_law 1578 = .ok (.ifCond .eq 5, 3) := dw_56 (pc9 (k := 1568) (j := 10) lDL_49 rfl)
theorem dL_law_1581 : decode cL_law 1581 = .ok (.iconst 0, 1) := dw_6 (pc9 (k := 1568) (j := 13) lDL_49 rfl)
theorem dL_law_1582 : decode cL_law 1582 = .ok (.ireturn, 1) := dw_31 (pc9 (k := 1568) (j := 14) lDL_49 rfl)
theorem dL_law_1583 : decode cL_law 1583 = .ok (.goto 1169, 3) := dw_881 (pc9 (k := 1568) (j := 15) lDL_49 rfl)
theorem dL_law_1586 : decode cL_law 1586 = .ok (.aload_n 1, 1) := dw_5 (pc9 (k := 1568) (j := 18) lDL_49 rfl)
theorem dL_law_1587 : decode cL_law 1587 = .ok (.aload_n 0, 1) := dw_0 (pc9 (k := 1568) (j := 19) lDL_49 rfl)
theorem dL_law_1588 : decode cL_law 1588 = .ok (.iload 5, 2) := dw_39 (pc9 (k := 1568) (j := 20) lDL_49 rfl)
theorem dL_law_1590 : decode cL_law 1590 = .ok (.iconst 1, 1) := dw_26 (pc9 (k := 1568) (j := 22) lDL_49 rfl)
theorem dL_law_1591 : decode cL_law 1591 = .ok (.iadd, 1) := dw_43 (pc9 (k := 1568) (j := 23) lDL_49 rfl)
theorem dL_law_1592 : decode cL_law 1592 = .ok (.iaload, 1) := dw_16 (pc9 (k := 1568) (j := 24) lDL_49 rfl)
theorem dL_law_1593 : decode cL_law 1593 = .ok (.aload_n 3, 1) := dw_119 (pc9 (k := 1568) (j := 25) lDL_49 rfl)
theorem dL_law_1594 : decode cL_law 1594 = .ok (.invokestatic 304, 3) := dw_882 (pc9 (k := 1568) (j := 26) lDL_49 rfl)
theorem dL_law_1597 : decode cL_law 1597 = .ok (.istore 6, 2) := dw_35 (pc9 (k := 1568) (j := 29) lDL_49 rfl)
theorem dL_law_1599 : decode cL_law 1599 = .ok (.aload_n 2, 1) := dw_52 (pc9 (k := 1568) (j := 31) lDL_49 rfl)
theorem dL_law_1600 : decode cL_law 1600 = .ok (.aload_n 0, 1) := dw_0 (pc9 (k := 1600) (j := 0) lDL_50 rfl)
theorem dL_law_1601 : decode cL_law 1601 = .ok (.iload 5, 2) := dw_39 (pc9 (k := 1600) (j := 1) lDL_50 rfl)
theorem dL_law_1603 : decode cL_law 1603 = .ok (.iconst 1, 1) := dw_26 (pc9 (k := 1600) (j := 3) lDL_50 rfl)
theorem dL_law_1604 : decode cL_law 1604 = .ok (.iadd, 1) := dw_43 (pc9 (k := 1600) (j := 4) lDL_50 rfl)
theorem dL_law_1605 : decode cL_law 1605 = .ok (.iaload, 1) := dw_16 (pc9 (k := 1600) (j := 5) lDL_50 rfl)
theorem dL_law_1606 : decode cL_law 1606 = .ok (.invokevirtual 306, 3) := dw_883 (pc9 (k := 1600) (j := 6) lDL_50 rfl)
theorem dL_law_1609 : decode cL_law 1609 = .ok (.istore 7, 2) := dw_58 (pc9 (k := 1600) (j := 9) lDL_50 rfl)
theorem dL_law_1611 : decode cL_law 1611 = .ok (.goto 1141, 3) := dw_884 (pc9 (k := 1600) (j := 11) lDL_50 rfl)
theorem dL_law_1614 : decode cL_law 1614 = .ok (.aload_n 1, 1) := dw_5 (pc9 (k := 1600) (j := 14) lDL_50 rfl)
theorem dL_law_1615 : decode cL_law 1615 = .ok (.aload_n 0, 1) := dw_0 (pc9 (k := 1600) (j := 15) lDL_50 rfl)
theorem dL_law_1616 : decode cL_law 1616 = .ok (.iload 5, 2) := dw_39 (pc9 (k := 1600) (j := 16) lDL_50 rfl)
theorem dL_law_1618 : decode cL_law 1618 = .ok (.iconst 1, 1) := dw_26 (pc9 (k := 1600) (j := 18) lDL_50 rfl)
theorem dL_law_1619 : decode cL_law 1619 = .ok (.iadd, 1) := dw_43 (pc9 (k := 1600) (j := 19) lDL_50 rfl)
theorem dL_law_1620 : decode cL_law 1620 = .ok (.iaload, 1) := dw_16 (pc9 (k := 1600) (j := 20) lDL_50 rfl)
theorem dL_law_1621 : decode cL_law 1621 = .ok (.aload_n 3, 1) := dw_119 (pc9 (k := 1600) (j := 21) lDL_50 rfl)
theorem dL_law_1622 : decode cL_law 1622 = .ok (.invokestatic 307, 3) := dw_885 (pc9 (k := 1600) (j := 22) lDL_50 rfl)
theorem dL_law_1625 : decode cL_law 1625 = .ok (.istore 6, 2) := dw_35 (pc9 (k := 1600) (j := 25) lDL_50 rfl)
theorem dL_law_1627 : decode cL_law 1627 = .ok (.aload_n 2, 1) := dw_52 (pc9 (k := 1600) (j := 27) lDL_50 rfl)
theorem dL_law_1628 : decode cL_law 1628 = .ok (.aload_n 0, 1) := dw_0 (pc9 (k := 1600) (j := 28) lDL_50 rfl)
theorem dL_law_1629 : decode cL_law 1629 = .ok (.iload 5, 2) := dw_39 (pc9 (k := 1600) (j := 29) lDL_50 rfl)
theorem dL_law_1631 : decode cL_law 1631 = .ok (.iconst 1, 1) := dw_26 (pc9 (k := 1600) (j := 31) lDL_50 rfl)
theorem dL_law_1632 : decode cL_law 1632 = .ok (.iadd, 1) := dw_43 (pc9 (k := 1632) (j := 0) lDL_51 rfl)
theorem dL_law_1633 : decode cL_law 1633 = .ok (.iaload, 1) := dw_16 (pc9 (k := 1632) (j := 1) lDL_51 rfl)
theorem dL_law_1634 : decode cL_law 1634 = .ok (.invokevirtual 309, 3) := dw_886 (pc9 (k := 1632) (j := 2) lDL_51 rfl)
theorem dL_law_1637 : decode cL_law 1637 = .ok (.istore 7, 2) := dw_58 (pc9 (k := 1632) (j := 5) lDL_51 rfl)
theorem dL_law_1639 : decode cL_law 1639 = .ok (.goto 1113, 3) := dw_887 (pc9 (k := 1632) (j := 7) lDL_51 rfl)
theorem dL_law_1642 : decode cL_law 1642 = .ok (.aload_n 1, 1) := dw_5 (pc9 (k := 1632) (j := 10) lDL_51 rfl)
theorem dL_law_1643 : decode cL_law 1643 = .ok (.aload_n 0, 1) := dw_0 (pc9 (k := 1632) (j := 11) lDL_51 rfl)
theorem dL_law_1644 : decode cL_law 1644 = .ok (.iload 5, 2) := dw_39 (pc9 (k := 1632) (j := 12) lDL_51 rfl)
theorem dL_law_1646 : decode cL_law 1646 = .ok (.iconst 1, 1) := dw_26 (pc9 (k := 1632) (j := 14) lDL_51 rfl)
theorem dL_law_1647 : decode cL_law 1647 = .ok (.iadd, 1) := dw_43 (pc9 (k := 1632) (j := 15) lDL_51 rfl)
theorem dL_law_1648 : decode cL_law 1648 = .ok (.iaload, 1) := dw_16 (pc9 (k := 1632) (j := 16) lDL_51 rfl)
theorem dL_law_1649 : decode cL_law 1649 = .ok (.aload_n 0, 1) := dw_0 (pc9 (k := 1632) (j := 17) lDL_51 rfl)
theorem dL_law_1650 : decode cL_law 1650 = .ok (.iload 5, 2) := dw_39 (pc9 (k := 1632) (j := 18) lDL_51 rfl)
theorem dL_law_1652 : decode cL_law 1652 = .ok (.iconst 2, 1) := dw_260 (pc9 (k := 1632) (j := 20) lDL_51 rfl)
theorem dL_law_1653 : decode cL_law 1653 = .ok (.iadd, 1) := dw_43 (pc9 (k := 1632) (j := 21) lDL_51 rfl)
theorem dL_law_1654 : decode cL_law 1654 = .ok (.iaload, 1) := dw_16 (pc9 (k := 1632) (j := 22) lDL_51 rfl)
theorem dL_law_1655 : decode cL_law 1655 = .ok (.i2l, 1) := dw_498 (pc9 (k := 1632) (j := 23) lDL_51 rfl)
theorem dL_law_1656 : decode cL_law 1656 = .ok (.bipush 32, 2) := dw_2 (pc9 (k := 1632) (j := 24) lDL_51 rfl)
theorem dL_law_1658 : decode cL_law 1658 = .ok (.lshl, 1) := dw_535 (pc9 (k := 1632) (j := 26) lDL_51 rfl)
theorem dL_law_1659 : decode cL_law 1659 = .ok (.aload_n 0, 1) := dw_0 (pc9 (k := 1632) (j := 27) lDL_51 rfl)
theorem dL_law_1660 : decode cL_law 1660 = .ok (.iload 5, 2) := dw_39 (pc9 (k := 1632) (j := 28) lDL_51 rfl)
theorem dL_law_1662 : decode cL_law 1662 = .ok (.iconst 3, 1) := dw_221 (pc9 (k := 1632) (j := 30) lDL_51 rfl)
theorem dL_law_1663 : decode cL_law 1663 = .ok (.iadd, 1) := dw_43 (pc9 (k := 1632) (j := 31) lDL_51 rfl)
theorem dL_law_1664 : decode cL_law 1664 = .ok (.iaload, 1) := dw_16 (pc9 (k := 1664) (j := 0) lDL_52 rfl)
theorem dL_law_1665 : decode cL_law 1665 = .ok (.i2l, 1) := dw_498 (pc9 (k := 1664) (j := 1) lDL_52 rfl)
theorem dL_law_1666 : decode cL_law 1666 = .ok (.ldc2_w 186, 3) := dw_797 (pc9 (k := 1664) (j := 2) lDL_52 rfl)
theorem dL_law_1669 : decode cL_law 1669 = .ok (.land, 1) := dw_161 (pc9 (k := 1664) (j := 5) lDL_52 rfl)
theorem dL_law_1670 : decode cL_law 1670 = .ok (.lor, 1) := dw_572 (pc9 (k := 1664) (j := 6) lDL_52 rfl)
theorem dL_law_1671 : decode cL_law 1671 = .ok (.aload_n 3, 1) := dw_119 (pc9 (k := 1664) (j := 7) lDL_52 rfl)
theorem dL_law_1672 : decode cL_law 1672 = .ok (.invokestatic 310, 3) := dw_888 (pc9 (k := 1664) (j := 8) lDL_52 rfl)
theorem dL_law_1675 : decode cL_law 1675 = .ok (.istore 6, 2) := dw_35 (pc9 (k := 1664) (j := 11) lDL_52 rfl)
theorem dL_law_1677 : decode cL_law 1677 = .ok (.aload_n 2, 1) := dw_52 (pc9 (k := 1664) (j := 13) lDL_52 rfl)
theorem dL_law_1678 : decode cL_law 1678 = .ok (.aload_n 0, 1) := dw_0 (pc9 (k := 1664) (j := 14) lDL_52 rfl)
theorem dL_law_1679 : decode cL_law 1679 = .ok (.iload 5, 2) := dw_39 (pc9 (k := 1664) (j := 15) lDL_52 rfl)
theorem dL_law_1681 : decode cL_law 1681 = .ok (.iconst 1, 1) := dw_26 (pc9 (k := 1664) (j := 17) lDL_52 rfl)
theorem dL_law_1682 : decode cL_law 1682 = .ok (.iadd, 1) := dw_43 (pc9 (k := 1664) (j := 18) lDL_52 rfl)
theorem dL_law_1683 : decode cL_law 1683 = .ok (.iaload, 1) := dw_16 (pc9 (k := 1664) (j := 19) lDL_52 rfl)
theorem dL_law_1684 : decode cL_law 1684 = .ok (.aload_n 0, 1) := dw_0 (pc9 (k := 1664) (j := 20) lDL_52 rfl)
theorem dL_law_1685 : decode cL_law 1685 = .ok (.iload 5, 2) := dw_39 (pc9 (k := 1664) (j := 21) lDL_52 rfl)
theorem dL_law_1687 : decode cL_law 1687 = .ok (.iconst 2, 1) := dw_260 (pc9 (k := 1664) (j := 23) lDL_52 rfl)
theorem dL_law_1688 : decode cL_law 1688 = .ok (.iadd, 1) := dw_43 (pc9 (k := 1664) (j := 24) lDL_52 rfl)
theorem dL_law_1689 : decode cL_law 1689 = .ok (.iaload, 1) := dw_16 (pc9 (k := 1664) (j := 25) lDL_52 rfl)
theorem dL_law_1690 : decode cL_law 1690 = .ok (.i2l, 1) := dw_498 (pc9 (k := 1664) (j := 26) lDL_52 rfl)
theorem dL_law_1691 : decode cL_law 1691 = .ok (.bipush 32, 2) := dw_2 (pc9 (k := 1664) (j := 27) lDL_52 rfl)
theorem dL_law_1693 : decode cL_law 1693 = .ok (.lshl, 1) := dw_535 (pc9 (k := 1664) (j := 29) lDL_52 rfl)
theorem dL_law_1694 : decode cL_law 1694 = .ok (.aload_n 0, 1) := dw_0 (pc9 (k := 1664) (j := 30) lDL_52 rfl)
theorem dL_law_1695 : decode cL_law 1695 = .ok (.iload 5, 2) := dw_39 (pc9 (k := 1664) (j := 31) lDL_52 rfl)
theorem dL_law_1697 : decode cL_law 1697 = .ok (.iconst 3, 1) := dw_221 (pc9 (k := 1696) (j := 1) lDL_53 rfl)
theorem dL_law_1698 : decode cL_law 1698 = .ok (.iadd, 1) := dw_43 (pc9 (k := 1696) (j := 2) lDL_53 rfl)
theorem dL_law_1699 : decode cL_law 1699 = .ok (.iaload, 1) := dw_16 (pc9 (k := 1696) (j := 3) lDL_53 rfl)
theorem dL_law_1700 : decode cL_law 1700 = .ok (.i2l, 1) := dw_498 (pc9 (k := 1696) (j := 4) lDL_53 rfl)
theorem dL_law_1701 : decode cL_law 1701 = .ok (.ldc2_w 186, 3) := dw_797 (pc9 (k := 1696) (j := 5) lDL_53 rfl)
theorem dL_law_1704 : decode cL_law 1704 = .ok (.land, 1) := dw_161 (pc9 (k := 1696) (j := 8) lDL_53 rfl)
theorem dL_law_1705 : decode cL_law 1705 = .ok (.lor, 1) := dw_572 (pc9 (k := 1696) (j := 9) lDL_53 rfl)
theorem dL_law_1706 : decode cL_law 1706 = .ok (.invokevirtual 312, 3) := dw_726 (pc9 (k := 1696) (j := 10) lDL_53 rfl)
theorem dL_law_1709 : decode cL_law 1709 = .ok (.lstore 7, 2) := dw_737 (pc9 (k := 1696) (j := 13) lDL_53 rfl)
theorem dL_law_1711 : decode cL_law 1711 = .ok (.goto 1041, 3) := dw_889 (pc9 (k := 1696) (j := 15) lDL_53 rfl)
theorem dL_law_1714 : decode cL_law 1714 = .ok (.aload_n 1, 1) := dw_5 (pc9 (k := 1696) (j := 18) lDL_53 rfl)
theorem dL_law_1715 : decode cL_law 1715 = .ok (.aload_n 0, 1) := dw_0 (pc9 (k := 1696) (j := 19) lDL_53 rfl)
theorem dL_law_1716 : decode cL_law 1716 = .ok (.iload 5, 2) := dw_39 (pc9 (k := 1696) (j := 20) lDL_53 rfl)
theorem dL_law_1718 : decode cL_law 1718 = .ok (.iconst 1, 1) := dw_26 (pc9 (k := 1696) (j := 22) lDL_53 rfl)
theorem dL_law_1719 : decode cL_law 1719 = .ok (.iadd, 1) := dw_43 (pc9 (k := 1696) (j := 23) lDL_53 rfl)
theorem dL_law_1720 : decode cL_law 1720 = .ok (.iaload, 1) := dw_16 (pc9 (k := 1696) (j := 24) lDL_53 rfl)
theorem dL_law_1721 : decode cL_law 1721 = .ok (.aload_n 0, 1) := dw_0 (pc9 (k := 1696) (j := 25) lDL_53 rfl)
theorem dL_law_1722 : decode cL_law 1722 = .ok (.iload 5, 2) := dw_39 (pc9 (k := 1696) (j := 26) lDL_53 rfl)
theorem dL_law_1724 : decode cL_law 1724 = .ok (.iconst 2, 1) := dw_260 (pc9 (k := 1696) (j := 28) lDL_53 rfl)
theorem dL_law_1725 : decode cL_law 1725 = .ok (.iadd, 1) := dw_43 (pc9 (k := 1696) (j := 29) lDL_53 rfl)
theorem dL_law_1726 : decode cL_law 1726 = .ok (.iaload, 1) := dw_16 (pc9 (k := 1696) (j := 30) lDL_53 rfl)
theorem dL_law_1727 : decode cL_law 1727 = .ok (.i2l, 1) := dw_498 (pc9 (k := 1696) (j := 31) lDL_53 rfl)
theorem dL_law_1728 : decode cL_law 1728 = .ok (.bipush 32, 2) := dw_2 (pc9 (k := 1728) (j := 0) lDL_54 rfl)
theorem dL_law_1730 : decode cL_law 1730 = .ok (.lshl, 1) := dw_535 (pc9 (k := 1728) (j := 2) lDL_54 rfl)
theorem dL_law_1731 : decode cL_law 1731 = .ok (.aload_n 0, 1) := dw_0 (pc9 (k := 1728) (j := 3) lDL_54 rfl)
theorem dL_law_1732 : decode cL_law 1732 = .ok (.iload 5, 2) := dw_39 (pc9 (k := 1728) (j := 4) lDL_54 rfl)
theorem dL_law_1734 : decode cL_law 1734 = .ok (.iconst 3, 1) := dw_221 (pc9 (k := 1728) (j := 6) lDL_54 rfl)
theorem dL_law_1735 : decode cL_law 1735 = .ok (.iadd, 1) := dw_43 (pc9 (k := 1728) (j := 7) lDL_54 rfl)
theorem dL_law_1736 : decode cL_law 1736 = .ok (.iaload, 1) := dw_16 (pc9 (k := 1728) (j := 8) lDL_54 rfl)
theorem dL_law_1737 : decode cL_law 1737 = .ok (.i2l, 1) := dw_498 (pc9 (k := 1728) (j := 9) lDL_54 rfl)
theorem dL_law_1738 : decode cL_law 1738 = .ok (.ldc2_w 186, 3) := dw_797 (pc9 (k := 1728) (j := 10) lDL_54 rfl)
theorem dL_law_1741 : decode cL_law 1741 = .ok (.land, 1) := dw_161 (pc9 (k := 1728) (j := 13) lDL_54 rfl)
theorem dL_law_1742 : decode cL_law 1742 = .ok (.lor, 1) := dw_572 (pc9 (k := 1728) (j := 14) lDL_54 rfl)
theorem dL_law_1743 : decode cL_law 1743 = .ok (.aload_n 3, 1) := dw_119 (pc9 (k := 1728) (j := 15) lDL_54 rfl)
theorem dL_law_1744 : decode cL_law 1744 = .ok (.invokestatic 313, 3) := dw_890 (pc9 (k := 1728) (j := 16) lDL_54 rfl)
theorem dL_law_1747 : decode cL_law 1747 = .ok (.istore 6, 2) := dw_35 (pc9 (k := 1728) (j := 19) lDL_54 rfl)
theorem dL_law_1749 : decode cL_law 1749 = .ok (.aload_n 2, 1) := dw_52 (pc9 (k := 1728) (j := 21) lDL_54 rfl)
theorem dL_law_1750 : decode cL_law 1750 = .ok (.aload_n 0, 1) := dw_0 (pc9 (k := 1728) (j := 22) lDL_54 rfl)
theorem dL_law_1751 : decode cL_law 1751 = .ok (.iload 5, 2) := dw_39 (pc9 (k := 1728) (j := 23) lDL_54 rfl)
theorem dL_law_1753 : decode cL_law 1753 = .ok (.iconst 1, 1) := dw_26 (pc9 (k := 1728) (j := 25) lDL_54 rfl)
theorem dL_law_1754 : decode cL_law 1754 = .ok (.iadd, 1) := dw_43 (pc9 (k := 1728) (j := 26) lDL_54 rfl)
theorem dL_law_1755 : decode cL_law 1755 = .ok (.iaload, 1) := dw_16 (pc9 (k := 1728) (j := 27) lDL_54 rfl)
theorem dL_law_1756 : decode cL_law 1756 = .ok (.aload_n 0, 1) := dw_0 (pc9 (k := 1728) (j := 28) lDL_54 rfl)
theorem dL_law_1757 : decode cL_law 1757 = .ok (.iload 5, 2) := dw_39 (pc9 (k := 1728) (j := 29) lDL_54 rfl)
theorem dL_law_1759 : decode cL_law 1759 = .ok (.iconst 2, 1) := dw_260 (pc9 (k := 1728) (j := 31) lDL_54 rfl)
theorem dL_law_1760 : decode cL_law 1760 = .ok (.iadd, 1) := dw_43 (pc9 (k := 1760) (j := 0) lDL_55 rfl)
theorem dL_law_1761 : decode cL_law 1761 = .ok (.iaload, 1) := dw_16 (pc9 (k := 1760) (j := 1) lDL_55 rfl)
theorem dL_law_1762 : decode cL_law 1762 = .ok (.i2l, 1) := dw_498 (pc9 (k := 1760) (j := 2) lDL_55 rfl)
theorem dL_law_1763 : decode cL_law 1763 = .ok (.bipush 32, 2) := dw_2 (pc9 (k := 1760) (j := 3) lDL_55 rfl)
theorem dL_law_1765 : decode cL_law 1765 = .ok (.lshl, 1) := dw_535 (pc9 (k := 1760) (j := 5) lDL_55 rfl)
theorem dL_law_1766 : decode cL_law 1766 = .ok (.aload_n 0, 1) := dw_0 (pc9 (k := 1760) (j := 6) lDL_55 rfl)
theorem dL_law_1767 : decode cL_law 1767 = .ok (.iload 5, 2) := dw_39 (pc9 (k := 1760) (j := 7) lDL_55 rfl)
theorem dL_law_1769 : decode cL_law 1769 = .ok (.iconst 3, 1) := dw_221 (pc9 (k := 1760) (j := 9) lDL_55 rfl)
theorem dL_law_1770 : decode cL_law 1770 = .ok (.iadd, 1) := dw_43 (pc9 (k := 1760) (j := 10) lDL_55 rfl)
theorem dL_law_1771 : decode cL_law 1771 = .ok (.iaload, 1) := dw_16 (pc9 (k := 1760) (j := 11) lDL_55 rfl)
theorem dL_law_1772 : decode cL_law 1772 = .ok (.i2l, 1) := dw_498 (pc9 (k := 1760) (j := 12) lDL_55 rfl)
theorem dL_law_1773 : decode cL_law 1773 = .ok (.ldc2_w 186, 3) := dw_797 (pc9 (k := 1760) (j := 13) lDL_55 rfl)
theorem dL_law_1776 : decode cL_law 1776 = .ok (.land, 1) := dw_161 (pc9 (k := 1760) (j := 16) lDL_55 rfl)
theorem dL_law_1777 : decode cL_law 1777 = .ok (.lor, 1) := dw_572 (pc9 (k := 1760) (j := 17) lDL_55 rfl)
theorem dL_law_1778 : decode cL_law 1778 = .ok (.invokevirtual 315, 3) := dw_728 (pc9 (k := 1760) (j := 18) lDL_55 rfl)
theorem dL_law_1781 : decode cL_law 1781 = .ok (.istore 7, 2) := dw_58 (pc9 (k := 1760) (j := 21) lDL_55 rfl)
theorem dL_law_1783 : decode cL_law 1783 = .ok (.goto 969, 3) := dw_891 (pc9 (k := 1760) (j := 23) lDL_55 rfl)
theorem dL_law_1786 : decode cL_law 1786 = .ok (.aload_n 1, 1) := dw_5 (pc9 (k := 1760) (j := 26) lDL_55 rfl)
theorem dL_law_1787 : decode cL_law 1787 = .ok (.aload_n 0, 1) := dw_0 (pc9 (k := 1760) (j := 27) lDL_55 rfl)
theorem dL_law_1788 : decode cL_law 1788 = .ok (.iload 5, 2) := dw_39 (pc9 (k := 1760) (j := 28) lDL_55 rfl)
theorem dL_law_1790 : decode cL_law 1790 = .ok (.iconst 1, 1) := dw_26 (pc9 (k := 1760) (j := 30) lDL_55 rfl)
theorem dL_law_1791 : decode cL_law 1791 = .ok (.iadd, 1) := dw_43 (pc9 (k := 1760) (j := 31) lDL_55 rfl)
theorem dL_law_1792 : decode cL_law 1792 = .ok (.iaload, 1) := dw_16 (pc9 (k := 1792) (j := 0) lDL_56 rfl)
theorem dL_law_1793 : decode cL_law 1793 = .ok (.aload_n 0, 1) := dw_0 (pc9 (k := 1792) (j := 1) lDL_56 rfl)
theorem dL_law_1794 : decode cL_law 1794 = .ok (.iload 5, 2) := dw_39 (pc9 (k := 1792) (j := 2) lDL_56 rfl)
theorem dL_law_1796 : decode cL_law 1796 = .ok (.iconst 2, 1) := dw_260 (pc9 (k := 1792) (j := 4) lDL_56 rfl)
theorem dL_law_1797 : decode cL_law 1797 = .ok (.iadd, 1) := dw_43 (pc9 (k := 1792) (j := 5) lDL_56 rfl)
theorem dL_law_1798 : decode cL_law 1798 = .ok (.iaload, 1) := dw_16 (pc9 (k := 1792) (j := 6) lDL_56 rfl)
theorem dL_law_1799 : decode cL_law 1799 = .ok (.aload_n 3, 1) := dw_119 (pc9 (k := 1792) (j := 7) lDL_56 rfl)
theorem dL_law_1800 : decode cL_law 1800 = .ok (.invokestatic 316, 3) := dw_892 (pc9 (k := 1792) (j := 8) lDL_56 rfl)
theorem dL_law_1803 : decode cL_law 1803 = .ok (.istore 6, 2) := dw_35 (pc9 (k := 1792) (j := 11) lDL_56 rfl)
theorem dL_law_1805 : decode cL_law 1805 = .ok (.aload_n 2, 1) := dw_52 (pc9 (k := 1792) (j := 13) lDL_56 rfl)
theorem dL_law_1806 : decode cL_law 1806 = .ok (.aload_n 0, 1) := dw_0 (pc9 (k := 1792) (j := 14) lDL_56 rfl)
theorem dL_law_1807 : decode cL_law 1807 = .ok (.iload 5, 2) := dw_39 (pc9 (k := 1792) (j := 15) lDL_56 rfl)
theorem dL_law_1809 : decode cL_law 1809 = .ok (.iconst 1, 1) := dw_26 (pc9 (k := 1792) (j := 17) lDL_56 rfl)
theorem dL_law_1810 : decode cL_law 1810 = .ok (.iadd, 1) := dw_43 (pc9 (k := 1792) (j := 18) lDL_56 rfl)
theorem dL_law_1811 : decode cL_law 1811 = .ok (.iaload, 1) := dw_16 (pc9 (k := 1792) (j := 19) lDL_56 rfl)
theorem dL_law_1812 : decode cL_law 1812 = .ok (.aload_n 0, 1) := dw_0 (pc9 (k := 1792) (j := 20) lDL_56 rfl)
theorem dL_law_1813 : decode cL_law 1813 = .ok (.iload 5, 2) := dw_39 (pc9 (k := 1792) (j := 21) lDL_56 rfl)
theorem dL_law_1815 : decode cL_law 1815 = .ok (.iconst 2, 1) := dw_260 (pc9 (k := 1792) (j := 23) lDL_56 rfl)
theorem dL_law_1816 : decode cL_law 1816 = .ok (.iadd, 1) := dw_43 (pc9 (k := 1792) (j := 24) lDL_56 rfl)
theorem dL_law_1817 : decode cL_law 1817 = .ok (.iaload, 1) := dw_16 (pc9 (k := 1792) (j := 25) lDL_56 rfl)
theorem dL_law_1818 : decode cL_law 1818 = .ok (.invokevirtual 318, 3) := dw_730 (pc9 (k := 1792) (j := 26) lDL_56 rfl)
theorem dL_law_1821 : decode cL_law 1821 = .ok (.istore 7, 2) := dw_58 (pc9 (k := 1792) (j := 29) lDL_56 rfl)
theorem dL_law_1823 : decode cL_law 1823 = .ok (.goto 929, 3) := dw_893 (pc9 (k := 1792) (j := 31) lDL_56 rfl)
theorem dL_law_1826 : decode cL_law 1826 = .ok (.aload_n 1, 1) := dw_5 (pc9 (k := 1824) (j := 2) lDL_57 rfl)
theorem dL_law_1827 : decode cL_law 1827 = .ok (.aload_n 0, 1) := dw_0 (pc9 (k := 1824) (j := 3) lDL_57 rfl)
theorem dL_law_1828 : decode cL_law 1828 = .ok (.iload 5, 2) := dw_39 (pc9 (k := 1824) (j := 4) lDL_57 rfl)
theorem dL_law_1830 : decode cL_law 1830 = .ok (.iconst 1, 1) := dw_26 (pc9 (k := 1824) (j := 6) lDL_57 rfl)
theorem dL_law_1831 : decode cL_law 1831 = .ok (.iadd, 1) := dw_43 (pc9 (k := 1824) (j := 7) lDL_57 rfl)
theorem dL_law_1832 : decode cL_law 1832 = .ok (.iaload, 1) := dw_16 (pc9 (k := 1824) (j := 8) lDL_57 rfl)
theorem dL_law_1833 : decode cL_law 1833 = .ok (.aload_n 0, 1) := dw_0 (pc9 (k := 1824) (j := 9) lDL_57 rfl)
theorem dL_law_1834 : decode cL_law 1834 = .ok (.iload 5, 2) := dw_39 (pc9 (k := 1824) (j := 10) lDL_57 rfl)
theorem dL_law_1836 : decode cL_law 1836 = .ok (.iconst 2, 1) := dw_260 (pc9 (k := 1824) (j := 12) lDL_57 rfl)
theorem dL_law_1837 : decode cL_law 1837 = .ok (.iadd, 1) := dw_43 (pc9 (k := 1824) (j := 13) lDL_57 rfl)
theorem dL_law_1838 : decode cL_law 1838 = .ok (.iaload, 1) := dw_16 (pc9 (k := 1824) (j := 14) lDL_57 rfl)
theorem dL_law_1839 : decode cL_law 1839 = .ok (.aload_n 0, 1) := dw_0 (pc9 (k := 1824) (j := 15) lDL_57 rfl)
theorem dL_law_1840 : decode cL_law 1840 = .ok (.iload 5, 2) := dw_39 (pc9 (k := 1824) (j := 16) lDL_57 rfl)
theorem dL_law_1842 : decode cL_law 1842 = .ok (.iconst 3, 1) := dw_221 (pc9 (k := 1824) (j := 18) lDL_57 rfl)
theorem dL_law_1843 : decode cL_law 1843 = .ok (.iadd, 1) := dw_43 (pc9 (k := 1824) (j := 19) lDL_57 rfl)
theorem dL_law_1844 : decode cL_law 1844 = .ok (.iaload, 1) := dw_16 (pc9 (k := 1824) (j := 20) lDL_57 rfl)
theorem dL_law_1845 : decode cL_law 1845 = .ok (.aload_n 0, 1) := dw_0 (pc9 (k := 1824) (j := 21) lDL_57 rfl)
theorem dL_law_1846 : decode cL_law 1846 = .ok (.iload 5, 2) := dw_39 (pc9 (k := 1824) (j := 22) lDL_57 rfl)
theorem dL_law_1848 : decode cL_law 1848 = .ok (.iconst 4, 1) := dw_280 (pc9 (k := 1824) (j := 24) lDL_57 rfl)
theorem dL_law_1849 : decode cL_law 1849 = .ok (.iadd, 1) := dw_43 (pc9 (k := 1824) (j := 25) lDL_57 rfl)
theorem dL_law_1850 : decode cL_law 1850 = .ok (.iaload, 1) := dw_16 (pc9 (k := 1824) (j := 26) lDL_57 rfl)
theorem dL_law_1851 : decode cL_law 1851 = .ok (.ifCond .eq 7, 3) := dw_227 (pc9 (k := 1824) (j := 27) lDL_57 rfl)
theorem dL_law_1854 : decode cL_law 1854 = .ok (.iconst 1, 1) := dw_26 (pc9 (k := 1824) (j := 30) lDL_57 rfl)
theorem dL_law_1855 : decode cL_law 1855 = .ok (.goto 4, 3) := dw_84 (pc9 (k := 1824) (j := 31) lDL_57 rfl)
theorem dL_law_1858 : decode cL_law 1858 = .ok (.iconst 0, 1) := dw_6 (pc9 (k := 1856) (j := 2) lDL_58 rfl)
theorem dL_law_1859 : decode cL_law 1859 = .ok (.aload_n 3, 1) := dw_119 (pc9 (k := 1856) (j := 3) lDL_58 rfl)
theorem dL_law_1860 : decode cL_law 1860 = .ok (.invokestatic 319, 3) := dw_894 (pc9 (k := 1856) (j := 4) lDL_58 rfl)
theorem dL_law_1863 : decode cL_law 1863 = .ok (.istore 6, 2) := dw_35 (pc9 (k := 1856) (j := 7) lDL_58 rfl)
theorem dL_law_1865 : decode cL_law 1865 = .ok (.aload_n 2, 1) := dw_52 (pc9 (k := 1856) (j := 9) lDL_58 rfl)
theorem dL_law_1866 : decode cL_law 1866 = .ok (.aload_n 0, 1) := dw_0 (pc9 (k := 1856) (j := 10) lDL_58 rfl)
theorem dL_law_1867 : decode cL_law 1867 = .ok (.iload 5, 2) := dw_39 (pc9 (k := 1856) (j := 11) lDL_58 rfl)
theorem dL_law_1869 : decode cL_law 1869 = .ok (.iconst 1, 1) := dw_26 (pc9 (k := 1856) (j := 13) lDL_58 rfl)
theorem dL_law_1870 : decode cL_law 1870 = .ok (.iadd, 1) := dw_43 (pc9 (k := 1856) (j := 14) lDL_58 rfl)
theorem dL_law_1871 : decode cL_law 1871 = .ok (.iaload, 1) := dw_16 (pc9 (k := 1856) (j := 15) lDL_58 rfl)
theorem dL_law_1872 : decode cL_law 1872 = .ok (.aload_n 0, 1) := dw_0 (pc9 (k := 1856) (j := 16) lDL_58 rfl)
theorem dL_law_1873 : decode cL_law 1873 = .ok (.iload 5, 2) := dw_39 (pc9 (k := 1856) (j := 17) lDL_58 rfl)
theorem dL_law_1875 : decode cL_law 1875 = .ok (.iconst 2, 1) := dw_260 (pc9 (k := 1856) (j := 19) lDL_58 rfl)
theorem dL_law_1876 : decode cL_law 1876 = .ok (.iadd, 1) := dw_43 (pc9 (k := 1856) (j := 20) lDL_58 rfl)
theorem dL_law_1877 : decode cL_law 1877 = .ok (.iaload, 1) := dw_16 (pc9 (k := 1856) (j := 21) lDL_58 rfl)
theorem dL_law_1878 : decode cL_law 1878 = .ok (.aload_n 0, 1) := dw_0 (pc9 (k := 1856) (j := 22) lDL_58 rfl)
theorem dL_law_1879 : decode cL_law 1879 = .ok (.iload 5, 2) := dw_39 (pc9 (k := 1856) (j := 23) lDL_58 rfl)
theorem dL_law_1881 : decode cL_law 1881 = .ok (.iconst 3, 1) := dw_221 (pc9 (k := 1856) (j := 25) lDL_58 rfl)
theorem dL_law_1882 : decode cL_law 1882 = .ok (.iadd, 1) := dw_43 (pc9 (k := 1856) (j := 26) lDL_58 rfl)
theorem dL_law_1883 : decode cL_law 1883 = .ok (.iaload, 1) := dw_16 (pc9 (k := 1856) (j := 27) lDL_58 rfl)
theorem dL_law_1884 : decode cL_law 1884 = .ok (.aload_n 0, 1) := dw_0 (pc9 (k := 1856) (j := 28) lDL_58 rfl)
theorem dL_law_1885 : decode cL_law 1885 = .ok (.iload 5, 2) := dw_39 (pc9 (k := 1856) (j := 29) lDL_58 rfl)
theorem dL_law_1887 : decode cL_law 1887 = .ok (.iconst 4, 1) := dw_280 (pc9 (k := 1856) (j := 31) lDL_58 rfl)
theorem dL_law_1888 : decode cL_law 1888 = .ok (.iadd, 1) := dw_43 (pc9 (k := 1888) (j := 0) lDL_59 rfl)
theorem dL_law_1889 : decode cL_law 1889 = .ok (.iaload, 1) := dw_16 (pc9 (k := 1888) (j := 1) lDL_59 rfl)
theorem dL_law_1890 : decode cL_law 1890 = .ok (.ifCond .eq 7, 3) := dw_227 (pc9 (k := 1888) (j := 2) lDL_59 rfl)
theorem dL_law_1893 : decode cL_law 1893 = .ok (.iconst 1, 1) := dw_26 (pc9 (k := 1888) (j := 5) lDL_59 rfl)
theorem dL_law_1894 : decode cL_law 1894 = .ok (.goto 4, 3) := dw_84 (pc9 (k := 1888) (j := 6) lDL_59 rfl)
theorem dL_law_1897 : decode cL_law 1897 = .ok (.iconst 0, 1) := dw_6 (pc9 (k := 1888) (j := 9) lDL_59 rfl)
theorem dL_law_1898 : decode cL_law 1898 = .ok (.invokevirtual 322, 3) := dw_731 (pc9 (k := 1888) (j := 10) lDL_59 rfl)
theorem dL_law_1901 : decode cL_law 1901 = .ok (.istore 7, 2) := dw_58 (pc9 (k := 1888) (j := 13) lDL_59 rfl)
theorem dL_law_1903 : decode cL_law 1903 = .ok (.goto 849, 3) := dw_895 (pc9 (k := 1888) (j := 15) lDL_59 rfl)
theorem dL_law_1906 : decode cL_law 1906 = .ok (.aload_n 1, 1) := dw_5 (pc9 (k := 1888) (j := 18) lDL_59 rfl)
theorem dL_law_1907 : decode cL_law 1907 = .ok (.aload_n 0, 1) := dw_0 (pc9 (k := 1888) (j := 19) lDL_59 rfl)
theorem dL_law_1908 : decode cL_law 1908 = .ok (.iload 5, 2) := dw_39 (pc9 (k := 1888) (j := 20) lDL_59 rfl)
theorem dL_law_1910 : decode cL_law 1910 = .ok (.iconst 1, 1) := dw_26 (pc9 (k := 1888) (j := 22) lDL_59 rfl)
theorem dL_law_1911 : decode cL_law 1911 = .ok (.iadd, 1) := dw_43 (pc9 (k := 1888) (j := 23) lDL_59 rfl)
theorem dL_law_1912 : decode cL_law 1912 = .ok (.iaload, 1) := dw_16 (pc9 (k := 1888) (j := 24) lDL_59 rfl)
theorem dL_law_1913 : decode cL_law 1913 = .ok (.aload_n 0, 1) := dw_0 (pc9 (k := 1888) (j := 25) lDL_59 rfl)
theorem dL_law_1914 : decode cL_law 1914 = .ok (.iload 5, 2) := dw_39 (pc9 (k := 1888) (j := 26) lDL_59 rfl)
theorem dL_law_1916 : decode cL_law 1916 = .ok (.iconst 2, 1) := dw_260 (pc9 (k := 1888) (j := 28) lDL_59 rfl)
theorem dL_law_1917 : decode cL_law 1917 = .ok (.iadd, 1) := dw_43 (pc9 (k := 1888) (j := 29) lDL_59 rfl)
theorem dL_law_1918 : decode cL_law 1918 = .ok (.iaload, 1) := dw_16 (pc9 (k := 1888) (j := 30) lDL_59 rfl)
theorem dL_law_1919 : decode cL_law 1919 = .ok (.aload_n 0, 1) := dw_0 (pc9 (k := 1888) (j := 31) lDL_59 rfl)
theorem dL_law_1920 : decode cL_law 1920 = .ok (.iload 5, 2) := dw_39 (pc9 (k := 1920) (j := 0) lDL_60 rfl)
theorem dL_law_1922 : decode cL_law 1922 = .ok (.iconst 3, 1) := dw_221 (pc9 (k := 1920) (j := 2) lDL_60 rfl)
theorem dL_law_1923 : decode cL_law 1923 = .ok (.iadd, 1) := dw_43 (pc9 (k := 1920) (j := 3) lDL_60 rfl)
theorem dL_law_1924 : decode cL_law 1924 = .ok (.iaload, 1) := dw_16 (pc9 (k := 1920) (j := 4) lDL_60 rfl)
theorem dL_law_1925 : decode cL_law 1925 = .ok (.i2l, 1) := dw_498 (pc9 (k := 1920) (j := 5) lDL_60 rfl)
theorem dL_law_1926 : decode cL_law 1926 = .ok (.bipush 32, 2) := dw_2 (pc9 (k := 1920) (j := 6) lDL_60 rfl)
theorem dL_law_1928 : decode cL_law 1928 = .ok (.lshl, 1) := dw_535 (pc9 (k := 1920) (j := 8) lDL_60 rfl)
theorem dL_law_1929 : decode cL_law 1929 = .ok (.aload_n 0, 1) := dw_0 (pc9 (k := 1920) (j := 9) lDL_60 rfl)
theorem dL_law_1930 : decode cL_law 1930 = .ok (.iload 5, 2) := dw_39 (pc9 (k := 1920) (j := 10) lDL_60 rfl)
theorem dL_law_1932 : decode cL_law 1932 = .ok (.iconst 4, 1) := dw_280 (pc9 (k := 1920) (j := 12) lDL_60 rfl)
theorem dL_law_1933 : decode cL_law 1933 = .ok (.iadd, 1) := dw_43 (pc9 (k := 1920) (j := 13) lDL_60 rfl)
theorem dL_law_1934 : decode cL_law 1934 = .ok (.iaload, 1) := dw_16 (pc9 (k := 1920) (j := 14) lDL_60 rfl)
theorem dL_law_1935 : decode cL_law 1935 = .ok (.i2l, 1) := dw_498 (pc9 (k := 1920) (j := 15) lDL_60 rfl)
theorem dL_law_1936 : decode cL_law 1936 = .ok (.ldc2_w 186, 3) := dw_797 (pc9 (k := 1920) (j := 16) lDL_60 rfl)
theorem dL_law_1939 : decode cL_law 1939 = .ok (.land, 1) := dw_161 (pc9 (k := 1920) (j := 19) lDL_60 rfl)
theorem dL_law_1940 : decode cL_law 1940 = .ok (.lor, 1) := dw_572 (pc9 (k := 1920) (j := 20) lDL_60 rfl)
theorem dL_law_1941 : decode cL_law 1941 = .ok (.aload_n 3, 1) := dw_119 (pc9 (k := 1920) (j := 21) lDL_60 rfl)
theorem dL_law_1942 : decode cL_law 1942 = .ok (.invokestatic 323, 3) := dw_896 (pc9 (k := 1920) (j := 22) lDL_60 rfl)
theorem dL_law_1945 : decode cL_law 1945 = .ok (.istore 6, 2) := dw_35 (pc9 (k := 1920) (j := 25) lDL_60 rfl)
theorem dL_law_1947 : decode cL_law 1947 = .ok (.aload_n 2, 1) := dw_52 (pc9 (k := 1920) (j := 27) lDL_60 rfl)
theorem dL_law_1948 : decode cL_law 1948 = .ok (.aload_n 0, 1) := dw_0 (pc9 (k := 1920) (j := 28) lDL_60 rfl)
theorem dL_law_1949 : decode cL_law 1949 = .ok (.iload 5, 2) := dw_39 (pc9 (k := 1920) (j := 29) lDL_60 rfl)
theorem dL_law_1951 : decode cL_law 1951 = .ok (.iconst 1, 1) := dw_26 (pc9 (k := 1920) (j := 31) lDL_60 rfl)
theorem dL_law_1952 : decode cL_law 1952 = .ok (.iadd, 1) := dw_43 (pc9 (k := 1952) (j := 0) lDL_61 rfl)
theorem dL_law_1953 : decode cL_law 1953 = .ok (.iaload, 1) := dw_16 (pc9 (k := 1952) (j := 1) lDL_61 rfl)
theorem dL_law_1954 : decode cL_law 1954 = .ok (.aload_n 0, 1) := dw_0 (pc9 (k := 1952) (j := 2) lDL_61 rfl)
theorem dL_law_1955 : decode cL_law 1955 = .ok (.iload 5, 2) := dw_39 (pc9 (k := 1952) (j := 3) lDL_61 rfl)
theorem dL_law_1957 : decode cL_law 1957 = .ok (.iconst 2, 1) := dw_260 (pc9 (k := 1952) (j := 5) lDL_61 rfl)
theorem dL_law_1958 : decode cL_law 1958 = .ok (.iadd, 1) := dw_43 (pc9 (k := 1952) (j := 6) lDL_61 rfl)
theorem dL_law_1959 : decode cL_law 1959 = .ok (.iaload, 1) := dw_16 (pc9 (k := 1952) (j := 7) lDL_61 rfl)
theorem dL_law_1960 : decode cL_law 1960 = .ok (.aload_n 0, 1) := dw_0 (pc9 (k := 1952) (j := 8) lDL_61 rfl)
theorem dL_law_1961 : decode cL_law 1961 = .ok (.iload 5, 2) := dw_39 (pc9 (k := 1952) (j := 9) lDL_61 rfl)
theorem dL_law_1963 : decode cL_law 1963 = .ok (.iconst 3, 1) := dw_221 (pc9 (k := 1952) (j := 11) lDL_61 rfl)
theorem dL_law_1964 : decode cL_law 1964 = .ok (.iadd, 1) := dw_43 (pc9 (k := 1952) (j := 12) lDL_61 rfl)
theorem dL_law_1965 : decode cL_law 1965 = .ok (.iaload, 1) := dw_16 (pc9 (k := 1952) (j := 13) lDL_61 rfl)
theorem dL_law_1966 : decode cL_law 1966 = .ok (.i2l, 1) := dw_498 (pc9 (k := 1952) (j := 14) lDL_61 rfl)
theorem dL_law_1967 : decode cL_law 1967 = .ok (.bipush 32, 2) := dw_2 (pc9 (k := 1952) (j := 15) lDL_61 rfl)
theorem dL_law_1969 : decode cL_law 1969 = .ok (.lshl, 1) := dw_535 (pc9 (k := 1952) (j := 17) lDL_61 rfl)
theorem dL_law_1970 : decode cL_law 1970 = .ok (.aload_n 0, 1) := dw_0 (pc9 (k := 1952) (j := 18) lDL_61 rfl)
theorem dL_law_1971 : decode cL_law 1971 = .ok (.iload 5, 2) := dw_39 (pc9 (k := 1952) (j := 19) lDL_61 rfl)
theorem dL_law_1973 : decode cL_law 1973 = .ok (.iconst 4, 1) := dw_280 (pc9 (k := 1952) (j := 21) lDL_61 rfl)
theorem dL_law_1974 : decode cL_law 1974 = .ok (.iadd, 1) := dw_43 (pc9 (k := 1952) (j := 22) lDL_61 rfl)
theorem dL_law_1975 : decode cL_law 1975 = .ok (.iaload, 1) := dw_16 (pc9 (k := 1952) (j := 23) lDL_61 rfl)
theorem dL_law_1976 : decode cL_law 1976 = .ok (.i2l, 1) := dw_498 (pc9 (k := 1952) (j := 24) lDL_61 rfl)
theorem dL_law_1977 : decode cL_law 1977 = .ok (.ldc2_w 186, 3) := dw_797 (pc9 (k := 1952) (j := 25) lDL_61 rfl)
theorem dL_law_1980 : decode cL_law 1980 = .ok (.land, 1) := dw_161 (pc9 (k := 1952) (j := 28) lDL_61 rfl)
theorem dL_law_1981 : decode cL_law 1981 = .ok (.lor, 1) := dw_572 (pc9 (k := 1952) (j := 29) lDL_61 rfl)
theorem dL_law_1982 : decode cL_law 1982 = .ok (.invokevirtual 326, 3) := dw_897 (pc9 (k := 1952) (j := 30) lDL_61 rfl)
theorem dL_law_1985 : decode cL_law 1985 = .ok (.istore 7, 2) := dw_58 (pc9 (k := 1984) (j := 1) lDL_62 rfl)
theorem dL_law_1987 : decode cL_law 1987 = .ok (.goto 765, 3) := dw_898 (pc9 (k := 1984) (j := 3) lDL_62 rfl)
theorem dL_law_1990 : decode cL_law 1990 = .ok (.aload_n 1, 1) := dw_5 (pc9 (k := 1984) (j := 6) lDL_62 rfl)
theorem dL_law_1991 : decode cL_law 1991 = .ok (.aload_n 0, 1) := dw_0 (pc9 (k := 1984) (j := 7) lDL_62 rfl)
theorem dL_law_1992 : decode cL_law 1992 = .ok (.iload 5, 2) := dw_39 (pc9 (k := 1984) (j := 8) lDL_62 rfl)
theorem dL_law_1994 : decode cL_law 1994 = .ok (.iconst 1, 1) := dw_26 (pc9 (k := 1984) (j := 10) lDL_62 rfl)
theorem dL_law_1995 : decode cL_law 1995 = .ok (.iadd, 1) := dw_43 (pc9 (k := 1984) (j := 11) lDL_62 rfl)
theorem dL_law_1996 : decode cL_law 1996 = .ok (.iaload, 1) := dw_16 (pc9 (k := 1984) (j := 12) lDL_62 rfl)
theorem dL_law_1997 : decode cL_law 1997 = .ok (.aload_n 0, 1) := dw_0 (pc9 (k := 1984) (j := 13) lDL_62 rfl)
theorem dL_law_1998 : decode cL_law 1998 = .ok (.iload 5, 2) := dw_39 (pc9 (k := 1984) (j := 14) lDL_62 rfl)
theorem dL_law_2000 : decode cL_law 2000 = .ok (.iconst 2, 1) := dw_260 (pc9 (k := 1984) (j := 16) lDL_62 rfl)
theorem dL_law_2001 : decode cL_law 2001 = .ok (.iadd, 1) := dw_43 (pc9 (k := 1984) (j := 17) lDL_62 rfl)
theorem dL_law_2002 : decode cL_law 2002 = .ok (.iaload, 1) := dw_16 (pc9 (k := 1984) (j := 18) lDL_62 rfl)
theorem dL_law_2003 : decode cL_law 2003 = .ok (.aload_n 3, 1) := dw_119 (pc9 (k := 1984) (j := 19) lDL_62 rfl)
theorem dL_law_2004 : decode cL_law 2004 = .ok (.invokestatic 327, 3) := dw_899 (pc9 (k := 1984) (j := 20) lDL_62 rfl)
theorem dL_law_2007 : decode cL_law 2007 = .ok (.istore 6, 2) := dw_35 (pc9 (k := 1984) (j := 23) lDL_62 rfl)
theorem dL_law_2009 : decode cL_law 2009 = .ok (.aload_n 2, 1) := dw_52 (pc9 (k := 1984) (j := 25) lDL_62 rfl)
theorem dL_law_2010 : decode cL_law 2010 = .ok (.aload_n 0, 1) := dw_0 (pc9 (k := 1984) (j := 26) lDL_62 rfl)
theorem dL_law_2011 : decode cL_law 2011 = .ok (.iload 5, 2) := dw_39 (pc9 (k := 1984) (j := 27) lDL_62 rfl)
theorem dL_law_2013 : decode cL_law 2013 = .ok (.iconst 1, 1) := dw_26 (pc9 (k := 1984) (j := 29) lDL_62 rfl)
theorem dL_law_2014 : decode cL_law 2014 = .ok (.iadd, 1) := dw_43 (pc9 (k := 1984) (j := 30) lDL_62 rfl)
theorem dL_law_2015 : decode cL_law 2015 = .ok (.iaload, 1) := dw_16 (pc9 (k := 1984) (j := 31) lDL_62 rfl)
theorem dL_law_2016 : decode cL_law 2016 = .ok (.aload_n 0, 1) := dw_0 (pc9 (k := 2016) (j := 0) lDL_63 rfl)
theorem dL_law_2017 : decode cL_law 2017 = .ok (.iload 5, 2) := dw_39 (pc9 (k := 2016) (j := 1) lDL_63 rfl)
theorem dL_law_2019 : decode cL_law 2019 = .ok (.iconst 2, 1) := dw_260 (pc9 (k := 2016) (j := 3) lDL_63 rfl)
theorem dL_law_2020 : decode cL_law 2020 = .ok (.iadd, 1) := dw_43 (pc9 (k := 2016) (j := 4) lDL_63 rfl)
theorem dL_law_2021 : decode cL_law 2021 = .ok (.iaload, 1) := dw_16 (pc9 (k := 2016) (j := 5) lDL_63 rfl)
theorem dL_law_2022 : decode cL_law 2022 = .ok (.invokevirtual 329, 3) := dw_900 (pc9 (k := 2016) (j := 6) lDL_63 rfl)
theorem dL_law_2025 : decode cL_law 2025 = .ok (.istore 7, 2) := dw_58 (pc9 (k := 2016) (j := 9) lDL_63 rfl)
theorem dL_law_2027 : decode cL_law 2027 = .ok (.goto 725, 3) := dw_901 (pc9 (k := 2016) (j := 11) lDL_63 rfl)
theorem dL_law_2030 : decode cL_law 2030 = .ok (.aload_n 1, 1) := dw_5 (pc9 (k := 2016) (j := 14) lDL_63 rfl)
theorem dL_law_2031 : decode cL_law 2031 = .ok (.aload_n 0, 1) := dw_0 (pc9 (k := 2016) (j := 15) lDL_63 rfl)
theorem dL_law_2032 : decode cL_law 2032 = .ok (.iload 5, 2) := dw_39 (pc9 (k := 2016) (j := 16) lDL_63 rfl)
theorem dL_law_2034 : decode cL_law 2034 = .ok (.iconst 1, 1) := dw_26 (pc9 (k := 2016) (j := 18) lDL_63 rfl)
theorem dL_law_2035 : decode cL_law 2035 = .ok (.iadd, 1) := dw_43 (pc9 (k := 2016) (j := 19) lDL_63 rfl)
theorem dL_law_2036 : decode cL_law 2036 = .ok (.iaload, 1) := dw_16 (pc9 (k := 2016) (j := 20) lDL_63 rfl)
theorem dL_law_2037 : decode cL_law 2037 = .ok (.aload_n 0, 1) := dw_0 (pc9 (k := 2016) (j := 21) lDL_63 rfl)
theorem dL_law_2038 : decode cL_law 2038 = .ok (.iload 5, 2) := dw_39 (pc9 (k := 2016) (j := 22) lDL_63 rfl)
theorem dL_law_2040 : decode cL_law 2040 = .ok (.iconst 2, 1) := dw_260 (pc9 (k := 2016) (j := 24) lDL_63 rfl)
theorem dL_law_2041 : decode cL_law 2041 = .ok (.iadd, 1) := dw_43 (pc9 (k := 2016) (j := 25) lDL_63 rfl)
theorem dL_law_2042 : decode cL_law 2042 = .ok (.iaload, 1) := dw_16 (pc9 (k := 2016) (j := 26) lDL_63 rfl)
theorem dL_law_2043 : decode cL_law 2043 = .ok (.aload_n 3, 1) := dw_119 (pc9 (k := 2016) (j := 27) lDL_63 rfl)
theorem dL_law_2044 : decode cL_law 2044 = .ok (.invokestatic 330, 3) := dw_902 (pc9 (k := 2016) (j := 28) lDL_63 rfl)
theorem dL_law_2047 : decode cL_law 2047 = .ok (.istore 6, 2) := dw_35 (pc9 (k := 2016) (j := 31) lDL_63 rfl)
theorem dL_law_2049 : decode cL_law 2049 = .ok (.aload_n 2, 1) := dw_52 (pc9 (k := 2048) (j := 1) lDL_64 rfl)
theorem dL_law_2050 : decode cL_law 2050 = .ok (.aload_n 0, 1) := dw_0 (pc9 (k := 2048) (j := 2) lDL_64 rfl)
theorem dL_law_2051 : decode cL_law 2051 = .ok (.iload 5, 2) := dw_39 (pc9 (k := 2048) (j := 3) lDL_64 rfl)
theorem dL_law_2053 : decode cL_law 2053 = .ok (.iconst 1, 1) := dw_26 (pc9 (k := 2048) (j := 5) lDL_64 rfl)
theorem dL_law_2054 : decode cL_law 2054 = .ok (.iadd, 1) := dw_43 (pc9 (k := 2048) (j := 6) lDL_64 rfl)
theorem dL_law_2055 : decode cL_law 2055 = .ok (.iaload, 1) := dw_16 (pc9 (k := 2048) (j := 7) lDL_64 rfl)
theorem dL_law_2056 : decode cL_law 2056 = .ok (.aload_n 0, 1) := dw_0 (pc9 (k := 2048) (j := 8) lDL_64 rfl)
theorem dL_law_2057 : decode cL_law 2057 = .ok (.iload 5, 2) := dw_39 (pc9 (k := 2048) (j := 9) lDL_64 rfl)
theorem dL_law_2059 : decode cL_law 2059 = .ok (.iconst 2, 1) := dw_260 (pc9 (k := 2048) (j := 11) lDL_64 rfl)
theorem dL_law_2060 : decode cL_law 2060 = .ok (.iadd, 1) := dw_43 (pc9 (k := 2048) (j := 12) lDL_64 rfl)
theorem dL_law_2061 : decode cL_law 2061 = .ok (.iaload, 1) := dw_16 (pc9 (k := 2048) (j := 13) lDL_64 rfl)
theorem dL_law_2062 : decode cL_law 2062 = .ok (.invokevirtual 332, 3) := dw_903 (pc9 (k := 2048) (j := 14) lDL_64 rfl)
theorem dL_law_2065 : decode cL_law 2065 = .ok (.istore 7, 2) := dw_58 (pc9 (k := 2048) (j := 17) lDL_64 rfl)
theorem dL_law_2067 : decode cL_law 2067 = .ok (.goto 685, 3) := dw_904 (pc9 (k := 2048) (j := 19) lDL_64 rfl)
theorem dL_law_2070 : decode cL_law 2070 = .ok (.aload_n 1, 1) := dw_5 (pc9 (k := 2048) (j := 22) lDL_64 rfl)
theorem dL_law_2071 : decode cL_law 2071 = .ok (.aload_n 0, 1) := dw_0 (pc9 (k := 2048) (j := 23) lDL_64 rfl)
theorem dL_law_2072 : decode cL_law 2072 = .ok (.iload 5, 2) := dw_39 (pc9 (k := 2048) (j := 24) lDL_64 rfl)
theorem dL_law_2074 : decode cL_law 2074 = .ok (.iconst 1, 1) := dw_26 (pc9 (k := 2048) (j := 26) lDL_64 rfl)
theorem dL_law_2075 : decode cL_law 2075 = .ok (.iadd, 1) := dw_43 (pc9 (k := 2048) (j := 27) lDL_64 rfl)
theorem dL_law_2076 : decode cL_law 2076 = .ok (.iaload, 1) := dw_16 (pc9 (k := 2048) (j := 28) lDL_64 rfl)
theorem dL_law_2077 : decode cL_law 2077 = .ok (.aload_n 0, 1) := dw_0 (pc9 (k := 2048) (j := 29) lDL_64 rfl)
theorem dL_law_2078 : decode cL_law 2078 = .ok (.iload 5, 2) := dw_39 (pc9 (k := 2048) (j := 30) lDL_64 rfl)
theorem dL_law_2080 : decode cL_law 2080 = .ok (.iconst 2, 1) := dw_260 (pc9 (k := 2080) (j := 0) lDL_65 rfl)
theorem dL_law_2081 : decode cL_law 2081 = .ok (.iadd, 1) := dw_43 (pc9 (k := 2080) (j := 1) lDL_65 rfl)
theorem dL_law_2082 : decode cL_law 2082 = .ok (.iaload, 1) := dw_16 (pc9 (k := 2080) (j := 2) lDL_65 rfl)
theorem dL_law_2083 : decode cL_law 2083 = .ok (.aload_n 0, 1) := dw_0 (pc9 (k := 2080) (j := 3) lDL_65 rfl)
theorem dL_law_2084 : decode cL_law 2084 = .ok (.iload 5, 2) := dw_39 (pc9 (k := 2080) (j := 4) lDL_65 rfl)
theorem dL_law_2086 : decode cL_law 2086 = .ok (.iconst 3, 1) := dw_221 (pc9 (k := 2080) (j := 6) lDL_65 rfl)
theorem dL_law_2087 : decode cL_law 2087 = .ok (.iadd, 1) := dw_43 (pc9 (k := 2080) (j := 7) lDL_65 rfl)
theorem dL_law_2088 : decode cL_law 2088 = .ok (.iaload, 1) := dw_16 (pc9 (k := 2080) (j := 8) lDL_65 rfl)
theorem dL_law_2089 : decode cL_law 2089 = .ok (.aload_n 0, 1) := dw_0 (pc9 (k := 2080) (j := 9) lDL_65 rfl)
theorem dL_law_2090 : decode cL_law 2090 = .ok (.iload 5, 2) := dw_39 (pc9 (k := 2080) (j := 10) lDL_65 rfl)
theorem dL_law_2092 : decode cL_law 2092 = .ok (.iconst 4, 1) := dw_280 (pc9 (k := 2080) (j := 12) lDL_65 rfl)
theorem dL_law_2093 : decode cL_law 2093 = .ok (.iadd, 1) := dw_43 (pc9 (k := 2080) (j := 13) lDL_65 rfl)
theorem dL_law_2094 : decode cL_law 2094 = .ok (.iaload, 1) := dw_16 (pc9 (k := 2080) (j := 14) lDL_65 rfl)
theorem dL_law_2095 : decode cL_law 2095 = .ok (.aload_n 3, 1) := dw_119 (pc9 (k := 2080) (j := 15) lDL_65 rfl)
theorem dL_law_2096 : decode cL_law 2096 = .ok (.invokestatic 333, 3) := dw_905 (pc9 (k := 2080) (j := 16) lDL_65 rfl)
theorem dL_law_2099 : decode cL_law 2099 = .ok (.istore 6, 2) := dw_35 (pc9 (k := 2080) (j := 19) lDL_65 rfl)
theorem dL_law_2101 : decode cL_law 2101 = .ok (.aload_n 2, 1) := dw_52 (pc9 (k := 2080) (j := 21) lDL_65 rfl)
theorem dL_law_2102 : decode cL_law 2102 = .ok (.aload_n 0, 1) := dw_0 (pc9 (k := 2080) (j := 22) lDL_65 rfl)
theorem dL_law_2103 : decode cL_law 2103 = .ok (.iload 5, 2) := dw_39 (pc9 (k := 2080) (j := 23) lDL_65 rfl)
theorem dL_law_2105 : decode cL_law 2105 = .ok (.iconst 1, 1) := dw_26 (pc9 (k := 2080) (j := 25) lDL_65 rfl)
theorem dL_law_2106 : decode cL_law 2106 = .ok (.iadd, 1) := dw_43 (pc9 (k := 2080) (j := 26) lDL_65 rfl)
theorem dL_law_2107 : decode cL_law 2107 = .ok (.iaload, 1) := dw_16 (pc9 (k := 2080) (j := 27) lDL_65 rfl)
theorem dL_law_2108 : decode cL_law 2108 = .ok (.aload_n 0, 1) := dw_0 (pc9 (k := 2080) (j := 28) lDL_65 rfl)
theorem dL_law_2109 : decode cL_law 2109 = .ok (.iload 5, 2) := dw_39 (pc9 (k := 2080) (j := 29) lDL_65 rfl)
theorem dL_law_2111 : decode cL_law 2111 = .ok (.iconst 2, 1) := dw_260 (pc9 (k := 2080) (j := 31) lDL_65 rfl)
theorem dL_law_2112 : decode cL_law 2112 = .ok (.iadd, 1) := dw_43 (pc9 (k := 2112) (j := 0) lDL_66 rfl)
theorem dL_law_2113 : decode cL_law 2113 = .ok (.iaload, 1) := dw_16 (pc9 (k := 2112) (j := 1) lDL_66 rfl)
theorem dL_law_2114 : decode cL_law 2114 = .ok (.aload_n 0, 1) := dw_0 (pc9 (k := 2112) (j := 2) lDL_66 rfl)
theorem dL_law_2115 : decode cL_law 2115 = .ok (.iload 5, 2) := dw_39 (pc9 (k := 2112) (j := 3) lDL_66 rfl)
theorem dL_law_2117 : decode cL_law 2117 = .ok (.iconst 3, 1) := dw_221 (pc9 (k := 2112) (j := 5) lDL_66 rfl)
theorem dL_law_2118 : decode cL_law 2118 = .ok (.iadd, 1) := dw_43 (pc9 (k := 2112) (j := 6) lDL_66 rfl)
theorem dL_law_2119 : decode cL_law 2119 = .ok (.iaload, 1) := dw_16 (pc9 (k := 2112) (j := 7) lDL_66 rfl)
theorem dL_law_2120 : decode cL_law 2120 = .ok (.aload_n 0, 1) := dw_0 (pc9 (k := 2112) (j := 8) lDL_66 rfl)
theorem dL_law_2121 : decode cL_law 2121 = .ok (.iload 5, 2) := dw_39 (pc9 (k := 2112) (j := 9) lDL_66 rfl)
theorem dL_law_2123 : decode cL_law 2123 = .ok (.iconst 4, 1) := dw_280 (pc9 (k := 2112) (j := 11) lDL_66 rfl)
theorem dL_law_2124 : decode cL_law 2124 = .ok (.iadd, 1) := dw_43 (pc9 (k := 2112) (j := 12) lDL_66 rfl)
theorem dL_law_2125 : decode cL_law 2125 = .ok (.iaload, 1) := dw_16 (pc9 (k := 2112) (j := 13) lDL_66 rfl)
theorem dL_law_2126 : decode cL_law 2126 = .ok (.invokevirtual 335, 3) := dw_768 (pc9 (k := 2112) (j := 14) lDL_66 rfl)
theorem dL_law_2129 : decode cL_law 2129 = .ok (.istore 7, 2) := dw_58 (pc9 (k := 2112) (j := 17) lDL_66 rfl)
theorem dL_law_2131 : decode cL_law 2131 = .ok (.goto 621, 3) := dw_906 (pc9 (k := 2112) (j := 19) lDL_66 rfl)
theorem dL_law_2134 : decode cL_law 2134 = .ok (.aload_n 1, 1) := dw_5 (pc9 (k := 2112) (j := 22) lDL_66 rfl)
theorem dL_law_2135 : decode cL_law 2135 = .ok (.aload_n 0, 1) := dw_0 (pc9 (k := 2112) (j := 23) lDL_66 rfl)
theorem dL_law_2136 : decode cL_law 2136 = .ok (.iload 5, 2) := dw_39 (pc9 (k := 2112) (j := 24) lDL_66 rfl)
theorem dL_law_2138 : decode cL_law 2138 = .ok (.iconst 1, 1) := dw_26 (pc9 (k := 2112) (j := 26) lDL_66 rfl)
theorem dL_law_2139 : decode cL_law 2139 = .ok (.iadd, 1) := dw_43 (pc9 (k := 2112) (j := 27) lDL_66 rfl)
theorem dL_law_2140 : decode cL_law 2140 = .ok (.iaload, 1) := dw_16 (pc9 (k := 2112) (j := 28) lDL_66 rfl)
theorem dL_law_2141 : decode cL_law 2141 = .ok (.aload_n 0, 1) := dw_0 (pc9 (k := 2112) (j := 29) lDL_66 rfl)
theorem dL_law_2142 : decode cL_law 2142 = .ok (.iload 5, 2) := dw_39 (pc9 (k := 2112) (j := 30) lDL_66 rfl)
theorem dL_law_2144 : decode cL_law 2144 = .ok (.iconst 2, 1) := dw_260 (pc9 (k := 2144) (j := 0) lDL_67 rfl)
theorem dL_law_2145 : decode cL_law 2145 = .ok (.iadd, 1) := dw_43 (pc9 (k := 2144) (j := 1) lDL_67 rfl)
theorem dL_law_2146 : decode cL_law 2146 = .ok (.iaload, 1) := dw_16 (pc9 (k := 2144) (j := 2) lDL_67 rfl)
theorem dL_law_2147 : decode cL_law 2147 = .ok (.aload_n 0, 1) := dw_0 (pc9 (k := 2144) (j := 3) lDL_67 rfl)
theorem dL_law_2148 : decode cL_law 2148 = .ok (.iload 5, 2) := dw_39 (pc9 (k := 2144) (j := 4) lDL_67 rfl)
theorem dL_law_2150 : decode cL_law 2150 = .ok (.iconst 3, 1) := dw_221 (pc9 (k := 2144) (j := 6) lDL_67 rfl)
theorem dL_law_2151 : decode cL_law 2151 = .ok (.iadd, 1) := dw_43 (pc9 (k := 2144) (j := 7) lDL_67 rfl)
theorem dL_law_2152 : decode cL_law 2152 = .ok (.iaload, 1) := dw_16 (pc9 (k := 2144) (j := 8) lDL_67 rfl)
theorem dL_law_2153 : decode cL_law 2153 = .ok (.aload_n 0, 1) := dw_0 (pc9 (k := 2144) (j := 9) lDL_67 rfl)
theorem dL_law_2154 : decode cL_law 2154 = .ok (.iload 5, 2) := dw_39 (pc9 (k := 2144) (j := 10) lDL_67 rfl)
theorem dL_law_2156 : decode cL_law 2156 = .ok (.iconst 4, 1) := dw_280 (pc9 (k := 2144) (j := 12) lDL_67 rfl)
theorem dL_law_2157 : decode cL_law 2157 = .ok (.iadd, 1) := dw_43 (pc9 (k := 2144) (j := 13) lDL_67 rfl)
theorem dL_law_2158 : decode cL_law 2158 = .ok (.iaload, 1) := dw_16 (pc9 (k := 2144) (j := 14) lDL_67 rfl)
theorem dL_law_2159 : decode cL_law 2159 = .ok (.ifCond .eq 7, 3) := dw_227 (pc9 (k := 2144) (j := 15) lDL_67 rfl)
theorem dL_law_2162 : decode cL_law 2162 = .ok (.iconst 1, 1) := dw_26 (pc9 (k := 2144) (j := 18) lDL_67 rfl)
theorem dL_law_2163 : decode cL_law 2163 = .ok (.goto 4, 3) := dw_84 (pc9 (k := 2144) (j := 19) lDL_67 rfl)
theorem dL_law_2166 : decode cL_law 2166 = .ok (.iconst 0, 1) := dw_6 (pc9 (k := 2144) (j := 22) lDL_67 rfl)
theorem dL_law_2167 : decode cL_law 2167 = .ok (.aload_n 3, 1) := dw_119 (pc9 (k := 2144) (j := 23) lDL_67 rfl)
theorem dL_law_2168 : decode cL_law 2168 = .ok (.invokestatic 336, 3) := dw_476 (pc9 (k := 2144) (j := 24) lDL_67 rfl)
theorem dL_law_2171 : decode cL_law 2171 = .ok (.istore 6, 2) := dw_35 (pc9 (k := 2144) (j := 27) lDL_67 rfl)
theorem dL_law_2173 : decode cL_law 2173 = .ok (.aload_n 2, 1) := dw_52 (pc9 (k := 2144) (j := 29) lDL_67 rfl)
theorem dL_law_2174 : decode cL_law 2174 = .ok (.aload_n 0, 1) := dw_0 (pc9 (k := 2144) (j := 30) lDL_67 rfl)
theorem dL_law_2175 : decode cL_law 2175 = .ok (.iload 5, 2) := dw_39 (pc9 (k := 2144) (j := 31) lDL_67 rfl)
theorem dL_law_2177 : decode cL_law 2177 = .ok (.iconst 1, 1) := dw_26 (pc9 (k := 2176) (j := 1) lDL_68 rfl)
theorem dL_law_2178 : decode cL_law 2178 = .ok (.iadd, 1) := dw_43 (pc9 (k := 2176) (j := 2) lDL_68 rfl)
theorem dL_law_2179 : decode cL_law 2179 = .ok (.iaload, 1) := dw_16 (pc9 (k := 2176) (j := 3) lDL_68 rfl)
theorem dL_law_2180 : decode cL_law 2180 = .ok (.aload_n 0, 1) := dw_0 (pc9 (k := 2176) (j := 4) lDL_68 rfl)
theorem dL_law_2181 : decode cL_law 2181 = .ok (.iload 5, 2) := dw_39 (pc9 (k := 2176) (j := 5) lDL_68 rfl)
theorem dL_law_2183 : decode cL_law 2183 = .ok (.iconst 2, 1) := dw_260 (pc9 (k := 2176) (j := 7) lDL_68 rfl)
theorem dL_law_2184 : decode cL_law 2184 = .ok (.iadd, 1) := dw_43 (pc9 (k := 2176) (j := 8) lDL_68 rfl)
theorem dL_law_2185 : decode cL_law 2185 = .ok (.iaload, 1) := dw_16 (pc9 (k := 2176) (j := 9) lDL_68 rfl)
theorem dL_law_2186 : decode cL_law 2186 = .ok (.aload_n 0, 1) := dw_0 (pc9 (k := 2176) (j := 10) lDL_68 rfl)
theorem dL_law_2187 : decode cL_law 2187 = .ok (.iload 5, 2) := dw_39 (pc9 (k := 2176) (j := 11) lDL_68 rfl)
theorem dL_law_2189 : decode cL_law 2189 = .ok (.iconst 3, 1) := dw_221 (pc9 (k := 2176) (j := 13) lDL_68 rfl)
theorem dL_law_2190 : decode cL_law 2190 = .ok (.iadd, 1) := dw_43 (pc9 (k := 2176) (j := 14) lDL_68 rfl)
theorem dL_law_2191 : decode cL_law 2191 = .ok (.iaload, 1) := dw_16 (pc9 (k := 2176) (j := 15) lDL_68 rfl)
theorem dL_law_2192 : decode cL_law 2192 = .ok (.aload_n 0, 1) := dw_0 (pc9 (k := 2176) (j := 16) lDL_68 rfl)
theorem dL_law_2193 : decode cL_law 2193 = .ok (.iload 5, 2) := dw_39 (pc9 (k := 2176) (j := 17) lDL_68 rfl)
theorem dL_law_2195 : decode cL_law 2195 = .ok (.iconst 4, 1) := dw_280 (pc9 (k := 2176) (j := 19) lDL_68 rfl)
theorem dL_law_2196 : decode cL_law 2196 = .ok (.iadd, 1) := dw_43 (pc9 (k := 2176) (j := 20) lDL_68 rfl)
theorem dL_law_2197 : decode cL_law 2197 = .ok (.iaload, 1) := dw_16 (pc9 (k := 2176) (j := 21) lDL_68 rfl)
theorem dL_law_2198 : decode cL_law 2198 = .ok (.ifCond .eq 7, 3) := dw_227 (pc9 (k := 2176) (j := 22) lDL_68 rfl)
theorem dL_law_2201 : decode cL_law 2201 = .ok (.iconst 1, 1) := dw_26 (pc9 (k := 2176) (j := 25) lDL_68 rfl)
theorem dL_law_2202 : decode cL_law 2202 = .ok (.goto 4, 3) := dw_84 (pc9 (k := 2176) (j := 26) lDL_68 rfl)
theorem dL_law_2205 : decode cL_law 2205 = .ok (.iconst 0, 1) := dw_6 (pc9 (k := 2176) (j := 29) lDL_68 rfl)
theorem dL_law_2206 : decode cL_law 2206 = .ok (.invokevirtual 338, 3) := dw_907 (pc9 (k := 2176) (j := 30) lDL_68 rfl)
theorem dL_law_2209 : decode cL_law 2209 = .ok (.istore 7, 2) := dw_58 (pc9 (k := 2208) (j := 1) lDL_69 rfl)
theorem dL_law_2211 : decode cL_law 2211 = .ok (.goto 541, 3) := dw_908 (pc9 (k := 2208) (j := 3) lDL_69 rfl)
theorem dL_law_2214 : decode cL_law 2214 = .ok (.aload_n 1, 1) := dw_5 (pc9 (k := 2208) (j := 6) lDL_69 rfl)
theorem dL_law_2215 : decode cL_law 2215 = .ok (.aload_n 0, 1) := dw_0 (pc9 (k := 2208) (j := 7) lDL_69 rfl)
theorem dL_law_2216 : decode cL_law 2216 = .ok (.iload 5, 2) := dw_39 (pc9 (k := 2208) (j := 8) lDL_69 rfl)
theorem dL_law_2218 : decode cL_law 2218 = .ok (.iconst 1, 1) := dw_26 (pc9 (k := 2208) (j := 10) lDL_69 rfl)
theorem dL_law_2219 : decode cL_law 2219 = .ok (.iadd, 1) := dw_43 (pc9 (k := 2208) (j := 11) lDL_69 rfl)
theorem dL_law_2220 : decode cL_law 2220 = .ok (.iaload, 1) := dw_16 (pc9 (k := 2208) (j := 12) lDL_69 rfl)
theorem dL_law_2221 : decode cL_law 2221 = .ok (.aload_n 0, 1) := dw_0 (pc9 (k := 2208) (j := 13) lDL_69 rfl)
theorem dL_law_2222 : decode cL_law 2222 = .ok (.iload 5, 2) := dw_39 (pc9 (k := 2208) (j := 14) lDL_69 rfl)
theorem dL_law_2224 : decode cL_law 2224 = .ok (.iconst 2, 1) := dw_260 (pc9 (k := 2208) (j := 16) lDL_69 rfl)
theorem dL_law_2225 : decode cL_law 2225 = .ok (.iadd, 1) := dw_43 (pc9 (k := 2208) (j := 17) lDL_69 rfl)
theorem dL_law_2226 : decode cL_law 2226 = .ok (.iaload, 1) := dw_16 (pc9 (k := 2208) (j := 18) lDL_69 rfl)
theorem dL_law_2227 : decode cL_law 2227 = .ok (.aload_n 0, 1) := dw_0 (pc9 (k := 2208) (j := 19) lDL_69 rfl)
theorem dL_law_2228 : decode cL_law 2228 = .ok (.iload 5, 2) := dw_39 (pc9 (k := 2208) (j := 20) lDL_69 rfl)
theorem dL_law_2230 : decode cL_law 2230 = .ok (.iconst 3, 1) := dw_221 (pc9 (k := 2208) (j := 22) lDL_69 rfl)
theorem dL_law_2231 : decode cL_law 2231 = .ok (.iadd, 1) := dw_43 (pc9 (k := 2208) (j := 23) lDL_69 rfl)
theorem dL_law_2232 : decode cL_law 2232 = .ok (.iaload, 1) := dw_16 (pc9 (k := 2208) (j := 24) lDL_69 rfl)
theorem dL_law_2233 : decode cL_law 2233 = .ok (.aload_n 0, 1) := dw_0 (pc9 (k := 2208) (j := 25) lDL_69 rfl)
theorem dL_law_2234 : decode cL_law 2234 = .ok (.iload 5, 2) := dw_39 (pc9 (k := 2208) (j := 26) lDL_69 rfl)
theorem dL_law_2236 : decode cL_law 2236 = .ok (.iconst 4, 1) := dw_280 (pc9 (k := 2208) (j := 28) lDL_69 rfl)
theorem dL_law_2237 : decode cL_law 2237 = .ok (.iadd, 1) := dw_43 (pc9 (k := 2208) (j := 29) lDL_69 rfl)
theorem dL_law_2238 : decode cL_law 2238 = .ok (.iaload, 1) := dw_16 (pc9 (k := 2208) (j := 30) lDL_69 rfl)
theorem dL_law_2239 : decode cL_law 2239 = .ok (.ifCond .eq 7, 3) := dw_227 (pc9 (k := 2208) (j := 31) lDL_69 rfl)
theorem dL_law_2242 : decode cL_law 2242 = .ok (.iconst 1, 1) := dw_26 (pc9 (k := 2240) (j := 2) lDL_70 rfl)
theorem dL_law_2243 : decode cL_law 2243 = .ok (.goto 4, 3) := dw_84 (pc9 (k := 2240) (j := 3) lDL_70 rfl)
theorem dL_law_2246 : decode cL_law 2246 = .ok (.iconst 0, 1) := dw_6 (pc9 (k := 2240) (j := 6) lDL_70 rfl)
theorem dL_law_2247 : decode cL_law 2247 = .ok (.aload_n 3, 1) := dw_119 (pc9 (k := 2240) (j := 7) lDL_70 rfl)
theorem dL_law_2248 : decode cL_law 2248 = .ok (.invokestatic 339, 3) := dw_909 (pc9 (k := 2240) (j := 8) lDL_70 rfl)
theorem dL_law_2251 : decode cL_law 2251 = .ok (.istore 6, 2) := dw_35 (pc9 (k := 2240) (j := 11) lDL_70 rfl)
theorem dL_law_2253 : decode cL_law 2253 = .ok (.aload_n 2, 1) := dw_52 (pc9 (k := 2240) (j := 13) lDL_70 rfl)
theorem dL_law_2254 : decode cL_law 2254 = .ok (.aload_n 0, 1) := dw_0 (pc9 (k := 2240) (j := 14) lDL_70 rfl)
theorem dL_law_2255 : decode cL_law 2255 = .ok (.iload 5, 2) := dw_39 (pc9 (k := 2240) (j := 15) lDL_70 rfl)
theorem dL_law_2257 : decode cL_law 2257 = .ok (.iconst 1, 1) := dw_26 (pc9 (k := 2240) (j := 17) lDL_70 rfl)
theorem dL_law_2258 : decode cL_law 2258 = .ok (.iadd, 1) := dw_43 (pc9 (k := 2240) (j := 18) lDL_70 rfl)
theorem dL_law_2259 : decode cL_law 2259 = .ok (.iaload, 1) := dw_16 (pc9 (k := 2240) (j := 19) lDL_70 rfl)
theorem dL_law_2260 : decode cL_law 2260 = .ok (.aload_n 0, 1) := dw_0 (pc9 (k := 2240) (j := 20) lDL_70 rfl)
theorem dL_law_2261 : decode cL_law 2261 = .ok (.iload 5, 2) := dw_39 (pc9 (k := 2240) (j := 21) lDL_70 rfl)
theorem dL_law_2263 : decode cL_law 2263 = .ok (.iconst 2, 1) := dw_260 (pc9 (k := 2240) (j := 23) lDL_70 rfl)
theorem dL_law_2264 : decode cL_law 2264 = .ok (.iadd, 1) := dw_43 (pc9 (k := 2240) (j := 24) lDL_70 rfl)
theorem dL_law_2265 : decode cL_law 2265 = .ok (.iaload, 1) := dw_16 (pc9 (k := 2240) (j := 25) lDL_70 rfl)
theorem dL_law_2266 : decode cL_law 2266 = .ok (.aload_n 0, 1) := dw_0 (pc9 (k := 2240) (j := 26) lDL_70 rfl)
theorem dL_law_2267 : decode cL_law 2267 = .ok (.iload 5, 2) := dw_39 (pc9 (k := 2240) (j := 27) lDL_70 rfl)
theorem dL_law_2269 : decode cL_law 2269 = .ok (.iconst 3, 1) := dw_221 (pc9 (k := 2240) (j := 29) lDL_70 rfl)
theorem dL_law_2270 : decode cL_law 2270 = .ok (.iadd, 1) := dw_43 (pc9 (k := 2240) (j := 30) lDL_70 rfl)
theorem dL_law_2271 : decode cL_law 2271 = .ok (.iaload, 1) := dw_16 (pc9 (k := 2240) (j := 31) lDL_70 rfl)
theorem dL_law_2272 : decode cL_law 2272 = .ok (.aload_n 0, 1) := dw_0 (pc9 (k := 2272) (j := 0) lDL_71 rfl)
theorem dL_law_2273 : decode cL_law 2273 = .ok (.iload 5, 2) := dw_39 (pc9 (k := 2272) (j := 1) lDL_71 rfl)
theorem dL_law_2275 : decode cL_law 2275 = .ok (.iconst 4, 1) := dw_280 (pc9 (k := 2272) (j := 3) lDL_71 rfl)
theorem dL_law_2276 : decode cL_law 2276 = .ok (.iadd, 1) := dw_43 (pc9 (k := 2272) (j := 4) lDL_71 rfl)
theorem dL_law_2277 : decode cL_law 2277 = .ok (.iaload, 1) := dw_16 (pc9 (k := 2272) (j := 5) lDL_71 rfl)
theorem dL_law_2278 : decode cL_law 2278 = .ok (.ifCond .eq 7, 3) := dw_227 (pc9 (k := 2272) (j := 6) lDL_71 rfl)
theorem dL_law_2281 : decode cL_law 2281 = .ok (.iconst 1, 1) := dw_26 (pc9 (k := 2272) (j := 9) lDL_71 rfl)
theorem dL_law_2282 : decode cL_law 2282 = .ok (.goto 4, 3) := dw_84 (pc9 (k := 2272) (j := 10) lDL_71 rfl)
theorem dL_law_2285 : decode cL_law 2285 = .ok (.iconst 0, 1) := dw_6 (pc9 (k := 2272) (j := 13) lDL_71 rfl)
theorem dL_law_2286 : decode cL_law 2286 = .ok (.invokevirtual 341, 3) := dw_910 (pc9 (k := 2272) (j := 14) lDL_71 rfl)
theorem dL_law_2289 : decode cL_law 2289 = .ok (.istore 7, 2) := dw_58 (pc9 (k := 2272) (j := 17) lDL_71 rfl)
theorem dL_law_2291 : decode cL_law 2291 = .ok (.goto 461, 3) := dw_911 (pc9 (k := 2272) (j := 19) lDL_71 rfl)
theorem dL_law_2294 : decode cL_law 2294 = .ok (.aload_n 1, 1) := dw_5 (pc9 (k := 2272) (j := 22) lDL_71 rfl)
theorem dL_law_2295 : decode cL_law 2295 = .ok (.aload_n 0, 1) := dw_0 (pc9 (k := 2272) (j := 23) lDL_71 rfl)
theorem dL_law_2296 : decode cL_law 2296 = .ok (.iload 5, 2) := dw_39 (pc9 (k := 2272) (j := 24) lDL_71 rfl)
theorem dL_law_2298 : decode cL_law 2298 = .ok (.iconst 1, 1) := dw_26 (pc9 (k := 2272) (j := 26) lDL_71 rfl)
theorem dL_law_2299 : decode cL_law 2299 = .ok (.iadd, 1) := dw_43 (pc9 (k := 2272) (j := 27) lDL_71 rfl)
theorem dL_law_2300 : decode cL_law 2300 = .ok (.iaload, 1) := dw_16 (pc9 (k := 2272) (j := 28) lDL_71 rfl)
theorem dL_law_2301 : decode cL_law 2301 = .ok (.aload_n 0, 1) := dw_0 (pc9 (k := 2272) (j := 29) lDL_71 rfl)
theorem dL_law_2302 : decode cL_law 2302 = .ok (.iload 5, 2) := dw_39 (pc9 (k := 2272) (j := 30) lDL_71 rfl)
theorem dL_law_2304 : decode cL_law 2304 = .ok (.iconst 2, 1) := dw_260 (pc9 (k := 2304) (j := 0) lDL_72 rfl)
theorem dL_law_2305 : decode cL_law 2305 = .ok (.iadd, 1) := dw_43 (pc9 (k := 2304) (j := 1) lDL_72 rfl)
theorem dL_law_2306 : decode cL_law 2306 = .ok (.iaload, 1) := dw_16 (pc9 (k := 2304) (j := 2) lDL_72 rfl)
theorem dL_law_2307 : decode cL_law 2307 = .ok (.aload_n 3, 1) := dw_119 (pc9 (k := 2304) (j := 3) lDL_72 rfl)
theorem dL_law_2308 : decode cL_law 2308 = .ok (.invokestatic 342, 3) := dw_912 (pc9 (k := 2304) (j := 4) lDL_72 rfl)
theorem dL_law_2311 : decode cL_law 2311 = .ok (.istore 6, 2) := dw_35 (pc9 (k := 2304) (j := 7) lDL_72 rfl)
theorem dL_law_2313 : decode cL_law 2313 = .ok (.aload_n 2, 1) := dw_52 (pc9 (k := 2304) (j := 9) lDL_72 rfl)
theorem dL_law_2314 : decode cL_law 2314 = .ok (.aload_n 0, 1) := dw_0 (pc9 (k := 2304) (j := 10) lDL_72 rfl)
theorem dL_law_2315 : decode cL_law 2315 = .ok (.iload 5, 2) := dw_39 (pc9 (k := 2304) (j := 11) lDL_72 rfl)
theorem dL_law_2317 : decode cL_law 2317 = .ok (.iconst 1, 1) := dw_26 (pc9 (k := 2304) (j := 13) lDL_72 rfl)
theorem dL_law_2318 : decode cL_law 2318 = .ok (.iadd, 1) := dw_43 (pc9 (k := 2304) (j := 14) lDL_72 rfl)
theorem dL_law_2319 : decode cL_law 2319 = .ok (.iaload, 1) := dw_16 (pc9 (k := 2304) (j := 15) lDL_72 rfl)
theorem dL_law_2320 : decode cL_law 2320 = .ok (.aload_n 0, 1) := dw_0 (pc9 (k := 2304) (j := 16) lDL_72 rfl)
theorem dL_law_2321 : decode cL_law 2321 = .ok (.iload 5, 2) := dw_39 (pc9 (k := 2304) (j := 17) lDL_72 rfl)
theorem dL_law_2323 : decode cL_law 2323 = .ok (.iconst 2, 1) := dw_260 (pc9 (k := 2304) (j := 19) lDL_72 rfl)
theorem dL_law_2324 : decode cL_law 2324 = .ok (.iadd, 1) := dw_43 (pc9 (k := 2304) (j := 20) lDL_72 rfl)
theorem dL_law_2325 : decode cL_law 2325 = .ok (.iaload, 1) := dw_16 (pc9 (k := 2304) (j := 21) lDL_72 rfl)
theorem dL_law_2326 : decode cL_law 2326 = .ok (.invokevirtual 344, 3) := dw_481 (pc9 (k := 2304) (j := 22) lDL_72 rfl)
theorem dL_law_2329 : decode cL_law 2329 = .ok (.istore 7, 2) := dw_58 (pc9 (k := 2304) (j := 25) lDL_72 rfl)
theorem dL_law_2331 : decode cL_law 2331 = .ok (.goto 421, 3) := dw_913 (pc9 (k := 2304) (j := 27) lDL_72 rfl)
theorem dL_law_2334 : decode cL_law 2334 = .ok (.aload_n 1, 1) := dw_5 (pc9 (k := 2304) (j := 30) lDL_72 rfl)
theorem dL_law_2335 : decode cL_law 2335 = .ok (.aload_n 0, 1) := dw_0 (pc9 (k := 2304) (j := 31) lDL_72 rfl)
theorem dL_law_2336 : decode cL_law 2336 = .ok (.iload 5, 2) := dw_39 (pc9 (k := 2336) (j := 0) lDL_73 rfl)
theorem dL_law_2338 : decode cL_law 2338 = .ok (.iconst 1, 1) := dw_26 (pc9 (k := 2336) (j := 2) lDL_73 rfl)
theorem dL_law_2339 : decode cL_law 2339 = .ok (.iadd, 1) := dw_43 (pc9 (k := 2336) (j := 3) lDL_73 rfl)
theorem dL_law_2340 : decode cL_law 2340 = .ok (.iaload, 1) := dw_16 (pc9 (k := 2336) (j := 4) lDL_73 rfl)
theorem dL_law_2341 : decode cL_law 2341 = .ok (.aload_n 0, 1) := dw_0 (pc9 (k := 2336) (j := 5) lDL_73 rfl)
theorem dL_law_2342 : decode cL_law 2342 = .ok (.iload 5, 2) := dw_39 (pc9 (k := 2336) (j := 6) lDL_73 rfl)
theorem dL_law_2344 : decode cL_law 2344 = .ok (.iconst 2, 1) := dw_260 (pc9 (k := 2336) (j := 8) lDL_73 rfl)
theorem dL_law_2345 : decode cL_law 2345 = .ok (.iadd, 1) := dw_43 (pc9 (k := 2336) (j := 9) lDL_73 rfl)
theorem dL_law_2346 : decode cL_law 2346 = .ok (.iaload, 1) := dw_16 (pc9 (k := 2336) (j := 10) lDL_73 rfl)
theorem dL_law_2347 : decode cL_law 2347 = .ok (.aload_n 3, 1) := dw_119 (pc9 (k := 2336) (j := 11) lDL_73 rfl)
theorem dL_law_2348 : decode cL_law 2348 = .ok (.invokestatic 345, 3) := dw_914 (pc9 (k := 2336) (j := 12) lDL_73 rfl)
theorem dL_law_2351 : decode cL_law 2351 = .ok (.istore 6, 2) := dw_35 (pc9 (k := 2336) (j := 15) lDL_73 rfl)
theorem dL_law_2353 : decode cL_law 2353 = .ok (.aload_n 2, 1) := dw_52 (pc9 (k := 2336) (j := 17) lDL_73 rfl)
theorem dL_law_2354 : decode cL_law 2354 = .ok (.aload_n 0, 1) := dw_0 (pc9 (k := 2336) (j := 18) lDL_73 rfl)
theorem dL_law_2355 : decode cL_law 2355 = .ok (.iload 5, 2) := dw_39 (pc9 (k := 2336) (j := 19) lDL_73 rfl)
theorem dL_law_2357 : decode cL_law 2357 = .ok (.iconst 1, 1) := dw_26 (pc9 (k := 2336) (j := 21) lDL_73 rfl)
theorem dL_law_2358 : decode cL_law 2358 = .ok (.iadd, 1) := dw_43 (pc9 (k := 2336) (j := 22) lDL_73 rfl)
theorem dL_law_2359 : decode cL_law 2359 = .ok (.iaload, 1) := dw_16 (pc9 (k := 2336) (j := 23) lDL_73 rfl)
theorem dL_law_2360 : decode cL_law 2360 = .ok (.aload_n 0, 1) := dw_0 (pc9 (k := 2336) (j := 24) lDL_73 rfl)
theorem dL_law_2361 : decode cL_law 2361 = .ok (.iload 5, 2) := dw_39 (pc9 (k := 2336) (j := 25) lDL_73 rfl)
theorem dL_law_2363 : decode cL_law 2363 = .ok (.iconst 2, 1) := dw_260 (pc9 (k := 2336) (j := 27) lDL_73 rfl)
theorem dL_law_2364 : decode cL_law 2364 = .ok (.iadd, 1) := dw_43 (pc9 (k := 2336) (j := 28) lDL_73 rfl)
theorem dL_law_2365 : decode cL_law 2365 = .ok (.iaload, 1) := dw_16 (pc9 (k := 2336) (j := 29) lDL_73 rfl)
theorem dL_law_2366 : decode cL_law 2366 = .ok (.invokevirtual 347, 3) := dw_915 (pc9 (k := 2336) (j := 30) lDL_73 rfl)
theorem dL_law_2369 : decode cL_law 2369 = .ok (.istore 7, 2) := dw_58 (pc9 (k := 2368) (j := 1) lDL_74 rfl)
theorem dL_law_2371 : decode cL_law 2371 = .ok (.goto 381, 3) := dw_916 (pc9 (k := 2368) (j := 3) lDL_74 rfl)
theorem dL_law_2374 : decode cL_law 2374 = .ok (.aload_n 1, 1) := dw_5 (pc9 (k := 2368) (j := 6) lDL_74 rfl)
theorem dL_law_2375 : decode cL_law 2375 = .ok (.aload_n 0, 1) := dw_0 (pc9 (k := 2368) (j := 7) lDL_74 rfl)
theorem dL_law_2376 : decode cL_law 2376 = .ok (.iload 5, 2) := dw_39 (pc9 (k := 2368) (j := 8) lDL_74 rfl)
theorem dL_law_2378 : decode cL_law 2378 = .ok (.iconst 1, 1) := dw_26 (pc9 (k := 2368) (j := 10) lDL_74 rfl)
theorem dL_law_2379 : decode cL_law 2379 = .ok (.iadd, 1) := dw_43 (pc9 (k := 2368) (j := 11) lDL_74 rfl)
theorem dL_law_2380 : decode cL_law 2380 = .ok (.iaload, 1) := dw_16 (pc9 (k := 2368) (j := 12) lDL_74 rfl)
theorem dL_law_2381 : decode cL_law 2381 = .ok (.aload_n 0, 1) := dw_0 (pc9 (k := 2368) (j := 13) lDL_74 rfl)
theorem dL_law_2382 : decode cL_law 2382 = .ok (.iload 5, 2) := dw_39 (pc9 (k := 2368) (j := 14) lDL_74 rfl)
theorem dL_law_2384 : decode cL_law 2384 = .ok (.iconst 2, 1) := dw_260 (pc9 (k := 2368) (j := 16) lDL_74 rfl)
theorem dL_law_2385 : decode cL_law 2385 = .ok (.iadd, 1) := dw_43 (pc9 (k := 2368) (j := 17) lDL_74 rfl)
theorem dL_law_2386 : decode cL_law 2386 = .ok (.iaload, 1) := dw_16 (pc9 (k := 2368) (j := 18) lDL_74 rfl)
theorem dL_law_2387 : decode cL_law 2387 = .ok (.aload_n 3, 1) := dw_119 (pc9 (k := 2368) (j := 19) lDL_74 rfl)
theorem dL_law_2388 : decode cL_law 2388 = .ok (.invokestatic 348, 3) := dw_917 (pc9 (k := 2368) (j := 20) lDL_74 rfl)
theorem dL_law_2391 : decode cL_law 2391 = .ok (.istore 6, 2) := dw_35 (pc9 (k := 2368) (j := 23) lDL_74 rfl)
theorem dL_law_2393 : decode cL_law 2393 = .ok (.aload_n 2, 1) := dw_52 (pc9 (k := 2368) (j := 25) lDL_74 rfl)
theorem dL_law_2394 : decode cL_law 2394 = .ok (.aload_n 0, 1) := dw_0 (pc9 (k := 2368) (j := 26) lDL_74 rfl)
theorem dL_law_2395 : decode cL_law 2395 = .ok (.iload 5, 2) := dw_39 (pc9 (k := 2368) (j := 27) lDL_74 rfl)
theorem dL_law_2397 : decode cL_law 2397 = .ok (.iconst 1, 1) := dw_26 (pc9 (k := 2368) (j := 29) lDL_74 rfl)
theorem dL_law_2398 : decode cL_law 2398 = .ok (.iadd, 1) := dw_43 (pc9 (k := 2368) (j := 30) lDL_74 rfl)
theorem dL_law_2399 : decode cL_law 2399 = .ok (.iaload, 1) := dw_16 (pc9 (k := 2368) (j := 31) lDL_74 rfl)
theorem dL_law_2400 : decode cL_law 2400 = .ok (.aload_n 0, 1) := dw_0 (pc9 (k := 2400) (j := 0) lDL_75 rfl)
theorem dL_law_2401 : decode cL_law 2401 = .ok (.iload 5, 2) := dw_39 (pc9 (k := 2400) (j := 1) lDL_75 rfl)
theorem dL_law_2403 : decode cL_law 2403 = .ok (.iconst 2, 1) := dw_260 (pc9 (k := 2400) (j := 3) lDL_75 rfl)
theorem dL_law_2404 : decode cL_law 2404 = .ok (.iadd, 1) := dw_43 (pc9 (k := 2400) (j := 4) lDL_75 rfl)
theorem dL_law_2405 : decode cL_law 2405 = .ok (.iaload, 1) := dw_16 (pc9 (k := 2400) (j := 5) lDL_75 rfl)
theorem dL_law_2406 : decode cL_law 2406 = .ok (.invokevirtual 350, 3) := dw_918 (pc9 (k := 2400) (j := 6) lDL_75 rfl)
theorem dL_law_2409 : decode cL_law 2409 = .ok (.istore 7, 2) := dw_58 (pc9 (k := 2400) (j := 9) lDL_75 rfl)
theorem dL_law_2411 : decode cL_law 2411 = .ok (.goto 341, 3) := dw_919 (pc9 (k := 2400) (j := 11) lDL_75 rfl)
theorem dL_law_2414 : decode cL_law 2414 = .ok (.aload_n 1, 1) := dw_5 (pc9 (k := 2400) (j := 14) lDL_75 rfl)
theorem dL_law_2415 : decode cL_law 2415 = .ok (.aload_n 0, 1) := dw_0 (pc9 (k := 2400) (j := 15) lDL_75 rfl)
theorem dL_law_2416 : decode cL_law 2416 = .ok (.iload 5, 2) := dw_39 (pc9 (k := 2400) (j := 16) lDL_75 rfl)
theorem dL_law_2418 : decode cL_law 2418 = .ok (.iconst 1, 1) := dw_26 (pc9 (k := 2400) (j := 18) lDL_75 rfl)
theorem dL_law_2419 : decode cL_law 2419 = .ok (.iadd, 1) := dw_43 (pc9 (k := 2400) (j := 19) lDL_75 rfl)
theorem dL_law_2420 : decode cL_law 2420 = .ok (.iaload, 1) := dw_16 (pc9 (k := 2400) (j := 20) lDL_75 rfl)
theorem dL_law_2421 : decode cL_law 2421 = .ok (.aload_n 0, 1) := dw_0 (pc9 (k := 2400) (j := 21) lDL_75 rfl)
theorem dL_law_2422 : decode cL_law 2422 = .ok (.iload 5, 2) := dw_39 (pc9 (k := 2400) (j := 22) lDL_75 rfl)
theorem dL_law_2424 : decode cL_law 2424 = .ok (.iconst 2, 1) := dw_260 (pc9 (k := 2400) (j := 24) lDL_75 rfl)
theorem dL_law_2425 : decode cL_law 2425 = .ok (.iadd, 1) := dw_43 (pc9 (k := 2400) (j := 25) lDL_75 rfl)
theorem dL_law_2426 : decode cL_law 2426 = .ok (.iaload, 1) := dw_16 (pc9 (k := 2400) (j := 26) lDL_75 rfl)
theorem dL_law_2427 : decode cL_law 2427 = .ok (.aload_n 0, 1) := dw_0 (pc9 (k := 2400) (j := 27) lDL_75 rfl)
theorem dL_law_2428 : decode cL_law 2428 = .ok (.iload 5, 2) := dw_39 (pc9 (k := 2400) (j := 28) lDL_75 rfl)
theorem dL_law_2430 : decode cL_law 2430 = .ok (.iconst 3, 1) := dw_221 (pc9 (k := 2400) (j := 30) lDL_75 rfl)
theorem dL_law_2431 : decode cL_law 2431 = .ok (.iadd, 1) := dw_43 (pc9 (k := 2400) (j := 31) lDL_75 rfl)
theorem dL_law_2432 : decode cL_law 2432 = .ok (.iaload, 1) := dw_16 (pc9 (k := 2432) (j := 0) lDL_76 rfl)
theorem dL_law_2433 : decode cL_law 2433 = .ok (.aload_n 3, 1) := dw_119 (pc9 (k := 2432) (j := 1) lDL_76 rfl)
theorem dL_law_2434 : decode cL_law 2434 = .ok (.invokestatic 351, 3) := dw_920 (pc9 (k := 2432) (j := 2) lDL_76 rfl)
theorem dL_law_2437 : decode cL_law 2437 = .ok (.istore 6, 2) := dw_35 (pc9 (k := 2432) (j := 5) lDL_76 rfl)
theorem dL_law_2439 : decode cL_law 2439 = .ok (.aload_n 2, 1) := dw_52 (pc9 (k := 2432) (j := 7) lDL_76 rfl)
theorem dL_law_2440 : decode cL_law 2440 = .ok (.aload_n 0, 1) := dw_0 (pc9 (k := 2432) (j := 8) lDL_76 rfl)
theorem dL_law_2441 : decode cL_law 2441 = .ok (.iload 5, 2) := dw_39 (pc9 (k := 2432) (j := 9) lDL_76 rfl)
theorem dL_law_2443 : decode cL_law 2443 = .ok (.iconst 1, 1) := dw_26 (pc9 (k := 2432) (j := 11) lDL_76 rfl)
theorem dL_law_2444 : decode cL_law 2444 = .ok (.iadd, 1) := dw_43 (pc9 (k := 2432) (j := 12) lDL_76 rfl)
theorem dL_law_2445 : decode cL_law 2445 = .ok (.iaload, 1) := dw_16 (pc9 (k := 2432) (j := 13) lDL_76 rfl)
theorem dL_law_2446 : decode cL_law 2446 = .ok (.aload_n 0, 1) := dw_0 (pc9 (k := 2432) (j := 14) lDL_76 rfl)
theorem dL_law_2447 : decode cL_law 2447 = .ok (.iload 5, 2) := dw_39 (pc9 (k := 2432) (j := 15) lDL_76 rfl)
theorem dL_law_2449 : decode cL_law 2449 = .ok (.iconst 2, 1) := dw_260 (pc9 (k := 2432) (j := 17) lDL_76 rfl)
theorem dL_law_2450 : decode cL_law 2450 = .ok (.iadd, 1) := dw_43 (pc9 (k := 2432) (j := 18) lDL_76 rfl)
theorem dL_law_2451 : decode cL_law 2451 = .ok (.iaload, 1) := dw_16 (pc9 (k := 2432) (j := 19) lDL_76 rfl)
theorem dL_law_2452 : decode cL_law 2452 = .ok (.aload_n 0, 1) := dw_0 (pc9 (k := 2432) (j := 20) lDL_76 rfl)
theorem dL_law_2453 : decode cL_law 2453 = .ok (.iload 5, 2) := dw_39 (pc9 (k := 2432) (j := 21) lDL_76 rfl)
theorem dL_law_2455 : decode cL_law 2455 = .ok (.iconst 3, 1) := dw_221 (pc9 (k := 2432) (j := 23) lDL_76 rfl)
theorem dL_law_2456 : decode cL_law 2456 = .ok (.iadd, 1) := dw_43 (pc9 (k := 2432) (j := 24) lDL_76 rfl)
theorem dL_law_2457 : decode cL_law 2457 = .ok (.iaload, 1) := dw_16 (pc9 (k := 2432) (j := 25) lDL_76 rfl)
theorem dL_law_2458 : decode cL_law 2458 = .ok (.invokevirtual 353, 3) := dw_921 (pc9 (k := 2432) (j := 26) lDL_76 rfl)
theorem dL_law_2461 : decode cL_law 2461 = .ok (.istore 7, 2) := dw_58 (pc9 (k := 2432) (j := 29) lDL_76 rfl)
theorem dL_law_2463 : decode cL_law 2463 = .ok (.goto 289, 3) := dw_922 (pc9 (k := 2432) (j := 31) lDL_76 rfl)
theorem dL_law_2466 : decode cL_law 2466 = .ok (.aload_n 1, 1) := dw_5 (pc9 (k := 2464) (j := 2) lDL_77 rfl)
theorem dL_law_2467 : decode cL_law 2467 = .ok (.aload_n 0, 1) := dw_0 (pc9 (k := 2464) (j := 3) lDL_77 rfl)
theorem dL_law_2468 : decode cL_law 2468 = .ok (.iload 5, 2) := dw_39 (pc9 (k := 2464) (j := 4) lDL_77 rfl)
theorem dL_law_2470 : decode cL_law 2470 = .ok (.iconst 1, 1) := dw_26 (pc9 (k := 2464) (j := 6) lDL_77 rfl)
theorem dL_law_2471 : decode cL_law 2471 = .ok (.iadd, 1) := dw_43 (pc9 (k := 2464) (j := 7) lDL_77 rfl)
theorem dL_law_2472 : decode cL_law 2472 = .ok (.iaload, 1) := dw_16 (pc9 (k := 2464) (j := 8) lDL_77 rfl)
theorem dL_law_2473 : decode cL_law 2473 = .ok (.aload_n 0, 1) := dw_0 (pc9 (k := 2464) (j := 9) lDL_77 rfl)
theorem dL_law_2474 : decode cL_law 2474 = .ok (.iload 5, 2) := dw_39 (pc9 (k := 2464) (j := 10) lDL_77 rfl)
theorem dL_law_2476 : decode cL_law 2476 = .ok (.iconst 2, 1) := dw_260 (pc9 (k := 2464) (j := 12) lDL_77 rfl)
theorem dL_law_2477 : decode cL_law 2477 = .ok (.iadd, 1) := dw_43 (pc9 (k := 2464) (j := 13) lDL_77 rfl)
theorem dL_law_2478 : decode cL_law 2478 = .ok (.iaload, 1) := dw_16 (pc9 (k := 2464) (j := 14) lDL_77 rfl)
theorem dL_law_2479 : decode cL_law 2479 = .ok (.ifCond .eq 7, 3) := dw_227 (pc9 (k := 2464) (j := 15) lDL_77 rfl)
theorem dL_law_2482 : decode cL_law 2482 = .ok (.iconst 1, 1) := dw_26 (pc9 (k := 2464) (j := 18) lDL_77 rfl)
theorem dL_law_2483 : decode cL_law 2483 = .ok (.goto 4, 3) := dw_84 (pc9 (k := 2464) (j := 19) lDL_77 rfl)
theorem dL_law_2486 : decode cL_law 2486 = .ok (.iconst 0, 1) := dw_6 (pc9 (k := 2464) (j := 22) lDL_77 rfl)
theorem dL_law_2487 : decode cL_law 2487 = .ok (.aload_n 3, 1) := dw_119 (pc9 (k := 2464) (j := 23) lDL_77 rfl)
theorem dL_law_2488 : decode cL_law 2488 = .ok (.invokestatic 354, 3) := dw_923 (pc9 (k := 2464) (j := 24) lDL_77 rfl)
theorem dL_law_2491 : decode cL_law 2491 = .ok (.istore 6, 2) := dw_35 (pc9 (k := 2464) (j := 27) lDL_77 rfl)
theorem dL_law_2493 : decode cL_law 2493 = .ok (.aload_n 2, 1) := dw_52 (pc9 (k := 2464) (j := 29) lDL_77 rfl)
theorem dL_law_2494 : decode cL_law 2494 = .ok (.aload_n 0, 1) := dw_0 (pc9 (k := 2464) (j := 30) lDL_77 rfl)
theorem dL_law_2495 : decode cL_law 2495 = .ok (.iload 5, 2) := dw_39 (pc9 (k := 2464) (j := 31) lDL_77 rfl)
theorem dL_law_2497 : decode cL_law 2497 = .ok (.iconst 1, 1) := dw_26 (pc9 (k := 2496) (j := 1) lDL_78 rfl)
theorem dL_law_2498 : decode cL_law 2498 = .ok (.iadd, 1) := dw_43 (pc9 (k := 2496) (j := 2) lDL_78 rfl)
theorem dL_law_2499 : decode cL_law 2499 = .ok (.iaload, 1) := dw_16 (pc9 (k := 2496) (j := 3) lDL_78 rfl)
theorem dL_law_2500 : decode cL_law 2500 = .ok (.aload_n 0, 1) := dw_0 (pc9 (k := 2496) (j := 4) lDL_78 rfl)
theorem dL_law_2501 : decode cL_law 2501 = .ok (.iload 5, 2) := dw_39 (pc9 (k := 2496) (j := 5) lDL_78 rfl)
theorem dL_law_2503 : decode cL_law 2503 = .ok (.iconst 2, 1) := dw_260 (pc9 (k := 2496) (j := 7) lDL_78 rfl)
theorem dL_law_2504 : decode cL_law 2504 = .ok (.iadd, 1) := dw_43 (pc9 (k := 2496) (j := 8) lDL_78 rfl)
theorem dL_law_2505 : decode cL_law 2505 = .ok (.iaload, 1) := dw_16 (pc9 (k := 2496) (j := 9) lDL_78 rfl)
theorem dL_law_2506 : decode cL_law 2506 = .ok (.ifCond .eq 7, 3) := dw_227 (pc9 (k := 2496) (j := 10) lDL_78 rfl)
theorem dL_law_2509 : decode cL_law 2509 = .ok (.iconst 1, 1) := dw_26 (pc9 (k := 2496) (j := 13) lDL_78 rfl)
theorem dL_law_2510 : decode cL_law 2510 = .ok (.goto 4, 3) := dw_84 (pc9 (k := 2496) (j := 14) lDL_78 rfl)
theorem dL_law_2513 : decode cL_law 2513 = .ok (.iconst 0, 1) := dw_6 (pc9 (k := 2496) (j := 17) lDL_78 rfl)
theorem dL_law_2514 : decode cL_law 2514 = .ok (.invokevirtual 357, 3) := dw_924 (pc9 (k := 2496) (j := 18) lDL_78 rfl)
theorem dL_law_2517 : decode cL_law 2517 = .ok (.istore 7, 2) := dw_58 (pc9 (k := 2496) (j := 21) lDL_78 rfl)
theorem dL_law_2519 : decode cL_law 2519 = .ok (.goto 233, 3) := dw_925 (pc9 (k := 2496) (j := 23) lDL_78 rfl)
theorem dL_law_2522 : decode cL_law 2522 = .ok (.aload_n 1, 1) := dw_5 (pc9 (k := 2496) (j := 26) lDL_78 rfl)
theorem dL_law_2523 : decode cL_law 2523 = .ok (.aload_n 0, 1) := dw_0 (pc9 (k := 2496) (j := 27) lDL_78 rfl)
theorem dL_law_2524 : decode cL_law 2524 = .ok (.iload 5, 2) := dw_39 (pc9 (k := 2496) (j := 28) lDL_78 rfl)
theorem dL_law_2526 : decode cL_law 2526 = .ok (.iconst 1, 1) := dw_26 (pc9 (k := 2496) (j := 30) lDL_78 rfl)
theorem dL_law_2527 : decode cL_law 2527 = .ok (.iadd, 1) := dw_43 (pc9 (k := 2496) (j := 31) lDL_78 rfl)
theorem dL_law_2528 : decode cL_law 2528 = .ok (.iaload, 1) := dw_16 (pc9 (k := 2528) (j := 0) lDL_79 rfl)
theorem dL_law_2529 : decode cL_law 2529 = .ok (.aload_n 3, 1) := dw_119 (pc9 (k := 2528) (j := 1) lDL_79 rfl)
theorem dL_law_2530 : decode cL_law 2530 = .ok (.invokestatic 358, 3) := dw_926 (pc9 (k := 2528) (j := 2) lDL_79 rfl)
theorem dL_law_2533 : decode cL_law 2533 = .ok (.istore 6, 2) := dw_35 (pc9 (k := 2528) (j := 5) lDL_79 rfl)
theorem dL_law_2535 : decode cL_law 2535 = .ok (.aload_n 2, 1) := dw_52 (pc9 (k := 2528) (j := 7) lDL_79 rfl)
theorem dL_law_2536 : decode cL_law 2536 = .ok (.aload_n 0, 1) := dw_0 (pc9 (k := 2528) (j := 8) lDL_79 rfl)
theorem dL_law_2537 : decode cL_law 2537 = .ok (.iload 5, 2) := dw_39 (pc9 (k := 2528) (j := 9) lDL_79 rfl)
theorem dL_law_2539 : decode cL_law 2539 = .ok (.iconst 1, 1) := dw_26 (pc9 (k := 2528) (j := 11) lDL_79 rfl)
theorem dL_law_2540 : decode cL_law 2540 = .ok (.iadd, 1) := dw_43 (pc9 (k := 2528) (j := 12) lDL_79 rfl)
theorem dL_law_2541 : decode cL_law 2541 = .ok (.iaload, 1) := dw_16 (pc9 (k := 2528) (j := 13) lDL_79 rfl)
theorem dL_law_2542 : decode cL_law 2542 = .ok (.invokevirtual 360, 3) := dw_927 (pc9 (k := 2528) (j := 14) lDL_79 rfl)
theorem dL_law_2545 : decode cL_law 2545 = .ok (.istore 7, 2) := dw_58 (pc9 (k := 2528) (j := 17) lDL_79 rfl)
theorem dL_law_2547 : decode cL_law 2547 = .ok (.goto 205, 3) := dw_928 (pc9 (k := 2528) (j := 19) lDL_79 rfl)
theorem dL_law_2550 : decode cL_law 2550 = .ok (.aload_n 1, 1) := dw_5 (pc9 (k := 2528) (j := 22) lDL_79 rfl)
theorem dL_law_2551 : decode cL_law 2551 = .ok (.aload_n 0, 1) := dw_0 (pc9 (k := 2528) (j := 23) lDL_79 rfl)
theorem dL_law_2552 : decode cL_law 2552 = .ok (.iload 5, 2) := dw_39 (pc9 (k := 2528) (j := 24) lDL_79 rfl)
theorem dL_law_2554 : decode cL_law 2554 = .ok (.iconst 1, 1) := dw_26 (pc9 (k := 2528) (j := 26) lDL_79 rfl)
theorem dL_law_2555 : decode cL_law 2555 = .ok (.iadd, 1) := dw_43 (pc9 (k := 2528) (j := 27) lDL_79 rfl)
theorem dL_law_2556 : decode cL_law 2556 = .ok (.iaload, 1) := dw_16 (pc9 (k := 2528) (j := 28) lDL_79 rfl)
theorem dL_law_2557 : decode cL_law 2557 = .ok (.aload_n 0, 1) := dw_0 (pc9 (k := 2528) (j := 29) lDL_79 rfl)
theorem dL_law_2558 : decode cL_law 2558 = .ok (.iload 5, 2) := dw_39 (pc9 (k := 2528) (j := 30) lDL_79 rfl)
theorem dL_law_2560 : decode cL_law 2560 = .ok (.iconst 2, 1) := dw_260 (pc9 (k := 2560) (j := 0) lDL_80 rfl)
theorem dL_law_2561 : decode cL_law 2561 = .ok (.iadd, 1) := dw_43 (pc9 (k := 2560) (j := 1) lDL_80 rfl)
theorem dL_law_2562 : decode cL_law 2562 = .ok (.iaload, 1) := dw_16 (pc9 (k := 2560) (j := 2) lDL_80 rfl)
theorem dL_law_2563 : decode cL_law 2563 = .ok (.aload_n 3, 1) := dw_119 (pc9 (k := 2560) (j := 3) lDL_80 rfl)
theorem dL_law_2564 : decode cL_law 2564 = .ok (.invokestatic 361, 3) := dw_929 (pc9 (k := 2560) (j := 4) lDL_80 rfl)
theorem dL_law_2567 : decode cL_law 2567 = .ok (.istore 6, 2) := dw_35 (pc9 (k := 2560) (j := 7) lDL_80 rfl)
theorem dL_law_2569 : decode cL_law 2569 = .ok (.aload_n 2, 1) := dw_52 (pc9 (k := 2560) (j := 9) lDL_80 rfl)
theorem dL_law_2570 : decode cL_law 2570 = .ok (.aload_n 0, 1) := dw_0 (pc9 (k := 2560) (j := 10) lDL_80 rfl)
theorem dL_law_2571 : decode cL_law 2571 = .ok (.iload 5, 2) := dw_39 (pc9 (k := 2560) (j := 11) lDL_80 rfl)
theorem dL_law_2573 : decode cL_law 2573 = .ok (.iconst 1, 1) := dw_26 (pc9 (k := 2560) (j := 13) lDL_80 rfl)
theorem dL_law_2574 : decode cL_law 2574 = .ok (.iadd, 1) := dw_43 (pc9 (k := 2560) (j := 14) lDL_80 rfl)
theorem dL_law_2575 : decode cL_law 2575 = .ok (.iaload, 1) := dw_16 (pc9 (k := 2560) (j := 15) lDL_80 rfl)
theorem dL_law_2576 : decode cL_law 2576 = .ok (.aload_n 0, 1) := dw_0 (pc9 (k := 2560) (j := 16) lDL_80 rfl)
theorem dL_law_2577 : decode cL_law 2577 = .ok (.iload 5, 2) := dw_39 (pc9 (k := 2560) (j := 17) lDL_80 rfl)
theorem dL_law_2579 : decode cL_law 2579 = .ok (.iconst 2, 1) := dw_260 (pc9 (k := 2560) (j := 19) lDL_80 rfl)
theorem dL_law_2580 : decode cL_law 2580 = .ok (.iadd, 1) := dw_43 (pc9 (k := 2560) (j := 20) lDL_80 rfl)
theorem dL_law_2581 : decode cL_law 2581 = .ok (.iaload, 1) := dw_16 (pc9 (k := 2560) (j := 21) lDL_80 rfl)
theorem dL_law_2582 : decode cL_law 2582 = .ok (.invokevirtual 363, 3) := dw_930 (pc9 (k := 2560) (j := 22) lDL_80 rfl)
theorem dL_law_2585 : decode cL_law 2585 = .ok (.istore 7, 2) := dw_58 (pc9 (k := 2560) (j := 25) lDL_80 rfl)
theorem dL_law_2587 : decode cL_law 2587 = .ok (.goto 165, 3) := dw_931 (pc9 (k := 2560) (j := 27) lDL_80 rfl)
theorem dL_law_2590 : decode cL_law 2590 = .ok (.aload_n 1, 1) := dw_5 (pc9 (k := 2560) (j := 30) lDL_80 rfl)
theorem dL_law_2591 : decode cL_law 2591 = .ok (.aload_n 0, 1) := dw_0 (pc9 (k := 2560) (j := 31) lDL_80 rfl)
theorem dL_law_2592 : decode cL_law 2592 = .ok (.iload 5, 2) := dw_39 (pc9 (k := 2592) (j := 0) lDL_81 rfl)
theorem dL_law_2594 : decode cL_law 2594 = .ok (.iconst 1, 1) := dw_26 (pc9 (k := 2592) (j := 2) lDL_81 rfl)
theorem dL_law_2595 : decode cL_law 2595 = .ok (.iadd, 1) := dw_43 (pc9 (k := 2592) (j := 3) lDL_81 rfl)
theorem dL_law_2596 : decode cL_law 2596 = .ok (.iaload, 1) := dw_16 (pc9 (k := 2592) (j := 4) lDL_81 rfl)
theorem dL_law_2597 : decode cL_law 2597 = .ok (.aload_n 3, 1) := dw_119 (pc9 (k := 2592) (j := 5) lDL_81 rfl)
theorem dL_law_2598 : decode cL_law 2598 = .ok (.invokestatic 364, 3) := dw_932 (pc9 (k := 2592) (j := 6) lDL_81 rfl)
theorem dL_law_2601 : decode cL_law 2601 = .ok (.istore 6, 2) := dw_35 (pc9 (k := 2592) (j := 9) lDL_81 rfl)
theorem dL_law_2603 : decode cL_law 2603 = .ok (.aload_n 2, 1) := dw_52 (pc9 (k := 2592) (j := 11) lDL_81 rfl)
theorem dL_law_2604 : decode cL_law 2604 = .ok (.aload_n 0, 1) := dw_0 (pc9 (k := 2592) (j := 12) lDL_81 rfl)
theorem dL_law_2605 : decode cL_law 2605 = .ok (.iload 5, 2) := dw_39 (pc9 (k := 2592) (j := 13) lDL_81 rfl)
theorem dL_law_2607 : decode cL_law 2607 = .ok (.iconst 1, 1) := dw_26 (pc9 (k := 2592) (j := 15) lDL_81 rfl)
theorem dL_law_2608 : decode cL_law 2608 = .ok (.iadd, 1) := dw_43 (pc9 (k := 2592) (j := 16) lDL_81 rfl)
theorem dL_law_2609 : decode cL_law 2609 = .ok (.iaload, 1) := dw_16 (pc9 (k := 2592) (j := 17) lDL_81 rfl)
theorem dL_law_2610 : decode cL_law 2610 = .ok (.invokevirtual 366, 3) := dw_933 (pc9 (k := 2592) (j := 18) lDL_81 rfl)
theorem dL_law_2613 : decode cL_law 2613 = .ok (.istore 7, 2) := dw_58 (pc9 (k := 2592) (j := 21) lDL_81 rfl)
theorem dL_law_2615 : decode cL_law 2615 = .ok (.goto 137, 3) := dw_934 (pc9 (k := 2592) (j := 23) lDL_81 rfl)
theorem dL_law_2618 : decode cL_law 2618 = .ok (.aload_n 1, 1) := dw_5 (pc9 (k := 2592) (j := 26) lDL_81 rfl)
theorem dL_law_2619 : decode cL_law 2619 = .ok (.aload_n 0, 1) := dw_0 (pc9 (k := 2592) (j := 27) lDL_81 rfl)
theorem dL_law_2620 : decode cL_law 2620 = .ok (.iload 5, 2) := dw_39 (pc9 (k := 2592) (j := 28) lDL_81 rfl)
theorem dL_law_2622 : decode cL_law 2622 = .ok (.iconst 1, 1) := dw_26 (pc9 (k := 2592) (j := 30) lDL_81 rfl)
theorem dL_law_2623 : decode cL_law 2623 = .ok (.iadd, 1) := dw_43 (pc9 (k := 2592) (j := 31) lDL_81 rfl)
theorem dL_law_2624 : decode cL_law 2624 = .ok (.iaload, 1) := dw_16 (pc9 (k := 2624) (j := 0) lDL_82 rfl)
theorem dL_law_2625 : decode cL_law 2625 = .ok (.aload_n 0, 1) := dw_0 (pc9 (k := 2624) (j := 1) lDL_82 rfl)
theorem dL_law_2626 : decode cL_law 2626 = .ok (.iload 5, 2) := dw_39 (pc9 (k := 2624) (j := 2) lDL_82 rfl)
theorem dL_law_2628 : decode cL_law 2628 = .ok (.iconst 2, 1) := dw_260 (pc9 (k := 2624) (j := 4) lDL_82 rfl)
theorem dL_law_2629 : decode cL_law 2629 = .ok (.iadd, 1) := dw_43 (pc9 (k := 2624) (j := 5) lDL_82 rfl)
theorem dL_law_2630 : decode cL_law 2630 = .ok (.iaload, 1) := dw_16 (pc9 (k := 2624) (j := 6) lDL_82 rfl)
theorem dL_law_2631 : decode cL_law 2631 = .ok (.aload_n 3, 1) := dw_119 (pc9 (k := 2624) (j := 7) lDL_82 rfl)
theorem dL_law_2632 : decode cL_law 2632 = .ok (.invokestatic 367, 3) := dw_935 (pc9 (k := 2624) (j := 8) lDL_82 rfl)
theorem dL_law_2635 : decode cL_law 2635 = .ok (.istore 6, 2) := dw_35 (pc9 (k := 2624) (j := 11) lDL_82 rfl)
theorem dL_law_2637 : decode cL_law 2637 = .ok (.aload_n 2, 1) := dw_52 (pc9 (k := 2624) (j := 13) lDL_82 rfl)
theorem dL_law_2638 : decode cL_law 2638 = .ok (.aload_n 0, 1) := dw_0 (pc9 (k := 2624) (j := 14) lDL_82 rfl)
theorem dL_law_2639 : decode cL_law 2639 = .ok (.iload 5, 2) := dw_39 (pc9 (k := 2624) (j := 15) lDL_82 rfl)
theorem dL_law_2641 : decode cL_law 2641 = .ok (.iconst 1, 1) := dw_26 (pc9 (k := 2624) (j := 17) lDL_82 rfl)
theorem dL_law_2642 : decode cL_law 2642 = .ok (.iadd, 1) := dw_43 (pc9 (k := 2624) (j := 18) lDL_82 rfl)
theorem dL_law_2643 : decode cL_law 2643 = .ok (.iaload, 1) := dw_16 (pc9 (k := 2624) (j := 19) lDL_82 rfl)
theorem dL_law_2644 : decode cL_law 2644 = .ok (.aload_n 0, 1) := dw_0 (pc9 (k := 2624) (j := 20) lDL_82 rfl)
theorem dL_law_2645 : decode cL_law 2645 = .ok (.iload 5, 2) := dw_39 (pc9 (k := 2624) (j := 21) lDL_82 rfl)
theorem dL_law_2647 : decode cL_law 2647 = .ok (.iconst 2, 1) := dw_260 (pc9 (k := 2624) (j := 23) lDL_82 rfl)
theorem dL_law_2648 : decode cL_law 2648 = .ok (.iadd, 1) := dw_43 (pc9 (k := 2624) (j := 24) lDL_82 rfl)
theorem dL_law_2649 : decode cL_law 2649 = .ok (.iaload, 1) := dw_16 (pc9 (k := 2624) (j := 25) lDL_82 rfl)
theorem dL_law_2650 : decode cL_law 2650 = .ok (.invokevirtual 369, 3) := dw_936 (pc9 (k := 2624) (j := 26) lDL_82 rfl)
theorem dL_law_2653 : decode cL_law 2653 = .ok (.istore 7, 2) := dw_58 (pc9 (k := 2624) (j := 29) lDL_82 rfl)
theorem dL_law_2655 : decode cL_law 2655 = .ok (.goto 97, 3) := dw_937 (pc9 (k := 2624) (j := 31) lDL_82 rfl)
theorem dL_law_2658 : decode cL_law 2658 = .ok (.aload_n 1, 1) := dw_5 (pc9 (k := 2656) (j := 2) lDL_83 rfl)
theorem dL_law_2659 : decode cL_law 2659 = .ok (.aload_n 0, 1) := dw_0 (pc9 (k := 2656) (j := 3) lDL_83 rfl)
theorem dL_law_2660 : decode cL_law 2660 = .ok (.iload 5, 2) := dw_39 (pc9 (k := 2656) (j := 4) lDL_83 rfl)
theorem dL_law_2662 : decode cL_law 2662 = .ok (.iconst 1, 1) := dw_26 (pc9 (k := 2656) (j := 6) lDL_83 rfl)
theorem dL_law_2663 : decode cL_law 2663 = .ok (.iadd, 1) := dw_43 (pc9 (k := 2656) (j := 7) lDL_83 rfl)
theorem dL_law_2664 : decode cL_law 2664 = .ok (.iaload, 1) := dw_16 (pc9 (k := 2656) (j := 8) lDL_83 rfl)
theorem dL_law_2665 : decode cL_law 2665 = .ok (.invokevirtual 370, 3) := dw_938 (pc9 (k := 2656) (j := 9) lDL_83 rfl)
theorem dL_law_2668 : decode cL_law 2668 = .ok (.pop, 1) := dw_441 (pc9 (k := 2656) (j := 12) lDL_83 rfl)
theorem dL_law_2669 : decode cL_law 2669 = .ok (.aload_n 2, 1) := dw_52 (pc9 (k := 2656) (j := 13) lDL_83 rfl)
theorem dL_law_2670 : decode cL_law 2670 = .ok (.aload_n 0, 1) := dw_0 (pc9 (k := 2656) (j := 14) lDL_83 rfl)
theorem dL_law_2671 : decode cL_law 2671 = .ok (.iload 5, 2) := dw_39 (pc9 (k := 2656) (j := 15) lDL_83 rfl)
theorem dL_law_2673 : decode cL_law 2673 = .ok (.iconst 1, 1) := dw_26 (pc9 (k := 2656) (j := 17) lDL_83 rfl)
theorem dL_law_2674 : decode cL_law 2674 = .ok (.iadd, 1) := dw_43 (pc9 (k := 2656) (j := 18) lDL_83 rfl)
theorem dL_law_2675 : decode cL_law 2675 = .ok (.iaload, 1) := dw_16 (pc9 (k := 2656) (j := 19) lDL_83 rfl)
theorem dL_law_2676 : decode cL_law 2676 = .ok (.invokevirtual 373, 3) := dw_939 (pc9 (k := 2656) (j := 20) lDL_83 rfl)
theorem dL_law_2679 : decode cL_law 2679 = .ok (.pop, 1) := dw_441 (pc9 (k := 2656) (j := 23) lDL_83 rfl)
theorem dL_law_2680 : decode cL_law 2680 = .ok (.goto 72, 3) := dw_940 (pc9 (k := 2656) (j := 24) lDL_83 rfl)
theorem dL_law_2683 : decode cL_law 2683 = .ok (.aload_n 1, 1) := dw_5 (pc9 (k := 2656) (j := 27) lDL_83 rfl)
theorem dL_law_2684 : decode cL_law 2684 = .ok (.invokevirtual 374, 3) := dw_941 (pc9 (k := 2656) (j := 28) lDL_83 rfl)
theorem dL_law_2687 : decode cL_law 2687 = .ok (.pop, 1) := dw_441 (pc9 (k := 2656) (j := 31) lDL_83 rfl)
theorem dL_law_2688 : decode cL_law 2688 = .ok (.aload_n 2, 1) := dw_52 (pc9 (k := 2688) (j := 0) lDL_84 rfl)
theorem dL_law_2689 : decode cL_law 2689 = .ok (.invokevirtual 377, 3) := dw_942 (pc9 (k := 2688) (j := 1) lDL_84 rfl)
theorem dL_law_2692 : decode cL_law 2692 = .ok (.pop, 1) := dw_441 (pc9 (k := 2688) (j := 4) lDL_84 rfl)
theorem dL_law_2693 : decode cL_law 2693 = .ok (.goto 59, 3) := dw_943 (pc9 (k := 2688) (j := 5) lDL_84 rfl)
theorem dL_law_2696 : decode cL_law 2696 = .ok (.aload_n 1, 1) := dw_5 (pc9 (k := 2688) (j := 8) lDL_84 rfl)
theorem dL_law_2697 : decode cL_law 2697 = .ok (.aload_n 0, 1) := dw_0 (pc9 (k := 2688) (j := 9) lDL_84 rfl)
theorem dL_law_2698 : decode cL_law 2698 = .ok (.iload 5, 2) := dw_39 (pc9 (k := 2688) (j := 10) lDL_84 rfl)
theorem dL_law_2700 : decode cL_law 2700 = .ok (.iconst 1, 1) := dw_26 (pc9 (k := 2688) (j := 12) lDL_84 rfl)
theorem dL_law_2701 : decode cL_law 2701 = .ok (.iadd, 1) := dw_43 (pc9 (k := 2688) (j := 13) lDL_84 rfl)
theorem dL_law_2702 : decode cL_law 2702 = .ok (.iaload, 1) := dw_16 (pc9 (k := 2688) (j := 14) lDL_84 rfl)
theorem dL_law_2703 : decode cL_law 2703 = .ok (.aload_n 3, 1) := dw_119 (pc9 (k := 2688) (j := 15) lDL_84 rfl)
theorem dL_law_2704 : decode cL_law 2704 = .ok (.invokestatic 378, 3) := dw_944 (pc9 (k := 2688) (j := 16) lDL_84 rfl)
theorem dL_law_2707 : decode cL_law 2707 = .ok (.istore 6, 2) := dw_35 (pc9 (k := 2688) (j := 19) lDL_84 rfl)
theorem dL_law_2709 : decode cL_law 2709 = .ok (.aload_n 2, 1) := dw_52 (pc9 (k := 2688) (j := 21) lDL_84 rfl)
theorem dL_law_2710 : decode cL_law 2710 = .ok (.aload_n 0, 1) := dw_0 (pc9 (k := 2688) (j := 22) lDL_84 rfl)
theorem dL_law_2711 : decode cL_law 2711 = .ok (.iload 5, 2) := dw_39 (pc9 (k := 2688) (j := 23) lDL_84 rfl)
theorem dL_law_2713 : decode cL_law 2713 = .ok (.iconst 1, 1) := dw_26 (pc9 (k := 2688) (j := 25) lDL_84 rfl)
theorem dL_law_2714 : decode cL_law 2714 = .ok (.iadd, 1) := dw_43 (pc9 (k := 2688) (j := 26) lDL_84 rfl)
theorem dL_law_2715 : decode cL_law 2715 = .ok (.iaload, 1) := dw_16 (pc9 (k := 2688) (j := 27) lDL_84 rfl)
theorem dL_law_2716 : decode cL_law 2716 = .ok (.invokevirtual 380, 3) := dw_945 (pc9 (k := 2688) (j := 28) lDL_84 rfl)
theorem dL_law_2719 : decode cL_law 2719 = .ok (.istore 7, 2) := dw_58 (pc9 (k := 2688) (j := 31) lDL_84 rfl)
theorem dL_law_2721 : decode cL_law 2721 = .ok (.goto 31, 3) := dw_946 (pc9 (k := 2720) (j := 1) lDL_85 rfl)
theorem dL_law_2724 : decode cL_law 2724 = .ok (.aload_n 1, 1) := dw_5 (pc9 (k := 2720) (j := 4) lDL_85 rfl)
theorem dL_law_2725 : decode cL_law 2725 = .ok (.aload_n 0, 1) := dw_0 (pc9 (k := 2720) (j := 5) lDL_85 rfl)
theorem dL_law_2726 : decode cL_law 2726 = .ok (.iload 5, 2) := dw_39 (pc9 (k := 2720) (j := 6) lDL_85 rfl)
theorem dL_law_2728 : decode cL_law 2728 = .ok (.iconst 1, 1) := dw_26 (pc9 (k := 2720) (j := 8) lDL_85 rfl)
theorem dL_law_2729 : decode cL_law 2729 = .ok (.iadd, 1) := dw_43 (pc9 (k := 2720) (j := 9) lDL_85 rfl)
theorem dL_law_2730 : decode cL_law 2730 = .ok (.iaload, 1) := dw_16 (pc9 (k := 2720) (j := 10) lDL_85 rfl)
theorem dL_law_2731 : decode cL_law 2731 = .ok (.aload_n 3, 1) := dw_119 (pc9 (k := 2720) (j := 11) lDL_85 rfl)
theorem dL_law_2732 : decode cL_law 2732 = .ok (.invokestatic 381, 3) := dw_947 (pc9 (k := 2720) (j := 12) lDL_85 rfl)
theorem dL_law_2735 : decode cL_law 2735 = .ok (.istore 6, 2) := dw_35 (pc9 (k := 2720) (j := 15) lDL_85 rfl)
theorem dL_law_2737 : decode cL_law 2737 = .ok (.aload_n 2, 1) := dw_52 (pc9 (k := 2720) (j := 17) lDL_85 rfl)
theorem dL_law_2738 : decode cL_law 2738 = .ok (.aload_n 0, 1) := dw_0 (pc9 (k := 2720) (j := 18) lDL_85 rfl)
theorem dL_law_2739 : decode cL_law 2739 = .ok (.iload 5, 2) := dw_39 (pc9 (k := 2720) (j := 19) lDL_85 rfl)
theorem dL_law_2741 : decode cL_law 2741 = .ok (.iconst 1, 1) := dw_26 (pc9 (k := 2720) (j := 21) lDL_85 rfl)
theorem dL_law_2742 : decode cL_law 2742 = .ok (.iadd, 1) := dw_43 (pc9 (k := 2720) (j := 22) lDL_85 rfl)
theorem dL_law_2743 : decode cL_law 2743 = .ok (.iaload, 1) := dw_16 (pc9 (k := 2720) (j := 23) lDL_85 rfl)
theorem dL_law_2744 : decode cL_law 2744 = .ok (.invokevirtual 383, 3) := dw_948 (pc9 (k := 2720) (j := 24) lDL_85 rfl)
theorem dL_law_2747 : decode cL_law 2747 = .ok (.istore 7, 2) := dw_58 (pc9 (k := 2720) (j := 27) lDL_85 rfl)
theorem dL_law_2749 : decode cL_law 2749 = .ok (.goto 3, 3) := dw_949 (pc9 (k := 2720) (j := 29) lDL_85 rfl)
theorem dL_law_2752 : decode cL_law 2752 = .ok (.iinc 5 5, 3) := dw_950 (pc9 (k := 2752) (j := 0) lDL_86 rfl)
theorem dL_law_2755 : decode cL_law 2755 = .ok (.goto (-2727), 3) := dw_951 (pc9 (k := 2752) (j := 3) lDL_86 rfl)
theorem dL_law_2758 : decode cL_law 2758 = .ok (.iconst 1, 1) := dw_26 (pc9 (k := 2752) (j := 6) lDL_86 rfl)
theorem dL_law_2759 : decode cL_law 2759 = .ok (.ireturn, 1) := dw_31 (pc9 (k := 2752) (j := 7) lDL_86 rfl)
end
-- 505.lawlinks
section
abbrev jL_count : Jm := (yL_count, cL_count, 4, (some FieldType.int), [(0, 9, 12, 13)])
abbrev jL_bit : Jm := (yL_bit, cL_bit, 6, (some FieldType.int), [(0, 12, 15, 19)])
abbrev jL_row : Jm := (yL_row, cL_row, 5, (some FieldType.int), [(0, 9, 12, 19)])
abbrev jL_rank : Jm := (yL_rank, cL_rank, 6, (some FieldType.int), [(0, 12, 15, 19), (0, 12, 19, 13)])
abbrev jL_select : Jm := (yL_select, cL_select, 6, (some FieldType.int), [(0, 12, 15, 19)])
abbrev jL_ones : Jm := (yL_ones, cL_ones, 4, (some FieldType.int), [(0, 9, 12, 19)])
abbrev jL_columnOnes : Jm := (yL_columnOnes, cL_columnOnes, 5, (some FieldType.int), [(0, 10, 13, 19)])
abbrev jL_sameAs : Jm := (yL_sameAs, cL_sameAs, 5, (some FieldType.int), [(0, 10, 13, 19)])
abbrev jL_classes : Jm := (yL_classes, cL_classes, 4, (some FieldType.int), [(0, 9, 12, 19)])
abbrev jL_classOf : Jm := (yL_classOf, cL_classOf, 5, (some FieldType.int), [(0, 10, 13, 19)])
abbrev jL_find : Jm := (yL_find, cL_find, 6, (some FieldType.int), [(0, 11, 14, 19)])
abbrev jL_nearest : Jm := (yL_nearest, cL_nearest, 5, (some FieldType.int), [(0, 10, 13, 19)])
abbrev jL_density : Jm := (yL_density, cL_density, 4, (some FieldType.int), [(0, 8, 11, 19)])
abbrev jL_isSymmetric : Jm := (yL_isSymmetric, cL_isSymmetric, 4, (some FieldType.int), [(0, 16, 19, 19)])
abbrev jL_reaches : Jm := (yL_reaches, cL_reaches, 6, (some FieldType.int), [(0, 12, 15, 19)])
abbrev jL_reached : Jm := (yL_reached, cL_reached, 5, (some FieldType.int), [(0, 10, 13, 19)])
abbrev jL_pairs : Jm := (yL_pairs, cL_pairs, 4, (some FieldType.int), [(0, 9, 12, 19)])
abbrev jL_meanReach : Jm := (yL_meanReach, cL_meanReach, 4, (some FieldType.int), [(0, 9, 12, 19)])
abbrev jL_component : Jm := (yL_component, cL_component, 5, (some FieldType.int), [(0, 10, 13, 19)])
abbrev jL_components : Jm := (yL_components, cL_components, 4, (some FieldType.int), [(0, 9, 12, 19)])
abbrev jL_distance : Jm := (yL_distance, cL_distance, 6, (some FieldType.int), [(0, 12, 15, 19)])
abbrev jL_stepAt : Jm := (yL_stepAt, cL_stepAt, 7, (some FieldType.int), [(0, 14, 17, 19)])
abbrev jL_around : Jm := (yL_around, cL_around, 5, (some FieldType.int), [(0, 10, 13, 19)])
abbrev jL_girth : Jm := (yL_girth, cL_girth, 4, (some FieldType.int), [(0, 9, 12, 19)])
abbrev jL_order : Jm := (yL_order, cL_order, 5, (some FieldType.int), [(0, 10, 13, 19)])
abbrev jL_gained : Jm := (yL_gained, cL_gained, 6, (some FieldType.int), [(0, 12, 15, 19)])
abbrev jL_lost : Jm := (yL_lost, cL_lost, 6, (some FieldType.int), [(0, 12, 15, 19)])
abbrev jL_bestEdge : Jm := (yL_bestEdge, cL_bestEdge, 4, (some FieldType.int), [(0, 9, 12, 19)])
abbrev jL_weakest : Jm := (yL_weakest, cL_weakest, 4, (some FieldType.int), [(0, 9, 12, 19)])
abbrev jL_triangles : Jm := (yL_triangles, cL_triangles, 4, (some FieldType.int), [(0, 9, 12, 19)])
abbrev jL_fieldRank : Jm := (yL_fieldRank, cL_fieldRank, 4, (some FieldType.int), [(0, 9, 12, 19)])
abbrev jL_solve : Jm := (yL_solve, cL_solve, 6, (some FieldType.int), [(0, 10, 13, 19)])
abbrev jL_freedom : Jm := (yL_freedom, cL_freedom, 6, (some FieldType.int), [(0, 11, 14, 19)])
abbrev jL_pivot : Jm := (yL_pivot, cL_pivot, 5, (some FieldType.int), [(0, 10, 13, 19)])
abbrev jL_put : Jm := (yL_put, cL_put, 7, (some FieldType.int), [(0, 14, 17, 19)])
abbrev jL_setRow : Jm := (yL_setRow, cL_setRow, 7, (some FieldType.int), [(0, 12, 15, 19)])
abbrev jL_copy : Jm := (yL_copy, cL_copy, 5, (some FieldType.int), [(0, 10, 13, 19)])
abbrev jL_transpose : Jm := (yL_transpose, cL_transpose, 5, (some FieldType.int), [(0, 10, 13, 19)])
abbrev jL_combine : Jm := (yL_combine, cL_combine, 7, (some FieldType.int), [(0, 14, 17, 19), (0, 14, 21, 13)])
abbrev jL_product : Jm := (yL_product, cL_product, 7, (some FieldType.int), [(0, 14, 17, 19)])
abbrev jL_power : Jm := (yL_power, cL_power, 7, (some FieldType.int), [(0, 14, 17, 19), (0, 14, 21, 13)])
abbrev jL_invert : Jm := (yL_invert, cL_invert, 5, (some FieldType.int), [(0, 10, 13, 19)])
abbrev jL_close : Jm := (yL_close, cL_close, 5, (some FieldType.int), [(0, 10, 13, 19)])
abbrev jL_reduce : Jm := (yL_reduce, cL_reduce, 5, (some FieldType.int), [(0, 10, 13, 19)])
abbrev jL_exchange : Jm := (yL_exchange, cL_exchange, 6, (some FieldType.int), [(0, 12, 15, 19)])
abbrev jL_keep : Jm := (yL_keep, cL_keep, 5, (some FieldType.int), [(0, 10, 13, 19)])
abbrev jL_setBlock : Jm := (yL_setBlock, cL_setBlock, 4, (some FieldType.int), [(0, 9, 12, 13)])
abbrev jL_kept : Jm := (yL_kept, cL_kept, 5, (some FieldType.int), [(0, 10, 13, 19), (0, 10, 17, 13)])
abbrev jL_work : Jm := (yL_work, cL_work, 4, (some FieldType.int), [(0, 9, 12, 13)])
abbrev jL_writeRow : Jm := (yL_writeRow, cL_writeRow, 5, (some FieldType.int), [(0, 10, 13, 19)])
abbrev jL_saveSnapshot : Jm := (yL_saveSnapshot, cL_saveSnapshot, 4, (some FieldType.int), [(0, 9, 12, 13)])
abbrev jL_restoreSnapshot : Jm := (yL_restoreSnapshot, cL_restoreSnapshot, 4, (some FieldType.int), [(0, 9, 12, 13)])
abbrev jL_law : Jm := (⟨RL, "law", "([I)Z"⟩, code, maxLocals, ret, [])
theorem wd_539 : (Jvm.Cond.code ({ cls := "BitDesk", name := "count", desc := "(I)I" } : Jvm.MethodName) prog_1_method_6_code (2 : Nat) (Option.some Jvm.ClassFile.FieldType.int)) ∈ WS := ws_c2 205 rfl rfl
theorem wd_536 : (Jvm.Cond.methodLink "BitDeskLaw" (7 : Nat) ({ cls := "BitDesk", name := "count", desc := "(I)I" } : Jvm.MethodName)) ∈ WS := ws_c2 202 rfl rfl
theorem wd_537 : (Jvm.Cond.instanceMethod ({ cls := "BitDesk", name := "count", desc := "(I)I" } : Jvm.MethodName)) ∈ WS := ws_c2 203 rfl rfl
theorem wd_538 : (Jvm.Cond.selects "BitDesk" ({ cls := "BitDesk", name := "count", desc := "(I)I" } : Jvm.MethodName) ({ cls := "BitDesk", name := "count", desc := "(I)I" } : Jvm.MethodName)) ∈ WS := ws_c2 204 rfl rfl
theorem lk_L_7 : LkV RL 7 jX6_count 1 := ⟨⟨wd_536, ⟨rfl, (by rw [cwd_nil rfl]; exact wd_539)⟩, wd_95, ⟨by decide +kernel, by decide +kernel⟩, by decide +kernel⟩, wd_537, wd_538⟩
theorem wd_621 : (Jvm.Cond.code ({ cls := "BitDesk", name := "bit", desc := "(III)I" } : Jvm.MethodName) prog_1_method_7_code (4 : Nat) (Option.some Jvm.ClassFile.FieldType.int)) ∈ WS := ws_c3 47 rfl rfl
theorem wd_618 : (Jvm.Cond.methodLink "BitDeskLaw" (15 : Nat) ({ cls := "BitDesk", name := "bit", desc := "(III)I" } : Jvm.MethodName)) ∈ WS := ws_c3 44 rfl rfl
theorem wd_619 : (Jvm.Cond.instanceMethod ({ cls := "BitDesk", name := "bit", desc := "(III)I" } : Jvm.MethodName)) ∈ WS := ws_c3 45 rfl rfl
theorem wd_620 : (Jvm.Cond.selects "BitDesk" ({ cls := "BitDesk", name := "bit", desc := "(III)I" } : Jvm.MethodName) ({ cls := "BitDesk", name := "bit", desc := "(III)I" } : Jvm.MethodName)) ∈ WS := ws_c3 46 rfl rfl
theorem lk_L_15 : LkV RL 15 jX6_bit 3 := ⟨⟨wd_618, ⟨rfl, (by rw [cwd_nil rfl]; exact wd_621)⟩, wd_95, ⟨by decide +kernel, by decide +kernel⟩, by decide +kernel⟩, wd_619, wd_620⟩
theorem wd_668 : (Jvm.Cond.code ({ cls := "BitDesk", name := "row", desc := "(II)J" } : Jvm.MethodName) prog_1_method_8_code (3 : Nat) (Option.some Jvm.ClassFile.FieldType.long)) ∈ WS := ws_c3 94 rfl rfl
theorem wd_665 : (Jvm.Cond.methodLink "BitDeskLaw" (21 : Nat) ({ cls := "BitDesk", name := "row", desc := "(II)J" } : Jvm.MethodName)) ∈ WS := ws_c3 91 rfl rfl
theorem wd_666 : (Jvm.Cond.instanceMethod ({ cls := "BitDesk", name := "row", desc := "(II)J" } : Jvm.MethodName)) ∈ WS := ws_c3 92 rfl rfl
theorem wd_667 : (Jvm.Cond.selects "BitDesk" ({ cls := "BitDesk", name := "row", desc := "(II)J" } : Jvm.MethodName) ({ cls := "BitDesk", name := "row", desc := "(II)J" } : Jvm.MethodName)) ∈ WS := ws_c3 93 rfl rfl
theorem lk_L_21 : LkV RL 21 jX6_row 2 := ⟨⟨wd_665, ⟨rfl, (by rw [cwd_nil rfl]; exact wd_668)⟩, wd_95, ⟨by decide +kernel, by decide +kernel⟩, by decide +kernel⟩, wd_666, wd_667⟩
theorem wd_679 : (Jvm.Cond.code ({ cls := "BitDesk", name := "rank", desc := "(III)I" } : Jvm.MethodName) prog_1_method_9_code (4 : Nat) (Option.some Jvm.ClassFile.FieldType.int)) ∈ WS := ws_c3 105 rfl rfl
theorem wd_676 : (Jvm.Cond.methodLink "BitDeskLaw" (25 : Nat) ({ cls := "BitDesk", name := "rank", desc := "(III)I" } : Jvm.MethodName)) ∈ WS := ws_c3 102 rfl rfl
theorem wd_677 : (Jvm.Cond.instanceMethod ({ cls := "BitDesk", name := "rank", desc := "(III)I" } : Jvm.MethodName)) ∈ WS := ws_c3 103 rfl rfl
theorem wd_678 : (Jvm.Cond.selects "BitDesk" ({ cls := "BitDesk", name := "rank", desc := "(III)I" } : Jvm.MethodName) ({ cls := "BitDesk", name := "rank", desc := "(III)I" } : Jvm.MethodName)) ∈ WS := ws_c3 104 rfl rfl
theorem lk_L_25 : LkV RL 25 jX6_rank 3 := ⟨⟨wd_676, ⟨rfl, (by rw [cwd_nil rfl]; exact wd_679)⟩, wd_95, ⟨by decide +kernel, by decide +kernel⟩, by decide +kernel⟩, wd_677, wd_678⟩
theorem wd_693 : (Jvm.Cond.code ({ cls := "BitDesk", name := "select", desc := "(III)I" } : Jvm.MethodName) prog_1_method_10_code (4 : Nat) (Option.some Jvm.ClassFile.FieldType.int)) ∈ WS := ws_c3 119 rfl rfl
theorem wd_690 : (Jvm.Cond.methodLink "BitDeskLaw" (28 : Nat) ({ cls := "BitDesk", name := "select", desc := "(III)I" } : Jvm.MethodName)) ∈ WS := ws_c3 116 rfl rfl
theorem wd_691 : (Jvm.Cond.instanceMethod ({ cls := "BitDesk", name := "select", desc := "(III)I" } : Jvm.MethodName)) ∈ WS := ws_c3 117 rfl rfl
theorem wd_692 : (Jvm.Cond.selects "BitDesk" ({ cls := "BitDesk", name := "select", desc := "(III)I" } : Jvm.MethodName) ({ cls := "BitDesk", name := "select", desc := "(III)I" } : Jvm.MethodName)) ∈ WS := ws_c3 118 rfl rfl
theorem lk_L_28 : LkV RL 28 jX6_select 3 := ⟨⟨wd_690, ⟨rfl, (by rw [cwd_nil rfl]; exact wd_693)⟩, wd_95, ⟨by decide +kernel, by decide +kernel⟩, by decide +kernel⟩, wd_691, wd_692⟩
theorem wd_700 : (Jvm.Cond.methodLink "BitDeskLaw" (31 : Nat) ({ cls := "BitDesk", name := "ones", desc := "(I)I" } : Jvm.MethodName)) ∈ WS := ws_c3 126 rfl rfl
theorem lk_L_31 : LkV RL 31 jX6_ones 1 := ⟨⟨wd_700, ⟨rfl, (by rw [cwd_nil rfl]; exact wd_703)⟩, wd_95, ⟨by decide +kernel, by decide +kernel⟩, by decide +kernel⟩, wd_701, wd_702⟩
theorem wd_713 : (Jvm.Cond.code ({ cls := "BitDesk", name := "columnOnes", desc := "(II)I" } : Jvm.MethodName) prog_1_method_12_code (3 : Nat) (Option.some Jvm.ClassFile.FieldType.int)) ∈ WS := ws_c3 139 rfl rfl
theorem wd_710 : (Jvm.Cond.methodLink "BitDeskLaw" (34 : Nat) ({ cls := "BitDesk", name := "columnOnes", desc := "(II)I" } : Jvm.MethodName)) ∈ WS := ws_c3 136 rfl rfl
theorem wd_711 : (Jvm.Cond.instanceMethod ({ cls := "BitDesk", name := "columnOnes", desc := "(II)I" } : Jvm.MethodName)) ∈ WS := ws_c3 137 rfl rfl
theorem wd_712 : (Jvm.Cond.selects "BitDesk" ({ cls := "BitDesk", name := "columnOnes", desc := "(II)I" } : Jvm.MethodName) ({ cls := "BitDesk", name := "columnOnes", desc := "(II)I" } : Jvm.MethodName)) ∈ WS := ws_c3 138 rfl rfl
theorem lk_L_34 : LkV RL 34 jX6_columnOnes 2 := ⟨⟨wd_710, ⟨rfl, (by rw [cwd_nil rfl]; exact wd_713)⟩, wd_95, ⟨by decide +kernel, by decide +kernel⟩, by decide +kernel⟩, wd_711, wd_712⟩
theorem wd_723 : (Jvm.Cond.code ({ cls := "BitDesk", name := "sameAs", desc := "(II)I" } : Jvm.MethodName) prog_1_method_13_code (3 : Nat) (Option.some Jvm.ClassFile.FieldType.int)) ∈ WS := ws_c3 149 rfl rfl
theorem wd_720 : (Jvm.Cond.methodLink "BitDeskLaw" (38 : Nat) ({ cls := "BitDesk", name := "sameAs", desc := "(II)I" } : Jvm.MethodName)) ∈ WS := ws_c3 146 rfl rfl
theorem wd_721 : (Jvm.Cond.instanceMethod ({ cls := "BitDesk", name := "sameAs", desc := "(II)I" } : Jvm.MethodName)) ∈ WS := ws_c3 147 rfl rfl
theorem wd_722 : (Jvm.Cond.selects "BitDesk" ({ cls := "BitDesk", name := "sameAs", desc := "(II)I" } : Jvm.MethodName) ({ cls := "BitDesk", name := "sameAs", desc := "(II)I" } : Jvm.MethodName)) ∈ WS := ws_c3 148 rfl rfl
theorem lk_L_38 : LkV RL 38 jX6_sameAs 2 := ⟨⟨wd_720, ⟨rfl, (by rw [cwd_nil rfl]; exact wd_723)⟩, wd_95, ⟨by decide +kernel, by decide +kernel⟩, by decide +kernel⟩, wd_721, wd_722⟩
theorem wd_734 : (Jvm.Cond.code ({ cls := "BitDesk", name := "classes", desc := "(I)I" } : Jvm.MethodName) prog_1_method_14_code (2 : Nat) (Option.some Jvm.ClassFile.FieldType.int)) ∈ WS := ws_c3 160 rfl rfl
theorem wd_731 : (Jvm.Cond.methodLink "BitDeskLaw" (41 : Nat) ({ cls := "BitDesk", name := "classes", desc := "(I)I" } : Jvm.MethodName)) ∈ WS := ws_c3 157 rfl rfl
theorem wd_732 : (Jvm.Cond.instanceMethod ({ cls := "BitDesk", name := "classes", desc := "(I)I" } : Jvm.MethodName)) ∈ WS := ws_c3 158 rfl rfl
theorem wd_733 : (Jvm.Cond.selects "BitDesk" ({ cls := "BitDesk", name := "classes", desc := "(I)I" } : Jvm.MethodName) ({ cls := "BitDesk", name := "classes", desc := "(I)I" } : Jvm.MethodName)) ∈ WS := ws_c3 159 rfl rfl
theorem lk_L_41 : LkV RL 41 jX6_classes 1 := ⟨⟨wd_731, ⟨rfl, (by rw [cwd_nil rfl]; exact wd_734)⟩, wd_95, ⟨by decide +kernel, by decide +kernel⟩, by decide +kernel⟩, wd_732, wd_733⟩
theorem wd_745 : (Jvm.Cond.code ({ cls := "BitDesk", name := "classOf", desc := "(II)I" } : Jvm.MethodName) prog_1_method_15_code (4 : Nat) (Option.some Jvm.ClassFile.FieldType.int)) ∈ WS := ws_c3 171 rfl rfl
theorem wd_742 : (Jvm.Cond.methodLink "BitDeskLaw" (44 : Nat) ({ cls := "BitDesk", name := "classOf", desc := "(II)I" } : Jvm.MethodName)) ∈ WS := ws_c3 168 rfl rfl
theorem wd_743 : (Jvm.Cond.instanceMethod ({ cls := "BitDesk", name := "classOf", desc := "(II)I" } : Jvm.MethodName)) ∈ WS := ws_c3 169 rfl rfl
theorem wd_744 : (Jvm.Cond.selects "BitDesk" ({ cls := "BitDesk", name := "classOf", desc := "(II)I" } : Jvm.MethodName) ({ cls := "BitDesk", name := "classOf", desc := "(II)I" } : Jvm.MethodName)) ∈ WS := ws_c3 170 rfl rfl
theorem lk_L_44 : LkV RL 44 jX6_classOf 2 := ⟨⟨wd_742, ⟨rfl, (by rw [cwd_nil rfl]; exact wd_745)⟩, wd_95, ⟨by decide +kernel, by decide +kernel⟩, by decide +kernel⟩, wd_743, wd_744⟩
theorem wd_752 : (Jvm.Cond.code ({ cls := "BitDesk", name := "find", desc := "(IJ)I" } : Jvm.MethodName) prog_1_method_16_code (4 : Nat) (Option.some Jvm.ClassFile.FieldType.int)) ∈ WS := ws_c3 178 rfl rfl
theorem wd_749 : (Jvm.Cond.methodLink "BitDeskLaw" (47 : Nat) ({ cls := "BitDesk", name := "find", desc := "(IJ)I" } : Jvm.MethodName)) ∈ WS := ws_c3 175 rfl rfl
theorem wd_750 : (Jvm.Cond.instanceMethod ({ cls := "BitDesk", name := "find", desc := "(IJ)I" } : Jvm.MethodName)) ∈ WS := ws_c3 176 rfl rfl
theorem wd_751 : (Jvm.Cond.selects "BitDesk" ({ cls := "BitDesk", name := "find", desc := "(IJ)I" } : Jvm.MethodName) ({ cls := "BitDesk", name := "find", desc := "(IJ)I" } : Jvm.MethodName)) ∈ WS := ws_c3 177 rfl rfl
theorem lk_L_47 : LkV RL 47 jX6_find 2 := ⟨⟨wd_749, ⟨rfl, (by rw [cwd_nil rfl]; exact wd_752)⟩, wd_95, ⟨by decide +kernel, by decide +kernel⟩, by decide +kernel⟩, wd_750, wd_751⟩
theorem wd_759 : (Jvm.Cond.code ({ cls := "BitDesk", name := "nearest", desc := "(II)I" } : Jvm.MethodName) prog_1_method_17_code (8 : Nat) (Option.some Jvm.ClassFile.FieldType.int)) ∈ WS := ws_c3 185 rfl rfl
theorem wd_756 : (Jvm.Cond.methodLink "BitDeskLaw" (51 : Nat) ({ cls := "BitDesk", name := "nearest", desc := "(II)I" } : Jvm.MethodName)) ∈ WS := ws_c3 182 rfl rfl
theorem wd_757 : (Jvm.Cond.instanceMethod ({ cls := "BitDesk", name := "nearest", desc := "(II)I" } : Jvm.MethodName)) ∈ WS := ws_c3 183 rfl rfl
theorem wd_758 : (Jvm.Cond.selects "BitDesk" ({ cls := "BitDesk", name := "nearest", desc := "(II)I" } : Jvm.MethodName) ({ cls := "BitDesk", name := "nearest", desc := "(II)I" } : Jvm.MethodName)) ∈ WS := ws_c3 184 rfl rfl
theorem lk_L_51 : LkV RL 51 jX6_nearest 2 := ⟨⟨wd_756, ⟨rfl, (by rw [cwd_nil rfl]; exact wd_759)⟩, wd_95, ⟨by decide +kernel, by decide +kernel⟩, by decide +kernel⟩, wd_757, wd_758⟩
theorem wd_766 : (Jvm.Cond.code ({ cls := "BitDesk", name := "density", desc := "(I)D" } : Jvm.MethodName) prog_1_method_18_code (2 : Nat) (Option.some Jvm.ClassFile.FieldType.double)) ∈ WS := ws_c3 192 rfl rfl
theorem wd_763 : (Jvm.Cond.methodLink "BitDeskLaw" (54 : Nat) ({ cls := "BitDesk", name := "density", desc := "(I)D" } : Jvm.MethodName)) ∈ WS := ws_c3 189 rfl rfl
theorem wd_764 : (Jvm.Cond.instanceMethod ({ cls := "BitDesk", name := "density", desc := "(I)D" } : Jvm.MethodName)) ∈ WS := ws_c3 190 rfl rfl
theorem wd_765 : (Jvm.Cond.selects "BitDesk" ({ cls := "BitDesk", name := "density", desc := "(I)D" } : Jvm.MethodName) ({ cls := "BitDesk", name := "density", desc := "(I)D" } : Jvm.MethodName)) ∈ WS := ws_c3 191 rfl rfl
theorem lk_L_54 : LkV RL 54 jX6_density 1 := ⟨⟨wd_763, ⟨rfl, (by rw [cwd_nil rfl]; exact wd_766)⟩, wd_95, ⟨by decide +kernel, by decide +kernel⟩, by decide +kernel⟩, wd_764, wd_765⟩
theorem wd_774 : (Jvm.Cond.code ({ cls := "BitDesk", name := "isSymmetric", desc := "(I)Z" } : Jvm.MethodName) prog_1_method_19_code (4 : Nat) (Option.some Jvm.ClassFile.FieldType.boolean)) ∈ WS := ws_c3 200 rfl rfl
theorem wd_771 : (Jvm.Cond.methodLink "BitDeskLaw" (58 : Nat) ({ cls := "BitDesk", name := "isSymmetric", desc := "(I)Z" } : Jvm.MethodName)) ∈ WS := ws_c3 197 rfl rfl
theorem wd_772 : (Jvm.Cond.instanceMethod ({ cls := "BitDesk", name := "isSymmetric", desc := "(I)Z" } : Jvm.MethodName)) ∈ WS := ws_c3 198 rfl rfl
theorem wd_773 : (Jvm.Cond.selects "BitDesk" ({ cls := "BitDesk", name := "isSymmetric", desc := "(I)Z" } : Jvm.MethodName) ({ cls := "BitDesk", name := "isSymmetric", desc := "(I)Z" } : Jvm.MethodName)) ∈ WS := ws_c3 199 rfl rfl
theorem lk_L_58 : LkV RL 58 jX6_isSymmetric 1 := ⟨⟨wd_771, ⟨rfl, (by rw [cwd_nil rfl]; exact wd_774)⟩, wd_95, ⟨by decide +kernel, by decide +kernel⟩, by decide +kernel⟩, wd_772, wd_773⟩
theorem wd_781 : (Jvm.Cond.code ({ cls := "BitDesk", name := "reaches", desc := "(III)I" } : Jvm.MethodName) prog_1_method_20_code (4 : Nat) (Option.some Jvm.ClassFile.FieldType.int)) ∈ WS := ws_c3 207 rfl rfl
theorem wd_778 : (Jvm.Cond.methodLink "BitDeskLaw" (62 : Nat) ({ cls := "BitDesk", name := "reaches", desc := "(III)I" } : Jvm.MethodName)) ∈ WS := ws_c3 204 rfl rfl
theorem wd_779 : (Jvm.Cond.instanceMethod ({ cls := "BitDesk", name := "reaches", desc := "(III)I" } : Jvm.MethodName)) ∈ WS := ws_c3 205 rfl rfl
theorem wd_780 : (Jvm.Cond.selects "BitDesk" ({ cls := "BitDesk", name := "reaches", desc := "(III)I" } : Jvm.MethodName) ({ cls := "BitDesk", name := "reaches", desc := "(III)I" } : Jvm.MethodName)) ∈ WS := ws_c3 206 rfl rfl
theorem lk_L_62 : LkV RL 62 jX6_reaches 3 := ⟨⟨wd_778, ⟨rfl, (by rw [cwd_nil rfl]; exact wd_781)⟩, wd_95, ⟨by decide +kernel, by decide +kernel⟩, by decide +kernel⟩, wd_779, wd_780⟩
theorem wd_798 : (Jvm.Cond.code ({ cls := "BitDesk", name := "reached", desc := "(II)I" } : Jvm.MethodName) prog_1_method_21_code (3 : Nat) (Option.some Jvm.ClassFile.FieldType.int)) ∈ WS := ws_c3 224 rfl rfl
theorem wd_795 : (Jvm.Cond.methodLink "BitDeskLaw" (65 : Nat) ({ cls := "BitDesk", name := "reached", desc := "(II)I" } : Jvm.MethodName)) ∈ WS := ws_c3 221 rfl rfl
theorem wd_796 : (Jvm.Cond.instanceMethod ({ cls := "BitDesk", name := "reached", desc := "(II)I" } : Jvm.MethodName)) ∈ WS := ws_c3 222 rfl rfl
theorem wd_797 : (Jvm.Cond.selects "BitDesk" ({ cls := "BitDesk", name := "reached", desc := "(II)I" } : Jvm.MethodName) ({ cls := "BitDesk", name := "reached", desc := "(II)I" } : Jvm.MethodName)) ∈ WS := ws_c3 223 rfl rfl
theorem lk_L_65 : LkV RL 65 jX6_reached 2 := ⟨⟨wd_795, ⟨rfl, (by rw [cwd_nil rfl]; exact wd_798)⟩, wd_95, ⟨by decide +kernel, by decide +kernel⟩, by decide +kernel⟩, wd_796, wd_797⟩
theorem wd_802 : (Jvm.Cond.methodLink "BitDeskLaw" (68 : Nat) ({ cls := "BitDesk", name := "pairs", desc := "(I)I" } : Jvm.MethodName)) ∈ WS := ws_c3 228 rfl rfl
theorem lk_L_68 : LkV RL 68 jX6_pairs 1 := ⟨⟨wd_802, ⟨rfl, (by rw [cwd_nil rfl]; exact wd_805)⟩, wd_95, ⟨by decide +kernel, by decide +kernel⟩, by decide +kernel⟩, wd_803, wd_804⟩
theorem wd_812 : (Jvm.Cond.code ({ cls := "BitDesk", name := "meanReach", desc := "(I)F" } : Jvm.MethodName) prog_1_method_23_code (2 : Nat) (Option.some Jvm.ClassFile.FieldType.float)) ∈ WS := ws_c3 238 rfl rfl
theorem wd_809 : (Jvm.Cond.methodLink "BitDeskLaw" (71 : Nat) ({ cls := "BitDesk", name := "meanReach", desc := "(I)F" } : Jvm.MethodName)) ∈ WS := ws_c3 235 rfl rfl
theorem wd_810 : (Jvm.Cond.instanceMethod ({ cls := "BitDesk", name := "meanReach", desc := "(I)F" } : Jvm.MethodName)) ∈ WS := ws_c3 236 rfl rfl
theorem wd_811 : (Jvm.Cond.selects "BitDesk" ({ cls := "BitDesk", name := "meanReach", desc := "(I)F" } : Jvm.MethodName) ({ cls := "BitDesk", name := "meanReach", desc := "(I)F" } : Jvm.MethodName)) ∈ WS := ws_c3 237 rfl rfl
theorem lk_L_71 : LkV RL 71 jX6_meanReach 1 := ⟨⟨wd_809, ⟨rfl, (by rw [cwd_nil rfl]; exact wd_812)⟩, wd_95, ⟨by decide +kernel, by decide +kernel⟩, by decide +kernel⟩, wd_810, wd_811⟩
theorem wd_820 : (Jvm.Cond.code ({ cls := "BitDesk", name := "component", desc := "(II)I" } : Jvm.MethodName) prog_1_method_24_code (3 : Nat) (Option.some Jvm.ClassFile.FieldType.int)) ∈ WS := ws_c4 6 rfl rfl
theorem wd_817 : (Jvm.Cond.methodLink "BitDeskLaw" (75 : Nat) ({ cls := "BitDesk", name := "component", desc := "(II)I" } : Jvm.MethodName)) ∈ WS := ws_c4 3 rfl rfl
theorem wd_818 : (Jvm.Cond.instanceMethod ({ cls := "BitDesk", name := "component", desc := "(II)I" } : Jvm.MethodName)) ∈ WS := ws_c4 4 rfl rfl
theorem wd_819 : (Jvm.Cond.selects "BitDesk" ({ cls := "BitDesk", name := "component", desc := "(II)I" } : Jvm.MethodName) ({ cls := "BitDesk", name := "component", desc := "(II)I" } : Jvm.MethodName)) ∈ WS := ws_c4 5 rfl rfl
theorem lk_L_75 : LkV RL 75 jX6_component 2 := ⟨⟨wd_817, ⟨rfl, (by rw [cwd_nil rfl]; exact wd_820)⟩, wd_95, ⟨by decide +kernel, by decide +kernel⟩, by decide +kernel⟩, wd_818, wd_819⟩
theorem wd_835 : (Jvm.Cond.code ({ cls := "BitDesk", name := "components", desc := "(I)I" } : Jvm.MethodName) prog_1_method_25_code (5 : Nat) (Option.some Jvm.ClassFile.FieldType.int)) ∈ WS := ws_c4 21 rfl rfl
theorem wd_832 : (Jvm.Cond.methodLink "BitDeskLaw" (78 : Nat) ({ cls := "BitDesk", name := "components", desc := "(I)I" } : Jvm.MethodName)) ∈ WS := ws_c4 18 rfl rfl
theorem wd_833 : (Jvm.Cond.instanceMethod ({ cls := "BitDesk", name := "components", desc := "(I)I" } : Jvm.MethodName)) ∈ WS := ws_c4 19 rfl rfl
theorem wd_834 : (Jvm.Cond.selects "BitDesk" ({ cls := "BitDesk", name := "components", desc := "(I)I" } : Jvm.MethodName) ({ cls := "BitDesk", name := "components", desc := "(I)I" } : Jvm.MethodName)) ∈ WS := ws_c4 20 rfl rfl
theorem lk_L_78 : LkV RL 78 jX6_components 1 := ⟨⟨wd_832, ⟨rfl, (by rw [cwd_nil rfl]; exact wd_835)⟩, wd_95, ⟨by decide +kernel, by decide +kernel⟩, by decide +kernel⟩, wd_833, wd_834⟩
theorem wd_839 : (Jvm.Cond.methodLink "BitDeskLaw" (81 : Nat) ({ cls := "BitDesk", name := "distance", desc := "(III)I" } : Jvm.MethodName)) ∈ WS := ws_c4 25 rfl rfl
theorem lk_L_81 : LkV RL 81 jX6_distance 3 := ⟨⟨wd_839, ⟨rfl, (by rw [cwd_nil rfl]; exact wd_842)⟩, wd_95, ⟨by decide +kernel, by decide +kernel⟩, by decide +kernel⟩, wd_840, wd_841⟩
theorem wd_857 : (Jvm.Cond.code ({ cls := "BitDesk", name := "stepAt", desc := "(IIII)I" } : Jvm.MethodName) prog_1_method_27_code (9 : Nat) (Option.some Jvm.ClassFile.FieldType.int)) ∈ WS := ws_c4 43 rfl rfl
theorem wd_854 : (Jvm.Cond.methodLink "BitDeskLaw" (84 : Nat) ({ cls := "BitDesk", name := "stepAt", desc := "(IIII)I" } : Jvm.MethodName)) ∈ WS := ws_c4 40 rfl rfl
theorem wd_855 : (Jvm.Cond.instanceMethod ({ cls := "BitDesk", name := "stepAt", desc := "(IIII)I" } : Jvm.MethodName)) ∈ WS := ws_c4 41 rfl rfl
theorem wd_856 : (Jvm.Cond.selects "BitDesk" ({ cls := "BitDesk", name := "stepAt", desc := "(IIII)I" } : Jvm.MethodName) ({ cls := "BitDesk", name := "stepAt", desc := "(IIII)I" } : Jvm.MethodName)) ∈ WS := ws_c4 42 rfl rfl
theorem lk_L_84 : LkV RL 84 jX6_stepAt 4 := ⟨⟨wd_854, ⟨rfl, (by rw [cwd_nil rfl]; exact wd_857)⟩, wd_95, ⟨by decide +kernel, by decide +kernel⟩, by decide +kernel⟩, wd_855, wd_856⟩
theorem wd_870 : (Jvm.Cond.code ({ cls := "BitDesk", name := "around", desc := "(II)I" } : Jvm.MethodName) prog_1_method_28_code (3 : Nat) (Option.some Jvm.ClassFile.FieldType.int)) ∈ WS := ws_c4 56 rfl rfl
theorem wd_867 : (Jvm.Cond.methodLink "BitDeskLaw" (88 : Nat) ({ cls := "BitDesk", name := "around", desc := "(II)I" } : Jvm.MethodName)) ∈ WS := ws_c4 53 rfl rfl
theorem wd_868 : (Jvm.Cond.instanceMethod ({ cls := "BitDesk", name := "around", desc := "(II)I" } : Jvm.MethodName)) ∈ WS := ws_c4 54 rfl rfl
theorem wd_869 : (Jvm.Cond.selects "BitDesk" ({ cls := "BitDesk", name := "around", desc := "(II)I" } : Jvm.MethodName) ({ cls := "BitDesk", name := "around", desc := "(II)I" } : Jvm.MethodName)) ∈ WS := ws_c4 55 rfl rfl
theorem lk_L_88 : LkV RL 88 jX6_around 2 := ⟨⟨wd_867, ⟨rfl, (by rw [cwd_nil rfl]; exact wd_870)⟩, wd_95, ⟨by decide +kernel, by decide +kernel⟩, by decide +kernel⟩, wd_868, wd_869⟩
theorem wd_877 : (Jvm.Cond.code ({ cls := "BitDesk", name := "girth", desc := "(I)I" } : Jvm.MethodName) prog_1_method_29_code (5 : Nat) (Option.some Jvm.ClassFile.FieldType.int)) ∈ WS := ws_c4 63 rfl rfl
theorem wd_874 : (Jvm.Cond.methodLink "BitDeskLaw" (91 : Nat) ({ cls := "BitDesk", name := "girth", desc := "(I)I" } : Jvm.MethodName)) ∈ WS := ws_c4 60 rfl rfl
theorem wd_875 : (Jvm.Cond.instanceMethod ({ cls := "BitDesk", name := "girth", desc := "(I)I" } : Jvm.MethodName)) ∈ WS := ws_c4 61 rfl rfl
theorem wd_876 : (Jvm.Cond.selects "BitDesk" ({ cls := "BitDesk", name := "girth", desc := "(I)I" } : Jvm.MethodName) ({ cls := "BitDesk", name := "girth", desc := "(I)I" } : Jvm.MethodName)) ∈ WS := ws_c4 62 rfl rfl
theorem lk_L_91 : LkV RL 91 jX6_girth 1 := ⟨⟨wd_874, ⟨rfl, (by rw [cwd_nil rfl]; exact wd_877)⟩, wd_95, ⟨by decide +kernel, by decide +kernel⟩, by decide +kernel⟩, wd_875, wd_876⟩
theorem wd_884 : (Jvm.Cond.code ({ cls := "BitDesk", name := "order", desc := "(II)I" } : Jvm.MethodName) prog_1_method_30_code (7 : Nat) (Option.some Jvm.ClassFile.FieldType.int)) ∈ WS := ws_c4 70 rfl rfl
theorem wd_881 : (Jvm.Cond.methodLink "BitDeskLaw" (94 : Nat) ({ cls := "BitDesk", name := "order", desc := "(II)I" } : Jvm.MethodName)) ∈ WS := ws_c4 67 rfl rfl
theorem wd_882 : (Jvm.Cond.instanceMethod ({ cls := "BitDesk", name := "order", desc := "(II)I" } : Jvm.MethodName)) ∈ WS := ws_c4 68 rfl rfl
theorem wd_883 : (Jvm.Cond.selects "BitDesk" ({ cls := "BitDesk", name := "order", desc := "(II)I" } : Jvm.MethodName) ({ cls := "BitDesk", name := "order", desc := "(II)I" } : Jvm.MethodName)) ∈ WS := ws_c4 69 rfl rfl
theorem lk_L_94 : LkV RL 94 jX6_order 2 := ⟨⟨wd_881, ⟨rfl, (by rw [cwd_nil rfl]; exact wd_884)⟩, wd_95, ⟨by decide +kernel, by decide +kernel⟩, by decide +kernel⟩, wd_882, wd_883⟩
theorem wd_891 : (Jvm.Cond.code ({ cls := "BitDesk", name := "gained", desc := "(III)I" } : Jvm.MethodName) prog_1_method_31_code (5 : Nat) (Option.some Jvm.ClassFile.FieldType.int)) ∈ WS := ws_c4 77 rfl rfl
theorem wd_888 : (Jvm.Cond.methodLink "BitDeskLaw" (97 : Nat) ({ cls := "BitDesk", name := "gained", desc := "(III)I" } : Jvm.MethodName)) ∈ WS := ws_c4 74 rfl rfl
theorem wd_889 : (Jvm.Cond.instanceMethod ({ cls := "BitDesk", name := "gained", desc := "(III)I" } : Jvm.MethodName)) ∈ WS := ws_c4 75 rfl rfl
theorem wd_890 : (Jvm.Cond.selects "BitDesk" ({ cls := "BitDesk", name := "gained", desc := "(III)I" } : Jvm.MethodName) ({ cls := "BitDesk", name := "gained", desc := "(III)I" } : Jvm.MethodName)) ∈ WS := ws_c4 76 rfl rfl
theorem lk_L_97 : LkV RL 97 jX6_gained 3 := ⟨⟨wd_888, ⟨rfl, (by rw [cwd_nil rfl]; exact wd_891)⟩, wd_95, ⟨by decide +kernel, by decide +kernel⟩, by decide +kernel⟩, wd_889, wd_890⟩
theorem wd_907 : (Jvm.Cond.code ({ cls := "BitDesk", name := "lost", desc := "(III)I" } : Jvm.MethodName) prog_1_method_32_code (4 : Nat) (Option.some Jvm.ClassFile.FieldType.int)) ∈ WS := ws_c4 93 rfl rfl
theorem wd_904 : (Jvm.Cond.methodLink "BitDeskLaw" (100 : Nat) ({ cls := "BitDesk", name := "lost", desc := "(III)I" } : Jvm.MethodName)) ∈ WS := ws_c4 90 rfl rfl
theorem wd_905 : (Jvm.Cond.instanceMethod ({ cls := "BitDesk", name := "lost", desc := "(III)I" } : Jvm.MethodName)) ∈ WS := ws_c4 91 rfl rfl
theorem wd_906 : (Jvm.Cond.selects "BitDesk" ({ cls := "BitDesk", name := "lost", desc := "(III)I" } : Jvm.MethodName) ({ cls := "BitDesk", name := "lost", desc := "(III)I" } : Jvm.MethodName)) ∈ WS := ws_c4 92 rfl rfl
theorem lk_L_100 : LkV RL 100 jX6_lost 3 := ⟨⟨wd_904, ⟨rfl, (by rw [cwd_nil rfl]; exact wd_907)⟩, wd_95, ⟨by decide +kernel, by decide +kernel⟩, by decide +kernel⟩, wd_905, wd_906⟩
theorem wd_927 : (Jvm.Cond.code ({ cls := "BitDesk", name := "bestEdge", desc := "(I)I" } : Jvm.MethodName) prog_1_method_33_code (10 : Nat) (Option.some Jvm.ClassFile.FieldType.int)) ∈ WS := ws_c4 113 rfl rfl
theorem wd_924 : (Jvm.Cond.methodLink "BitDeskLaw" (103 : Nat) ({ cls := "BitDesk", name := "bestEdge", desc := "(I)I" } : Jvm.MethodName)) ∈ WS := ws_c4 110 rfl rfl
theorem wd_925 : (Jvm.Cond.instanceMethod ({ cls := "BitDesk", name := "bestEdge", desc := "(I)I" } : Jvm.MethodName)) ∈ WS := ws_c4 111 rfl rfl
theorem wd_926 : (Jvm.Cond.selects "BitDesk" ({ cls := "BitDesk", name := "bestEdge", desc := "(I)I" } : Jvm.MethodName) ({ cls := "BitDesk", name := "bestEdge", desc := "(I)I" } : Jvm.MethodName)) ∈ WS := ws_c4 112 rfl rfl
theorem lk_L_103 : LkV RL 103 jX6_bestEdge 1 := ⟨⟨wd_924, ⟨rfl, (by rw [cwd_nil rfl]; exact wd_927)⟩, wd_95, ⟨by decide +kernel, by decide +kernel⟩, by decide +kernel⟩, wd_925, wd_926⟩
theorem wd_937 : (Jvm.Cond.code ({ cls := "BitDesk", name := "weakest", desc := "(I)I" } : Jvm.MethodName) prog_1_method_34_code (8 : Nat) (Option.some Jvm.ClassFile.FieldType.int)) ∈ WS := ws_c4 123 rfl rfl
theorem wd_934 : (Jvm.Cond.methodLink "BitDeskLaw" (106 : Nat) ({ cls := "BitDesk", name := "weakest", desc := "(I)I" } : Jvm.MethodName)) ∈ WS := ws_c4 120 rfl rfl
theorem wd_935 : (Jvm.Cond.instanceMethod ({ cls := "BitDesk", name := "weakest", desc := "(I)I" } : Jvm.MethodName)) ∈ WS := ws_c4 121 rfl rfl
theorem wd_936 : (Jvm.Cond.selects "BitDesk" ({ cls := "BitDesk", name := "weakest", desc := "(I)I" } : Jvm.MethodName) ({ cls := "BitDesk", name := "weakest", desc := "(I)I" } : Jvm.MethodName)) ∈ WS := ws_c4 122 rfl rfl
theorem lk_L_106 : LkV RL 106 jX6_weakest 1 := ⟨⟨wd_934, ⟨rfl, (by rw [cwd_nil rfl]; exact wd_937)⟩, wd_95, ⟨by decide +kernel, by decide +kernel⟩, by decide +kernel⟩, wd_935, wd_936⟩
theorem wd_944 : (Jvm.Cond.code ({ cls := "BitDesk", name := "triangles", desc := "(I)I" } : Jvm.MethodName) prog_1_method_35_code (7 : Nat) (Option.some Jvm.ClassFile.FieldType.int)) ∈ WS := ws_c4 130 rfl rfl
theorem wd_941 : (Jvm.Cond.methodLink "BitDeskLaw" (109 : Nat) ({ cls := "BitDesk", name := "triangles", desc := "(I)I" } : Jvm.MethodName)) ∈ WS := ws_c4 127 rfl rfl
theorem wd_942 : (Jvm.Cond.instanceMethod ({ cls := "BitDesk", name := "triangles", desc := "(I)I" } : Jvm.MethodName)) ∈ WS := ws_c4 128 rfl rfl
theorem wd_943 : (Jvm.Cond.selects "BitDesk" ({ cls := "BitDesk", name := "triangles", desc := "(I)I" } : Jvm.MethodName) ({ cls := "BitDesk", name := "triangles", desc := "(I)I" } : Jvm.MethodName)) ∈ WS := ws_c4 129 rfl rfl
theorem lk_L_109 : LkV RL 109 jX6_triangles 1 := ⟨⟨wd_941, ⟨rfl, (by rw [cwd_nil rfl]; exact wd_944)⟩, wd_95, ⟨by decide +kernel, by decide +kernel⟩, by decide +kernel⟩, wd_942, wd_943⟩
theorem wd_951 : (Jvm.Cond.code ({ cls := "BitDesk", name := "fieldRank", desc := "(I)I" } : Jvm.MethodName) prog_1_method_36_code (2 : Nat) (Option.some Jvm.ClassFile.FieldType.int)) ∈ WS := ws_c4 137 rfl rfl
theorem wd_948 : (Jvm.Cond.methodLink "BitDeskLaw" (112 : Nat) ({ cls := "BitDesk", name := "fieldRank", desc := "(I)I" } : Jvm.MethodName)) ∈ WS := ws_c4 134 rfl rfl
theorem wd_949 : (Jvm.Cond.instanceMethod ({ cls := "BitDesk", name := "fieldRank", desc := "(I)I" } : Jvm.MethodName)) ∈ WS := ws_c4 135 rfl rfl
theorem wd_950 : (Jvm.Cond.selects "BitDesk" ({ cls := "BitDesk", name := "fieldRank", desc := "(I)I" } : Jvm.MethodName) ({ cls := "BitDesk", name := "fieldRank", desc := "(I)I" } : Jvm.MethodName)) ∈ WS := ws_c4 136 rfl rfl
theorem lk_L_112 : LkV RL 112 jX6_fieldRank 1 := ⟨⟨wd_948, ⟨rfl, (by rw [cwd_nil rfl]; exact wd_951)⟩, wd_95, ⟨by decide +kernel, by decide +kernel⟩, by decide +kernel⟩, wd_949, wd_950⟩
theorem wd_980 : (Jvm.Cond.code ({ cls := "BitDesk", name := "solve", desc := "(IJ)J" } : Jvm.MethodName) prog_1_method_37_code (4 : Nat) (Option.some Jvm.ClassFile.FieldType.long)) ∈ WS := ws_c4 166 rfl rfl
theorem wd_977 : (Jvm.Cond.methodLink "BitDeskLaw" (115 : Nat) ({ cls := "BitDesk", name := "solve", desc := "(IJ)J" } : Jvm.MethodName)) ∈ WS := ws_c4 163 rfl rfl
theorem wd_978 : (Jvm.Cond.instanceMethod ({ cls := "BitDesk", name := "solve", desc := "(IJ)J" } : Jvm.MethodName)) ∈ WS := ws_c4 164 rfl rfl
theorem wd_979 : (Jvm.Cond.selects "BitDesk" ({ cls := "BitDesk", name := "solve", desc := "(IJ)J" } : Jvm.MethodName) ({ cls := "BitDesk", name := "solve", desc := "(IJ)J" } : Jvm.MethodName)) ∈ WS := ws_c4 165 rfl rfl
theorem lk_L_115 : LkV RL 115 jX6_solve 2 := ⟨⟨wd_977, ⟨rfl, (by rw [cwd_nil rfl]; exact wd_980)⟩, wd_95, ⟨by decide +kernel, by decide +kernel⟩, by decide +kernel⟩, wd_978, wd_979⟩
theorem wd_996 : (Jvm.Cond.code ({ cls := "BitDesk", name := "freedom", desc := "(IJ)I" } : Jvm.MethodName) prog_1_method_38_code (4 : Nat) (Option.some Jvm.ClassFile.FieldType.int)) ∈ WS := ws_c4 182 rfl rfl
theorem wd_993 : (Jvm.Cond.methodLink "BitDeskLaw" (119 : Nat) ({ cls := "BitDesk", name := "freedom", desc := "(IJ)I" } : Jvm.MethodName)) ∈ WS := ws_c4 179 rfl rfl
theorem wd_994 : (Jvm.Cond.instanceMethod ({ cls := "BitDesk", name := "freedom", desc := "(IJ)I" } : Jvm.MethodName)) ∈ WS := ws_c4 180 rfl rfl
theorem wd_995 : (Jvm.Cond.selects "BitDesk" ({ cls := "BitDesk", name := "freedom", desc := "(IJ)I" } : Jvm.MethodName) ({ cls := "BitDesk", name := "freedom", desc := "(IJ)I" } : Jvm.MethodName)) ∈ WS := ws_c4 181 rfl rfl
theorem lk_L_119 : LkV RL 119 jX6_freedom 2 := ⟨⟨wd_993, ⟨rfl, (by rw [cwd_nil rfl]; exact wd_996)⟩, wd_95, ⟨by decide +kernel, by decide +kernel⟩, by decide +kernel⟩, wd_994, wd_995⟩
theorem wd_1003 : (Jvm.Cond.code ({ cls := "BitDesk", name := "pivot", desc := "(II)I" } : Jvm.MethodName) prog_1_method_39_code (3 : Nat) (Option.some Jvm.ClassFile.FieldType.int)) ∈ WS := ws_c4 189 rfl rfl
theorem wd_1000 : (Jvm.Cond.methodLink "BitDeskLaw" (122 : Nat) ({ cls := "BitDesk", name := "pivot", desc := "(II)I" } : Jvm.MethodName)) ∈ WS := ws_c4 186 rfl rfl
theorem wd_1001 : (Jvm.Cond.instanceMethod ({ cls := "BitDesk", name := "pivot", desc := "(II)I" } : Jvm.MethodName)) ∈ WS := ws_c4 187 rfl rfl
theorem wd_1002 : (Jvm.Cond.selects "BitDesk" ({ cls := "BitDesk", name := "pivot", desc := "(II)I" } : Jvm.MethodName) ({ cls := "BitDesk", name := "pivot", desc := "(II)I" } : Jvm.MethodName)) ∈ WS := ws_c4 188 rfl rfl
theorem lk_L_122 : LkV RL 122 jX6_pivot 2 := ⟨⟨wd_1000, ⟨rfl, (by rw [cwd_nil rfl]; exact wd_1003)⟩, wd_95, ⟨by decide +kernel, by decide +kernel⟩, by decide +kernel⟩, wd_1001, wd_1002⟩
theorem wd_1014 : (Jvm.Cond.code ({ cls := "BitDesk", name := "put", desc := "(IIIZ)I" } : Jvm.MethodName) prog_1_method_40_code (8 : Nat) (Option.some Jvm.ClassFile.FieldType.int)) ∈ WS := ws_c4 200 rfl rfl
theorem wd_1011 : (Jvm.Cond.methodLink "BitDeskLaw" (125 : Nat) ({ cls := "BitDesk", name := "put", desc := "(IIIZ)I" } : Jvm.MethodName)) ∈ WS := ws_c4 197 rfl rfl
theorem wd_1012 : (Jvm.Cond.instanceMethod ({ cls := "BitDesk", name := "put", desc := "(IIIZ)I" } : Jvm.MethodName)) ∈ WS := ws_c4 198 rfl rfl
theorem wd_1013 : (Jvm.Cond.selects "BitDesk" ({ cls := "BitDesk", name := "put", desc := "(IIIZ)I" } : Jvm.MethodName) ({ cls := "BitDesk", name := "put", desc := "(IIIZ)I" } : Jvm.MethodName)) ∈ WS := ws_c4 199 rfl rfl
theorem lk_L_125 : LkV RL 125 jX6_put 4 := ⟨⟨wd_1011, ⟨rfl, (by rw [cwd_nil rfl]; exact wd_1014)⟩, wd_95, ⟨by decide +kernel, by decide +kernel⟩, by decide +kernel⟩, wd_1012, wd_1013⟩
theorem wd_1036 : (Jvm.Cond.code ({ cls := "BitDesk", name := "setRow", desc := "(IIJ)I" } : Jvm.MethodName) prog_1_method_41_code (7 : Nat) (Option.some Jvm.ClassFile.FieldType.int)) ∈ WS := ws_c4 222 rfl rfl
theorem wd_1033 : (Jvm.Cond.methodLink "BitDeskLaw" (129 : Nat) ({ cls := "BitDesk", name := "setRow", desc := "(IIJ)I" } : Jvm.MethodName)) ∈ WS := ws_c4 219 rfl rfl
theorem wd_1034 : (Jvm.Cond.instanceMethod ({ cls := "BitDesk", name := "setRow", desc := "(IIJ)I" } : Jvm.MethodName)) ∈ WS := ws_c4 220 rfl rfl
theorem wd_1035 : (Jvm.Cond.selects "BitDesk" ({ cls := "BitDesk", name := "setRow", desc := "(IIJ)I" } : Jvm.MethodName) ({ cls := "BitDesk", name := "setRow", desc := "(IIJ)I" } : Jvm.MethodName)) ∈ WS := ws_c4 221 rfl rfl
theorem lk_L_129 : LkV RL 129 jX6_setRow 3 := ⟨⟨wd_1033, ⟨rfl, (by rw [cwd_nil rfl]; exact wd_1036)⟩, wd_95, ⟨by decide +kernel, by decide +kernel⟩, by decide +kernel⟩, wd_1034, wd_1035⟩
theorem wd_1048 : (Jvm.Cond.code ({ cls := "BitDesk", name := "copy", desc := "(II)I" } : Jvm.MethodName) prog_1_method_42_code (3 : Nat) (Option.some Jvm.ClassFile.FieldType.int)) ∈ WS := ws_c4 234 rfl rfl
theorem wd_1045 : (Jvm.Cond.methodLink "BitDeskLaw" (133 : Nat) ({ cls := "BitDesk", name := "copy", desc := "(II)I" } : Jvm.MethodName)) ∈ WS := ws_c4 231 rfl rfl
theorem wd_1046 : (Jvm.Cond.instanceMethod ({ cls := "BitDesk", name := "copy", desc := "(II)I" } : Jvm.MethodName)) ∈ WS := ws_c4 232 rfl rfl
theorem wd_1047 : (Jvm.Cond.selects "BitDesk" ({ cls := "BitDesk", name := "copy", desc := "(II)I" } : Jvm.MethodName) ({ cls := "BitDesk", name := "copy", desc := "(II)I" } : Jvm.MethodName)) ∈ WS := ws_c4 233 rfl rfl
theorem lk_L_133 : LkV RL 133 jX6_copy 2 := ⟨⟨wd_1045, ⟨rfl, (by rw [cwd_nil rfl]; exact wd_1048)⟩, wd_95, ⟨by decide +kernel, by decide +kernel⟩, by decide +kernel⟩, wd_1046, wd_1047⟩
theorem wd_1059 : (Jvm.Cond.code ({ cls := "BitDesk", name := "transpose", desc := "(II)I" } : Jvm.MethodName) prog_1_method_43_code (4 : Nat) (Option.some Jvm.ClassFile.FieldType.int)) ∈ WS := ws_c5 5 rfl rfl
theorem wd_1056 : (Jvm.Cond.methodLink "BitDeskLaw" (136 : Nat) ({ cls := "BitDesk", name := "transpose", desc := "(II)I" } : Jvm.MethodName)) ∈ WS := ws_c5 2 rfl rfl
theorem wd_1057 : (Jvm.Cond.instanceMethod ({ cls := "BitDesk", name := "transpose", desc := "(II)I" } : Jvm.MethodName)) ∈ WS := ws_c5 3 rfl rfl
theorem wd_1058 : (Jvm.Cond.selects "BitDesk" ({ cls := "BitDesk", name := "transpose", desc := "(II)I" } : Jvm.MethodName) ({ cls := "BitDesk", name := "transpose", desc := "(II)I" } : Jvm.MethodName)) ∈ WS := ws_c5 4 rfl rfl
theorem lk_L_136 : LkV RL 136 jX6_transpose 2 := ⟨⟨wd_1056, ⟨rfl, (by rw [cwd_nil rfl]; exact wd_1059)⟩, wd_95, ⟨by decide +kernel, by decide +kernel⟩, by decide +kernel⟩, wd_1057, wd_1058⟩
theorem wd_1066 : (Jvm.Cond.code ({ cls := "BitDesk", name := "combine", desc := "(IIII)I" } : Jvm.MethodName) prog_1_method_44_code (6 : Nat) (Option.some Jvm.ClassFile.FieldType.int)) ∈ WS := ws_c5 12 rfl rfl
theorem wd_1063 : (Jvm.Cond.methodLink "BitDeskLaw" (139 : Nat) ({ cls := "BitDesk", name := "combine", desc := "(IIII)I" } : Jvm.MethodName)) ∈ WS := ws_c5 9 rfl rfl
theorem wd_1064 : (Jvm.Cond.instanceMethod ({ cls := "BitDesk", name := "combine", desc := "(IIII)I" } : Jvm.MethodName)) ∈ WS := ws_c5 10 rfl rfl
theorem wd_1065 : (Jvm.Cond.selects "BitDesk" ({ cls := "BitDesk", name := "combine", desc := "(IIII)I" } : Jvm.MethodName) ({ cls := "BitDesk", name := "combine", desc := "(IIII)I" } : Jvm.MethodName)) ∈ WS := ws_c5 11 rfl rfl
theorem lk_L_139 : LkV RL 139 jX6_combine 4 := ⟨⟨wd_1063, ⟨rfl, (by rw [cwd_nil rfl]; exact wd_1066)⟩, wd_95, ⟨by decide +kernel, by decide +kernel⟩, by decide +kernel⟩, wd_1064, wd_1065⟩
theorem wd_1076 : (Jvm.Cond.code ({ cls := "BitDesk", name := "product", desc := "(IIIZ)I" } : Jvm.MethodName) prog_1_method_45_code (5 : Nat) (Option.some Jvm.ClassFile.FieldType.int)) ∈ WS := ws_c5 22 rfl rfl
theorem wd_1073 : (Jvm.Cond.methodLink "BitDeskLaw" (142 : Nat) ({ cls := "BitDesk", name := "product", desc := "(IIIZ)I" } : Jvm.MethodName)) ∈ WS := ws_c5 19 rfl rfl
theorem wd_1074 : (Jvm.Cond.instanceMethod ({ cls := "BitDesk", name := "product", desc := "(IIIZ)I" } : Jvm.MethodName)) ∈ WS := ws_c5 20 rfl rfl
theorem wd_1075 : (Jvm.Cond.selects "BitDesk" ({ cls := "BitDesk", name := "product", desc := "(IIIZ)I" } : Jvm.MethodName) ({ cls := "BitDesk", name := "product", desc := "(IIIZ)I" } : Jvm.MethodName)) ∈ WS := ws_c5 21 rfl rfl
theorem lk_L_142 : LkV RL 142 jX6_product 4 := ⟨⟨wd_1073, ⟨rfl, (by rw [cwd_nil rfl]; exact wd_1076)⟩, wd_95, ⟨by decide +kernel, by decide +kernel⟩, by decide +kernel⟩, wd_1074, wd_1075⟩
theorem wd_1109 : (Jvm.Cond.code ({ cls := "BitDesk", name := "power", desc := "(IIIZ)I" } : Jvm.MethodName) prog_1_method_46_code (6 : Nat) (Option.some Jvm.ClassFile.FieldType.int)) ∈ WS := ws_c5 55 rfl rfl
theorem wd_1106 : (Jvm.Cond.methodLink "BitDeskLaw" (145 : Nat) ({ cls := "BitDesk", name := "power", desc := "(IIIZ)I" } : Jvm.MethodName)) ∈ WS := ws_c5 52 rfl rfl
theorem wd_1107 : (Jvm.Cond.instanceMethod ({ cls := "BitDesk", name := "power", desc := "(IIIZ)I" } : Jvm.MethodName)) ∈ WS := ws_c5 53 rfl rfl
theorem wd_1108 : (Jvm.Cond.selects "BitDesk" ({ cls := "BitDesk", name := "power", desc := "(IIIZ)I" } : Jvm.MethodName) ({ cls := "BitDesk", name := "power", desc := "(IIIZ)I" } : Jvm.MethodName)) ∈ WS := ws_c5 54 rfl rfl
theorem lk_L_145 : LkV RL 145 jX6_power 4 := ⟨⟨wd_1106, ⟨rfl, (by rw [cwd_nil rfl]; exact wd_1109)⟩, wd_95, ⟨by decide +kernel, by decide +kernel⟩, by decide +kernel⟩, wd_1107, wd_1108⟩
theorem wd_1123 : (Jvm.Cond.code ({ cls := "BitDesk", name := "invert", desc := "(II)I" } : Jvm.MethodName) prog_1_method_47_code (3 : Nat) (Option.some Jvm.ClassFile.FieldType.int)) ∈ WS := ws_c5 69 rfl rfl
theorem wd_1120 : (Jvm.Cond.methodLink "BitDeskLaw" (148 : Nat) ({ cls := "BitDesk", name := "invert", desc := "(II)I" } : Jvm.MethodName)) ∈ WS := ws_c5 66 rfl rfl
theorem wd_1121 : (Jvm.Cond.instanceMethod ({ cls := "BitDesk", name := "invert", desc := "(II)I" } : Jvm.MethodName)) ∈ WS := ws_c5 67 rfl rfl
theorem wd_1122 : (Jvm.Cond.selects "BitDesk" ({ cls := "BitDesk", name := "invert", desc := "(II)I" } : Jvm.MethodName) ({ cls := "BitDesk", name := "invert", desc := "(II)I" } : Jvm.MethodName)) ∈ WS := ws_c5 68 rfl rfl
theorem lk_L_148 : LkV RL 148 jX6_invert 2 := ⟨⟨wd_1120, ⟨rfl, (by rw [cwd_nil rfl]; exact wd_1123)⟩, wd_95, ⟨by decide +kernel, by decide +kernel⟩, by decide +kernel⟩, wd_1121, wd_1122⟩
theorem wd_1134 : (Jvm.Cond.code ({ cls := "BitDesk", name := "close", desc := "(II)I" } : Jvm.MethodName) prog_1_method_48_code (3 : Nat) (Option.some Jvm.ClassFile.FieldType.int)) ∈ WS := ws_c5 80 rfl rfl
theorem wd_1131 : (Jvm.Cond.methodLink "BitDeskLaw" (151 : Nat) ({ cls := "BitDesk", name := "close", desc := "(II)I" } : Jvm.MethodName)) ∈ WS := ws_c5 77 rfl rfl
theorem wd_1132 : (Jvm.Cond.instanceMethod ({ cls := "BitDesk", name := "close", desc := "(II)I" } : Jvm.MethodName)) ∈ WS := ws_c5 78 rfl rfl
theorem wd_1133 : (Jvm.Cond.selects "BitDesk" ({ cls := "BitDesk", name := "close", desc := "(II)I" } : Jvm.MethodName) ({ cls := "BitDesk", name := "close", desc := "(II)I" } : Jvm.MethodName)) ∈ WS := ws_c5 79 rfl rfl
theorem lk_L_151 : LkV RL 151 jX6_close 2 := ⟨⟨wd_1131, ⟨rfl, (by rw [cwd_nil rfl]; exact wd_1134)⟩, wd_95, ⟨by decide +kernel, by decide +kernel⟩, by decide +kernel⟩, wd_1132, wd_1133⟩
theorem wd_1141 : (Jvm.Cond.code ({ cls := "BitDesk", name := "reduce", desc := "(II)I" } : Jvm.MethodName) prog_1_method_49_code (4 : Nat) (Option.some Jvm.ClassFile.FieldType.int)) ∈ WS := ws_c5 87 rfl rfl
theorem wd_1138 : (Jvm.Cond.methodLink "BitDeskLaw" (154 : Nat) ({ cls := "BitDesk", name := "reduce", desc := "(II)I" } : Jvm.MethodName)) ∈ WS := ws_c5 84 rfl rfl
theorem wd_1139 : (Jvm.Cond.instanceMethod ({ cls := "BitDesk", name := "reduce", desc := "(II)I" } : Jvm.MethodName)) ∈ WS := ws_c5 85 rfl rfl
theorem wd_1140 : (Jvm.Cond.selects "BitDesk" ({ cls := "BitDesk", name := "reduce", desc := "(II)I" } : Jvm.MethodName) ({ cls := "BitDesk", name := "reduce", desc := "(II)I" } : Jvm.MethodName)) ∈ WS := ws_c5 86 rfl rfl
theorem lk_L_154 : LkV RL 154 jX6_reduce 2 := ⟨⟨wd_1138, ⟨rfl, (by rw [cwd_nil rfl]; exact wd_1141)⟩, wd_95, ⟨by decide +kernel, by decide +kernel⟩, by decide +kernel⟩, wd_1139, wd_1140⟩
theorem wd_1153 : (Jvm.Cond.code ({ cls := "BitDesk", name := "exchange", desc := "(III)I" } : Jvm.MethodName) prog_1_method_50_code (8 : Nat) (Option.some Jvm.ClassFile.FieldType.int)) ∈ WS := ws_c5 99 rfl rfl
theorem wd_1150 : (Jvm.Cond.methodLink "BitDeskLaw" (157 : Nat) ({ cls := "BitDesk", name := "exchange", desc := "(III)I" } : Jvm.MethodName)) ∈ WS := ws_c5 96 rfl rfl
theorem wd_1151 : (Jvm.Cond.instanceMethod ({ cls := "BitDesk", name := "exchange", desc := "(III)I" } : Jvm.MethodName)) ∈ WS := ws_c5 97 rfl rfl
theorem wd_1152 : (Jvm.Cond.selects "BitDesk" ({ cls := "BitDesk", name := "exchange", desc := "(III)I" } : Jvm.MethodName) ({ cls := "BitDesk", name := "exchange", desc := "(III)I" } : Jvm.MethodName)) ∈ WS := ws_c5 98 rfl rfl
theorem lk_L_157 : LkV RL 157 jX6_exchange 3 := ⟨⟨wd_1150, ⟨rfl, (by rw [cwd_nil rfl]; exact wd_1153)⟩, wd_95, ⟨by decide +kernel, by decide +kernel⟩, by decide +kernel⟩, wd_1151, wd_1152⟩
theorem wd_1163 : (Jvm.Cond.code ({ cls := "BitDesk", name := "keep", desc := "(IZ)I" } : Jvm.MethodName) prog_1_method_51_code (4 : Nat) (Option.some Jvm.ClassFile.FieldType.int)) ∈ WS := ws_c5 109 rfl rfl
theorem wd_1160 : (Jvm.Cond.methodLink "BitDeskLaw" (160 : Nat) ({ cls := "BitDesk", name := "keep", desc := "(IZ)I" } : Jvm.MethodName)) ∈ WS := ws_c5 106 rfl rfl
theorem wd_1161 : (Jvm.Cond.instanceMethod ({ cls := "BitDesk", name := "keep", desc := "(IZ)I" } : Jvm.MethodName)) ∈ WS := ws_c5 107 rfl rfl
theorem wd_1162 : (Jvm.Cond.selects "BitDesk" ({ cls := "BitDesk", name := "keep", desc := "(IZ)I" } : Jvm.MethodName) ({ cls := "BitDesk", name := "keep", desc := "(IZ)I" } : Jvm.MethodName)) ∈ WS := ws_c5 108 rfl rfl
theorem lk_L_160 : LkV RL 160 jX6_keep 2 := ⟨⟨wd_1160, ⟨rfl, (by rw [cwd_nil rfl]; exact wd_1163)⟩, wd_95, ⟨by decide +kernel, by decide +kernel⟩, by decide +kernel⟩, wd_1161, wd_1162⟩
theorem wd_1170 : (Jvm.Cond.code ({ cls := "BitDesk", name := "setBlock", desc := "(I)I" } : Jvm.MethodName) prog_1_method_52_code (3 : Nat) (Option.some Jvm.ClassFile.FieldType.int)) ∈ WS := ws_c5 116 rfl rfl
theorem wd_1167 : (Jvm.Cond.methodLink "BitDeskLaw" (164 : Nat) ({ cls := "BitDesk", name := "setBlock", desc := "(I)I" } : Jvm.MethodName)) ∈ WS := ws_c5 113 rfl rfl
theorem wd_1168 : (Jvm.Cond.instanceMethod ({ cls := "BitDesk", name := "setBlock", desc := "(I)I" } : Jvm.MethodName)) ∈ WS := ws_c5 114 rfl rfl
theorem wd_1169 : (Jvm.Cond.selects "BitDesk" ({ cls := "BitDesk", name := "setBlock", desc := "(I)I" } : Jvm.MethodName) ({ cls := "BitDesk", name := "setBlock", desc := "(I)I" } : Jvm.MethodName)) ∈ WS := ws_c5 115 rfl rfl
theorem lk_L_164 : LkV RL 164 jX6_setBlock 1 := ⟨⟨wd_1167, ⟨rfl, (by rw [cwd_nil rfl]; exact wd_1170)⟩, wd_95, ⟨by decide +kernel, by decide +kernel⟩, by decide +kernel⟩, wd_1168, wd_1169⟩
theorem wd_1177 : (Jvm.Cond.code ({ cls := "BitDesk", name := "kept", desc := "(II)I" } : Jvm.MethodName) prog_1_method_53_code (4 : Nat) (Option.some Jvm.ClassFile.FieldType.int)) ∈ WS := ws_c5 123 rfl rfl
theorem wd_1174 : (Jvm.Cond.methodLink "BitDeskLaw" (167 : Nat) ({ cls := "BitDesk", name := "kept", desc := "(II)I" } : Jvm.MethodName)) ∈ WS := ws_c5 120 rfl rfl
theorem wd_1175 : (Jvm.Cond.instanceMethod ({ cls := "BitDesk", name := "kept", desc := "(II)I" } : Jvm.MethodName)) ∈ WS := ws_c5 121 rfl rfl
theorem wd_1176 : (Jvm.Cond.selects "BitDesk" ({ cls := "BitDesk", name := "kept", desc := "(II)I" } : Jvm.MethodName) ({ cls := "BitDesk", name := "kept", desc := "(II)I" } : Jvm.MethodName)) ∈ WS := ws_c5 122 rfl rfl
theorem lk_L_167 : LkV RL 167 jX6_kept 2 := ⟨⟨wd_1174, ⟨rfl, (by rw [cwd_nil rfl]; exact wd_1177)⟩, wd_95, ⟨by decide +kernel, by decide +kernel⟩, by decide +kernel⟩, wd_1175, wd_1176⟩
theorem wd_1184 : (Jvm.Cond.code ({ cls := "BitDesk", name := "work", desc := "(I)I" } : Jvm.MethodName) prog_1_method_54_code (2 : Nat) (Option.some Jvm.ClassFile.FieldType.int)) ∈ WS := ws_c5 130 rfl rfl
theorem wd_1181 : (Jvm.Cond.methodLink "BitDeskLaw" (170 : Nat) ({ cls := "BitDesk", name := "work", desc := "(I)I" } : Jvm.MethodName)) ∈ WS := ws_c5 127 rfl rfl
theorem wd_1182 : (Jvm.Cond.instanceMethod ({ cls := "BitDesk", name := "work", desc := "(I)I" } : Jvm.MethodName)) ∈ WS := ws_c5 128 rfl rfl
theorem wd_1183 : (Jvm.Cond.selects "BitDesk" ({ cls := "BitDesk", name := "work", desc := "(I)I" } : Jvm.MethodName) ({ cls := "BitDesk", name := "work", desc := "(I)I" } : Jvm.MethodName)) ∈ WS := ws_c5 129 rfl rfl
theorem lk_L_170 : LkV RL 170 jX6_work 1 := ⟨⟨wd_1181, ⟨rfl, (by rw [cwd_nil rfl]; exact wd_1184)⟩, wd_95, ⟨by decide +kernel, by decide +kernel⟩, by decide +kernel⟩, wd_1182, wd_1183⟩
theorem wd_1191 : (Jvm.Cond.code ({ cls := "BitDesk", name := "writeRow", desc := "(II)I" } : Jvm.MethodName) prog_1_method_55_code (5 : Nat) (Option.some Jvm.ClassFile.FieldType.int)) ∈ WS := ws_c5 137 rfl rfl
theorem wd_1188 : (Jvm.Cond.methodLink "BitDeskLaw" (173 : Nat) ({ cls := "BitDesk", name := "writeRow", desc := "(II)I" } : Jvm.MethodName)) ∈ WS := ws_c5 134 rfl rfl
theorem wd_1189 : (Jvm.Cond.instanceMethod ({ cls := "BitDesk", name := "writeRow", desc := "(II)I" } : Jvm.MethodName)) ∈ WS := ws_c5 135 rfl rfl
theorem wd_1190 : (Jvm.Cond.selects "BitDesk" ({ cls := "BitDesk", name := "writeRow", desc := "(II)I" } : Jvm.MethodName) ({ cls := "BitDesk", name := "writeRow", desc := "(II)I" } : Jvm.MethodName)) ∈ WS := ws_c5 136 rfl rfl
theorem lk_L_173 : LkV RL 173 jX6_writeRow 2 := ⟨⟨wd_1188, ⟨rfl, (by rw [cwd_nil rfl]; exact wd_1191)⟩, wd_95, ⟨by decide +kernel, by decide +kernel⟩, by decide +kernel⟩, wd_1189, wd_1190⟩
theorem wd_1198 : (Jvm.Cond.code ({ cls := "BitDesk", name := "saveSnapshot", desc := "(I)I" } : Jvm.MethodName) prog_1_method_58_code (2 : Nat) (Option.some Jvm.ClassFile.FieldType.int)) ∈ WS := ws_c5 144 rfl rfl
theorem wd_1195 : (Jvm.Cond.methodLink "BitDeskLaw" (176 : Nat) ({ cls := "BitDesk", name := "saveSnapshot", desc := "(I)I" } : Jvm.MethodName)) ∈ WS := ws_c5 141 rfl rfl
theorem wd_1196 : (Jvm.Cond.instanceMethod ({ cls := "BitDesk", name := "saveSnapshot", desc := "(I)I" } : Jvm.MethodName)) ∈ WS := ws_c5 142 rfl rfl
theorem wd_1197 : (Jvm.Cond.selects "BitDesk" ({ cls := "BitDesk", name := "saveSnapshot", desc := "(I)I" } : Jvm.MethodName) ({ cls := "BitDesk", name := "saveSnapshot", desc := "(I)I" } : Jvm.MethodName)) ∈ WS := ws_c5 143 rfl rfl
theorem lk_L_176 : LkV RL 176 jX6_saveSnapshot 1 := ⟨⟨wd_1195, ⟨rfl, (by rw [cwd_nil rfl]; exact wd_1198)⟩, wd_95, ⟨by decide +kernel, by decide +kernel⟩, by decide +kernel⟩, wd_1196, wd_1197⟩
theorem wd_1205 : (Jvm.Cond.code ({ cls := "BitDesk", name := "restoreSnapshot", desc := "(I)I" } : Jvm.MethodName) prog_1_method_59_code (2 : Nat) (Option.some Jvm.ClassFile.FieldType.int)) ∈ WS := ws_c5 151 rfl rfl
theorem wd_1202 : (Jvm.Cond.methodLink "BitDeskLaw" (179 : Nat) ({ cls := "BitDesk", name := "restoreSnapshot", desc := "(I)I" } : Jvm.MethodName)) ∈ WS := ws_c5 148 rfl rfl
theorem wd_1203 : (Jvm.Cond.instanceMethod ({ cls := "BitDesk", name := "restoreSnapshot", desc := "(I)I" } : Jvm.MethodName)) ∈ WS := ws_c5 149 rfl rfl
theorem wd_1204 : (Jvm.Cond.selects "BitDesk" ({ cls := "BitDesk", name := "restoreSnapshot", desc := "(I)I" } : Jvm.MethodName) ({ cls := "BitDesk", name := "restoreSnapshot", desc := "(I)I" } : Jvm.MethodName)) ∈ WS := ws_c5 150 rfl rfl
theorem lk_L_179 : LkV RL 179 jX6_restoreSnapshot 1 := ⟨⟨wd_1202, ⟨rfl, (by rw [cwd_nil rfl]; exact wd_1205)⟩, wd_95, ⟨by decide +kernel, by decide +kernel⟩, by decide +kernel⟩, wd_1203, wd_1204⟩
theorem wd_115 : (Jvm.Cond.classLink "BitDeskLaw" (8 : Nat) "BitDesk") ∈ WS := ws_c1 21 rfl rfl
theorem wd_116 : (Jvm.Cond.instantiable "BitDesk" (15 : Nat)) ∈ WS := ws_c1 22 rfl rfl
theorem wd_119 : (Jvm.Cond.code ({ cls := "BitDesk", name := "<init>", desc := "()V" } : Jvm.MethodName) prog_1_method_1_code (2 : Nat) (Option.none : Option Jvm.ClassFile.FieldType)) ∈ WS := ws_c1 25 rfl rfl
theorem wd_117 : (Jvm.Cond.methodLink "BitDeskLaw" (182 : Nat) ({ cls := "BitDesk", name := "<init>", desc := "()V" } : Jvm.MethodName)) ∈ WS := ws_c1 23 rfl rfl
theorem wd_118 : (Jvm.Cond.instanceMethod ({ cls := "BitDesk", name := "<init>", desc := "()V" } : Jvm.MethodName)) ∈ WS := ws_c1 24 rfl rfl
theorem lk_L_182 : LkI RL 182 jX6_init 0 := ⟨⟨wd_117, ⟨rfl, (by rw [cwd_nil rfl]; exact wd_119)⟩, wd_95, ⟨by decide +kernel, by decide +kernel⟩, by decide +kernel⟩, wd_118, rfl, rfl⟩
theorem wd_1206 : (Jvm.Cond.classLink "BitDeskLaw" (183 : Nat) "BitDeskModel") ∈ WS := ws_c5 152 rfl rfl
theorem wd_1207 : (Jvm.Cond.instantiable "BitDeskModel" (25 : Nat)) ∈ WS := ws_c5 153 rfl rfl
theorem wd_1210 : (Jvm.Cond.code ({ cls := "BitDeskModel", name := "<init>", desc := "()V" } : Jvm.MethodName) prog_9_method_1_code (1 : Nat) (Option.none : Option Jvm.ClassFile.FieldType)) ∈ WS := ws_c5 156 rfl rfl
theorem wd_1208 : (Jvm.Cond.methodLink "BitDeskLaw" (185 : Nat) ({ cls := "BitDeskModel", name := "<init>", desc := "()V" } : Jvm.MethodName)) ∈ WS := ws_c5 154 rfl rfl
theorem wd_1209 : (Jvm.Cond.instanceMethod ({ cls := "BitDeskModel", name := "<init>", desc := "()V" } : Jvm.MethodName)) ∈ WS := ws_c5 155 rfl rfl
theorem lk_L_185 : LkI RL 185 jX7_init 0 := ⟨⟨wd_1208, ⟨rfl, (by rw [cwd_nil rfl]; exact wd_1210)⟩, wd_102, ⟨by decide +kernel, by decide +kernel⟩, by decide +kernel⟩, wd_1209, rfl, rfl⟩
theorem wd_1783 : (Jvm.Cond.constantLong "BitDeskLaw" (186 : Nat) (4294967295 : Int64)) ∈ WS := ws_c8 9 rfl rfl
theorem wd_338 : (Jvm.Cond.code ({ cls := "BitDesk", name := "append", desc := "(J)I" } : Jvm.MethodName) prog_1_method_2_code (3 : Nat) (Option.some Jvm.ClassFile.FieldType.int)) ∈ WS := ws_c2 4 rfl rfl
theorem wd_335 : (Jvm.Cond.methodLink "BitDeskLaw" (188 : Nat) ({ cls := "BitDesk", name := "append", desc := "(J)I" } : Jvm.MethodName)) ∈ WS := ws_c2 1 rfl rfl
theorem wd_336 : (Jvm.Cond.instanceMethod ({ cls := "BitDesk", name := "append", desc := "(J)I" } : Jvm.MethodName)) ∈ WS := ws_c2 2 rfl rfl
theorem wd_337 : (Jvm.Cond.selects "BitDesk" ({ cls := "BitDesk", name := "append", desc := "(J)I" } : Jvm.MethodName) ({ cls := "BitDesk", name := "append", desc := "(J)I" } : Jvm.MethodName)) ∈ WS := ws_c2 3 rfl rfl
theorem lk_L_188 : LkV RL 188 jX6_append 1 := ⟨⟨wd_335, ⟨rfl, (by rw [cwd_nil rfl]; exact wd_338)⟩, wd_95, ⟨by decide +kernel, by decide +kernel⟩, by decide +kernel⟩, wd_336, wd_337⟩
theorem wd_1300 : (Jvm.Cond.code ({ cls := "BitDeskModel", name := "append", desc := "(J)I" } : Jvm.MethodName) prog_9_method_16_code (5 : Nat) (Option.some Jvm.ClassFile.FieldType.int)) ∈ WS := ws_c6 6 rfl rfl
theorem wd_1297 : (Jvm.Cond.methodLink "BitDeskLaw" (192 : Nat) ({ cls := "BitDeskModel", name := "append", desc := "(J)I" } : Jvm.MethodName)) ∈ WS := ws_c6 3 rfl rfl
theorem wd_1298 : (Jvm.Cond.instanceMethod ({ cls := "BitDeskModel", name := "append", desc := "(J)I" } : Jvm.MethodName)) ∈ WS := ws_c6 4 rfl rfl
theorem wd_1299 : (Jvm.Cond.selects "BitDeskModel" ({ cls := "BitDeskModel", name := "append", desc := "(J)I" } : Jvm.MethodName) ({ cls := "BitDeskModel", name := "append", desc := "(J)I" } : Jvm.MethodName)) ∈ WS := ws_c6 5 rfl rfl
theorem lk_L_192 : LkV RL 192 jX7_append 1 := ⟨⟨wd_1297, ⟨rfl, (by rw [cwd_nil rfl]; exact wd_1300)⟩, wd_102, ⟨by decide +kernel, by decide +kernel⟩, by decide +kernel⟩, wd_1298, wd_1299⟩
theorem wd_347 : (Jvm.Cond.code ({ cls := "BitDesk", name := "load", desc := "()I" } : Jvm.MethodName) prog_1_method_3_code (1 : Nat) (Option.some Jvm.ClassFile.FieldType.int)) ∈ WS := ws_c2 13 rfl rfl
theorem wd_344 : (Jvm.Cond.methodLink "BitDeskLaw" (193 : Nat) ({ cls := "BitDesk", name := "load", desc := "()I" } : Jvm.MethodName)) ∈ WS := ws_c2 10 rfl rfl
theorem wd_345 : (Jvm.Cond.instanceMethod ({ cls := "BitDesk", name := "load", desc := "()I" } : Jvm.MethodName)) ∈ WS := ws_c2 11 rfl rfl
theorem wd_346 : (Jvm.Cond.selects "BitDesk" ({ cls := "BitDesk", name := "load", desc := "()I" } : Jvm.MethodName) ({ cls := "BitDesk", name := "load", desc := "()I" } : Jvm.MethodName)) ∈ WS := ws_c2 12 rfl rfl
theorem lk_L_193 : LkV RL 193 jX6_load 0 := ⟨⟨wd_344, ⟨rfl, (by rw [cwd_nil rfl]; exact wd_347)⟩, wd_95, ⟨by decide +kernel, by decide +kernel⟩, by decide +kernel⟩, wd_345, wd_346⟩
theorem wd_1308 : (Jvm.Cond.code ({ cls := "BitDeskModel", name := "load", desc := "()I" } : Jvm.MethodName) prog_9_method_34_code (2 : Nat) (Option.some Jvm.ClassFile.FieldType.int)) ∈ WS := ws_c6 14 rfl rfl
theorem wd_1305 : (Jvm.Cond.methodLink "BitDeskLaw" (197 : Nat) ({ cls := "BitDeskModel", name := "load", desc := "()I" } : Jvm.MethodName)) ∈ WS := ws_c6 11 rfl rfl
theorem wd_1306 : (Jvm.Cond.instanceMethod ({ cls := "BitDeskModel", name := "load", desc := "()I" } : Jvm.MethodName)) ∈ WS := ws_c6 12 rfl rfl
theorem wd_1307 : (Jvm.Cond.selects "BitDeskModel" ({ cls := "BitDeskModel", name := "load", desc := "()I" } : Jvm.MethodName) ({ cls := "BitDeskModel", name := "load", desc := "()I" } : Jvm.MethodName)) ∈ WS := ws_c6 13 rfl rfl
theorem lk_L_197 : LkV RL 197 jX7_load 0 := ⟨⟨wd_1305, ⟨rfl, (by rw [cwd_nil rfl]; exact wd_1308)⟩, wd_102, ⟨by decide +kernel, by decide +kernel⟩, by decide +kernel⟩, wd_1306, wd_1307⟩
theorem wd_519 : (Jvm.Cond.code ({ cls := "BitDesk", name := "loadError", desc := "()I" } : Jvm.MethodName) prog_1_method_4_code (1 : Nat) (Option.some Jvm.ClassFile.FieldType.int)) ∈ WS := ws_c2 185 rfl rfl
theorem wd_516 : (Jvm.Cond.methodLink "BitDeskLaw" (198 : Nat) ({ cls := "BitDesk", name := "loadError", desc := "()I" } : Jvm.MethodName)) ∈ WS := ws_c2 182 rfl rfl
theorem wd_517 : (Jvm.Cond.instanceMethod ({ cls := "BitDesk", name := "loadError", desc := "()I" } : Jvm.MethodName)) ∈ WS := ws_c2 183 rfl rfl
theorem wd_518 : (Jvm.Cond.selects "BitDesk" ({ cls := "BitDesk", name := "loadError", desc := "()I" } : Jvm.MethodName) ({ cls := "BitDesk", name := "loadError", desc := "()I" } : Jvm.MethodName)) ∈ WS := ws_c2 184 rfl rfl
theorem lk_L_198 : LkV RL 198 jX6_loadError 0 := ⟨⟨wd_516, ⟨rfl, (by rw [cwd_nil rfl]; exact wd_519)⟩, wd_95, ⟨by decide +kernel, by decide +kernel⟩, by decide +kernel⟩, wd_517, wd_518⟩
theorem wd_1415 : (Jvm.Cond.code ({ cls := "BitDeskModel", name := "loadError", desc := "()I" } : Jvm.MethodName) prog_9_method_35_code (1 : Nat) (Option.some Jvm.ClassFile.FieldType.int)) ∈ WS := ws_c6 121 rfl rfl
theorem wd_1412 : (Jvm.Cond.methodLink "BitDeskLaw" (201 : Nat) ({ cls := "BitDeskModel", name := "loadError", desc := "()I" } : Jvm.MethodName)) ∈ WS := ws_c6 118 rfl rfl
theorem wd_1413 : (Jvm.Cond.instanceMethod ({ cls := "BitDeskModel", name := "loadError", desc := "()I" } : Jvm.MethodName)) ∈ WS := ws_c6 119 rfl rfl
theorem wd_1414 : (Jvm.Cond.selects "BitDeskModel" ({ cls := "BitDeskModel", name := "loadError", desc := "()I" } : Jvm.MethodName) ({ cls := "BitDeskModel", name := "loadError", desc := "()I" } : Jvm.MethodName)) ∈ WS := ws_c6 120 rfl rfl
theorem lk_L_201 : LkV RL 201 jX7_loadError 0 := ⟨⟨wd_1412, ⟨rfl, (by rw [cwd_nil rfl]; exact wd_1415)⟩, wd_102, ⟨by decide +kernel, by decide +kernel⟩, by decide +kernel⟩, wd_1413, wd_1414⟩
theorem wd_523 : (Jvm.Cond.code ({ cls := "BitDesk", name := "loadStatement", desc := "()I" } : Jvm.MethodName) prog_1_method_5_code (1 : Nat) (Option.some Jvm.ClassFile.FieldType.int)) ∈ WS := ws_c2 189 rfl rfl
theorem wd_520 : (Jvm.Cond.methodLink "BitDeskLaw" (202 : Nat) ({ cls := "BitDesk", name := "loadStatement", desc := "()I" } : Jvm.MethodName)) ∈ WS := ws_c2 186 rfl rfl
theorem wd_521 : (Jvm.Cond.instanceMethod ({ cls := "BitDesk", name := "loadStatement", desc := "()I" } : Jvm.MethodName)) ∈ WS := ws_c2 187 rfl rfl
theorem wd_522 : (Jvm.Cond.selects "BitDesk" ({ cls := "BitDesk", name := "loadStatement", desc := "()I" } : Jvm.MethodName) ({ cls := "BitDesk", name := "loadStatement", desc := "()I" } : Jvm.MethodName)) ∈ WS := ws_c2 188 rfl rfl
theorem lk_L_202 : LkV RL 202 jX6_loadStatement 0 := ⟨⟨wd_520, ⟨rfl, (by rw [cwd_nil rfl]; exact wd_523)⟩, wd_95, ⟨by decide +kernel, by decide +kernel⟩, by decide +kernel⟩, wd_521, wd_522⟩
theorem wd_1419 : (Jvm.Cond.code ({ cls := "BitDeskModel", name := "loadStatement", desc := "()I" } : Jvm.MethodName) prog_9_method_36_code (1 : Nat) (Option.some Jvm.ClassFile.FieldType.int)) ∈ WS := ws_c6 125 rfl rfl
theorem wd_1416 : (Jvm.Cond.methodLink "BitDeskLaw" (205 : Nat) ({ cls := "BitDeskModel", name := "loadStatement", desc := "()I" } : Jvm.MethodName)) ∈ WS := ws_c6 122 rfl rfl
theorem wd_1417 : (Jvm.Cond.instanceMethod ({ cls := "BitDeskModel", name := "loadStatement", desc := "()I" } : Jvm.MethodName)) ∈ WS := ws_c6 123 rfl rfl
theorem wd_1418 : (Jvm.Cond.selects "BitDeskModel" ({ cls := "BitDeskModel", name := "loadStatement", desc := "()I" } : Jvm.MethodName) ({ cls := "BitDeskModel", name := "loadStatement", desc := "()I" } : Jvm.MethodName)) ∈ WS := ws_c6 124 rfl rfl
theorem lk_L_205 : LkV RL 205 jX7_loadStatement 0 := ⟨⟨wd_1416, ⟨rfl, (by rw [cwd_nil rfl]; exact wd_1419)⟩, wd_102, ⟨by decide +kernel, by decide +kernel⟩, by decide +kernel⟩, wd_1417, wd_1418⟩
theorem wd_534 : (Jvm.Cond.codeWith ({ cls := "BitDeskLaw", name := "count", desc := "(LBitDesk;I[J)I" } : Jvm.MethodName) method_3_code (4 : Nat) (Option.some Jvm.ClassFile.FieldType.int) [((0 : Nat), (9 : Nat), (12 : Nat), (13 : Nat))]) ∈ WS := ws_c2 200 rfl rfl
theorem wd_532 : (Jvm.Cond.methodLink "BitDeskLaw" (206 : Nat) ({ cls := "BitDeskLaw", name := "count", desc := "(LBitDesk;I[J)I" } : Jvm.MethodName)) ∈ WS := ws_c2 198 rfl rfl
theorem wd_533 : (Jvm.Cond.static ({ cls := "BitDeskLaw", name := "count", desc := "(LBitDesk;I[J)I" } : Jvm.MethodName)) ∈ WS := ws_c2 199 rfl rfl
theorem lk_L_206 : LkSX RL 206 jL_count 3 := ⟨wd_532, ⟨(by decide), (by rw [cwd_hh (by decide)]; exact wd_534)⟩, wd_94, ⟨by decide +kernel, by decide +kernel⟩, by decide +kernel, wd_533⟩
theorem wd_1423 : (Jvm.Cond.code ({ cls := "BitDeskModel", name := "count", desc := "(I)I" } : Jvm.MethodName) prog_9_method_38_code (2 : Nat) (Option.some Jvm.ClassFile.FieldType.int)) ∈ WS := ws_c6 129 rfl rfl
theorem wd_1420 : (Jvm.Cond.methodLink "BitDeskLaw" (211 : Nat) ({ cls := "BitDeskModel", name := "count", desc := "(I)I" } : Jvm.MethodName)) ∈ WS := ws_c6 126 rfl rfl
theorem wd_1421 : (Jvm.Cond.instanceMethod ({ cls := "BitDeskModel", name := "count", desc := "(I)I" } : Jvm.MethodName)) ∈ WS := ws_c6 127 rfl rfl
theorem wd_1422 : (Jvm.Cond.selects "BitDeskModel" ({ cls := "BitDeskModel", name := "count", desc := "(I)I" } : Jvm.MethodName) ({ cls := "BitDeskModel", name := "count", desc := "(I)I" } : Jvm.MethodName)) ∈ WS := ws_c6 128 rfl rfl
theorem lk_L_211 : LkV RL 211 jX7_count 1 := ⟨⟨wd_1420, ⟨rfl, (by rw [cwd_nil rfl]; exact wd_1423)⟩, wd_102, ⟨by decide +kernel, by decide +kernel⟩, by decide +kernel⟩, wd_1421, wd_1422⟩
theorem wd_616 : (Jvm.Cond.codeWith ({ cls := "BitDeskLaw", name := "bit", desc := "(LBitDesk;III[J)I" } : Jvm.MethodName) method_4_code (6 : Nat) (Option.some Jvm.ClassFile.FieldType.int) [((0 : Nat), (12 : Nat), (15 : Nat), (19 : Nat))]) ∈ WS := ws_c3 42 rfl rfl
theorem wd_x614 : (Jvm.Cond.methodLink "BitDeskLaw" (212 : Nat) ({ cls := "BitDeskLaw", name := "bit", desc := "(LBitDesk;III[J)I" } : Jvm.MethodName)) ∈ WS := ws_c3 40 rfl rfl
theorem wd_615 : (Jvm.Cond.static ({ cls := "BitDeskLaw", name := "bit", desc := "(LBitDesk;III[J)I" } : Jvm.MethodName)) ∈ WS := ws_c3 41 rfl rfl
theorem lk_L_212 : LkSX RL 212 jL_bit 5 := ⟨wd_x614, ⟨(by decide), (by rw [cwd_hh (by decide)]; exact wd_616)⟩, wd_94, ⟨by decide +kernel, by decide +kernel⟩, by decide +kernel, wd_615⟩
theorem wd_1436 : (Jvm.Cond.code ({ cls := "BitDeskModel", name := "bit", desc := "(III)I" } : Jvm.MethodName) prog_9_method_40_code (4 : Nat) (Option.some Jvm.ClassFile.FieldType.int)) ∈ WS := ws_c6 142 rfl rfl
theorem wd_x1433 : (Jvm.Cond.methodLink "BitDeskLaw" (215 : Nat) ({ cls := "BitDeskModel", name := "bit", desc := "(III)I" } : Jvm.MethodName)) ∈ WS := ws_c6 139 rfl rfl
theorem wd_1434 : (Jvm.Cond.instanceMethod ({ cls := "BitDeskModel", name := "bit", desc := "(III)I" } : Jvm.MethodName)) ∈ WS := ws_c6 140 rfl rfl
theorem wd_1435 : (Jvm.Cond.selects "BitDeskModel" ({ cls := "BitDeskModel", name := "bit", desc := "(III)I" } : Jvm.MethodName) ({ cls := "BitDeskModel", name := "bit", desc := "(III)I" } : Jvm.MethodName)) ∈ WS := ws_c6 141 rfl rfl
theorem lk_L_215 : LkV RL 215 jX7_bit 3 := ⟨⟨wd_x1433, ⟨rfl, (by rw [cwd_nil rfl]; exact wd_1436)⟩, wd_102, ⟨by decide +kernel, by decide +kernel⟩, by decide +kernel⟩, wd_1434, wd_1435⟩
theorem wd_664 : (Jvm.Cond.codeWith ({ cls := "BitDeskLaw", name := "row", desc := "(LBitDesk;II[J)I" } : Jvm.MethodName) method_5_code (5 : Nat) (Option.some Jvm.ClassFile.FieldType.int) [((0 : Nat), (9 : Nat), (12 : Nat), (19 : Nat))]) ∈ WS := ws_c3 90 rfl rfl
theorem wd_x662 : (Jvm.Cond.methodLink "BitDeskLaw" (216 : Nat) ({ cls := "BitDeskLaw", name := "row", desc := "(LBitDesk;II[J)I" } : Jvm.MethodName)) ∈ WS := ws_c3 88 rfl rfl
theorem wd_663 : (Jvm.Cond.static ({ cls := "BitDeskLaw", name := "row", desc := "(LBitDesk;II[J)I" } : Jvm.MethodName)) ∈ WS := ws_c3 89 rfl rfl
theorem lk_L_216 : LkSX RL 216 jL_row 4 := ⟨wd_x662, ⟨(by decide), (by rw [cwd_hh (by decide)]; exact wd_664)⟩, wd_94, ⟨by decide +kernel, by decide +kernel⟩, by decide +kernel, wd_663⟩
theorem wd_1459 : (Jvm.Cond.code ({ cls := "BitDeskModel", name := "row", desc := "(II)J" } : Jvm.MethodName) prog_9_method_41_code (3 : Nat) (Option.some Jvm.ClassFile.FieldType.long)) ∈ WS := ws_c6 165 rfl rfl
theorem wd_x1456 : (Jvm.Cond.methodLink "BitDeskLaw" (219 : Nat) ({ cls := "BitDeskModel", name := "row", desc := "(II)J" } : Jvm.MethodName)) ∈ WS := ws_c6 162 rfl rfl
theorem wd_1457 : (Jvm.Cond.instanceMethod ({ cls := "BitDeskModel", name := "row", desc := "(II)J" } : Jvm.MethodName)) ∈ WS := ws_c6 163 rfl rfl
theorem wd_1458 : (Jvm.Cond.selects "BitDeskModel" ({ cls := "BitDeskModel", name := "row", desc := "(II)J" } : Jvm.MethodName) ({ cls := "BitDeskModel", name := "row", desc := "(II)J" } : Jvm.MethodName)) ∈ WS := ws_c6 164 rfl rfl
theorem lk_L_219 : LkV RL 219 jX7_row 2 := ⟨⟨wd_x1456, ⟨rfl, (by rw [cwd_nil rfl]; exact wd_1459)⟩, wd_102, ⟨by decide +kernel, by decide +kernel⟩, by decide +kernel⟩, wd_1457, wd_1458⟩
theorem wd_675 : (Jvm.Cond.codeWith ({ cls := "BitDeskLaw", name := "rank", desc := "(LBitDesk;III[J)I" } : Jvm.MethodName) method_6_code (6 : Nat) (Option.some Jvm.ClassFile.FieldType.int) [((0 : Nat), (12 : Nat), (15 : Nat), (19 : Nat)), ((0 : Nat), (12 : Nat), (19 : Nat), (13 : Nat))]) ∈ WS := ws_c3 101 rfl rfl
theorem wd_x673 : (Jvm.Cond.methodLink "BitDeskLaw" (220 : Nat) ({ cls := "BitDeskLaw", name := "rank", desc := "(LBitDesk;III[J)I" } : Jvm.MethodName)) ∈ WS := ws_c3 99 rfl rfl
theorem wd_674 : (Jvm.Cond.static ({ cls := "BitDeskLaw", name := "rank", desc := "(LBitDesk;III[J)I" } : Jvm.MethodName)) ∈ WS := ws_c3 100 rfl rfl
theorem lk_L_220 : LkSX RL 220 jL_rank 5 := ⟨wd_x673, ⟨(by decide), (by rw [cwd_hh (by decide)]; exact wd_675)⟩, wd_94, ⟨by decide +kernel, by decide +kernel⟩, by decide +kernel, wd_674⟩
theorem wd_1463 : (Jvm.Cond.code ({ cls := "BitDeskModel", name := "rank", desc := "(III)I" } : Jvm.MethodName) prog_9_method_42_code (4 : Nat) (Option.some Jvm.ClassFile.FieldType.int)) ∈ WS := ws_c6 169 rfl rfl
theorem wd_x1460 : (Jvm.Cond.methodLink "BitDeskLaw" (222 : Nat) ({ cls := "BitDeskModel", name := "rank", desc := "(III)I" } : Jvm.MethodName)) ∈ WS := ws_c6 166 rfl rfl
theorem wd_1461 : (Jvm.Cond.instanceMethod ({ cls := "BitDeskModel", name := "rank", desc := "(III)I" } : Jvm.MethodName)) ∈ WS := ws_c6 167 rfl rfl
theorem wd_1462 : (Jvm.Cond.selects "BitDeskModel" ({ cls := "BitDeskModel", name := "rank", desc := "(III)I" } : Jvm.MethodName) ({ cls := "BitDeskModel", name := "rank", desc := "(III)I" } : Jvm.MethodName)) ∈ WS := ws_c6 168 rfl rfl
theorem lk_L_222 : LkV RL 222 jX7_rank 3 := ⟨⟨wd_x1460, ⟨rfl, (by rw [cwd_nil rfl]; exact wd_1463)⟩, wd_102, ⟨by decide +kernel, by decide +kernel⟩, by decide +kernel⟩, wd_1461, wd_1462⟩
theorem wd_689 : (Jvm.Cond.codeWith ({ cls := "BitDeskLaw", name := "select", desc := "(LBitDesk;III[J)I" } : Jvm.MethodName) method_7_code (6 : Nat) (Option.some Jvm.ClassFile.FieldType.int) [((0 : Nat), (12 : Nat), (15 : Nat), (19 : Nat))]) ∈ WS := ws_c3 115 rfl rfl
theorem wd_x687 : (Jvm.Cond.methodLink "BitDeskLaw" (223 : Nat) ({ cls := "BitDeskLaw", name := "select", desc := "(LBitDesk;III[J)I" } : Jvm.MethodName)) ∈ WS := ws_c3 113 rfl rfl
theorem wd_688 : (Jvm.Cond.static ({ cls := "BitDeskLaw", name := "select", desc := "(LBitDesk;III[J)I" } : Jvm.MethodName)) ∈ WS := ws_c3 114 rfl rfl
theorem lk_L_223 : LkSX RL 223 jL_select 5 := ⟨wd_x687, ⟨(by decide), (by rw [cwd_hh (by decide)]; exact wd_689)⟩, wd_94, ⟨by decide +kernel, by decide +kernel⟩, by decide +kernel, wd_688⟩
theorem wd_1470 : (Jvm.Cond.code ({ cls := "BitDeskModel", name := "select", desc := "(III)I" } : Jvm.MethodName) prog_9_method_43_code (6 : Nat) (Option.some Jvm.ClassFile.FieldType.int)) ∈ WS := ws_c6 176 rfl rfl
theorem wd_x1467 : (Jvm.Cond.methodLink "BitDeskLaw" (225 : Nat) ({ cls := "BitDeskModel", name := "select", desc := "(III)I" } : Jvm.MethodName)) ∈ WS := ws_c6 173 rfl rfl
theorem wd_1468 : (Jvm.Cond.instanceMethod ({ cls := "BitDeskModel", name := "select", desc := "(III)I" } : Jvm.MethodName)) ∈ WS := ws_c6 174 rfl rfl
theorem wd_1469 : (Jvm.Cond.selects "BitDeskModel" ({ cls := "BitDeskModel", name := "select", desc := "(III)I" } : Jvm.MethodName) ({ cls := "BitDeskModel", name := "select", desc := "(III)I" } : Jvm.MethodName)) ∈ WS := ws_c6 175 rfl rfl
theorem lk_L_225 : LkV RL 225 jX7_select 3 := ⟨⟨wd_x1467, ⟨rfl, (by rw [cwd_nil rfl]; exact wd_1470)⟩, wd_102, ⟨by decide +kernel, by decide +kernel⟩, by decide +kernel⟩, wd_1468, wd_1469⟩
theorem wd_699 : (Jvm.Cond.codeWith ({ cls := "BitDeskLaw", name := "ones", desc := "(LBitDesk;I[J)I" } : Jvm.MethodName) method_8_code (4 : Nat) (Option.some Jvm.ClassFile.FieldType.int) [((0 : Nat), (9 : Nat), (12 : Nat), (19 : Nat))]) ∈ WS := ws_c3 125 rfl rfl
theorem wd_x697 : (Jvm.Cond.methodLink "BitDeskLaw" (226 : Nat) ({ cls := "BitDeskLaw", name := "ones", desc := "(LBitDesk;I[J)I" } : Jvm.MethodName)) ∈ WS := ws_c3 123 rfl rfl
theorem wd_698 : (Jvm.Cond.static ({ cls := "BitDeskLaw", name := "ones", desc := "(LBitDesk;I[J)I" } : Jvm.MethodName)) ∈ WS := ws_c3 124 rfl rfl
theorem lk_L_226 : LkSX RL 226 jL_ones 3 := ⟨wd_x697, ⟨(by decide), (by rw [cwd_hh (by decide)]; exact wd_699)⟩, wd_94, ⟨by decide +kernel, by decide +kernel⟩, by decide +kernel, wd_698⟩
theorem wd_1474 : (Jvm.Cond.code ({ cls := "BitDeskModel", name := "ones", desc := "(I)I" } : Jvm.MethodName) prog_9_method_45_code (2 : Nat) (Option.some Jvm.ClassFile.FieldType.int)) ∈ WS := ws_c6 180 rfl rfl
theorem wd_x1471 : (Jvm.Cond.methodLink "BitDeskLaw" (228 : Nat) ({ cls := "BitDeskModel", name := "ones", desc := "(I)I" } : Jvm.MethodName)) ∈ WS := ws_c6 177 rfl rfl
theorem wd_1472 : (Jvm.Cond.instanceMethod ({ cls := "BitDeskModel", name := "ones", desc := "(I)I" } : Jvm.MethodName)) ∈ WS := ws_c6 178 rfl rfl
theorem wd_1473 : (Jvm.Cond.selects "BitDeskModel" ({ cls := "BitDeskModel", name := "ones", desc := "(I)I" } : Jvm.MethodName) ({ cls := "BitDeskModel", name := "ones", desc := "(I)I" } : Jvm.MethodName)) ∈ WS := ws_c6 179 rfl rfl
theorem lk_L_228 : LkV RL 228 jX7_ones 1 := ⟨⟨wd_x1471, ⟨rfl, (by rw [cwd_nil rfl]; exact wd_1474)⟩, wd_102, ⟨by decide +kernel, by decide +kernel⟩, by decide +kernel⟩, wd_1472, wd_1473⟩
theorem wd_709 : (Jvm.Cond.codeWith ({ cls := "BitDeskLaw", name := "columnOnes", desc := "(LBitDesk;II[J)I" } : Jvm.MethodName) method_9_code (5 : Nat) (Option.some Jvm.ClassFile.FieldType.int) [((0 : Nat), (10 : Nat), (13 : Nat), (19 : Nat))]) ∈ WS := ws_c3 135 rfl rfl
theorem wd_x707 : (Jvm.Cond.methodLink "BitDeskLaw" (229 : Nat) ({ cls := "BitDeskLaw", name := "columnOnes", desc := "(LBitDesk;II[J)I" } : Jvm.MethodName)) ∈ WS := ws_c3 133 rfl rfl
theorem wd_708 : (Jvm.Cond.static ({ cls := "BitDeskLaw", name := "columnOnes", desc := "(LBitDesk;II[J)I" } : Jvm.MethodName)) ∈ WS := ws_c3 134 rfl rfl
theorem lk_L_229 : LkSX RL 229 jL_columnOnes 4 := ⟨wd_x707, ⟨(by decide), (by rw [cwd_hh (by decide)]; exact wd_709)⟩, wd_94, ⟨by decide +kernel, by decide +kernel⟩, by decide +kernel, wd_708⟩
theorem wd_1482 : (Jvm.Cond.code ({ cls := "BitDeskModel", name := "columnOnes", desc := "(II)I" } : Jvm.MethodName) prog_9_method_46_code (5 : Nat) (Option.some Jvm.ClassFile.FieldType.int)) ∈ WS := ws_c6 188 rfl rfl
theorem wd_x1479 : (Jvm.Cond.methodLink "BitDeskLaw" (231 : Nat) ({ cls := "BitDeskModel", name := "columnOnes", desc := "(II)I" } : Jvm.MethodName)) ∈ WS := ws_c6 185 rfl rfl
theorem wd_1480 : (Jvm.Cond.instanceMethod ({ cls := "BitDeskModel", name := "columnOnes", desc := "(II)I" } : Jvm.MethodName)) ∈ WS := ws_c6 186 rfl rfl
theorem wd_1481 : (Jvm.Cond.selects "BitDeskModel" ({ cls := "BitDeskModel", name := "columnOnes", desc := "(II)I" } : Jvm.MethodName) ({ cls := "BitDeskModel", name := "columnOnes", desc := "(II)I" } : Jvm.MethodName)) ∈ WS := ws_c6 187 rfl rfl
theorem lk_L_231 : LkV RL 231 jX7_columnOnes 2 := ⟨⟨wd_x1479, ⟨rfl, (by rw [cwd_nil rfl]; exact wd_1482)⟩, wd_102, ⟨by decide +kernel, by decide +kernel⟩, by decide +kernel⟩, wd_1480, wd_1481⟩
theorem wd_719 : (Jvm.Cond.codeWith ({ cls := "BitDeskLaw", name := "sameAs", desc := "(LBitDesk;II[J)I" } : Jvm.MethodName) method_10_code (5 : Nat) (Option.some Jvm.ClassFile.FieldType.int) [((0 : Nat), (10 : Nat), (13 : Nat), (19 : Nat))]) ∈ WS := ws_c3 145 rfl rfl
theorem wd_x717 : (Jvm.Cond.methodLink "BitDeskLaw" (232 : Nat) ({ cls := "BitDeskLaw", name := "sameAs", desc := "(LBitDesk;II[J)I" } : Jvm.MethodName)) ∈ WS := ws_c3 143 rfl rfl
theorem wd_718 : (Jvm.Cond.static ({ cls := "BitDeskLaw", name := "sameAs", desc := "(LBitDesk;II[J)I" } : Jvm.MethodName)) ∈ WS := ws_c3 144 rfl rfl
theorem lk_L_232 : LkSX RL 232 jL_sameAs 4 := ⟨wd_x717, ⟨(by decide), (by rw [cwd_hh (by decide)]; exact wd_719)⟩, wd_94, ⟨by decide +kernel, by decide +kernel⟩, by decide +kernel, wd_718⟩
theorem wd_1486 : (Jvm.Cond.code ({ cls := "BitDeskModel", name := "sameAs", desc := "(II)I" } : Jvm.MethodName) prog_9_method_48_code (3 : Nat) (Option.some Jvm.ClassFile.FieldType.int)) ∈ WS := ws_c6 192 rfl rfl
theorem wd_x1483 : (Jvm.Cond.methodLink "BitDeskLaw" (234 : Nat) ({ cls := "BitDeskModel", name := "sameAs", desc := "(II)I" } : Jvm.MethodName)) ∈ WS := ws_c6 189 rfl rfl
theorem wd_1484 : (Jvm.Cond.instanceMethod ({ cls := "BitDeskModel", name := "sameAs", desc := "(II)I" } : Jvm.MethodName)) ∈ WS := ws_c6 190 rfl rfl
theorem wd_1485 : (Jvm.Cond.selects "BitDeskModel" ({ cls := "BitDeskModel", name := "sameAs", desc := "(II)I" } : Jvm.MethodName) ({ cls := "BitDeskModel", name := "sameAs", desc := "(II)I" } : Jvm.MethodName)) ∈ WS := ws_c6 191 rfl rfl
theorem lk_L_234 : LkV RL 234 jX7_sameAs 2 := ⟨⟨wd_x1483, ⟨rfl, (by rw [cwd_nil rfl]; exact wd_1486)⟩, wd_102, ⟨by decide +kernel, by decide +kernel⟩, by decide +kernel⟩, wd_1484, wd_1485⟩
theorem wd_730 : (Jvm.Cond.codeWith ({ cls := "BitDeskLaw", name := "classes", desc := "(LBitDesk;I[J)I" } : Jvm.MethodName) method_11_code (4 : Nat) (Option.some Jvm.ClassFile.FieldType.int) [((0 : Nat), (9 : Nat), (12 : Nat), (19 : Nat))]) ∈ WS := ws_c3 156 rfl rfl
theorem wd_x728 : (Jvm.Cond.methodLink "BitDeskLaw" (235 : Nat) ({ cls := "BitDeskLaw", name := "classes", desc := "(LBitDesk;I[J)I" } : Jvm.MethodName)) ∈ WS := ws_c3 154 rfl rfl
theorem wd_729 : (Jvm.Cond.static ({ cls := "BitDeskLaw", name := "classes", desc := "(LBitDesk;I[J)I" } : Jvm.MethodName)) ∈ WS := ws_c3 155 rfl rfl
theorem lk_L_235 : LkSX RL 235 jL_classes 3 := ⟨wd_x728, ⟨(by decide), (by rw [cwd_hh (by decide)]; exact wd_730)⟩, wd_94, ⟨by decide +kernel, by decide +kernel⟩, by decide +kernel, wd_729⟩
theorem wd_1502 : (Jvm.Cond.code ({ cls := "BitDeskModel", name := "classes", desc := "(I)I" } : Jvm.MethodName) prog_9_method_51_code (2 : Nat) (Option.some Jvm.ClassFile.FieldType.int)) ∈ WS := ws_c6 208 rfl rfl
theorem wd_x1499 : (Jvm.Cond.methodLink "BitDeskLaw" (237 : Nat) ({ cls := "BitDeskModel", name := "classes", desc := "(I)I" } : Jvm.MethodName)) ∈ WS := ws_c6 205 rfl rfl
theorem wd_1500 : (Jvm.Cond.instanceMethod ({ cls := "BitDeskModel", name := "classes", desc := "(I)I" } : Jvm.MethodName)) ∈ WS := ws_c6 206 rfl rfl
theorem wd_1501 : (Jvm.Cond.selects "BitDeskModel" ({ cls := "BitDeskModel", name := "classes", desc := "(I)I" } : Jvm.MethodName) ({ cls := "BitDeskModel", name := "classes", desc := "(I)I" } : Jvm.MethodName)) ∈ WS := ws_c6 207 rfl rfl
theorem lk_L_237 : LkV RL 237 jX7_classes 1 := ⟨⟨wd_x1499, ⟨rfl, (by rw [cwd_nil rfl]; exact wd_1502)⟩, wd_102, ⟨by decide +kernel, by decide +kernel⟩, by decide +kernel⟩, wd_1500, wd_1501⟩
theorem wd_741 : (Jvm.Cond.codeWith ({ cls := "BitDeskLaw", name := "classOf", desc := "(LBitDesk;II[J)I" } : Jvm.MethodName) method_12_code (5 : Nat) (Option.some Jvm.ClassFile.FieldType.int) [((0 : Nat), (10 : Nat), (13 : Nat), (19 : Nat))]) ∈ WS := ws_c3 167 rfl rfl
theorem wd_x739 : (Jvm.Cond.methodLink "BitDeskLaw" (238 : Nat) ({ cls := "BitDeskLaw", name := "classOf", desc := "(LBitDesk;II[J)I" } : Jvm.MethodName)) ∈ WS := ws_c3 165 rfl rfl
theorem wd_740 : (Jvm.Cond.static ({ cls := "BitDeskLaw", name := "classOf", desc := "(LBitDesk;II[J)I" } : Jvm.MethodName)) ∈ WS := ws_c3 166 rfl rfl
theorem lk_L_238 : LkSX RL 238 jL_classOf 4 := ⟨wd_x739, ⟨(by decide), (by rw [cwd_hh (by decide)]; exact wd_741)⟩, wd_94, ⟨by decide +kernel, by decide +kernel⟩, by decide +kernel, wd_740⟩
theorem wd_1510 : (Jvm.Cond.code ({ cls := "BitDeskModel", name := "classOf", desc := "(II)I" } : Jvm.MethodName) prog_9_method_52_code (3 : Nat) (Option.some Jvm.ClassFile.FieldType.int)) ∈ WS := ws_c6 216 rfl rfl
theorem wd_x1507 : (Jvm.Cond.methodLink "BitDeskLaw" (240 : Nat) ({ cls := "BitDeskModel", name := "classOf", desc := "(II)I" } : Jvm.MethodName)) ∈ WS := ws_c6 213 rfl rfl
theorem wd_1508 : (Jvm.Cond.instanceMethod ({ cls := "BitDeskModel", name := "classOf", desc := "(II)I" } : Jvm.MethodName)) ∈ WS := ws_c6 214 rfl rfl
theorem wd_1509 : (Jvm.Cond.selects "BitDeskModel" ({ cls := "BitDeskModel", name := "classOf", desc := "(II)I" } : Jvm.MethodName) ({ cls := "BitDeskModel", name := "classOf", desc := "(II)I" } : Jvm.MethodName)) ∈ WS := ws_c6 215 rfl rfl
theorem lk_L_240 : LkV RL 240 jX7_classOf 2 := ⟨⟨wd_x1507, ⟨rfl, (by rw [cwd_nil rfl]; exact wd_1510)⟩, wd_102, ⟨by decide +kernel, by decide +kernel⟩, by decide +kernel⟩, wd_1508, wd_1509⟩
theorem wd_748 : (Jvm.Cond.codeWith ({ cls := "BitDeskLaw", name := "find", desc := "(LBitDesk;IJ[J)I" } : Jvm.MethodName) method_13_code (6 : Nat) (Option.some Jvm.ClassFile.FieldType.int) [((0 : Nat), (11 : Nat), (14 : Nat), (19 : Nat))]) ∈ WS := ws_c3 174 rfl rfl
theorem wd_x746 : (Jvm.Cond.methodLink "BitDeskLaw" (241 : Nat) ({ cls := "BitDeskLaw", name := "find", desc := "(LBitDesk;IJ[J)I" } : Jvm.MethodName)) ∈ WS := ws_c3 172 rfl rfl
theorem wd_747 : (Jvm.Cond.static ({ cls := "BitDeskLaw", name := "find", desc := "(LBitDesk;IJ[J)I" } : Jvm.MethodName)) ∈ WS := ws_c3 173 rfl rfl
theorem lk_L_241 : LkSX RL 241 jL_find 4 := ⟨wd_x746, ⟨(by decide), (by rw [cwd_hh (by decide)]; exact wd_748)⟩, wd_94, ⟨by decide +kernel, by decide +kernel⟩, by decide +kernel, wd_747⟩
theorem wd_1494 : (Jvm.Cond.code ({ cls := "BitDeskModel", name := "find", desc := "(IJ)I" } : Jvm.MethodName) prog_9_method_49_code (5 : Nat) (Option.some Jvm.ClassFile.FieldType.int)) ∈ WS := ws_c6 200 rfl rfl
theorem wd_x1491 : (Jvm.Cond.methodLink "BitDeskLaw" (244 : Nat) ({ cls := "BitDeskModel", name := "find", desc := "(IJ)I" } : Jvm.MethodName)) ∈ WS := ws_c6 197 rfl rfl
theorem wd_1492 : (Jvm.Cond.instanceMethod ({ cls := "BitDeskModel", name := "find", desc := "(IJ)I" } : Jvm.MethodName)) ∈ WS := ws_c6 198 rfl rfl
theorem wd_1493 : (Jvm.Cond.selects "BitDeskModel" ({ cls := "BitDeskModel", name := "find", desc := "(IJ)I" } : Jvm.MethodName) ({ cls := "BitDeskModel", name := "find", desc := "(IJ)I" } : Jvm.MethodName)) ∈ WS := ws_c6 199 rfl rfl
theorem lk_L_244 : LkV RL 244 jX7_find 2 := ⟨⟨wd_x1491, ⟨rfl, (by rw [cwd_nil rfl]; exact wd_1494)⟩, wd_102, ⟨by decide +kernel, by decide +kernel⟩, by decide +kernel⟩, wd_1492, wd_1493⟩
theorem wd_755 : (Jvm.Cond.codeWith ({ cls := "BitDeskLaw", name := "nearest", desc := "(LBitDesk;II[J)I" } : Jvm.MethodName) method_14_code (5 : Nat) (Option.some Jvm.ClassFile.FieldType.int) [((0 : Nat), (10 : Nat), (13 : Nat), (19 : Nat))]) ∈ WS := ws_c3 181 rfl rfl
theorem wd_x753 : (Jvm.Cond.methodLink "BitDeskLaw" (245 : Nat) ({ cls := "BitDeskLaw", name := "nearest", desc := "(LBitDesk;II[J)I" } : Jvm.MethodName)) ∈ WS := ws_c3 179 rfl rfl
theorem wd_754 : (Jvm.Cond.static ({ cls := "BitDeskLaw", name := "nearest", desc := "(LBitDesk;II[J)I" } : Jvm.MethodName)) ∈ WS := ws_c3 180 rfl rfl
theorem lk_L_245 : LkSX RL 245 jL_nearest 4 := ⟨wd_x753, ⟨(by decide), (by rw [cwd_hh (by decide)]; exact wd_755)⟩, wd_94, ⟨by decide +kernel, by decide +kernel⟩, by decide +kernel, wd_754⟩
theorem wd_1514 : (Jvm.Cond.code ({ cls := "BitDeskModel", name := "nearest", desc := "(II)I" } : Jvm.MethodName) prog_9_method_53_code (7 : Nat) (Option.some Jvm.ClassFile.FieldType.int)) ∈ WS := ws_c6 220 rfl rfl
theorem wd_x1511 : (Jvm.Cond.methodLink "BitDeskLaw" (247 : Nat) ({ cls := "BitDeskModel", name := "nearest", desc := "(II)I" } : Jvm.MethodName)) ∈ WS := ws_c6 217 rfl rfl
theorem wd_1512 : (Jvm.Cond.instanceMethod ({ cls := "BitDeskModel", name := "nearest", desc := "(II)I" } : Jvm.MethodName)) ∈ WS := ws_c6 218 rfl rfl
theorem wd_1513 : (Jvm.Cond.selects "BitDeskModel" ({ cls := "BitDeskModel", name := "nearest", desc := "(II)I" } : Jvm.MethodName) ({ cls := "BitDeskModel", name := "nearest", desc := "(II)I" } : Jvm.MethodName)) ∈ WS := ws_c6 219 rfl rfl
theorem lk_L_247 : LkV RL 247 jX7_nearest 2 := ⟨⟨wd_x1511, ⟨rfl, (by rw [cwd_nil rfl]; exact wd_1514)⟩, wd_102, ⟨by decide +kernel, by decide +kernel⟩, by decide +kernel⟩, wd_1512, wd_1513⟩
theorem wd_762 : (Jvm.Cond.codeWith ({ cls := "BitDeskLaw", name := "density", desc := "(LBitDesk;I[D)I" } : Jvm.MethodName) method_15_code (4 : Nat) (Option.some Jvm.ClassFile.FieldType.int) [((0 : Nat), (8 : Nat), (11 : Nat), (19 : Nat))]) ∈ WS := ws_c3 188 rfl rfl
theorem wd_x760 : (Jvm.Cond.methodLink "BitDeskLaw" (248 : Nat) ({ cls := "BitDeskLaw", name := "density", desc := "(LBitDesk;I[D)I" } : Jvm.MethodName)) ∈ WS := ws_c3 186 rfl rfl
theorem wd_761 : (Jvm.Cond.static ({ cls := "BitDeskLaw", name := "density", desc := "(LBitDesk;I[D)I" } : Jvm.MethodName)) ∈ WS := ws_c3 187 rfl rfl
theorem lk_L_248 : LkSX RL 248 jL_density 3 := ⟨wd_x760, ⟨(by decide), (by rw [cwd_hh (by decide)]; exact wd_762)⟩, wd_94, ⟨by decide +kernel, by decide +kernel⟩, by decide +kernel, wd_761⟩
theorem wd_1518 : (Jvm.Cond.code ({ cls := "BitDeskModel", name := "density", desc := "(I)D" } : Jvm.MethodName) prog_9_method_54_code (2 : Nat) (Option.some Jvm.ClassFile.FieldType.double)) ∈ WS := ws_c6 224 rfl rfl
theorem wd_x1515 : (Jvm.Cond.methodLink "BitDeskLaw" (251 : Nat) ({ cls := "BitDeskModel", name := "density", desc := "(I)D" } : Jvm.MethodName)) ∈ WS := ws_c6 221 rfl rfl
theorem wd_1516 : (Jvm.Cond.instanceMethod ({ cls := "BitDeskModel", name := "density", desc := "(I)D" } : Jvm.MethodName)) ∈ WS := ws_c6 222 rfl rfl
theorem wd_1517 : (Jvm.Cond.selects "BitDeskModel" ({ cls := "BitDeskModel", name := "density", desc := "(I)D" } : Jvm.MethodName) ({ cls := "BitDeskModel", name := "density", desc := "(I)D" } : Jvm.MethodName)) ∈ WS := ws_c6 223 rfl rfl
theorem lk_L_251 : LkV RL 251 jX7_density 1 := ⟨⟨wd_x1515, ⟨rfl, (by rw [cwd_nil rfl]; exact wd_1518)⟩, wd_102, ⟨by decide +kernel, by decide +kernel⟩, by decide +kernel⟩, wd_1516, wd_1517⟩
theorem wd_770 : (Jvm.Cond.codeWith ({ cls := "BitDeskLaw", name := "isSymmetric", desc := "(LBitDesk;I[J)I" } : Jvm.MethodName) method_16_code (4 : Nat) (Option.some Jvm.ClassFile.FieldType.int) [((0 : Nat), (16 : Nat), (19 : Nat), (19 : Nat))]) ∈ WS := ws_c3 196 rfl rfl
theorem wd_x768 : (Jvm.Cond.methodLink "BitDeskLaw" (252 : Nat) ({ cls := "BitDeskLaw", name := "isSymmetric", desc := "(LBitDesk;I[J)I" } : Jvm.MethodName)) ∈ WS := ws_c3 194 rfl rfl
theorem wd_769 : (Jvm.Cond.static ({ cls := "BitDeskLaw", name := "isSymmetric", desc := "(LBitDesk;I[J)I" } : Jvm.MethodName)) ∈ WS := ws_c3 195 rfl rfl
theorem lk_L_252 : LkSX RL 252 jL_isSymmetric 3 := ⟨wd_x768, ⟨(by decide), (by rw [cwd_hh (by decide)]; exact wd_770)⟩, wd_94, ⟨by decide +kernel, by decide +kernel⟩, by decide +kernel, wd_769⟩
theorem wd_1522 : (Jvm.Cond.code ({ cls := "BitDeskModel", name := "isSymmetric", desc := "(I)Z" } : Jvm.MethodName) prog_9_method_55_code (4 : Nat) (Option.some Jvm.ClassFile.FieldType.boolean)) ∈ WS := ws_c6 228 rfl rfl
theorem wd_x1519 : (Jvm.Cond.methodLink "BitDeskLaw" (254 : Nat) ({ cls := "BitDeskModel", name := "isSymmetric", desc := "(I)Z" } : Jvm.MethodName)) ∈ WS := ws_c6 225 rfl rfl
theorem wd_1520 : (Jvm.Cond.instanceMethod ({ cls := "BitDeskModel", name := "isSymmetric", desc := "(I)Z" } : Jvm.MethodName)) ∈ WS := ws_c6 226 rfl rfl
theorem wd_1521 : (Jvm.Cond.selects "BitDeskModel" ({ cls := "BitDeskModel", name := "isSymmetric", desc := "(I)Z" } : Jvm.MethodName) ({ cls := "BitDeskModel", name := "isSymmetric", desc := "(I)Z" } : Jvm.MethodName)) ∈ WS := ws_c6 227 rfl rfl
theorem lk_L_254 : LkV RL 254 jX7_isSymmetric 1 := ⟨⟨wd_x1519, ⟨rfl, (by rw [cwd_nil rfl]; exact wd_1522)⟩, wd_102, ⟨by decide +kernel, by decide +kernel⟩, by decide +kernel⟩, wd_1520, wd_1521⟩
theorem wd_777 : (Jvm.Cond.codeWith ({ cls := "BitDeskLaw", name := "reaches", desc := "(LBitDesk;III[J)I" } : Jvm.MethodName) method_17_code (6 : Nat) (Option.some Jvm.ClassFile.FieldType.int) [((0 : Nat), (12 : Nat), (15 : Nat), (19 : Nat))]) ∈ WS := ws_c3 203 rfl rfl
theorem wd_x775 : (Jvm.Cond.methodLink "BitDeskLaw" (255 : Nat) ({ cls := "BitDeskLaw", name := "reaches", desc := "(LBitDesk;III[J)I" } : Jvm.MethodName)) ∈ WS := ws_c3 201 rfl rfl
theorem wd_776 : (Jvm.Cond.static ({ cls := "BitDeskLaw", name := "reaches", desc := "(LBitDesk;III[J)I" } : Jvm.MethodName)) ∈ WS := ws_c3 202 rfl rfl
theorem lk_L_255 : LkSX RL 255 jL_reaches 5 := ⟨wd_x775, ⟨(by decide), (by rw [cwd_hh (by decide)]; exact wd_777)⟩, wd_94, ⟨by decide +kernel, by decide +kernel⟩, by decide +kernel, wd_776⟩
theorem wd_1526 : (Jvm.Cond.code ({ cls := "BitDeskModel", name := "reaches", desc := "(III)I" } : Jvm.MethodName) prog_9_method_60_code (4 : Nat) (Option.some Jvm.ClassFile.FieldType.int)) ∈ WS := ws_c6 232 rfl rfl
theorem wd_x1523 : (Jvm.Cond.methodLink "BitDeskLaw" (257 : Nat) ({ cls := "BitDeskModel", name := "reaches", desc := "(III)I" } : Jvm.MethodName)) ∈ WS := ws_c6 229 rfl rfl
theorem wd_1524 : (Jvm.Cond.instanceMethod ({ cls := "BitDeskModel", name := "reaches", desc := "(III)I" } : Jvm.MethodName)) ∈ WS := ws_c6 230 rfl rfl
theorem wd_1525 : (Jvm.Cond.selects "BitDeskModel" ({ cls := "BitDeskModel", name := "reaches", desc := "(III)I" } : Jvm.MethodName) ({ cls := "BitDeskModel", name := "reaches", desc := "(III)I" } : Jvm.MethodName)) ∈ WS := ws_c6 231 rfl rfl
theorem lk_L_257 : LkV RL 257 jX7_reaches 3 := ⟨⟨wd_x1523, ⟨rfl, (by rw [cwd_nil rfl]; exact wd_1526)⟩, wd_102, ⟨by decide +kernel, by decide +kernel⟩, by decide +kernel⟩, wd_1524, wd_1525⟩
theorem wd_794 : (Jvm.Cond.codeWith ({ cls := "BitDeskLaw", name := "reached", desc := "(LBitDesk;II[J)I" } : Jvm.MethodName) method_18_code (5 : Nat) (Option.some Jvm.ClassFile.FieldType.int) [((0 : Nat), (10 : Nat), (13 : Nat), (19 : Nat))]) ∈ WS := ws_c3 220 rfl rfl
theorem wd_x792 : (Jvm.Cond.methodLink "BitDeskLaw" (258 : Nat) ({ cls := "BitDeskLaw", name := "reached", desc := "(LBitDesk;II[J)I" } : Jvm.MethodName)) ∈ WS := ws_c3 218 rfl rfl
theorem wd_793 : (Jvm.Cond.static ({ cls := "BitDeskLaw", name := "reached", desc := "(LBitDesk;II[J)I" } : Jvm.MethodName)) ∈ WS := ws_c3 219 rfl rfl
theorem lk_L_258 : LkSX RL 258 jL_reached 4 := ⟨wd_x792, ⟨(by decide), (by rw [cwd_hh (by decide)]; exact wd_794)⟩, wd_94, ⟨by decide +kernel, by decide +kernel⟩, by decide +kernel, wd_793⟩
theorem wd_1542 : (Jvm.Cond.code ({ cls := "BitDeskModel", name := "reached", desc := "(II)I" } : Jvm.MethodName) prog_9_method_61_code (3 : Nat) (Option.some Jvm.ClassFile.FieldType.int)) ∈ WS := ws_c7 8 rfl rfl
theorem wd_x1539 : (Jvm.Cond.methodLink "BitDeskLaw" (260 : Nat) ({ cls := "BitDeskModel", name := "reached", desc := "(II)I" } : Jvm.MethodName)) ∈ WS := ws_c7 5 rfl rfl
theorem wd_1540 : (Jvm.Cond.instanceMethod ({ cls := "BitDeskModel", name := "reached", desc := "(II)I" } : Jvm.MethodName)) ∈ WS := ws_c7 6 rfl rfl
theorem wd_1541 : (Jvm.Cond.selects "BitDeskModel" ({ cls := "BitDeskModel", name := "reached", desc := "(II)I" } : Jvm.MethodName) ({ cls := "BitDeskModel", name := "reached", desc := "(II)I" } : Jvm.MethodName)) ∈ WS := ws_c7 7 rfl rfl
theorem lk_L_260 : LkV RL 260 jX7_reached 2 := ⟨⟨wd_x1539, ⟨rfl, (by rw [cwd_nil rfl]; exact wd_1542)⟩, wd_102, ⟨by decide +kernel, by decide +kernel⟩, by decide +kernel⟩, wd_1540, wd_1541⟩
theorem wd_801 : (Jvm.Cond.codeWith ({ cls := "BitDeskLaw", name := "pairs", desc := "(LBitDesk;I[J)I" } : Jvm.MethodName) method_19_code (4 : Nat) (Option.some Jvm.ClassFile.FieldType.int) [((0 : Nat), (9 : Nat), (12 : Nat), (19 : Nat))]) ∈ WS := ws_c3 227 rfl rfl
theorem wd_x799 : (Jvm.Cond.methodLink "BitDeskLaw" (261 : Nat) ({ cls := "BitDeskLaw", name := "pairs", desc := "(LBitDesk;I[J)I" } : Jvm.MethodName)) ∈ WS := ws_c3 225 rfl rfl
theorem wd_800 : (Jvm.Cond.static ({ cls := "BitDeskLaw", name := "pairs", desc := "(LBitDesk;I[J)I" } : Jvm.MethodName)) ∈ WS := ws_c3 226 rfl rfl
theorem lk_L_261 : LkSX RL 261 jL_pairs 3 := ⟨wd_x799, ⟨(by decide), (by rw [cwd_hh (by decide)]; exact wd_801)⟩, wd_94, ⟨by decide +kernel, by decide +kernel⟩, by decide +kernel, wd_800⟩
theorem wd_1546 : (Jvm.Cond.code ({ cls := "BitDeskModel", name := "pairs", desc := "(I)I" } : Jvm.MethodName) prog_9_method_63_code (2 : Nat) (Option.some Jvm.ClassFile.FieldType.int)) ∈ WS := ws_c7 12 rfl rfl
theorem wd_x1543 : (Jvm.Cond.methodLink "BitDeskLaw" (263 : Nat) ({ cls := "BitDeskModel", name := "pairs", desc := "(I)I" } : Jvm.MethodName)) ∈ WS := ws_c7 9 rfl rfl
theorem wd_1544 : (Jvm.Cond.instanceMethod ({ cls := "BitDeskModel", name := "pairs", desc := "(I)I" } : Jvm.MethodName)) ∈ WS := ws_c7 10 rfl rfl
theorem wd_1545 : (Jvm.Cond.selects "BitDeskModel" ({ cls := "BitDeskModel", name := "pairs", desc := "(I)I" } : Jvm.MethodName) ({ cls := "BitDeskModel", name := "pairs", desc := "(I)I" } : Jvm.MethodName)) ∈ WS := ws_c7 11 rfl rfl
theorem lk_L_263 : LkV RL 263 jX7_pairs 1 := ⟨⟨wd_x1543, ⟨rfl, (by rw [cwd_nil rfl]; exact wd_1546)⟩, wd_102, ⟨by decide +kernel, by decide +kernel⟩, by decide +kernel⟩, wd_1544, wd_1545⟩
theorem wd_808 : (Jvm.Cond.codeWith ({ cls := "BitDeskLaw", name := "meanReach", desc := "(LBitDesk;I[D)I" } : Jvm.MethodName) method_20_code (4 : Nat) (Option.some Jvm.ClassFile.FieldType.int) [((0 : Nat), (9 : Nat), (12 : Nat), (19 : Nat))]) ∈ WS := ws_c3 234 rfl rfl
theorem wd_x806 : (Jvm.Cond.methodLink "BitDeskLaw" (264 : Nat) ({ cls := "BitDeskLaw", name := "meanReach", desc := "(LBitDesk;I[D)I" } : Jvm.MethodName)) ∈ WS := ws_c3 232 rfl rfl
theorem wd_807 : (Jvm.Cond.static ({ cls := "BitDeskLaw", name := "meanReach", desc := "(LBitDesk;I[D)I" } : Jvm.MethodName)) ∈ WS := ws_c3 233 rfl rfl
theorem lk_L_264 : LkSX RL 264 jL_meanReach 3 := ⟨wd_x806, ⟨(by decide), (by rw [cwd_hh (by decide)]; exact wd_808)⟩, wd_94, ⟨by decide +kernel, by decide +kernel⟩, by decide +kernel, wd_807⟩
theorem wd_1558 : (Jvm.Cond.code ({ cls := "BitDeskModel", name := "meanReach", desc := "(I)F" } : Jvm.MethodName) prog_9_method_64_code (2 : Nat) (Option.some Jvm.ClassFile.FieldType.float)) ∈ WS := ws_c7 24 rfl rfl
theorem wd_x1555 : (Jvm.Cond.methodLink "BitDeskLaw" (266 : Nat) ({ cls := "BitDeskModel", name := "meanReach", desc := "(I)F" } : Jvm.MethodName)) ∈ WS := ws_c7 21 rfl rfl
theorem wd_1556 : (Jvm.Cond.instanceMethod ({ cls := "BitDeskModel", name := "meanReach", desc := "(I)F" } : Jvm.MethodName)) ∈ WS := ws_c7 22 rfl rfl
theorem wd_1557 : (Jvm.Cond.selects "BitDeskModel" ({ cls := "BitDeskModel", name := "meanReach", desc := "(I)F" } : Jvm.MethodName) ({ cls := "BitDeskModel", name := "meanReach", desc := "(I)F" } : Jvm.MethodName)) ∈ WS := ws_c7 23 rfl rfl
theorem lk_L_266 : LkV RL 266 jX7_meanReach 1 := ⟨⟨wd_x1555, ⟨rfl, (by rw [cwd_nil rfl]; exact wd_1558)⟩, wd_102, ⟨by decide +kernel, by decide +kernel⟩, by decide +kernel⟩, wd_1556, wd_1557⟩
theorem wd_816 : (Jvm.Cond.codeWith ({ cls := "BitDeskLaw", name := "component", desc := "(LBitDesk;II[J)I" } : Jvm.MethodName) method_21_code (5 : Nat) (Option.some Jvm.ClassFile.FieldType.int) [((0 : Nat), (10 : Nat), (13 : Nat), (19 : Nat))]) ∈ WS := ws_c4 2 rfl rfl
theorem wd_x814 : (Jvm.Cond.methodLink "BitDeskLaw" (267 : Nat) ({ cls := "BitDeskLaw", name := "component", desc := "(LBitDesk;II[J)I" } : Jvm.MethodName)) ∈ WS := ws_c4 0 rfl rfl
theorem wd_815 : (Jvm.Cond.static ({ cls := "BitDeskLaw", name := "component", desc := "(LBitDesk;II[J)I" } : Jvm.MethodName)) ∈ WS := ws_c4 1 rfl rfl
theorem lk_L_267 : LkSX RL 267 jL_component 4 := ⟨wd_x814, ⟨(by decide), (by rw [cwd_hh (by decide)]; exact wd_816)⟩, wd_94, ⟨by decide +kernel, by decide +kernel⟩, by decide +kernel, wd_815⟩
theorem wd_1562 : (Jvm.Cond.code ({ cls := "BitDeskModel", name := "component", desc := "(II)I" } : Jvm.MethodName) prog_9_method_66_code (3 : Nat) (Option.some Jvm.ClassFile.FieldType.int)) ∈ WS := ws_c7 28 rfl rfl
theorem wd_x1559 : (Jvm.Cond.methodLink "BitDeskLaw" (269 : Nat) ({ cls := "BitDeskModel", name := "component", desc := "(II)I" } : Jvm.MethodName)) ∈ WS := ws_c7 25 rfl rfl
theorem wd_1560 : (Jvm.Cond.instanceMethod ({ cls := "BitDeskModel", name := "component", desc := "(II)I" } : Jvm.MethodName)) ∈ WS := ws_c7 26 rfl rfl
theorem wd_1561 : (Jvm.Cond.selects "BitDeskModel" ({ cls := "BitDeskModel", name := "component", desc := "(II)I" } : Jvm.MethodName) ({ cls := "BitDeskModel", name := "component", desc := "(II)I" } : Jvm.MethodName)) ∈ WS := ws_c7 27 rfl rfl
theorem lk_L_269 : LkV RL 269 jX7_component 2 := ⟨⟨wd_x1559, ⟨rfl, (by rw [cwd_nil rfl]; exact wd_1562)⟩, wd_102, ⟨by decide +kernel, by decide +kernel⟩, by decide +kernel⟩, wd_1560, wd_1561⟩
theorem wd_831 : (Jvm.Cond.codeWith ({ cls := "BitDeskLaw", name := "components", desc := "(LBitDesk;I[J)I" } : Jvm.MethodName) method_22_code (4 : Nat) (Option.some Jvm.ClassFile.FieldType.int) [((0 : Nat), (9 : Nat), (12 : Nat), (19 : Nat))]) ∈ WS := ws_c4 17 rfl rfl
theorem wd_x829 : (Jvm.Cond.methodLink "BitDeskLaw" (270 : Nat) ({ cls := "BitDeskLaw", name := "components", desc := "(LBitDesk;I[J)I" } : Jvm.MethodName)) ∈ WS := ws_c4 15 rfl rfl
theorem wd_830 : (Jvm.Cond.static ({ cls := "BitDeskLaw", name := "components", desc := "(LBitDesk;I[J)I" } : Jvm.MethodName)) ∈ WS := ws_c4 16 rfl rfl
theorem lk_L_270 : LkSX RL 270 jL_components 3 := ⟨wd_x829, ⟨(by decide), (by rw [cwd_hh (by decide)]; exact wd_831)⟩, wd_94, ⟨by decide +kernel, by decide +kernel⟩, by decide +kernel, wd_830⟩
theorem wd_1570 : (Jvm.Cond.code ({ cls := "BitDeskModel", name := "components", desc := "(I)I" } : Jvm.MethodName) prog_9_method_67_code (4 : Nat) (Option.some Jvm.ClassFile.FieldType.int)) ∈ WS := ws_c7 36 rfl rfl
theorem wd_x1567 : (Jvm.Cond.methodLink "BitDeskLaw" (272 : Nat) ({ cls := "BitDeskModel", name := "components", desc := "(I)I" } : Jvm.MethodName)) ∈ WS := ws_c7 33 rfl rfl
theorem wd_1568 : (Jvm.Cond.instanceMethod ({ cls := "BitDeskModel", name := "components", desc := "(I)I" } : Jvm.MethodName)) ∈ WS := ws_c7 34 rfl rfl
theorem wd_1569 : (Jvm.Cond.selects "BitDeskModel" ({ cls := "BitDeskModel", name := "components", desc := "(I)I" } : Jvm.MethodName) ({ cls := "BitDeskModel", name := "components", desc := "(I)I" } : Jvm.MethodName)) ∈ WS := ws_c7 35 rfl rfl
theorem lk_L_272 : LkV RL 272 jX7_components 1 := ⟨⟨wd_x1567, ⟨rfl, (by rw [cwd_nil rfl]; exact wd_1570)⟩, wd_102, ⟨by decide +kernel, by decide +kernel⟩, by decide +kernel⟩, wd_1568, wd_1569⟩
theorem wd_838 : (Jvm.Cond.codeWith ({ cls := "BitDeskLaw", name := "distance", desc := "(LBitDesk;III[J)I" } : Jvm.MethodName) method_23_code (6 : Nat) (Option.some Jvm.ClassFile.FieldType.int) [((0 : Nat), (12 : Nat), (15 : Nat), (19 : Nat))]) ∈ WS := ws_c4 24 rfl rfl
theorem wd_x836 : (Jvm.Cond.methodLink "BitDeskLaw" (273 : Nat) ({ cls := "BitDeskLaw", name := "distance", desc := "(LBitDesk;III[J)I" } : Jvm.MethodName)) ∈ WS := ws_c4 22 rfl rfl
theorem wd_837 : (Jvm.Cond.static ({ cls := "BitDeskLaw", name := "distance", desc := "(LBitDesk;III[J)I" } : Jvm.MethodName)) ∈ WS := ws_c4 23 rfl rfl
theorem lk_L_273 : LkSX RL 273 jL_distance 5 := ⟨wd_x836, ⟨(by decide), (by rw [cwd_hh (by decide)]; exact wd_838)⟩, wd_94, ⟨by decide +kernel, by decide +kernel⟩, by decide +kernel, wd_837⟩
theorem wd_1574 : (Jvm.Cond.code ({ cls := "BitDeskModel", name := "distance", desc := "(III)I" } : Jvm.MethodName) prog_9_method_69_code (4 : Nat) (Option.some Jvm.ClassFile.FieldType.int)) ∈ WS := ws_c7 40 rfl rfl
theorem wd_x1571 : (Jvm.Cond.methodLink "BitDeskLaw" (275 : Nat) ({ cls := "BitDeskModel", name := "distance", desc := "(III)I" } : Jvm.MethodName)) ∈ WS := ws_c7 37 rfl rfl
theorem wd_1572 : (Jvm.Cond.instanceMethod ({ cls := "BitDeskModel", name := "distance", desc := "(III)I" } : Jvm.MethodName)) ∈ WS := ws_c7 38 rfl rfl
theorem wd_1573 : (Jvm.Cond.selects "BitDeskModel" ({ cls := "BitDeskModel", name := "distance", desc := "(III)I" } : Jvm.MethodName) ({ cls := "BitDeskModel", name := "distance", desc := "(III)I" } : Jvm.MethodName)) ∈ WS := ws_c7 39 rfl rfl
theorem lk_L_275 : LkV RL 275 jX7_distance 3 := ⟨⟨wd_x1571, ⟨rfl, (by rw [cwd_nil rfl]; exact wd_1574)⟩, wd_102, ⟨by decide +kernel, by decide +kernel⟩, by decide +kernel⟩, wd_1572, wd_1573⟩
theorem wd_853 : (Jvm.Cond.codeWith ({ cls := "BitDeskLaw", name := "stepAt", desc := "(LBitDesk;IIII[J)I" } : Jvm.MethodName) method_24_code (7 : Nat) (Option.some Jvm.ClassFile.FieldType.int) [((0 : Nat), (14 : Nat), (17 : Nat), (19 : Nat))]) ∈ WS := ws_c4 39 rfl rfl
theorem wd_x851 : (Jvm.Cond.methodLink "BitDeskLaw" (276 : Nat) ({ cls := "BitDeskLaw", name := "stepAt", desc := "(LBitDesk;IIII[J)I" } : Jvm.MethodName)) ∈ WS := ws_c4 37 rfl rfl
theorem wd_852 : (Jvm.Cond.static ({ cls := "BitDeskLaw", name := "stepAt", desc := "(LBitDesk;IIII[J)I" } : Jvm.MethodName)) ∈ WS := ws_c4 38 rfl rfl
theorem lk_L_276 : LkSX RL 276 jL_stepAt 6 := ⟨wd_x851, ⟨(by decide), (by rw [cwd_hh (by decide)]; exact wd_853)⟩, wd_94, ⟨by decide +kernel, by decide +kernel⟩, by decide +kernel, wd_852⟩
theorem wd_1582 : (Jvm.Cond.code ({ cls := "BitDeskModel", name := "stepAt", desc := "(IIII)I" } : Jvm.MethodName) prog_9_method_70_code (8 : Nat) (Option.some Jvm.ClassFile.FieldType.int)) ∈ WS := ws_c7 48 rfl rfl
theorem wd_x1579 : (Jvm.Cond.methodLink "BitDeskLaw" (279 : Nat) ({ cls := "BitDeskModel", name := "stepAt", desc := "(IIII)I" } : Jvm.MethodName)) ∈ WS := ws_c7 45 rfl rfl
theorem wd_1580 : (Jvm.Cond.instanceMethod ({ cls := "BitDeskModel", name := "stepAt", desc := "(IIII)I" } : Jvm.MethodName)) ∈ WS := ws_c7 46 rfl rfl
theorem wd_1581 : (Jvm.Cond.selects "BitDeskModel" ({ cls := "BitDeskModel", name := "stepAt", desc := "(IIII)I" } : Jvm.MethodName) ({ cls := "BitDeskModel", name := "stepAt", desc := "(IIII)I" } : Jvm.MethodName)) ∈ WS := ws_c7 47 rfl rfl
theorem lk_L_279 : LkV RL 279 jX7_stepAt 4 := ⟨⟨wd_x1579, ⟨rfl, (by rw [cwd_nil rfl]; exact wd_1582)⟩, wd_102, ⟨by decide +kernel, by decide +kernel⟩, by decide +kernel⟩, wd_1580, wd_1581⟩
theorem wd_866 : (Jvm.Cond.codeWith ({ cls := "BitDeskLaw", name := "around", desc := "(LBitDesk;II[J)I" } : Jvm.MethodName) method_25_code (5 : Nat) (Option.some Jvm.ClassFile.FieldType.int) [((0 : Nat), (10 : Nat), (13 : Nat), (19 : Nat))]) ∈ WS := ws_c4 52 rfl rfl
theorem wd_x864 : (Jvm.Cond.methodLink "BitDeskLaw" (280 : Nat) ({ cls := "BitDeskLaw", name := "around", desc := "(LBitDesk;II[J)I" } : Jvm.MethodName)) ∈ WS := ws_c4 50 rfl rfl
theorem wd_865 : (Jvm.Cond.static ({ cls := "BitDeskLaw", name := "around", desc := "(LBitDesk;II[J)I" } : Jvm.MethodName)) ∈ WS := ws_c4 51 rfl rfl
theorem lk_L_280 : LkSX RL 280 jL_around 4 := ⟨wd_x864, ⟨(by decide), (by rw [cwd_hh (by decide)]; exact wd_866)⟩, wd_94, ⟨by decide +kernel, by decide +kernel⟩, by decide +kernel, wd_865⟩
theorem wd_1586 : (Jvm.Cond.code ({ cls := "BitDeskModel", name := "around", desc := "(II)I" } : Jvm.MethodName) prog_9_method_72_code (3 : Nat) (Option.some Jvm.ClassFile.FieldType.int)) ∈ WS := ws_c7 52 rfl rfl
theorem wd_x1583 : (Jvm.Cond.methodLink "BitDeskLaw" (282 : Nat) ({ cls := "BitDeskModel", name := "around", desc := "(II)I" } : Jvm.MethodName)) ∈ WS := ws_c7 49 rfl rfl
theorem wd_1584 : (Jvm.Cond.instanceMethod ({ cls := "BitDeskModel", name := "around", desc := "(II)I" } : Jvm.MethodName)) ∈ WS := ws_c7 50 rfl rfl
theorem wd_1585 : (Jvm.Cond.selects "BitDeskModel" ({ cls := "BitDeskModel", name := "around", desc := "(II)I" } : Jvm.MethodName) ({ cls := "BitDeskModel", name := "around", desc := "(II)I" } : Jvm.MethodName)) ∈ WS := ws_c7 51 rfl rfl
theorem lk_L_282 : LkV RL 282 jX7_around 2 := ⟨⟨wd_x1583, ⟨rfl, (by rw [cwd_nil rfl]; exact wd_1586)⟩, wd_102, ⟨by decide +kernel, by decide +kernel⟩, by decide +kernel⟩, wd_1584, wd_1585⟩
theorem wd_873 : (Jvm.Cond.codeWith ({ cls := "BitDeskLaw", name := "girth", desc := "(LBitDesk;I[J)I" } : Jvm.MethodName) method_26_code (4 : Nat) (Option.some Jvm.ClassFile.FieldType.int) [((0 : Nat), (9 : Nat), (12 : Nat), (19 : Nat))]) ∈ WS := ws_c4 59 rfl rfl
theorem wd_x871 : (Jvm.Cond.methodLink "BitDeskLaw" (283 : Nat) ({ cls := "BitDeskLaw", name := "girth", desc := "(LBitDesk;I[J)I" } : Jvm.MethodName)) ∈ WS := ws_c4 57 rfl rfl
theorem wd_872 : (Jvm.Cond.static ({ cls := "BitDeskLaw", name := "girth", desc := "(LBitDesk;I[J)I" } : Jvm.MethodName)) ∈ WS := ws_c4 58 rfl rfl
theorem lk_L_283 : LkSX RL 283 jL_girth 3 := ⟨wd_x871, ⟨(by decide), (by rw [cwd_hh (by decide)]; exact wd_873)⟩, wd_94, ⟨by decide +kernel, by decide +kernel⟩, by decide +kernel, wd_872⟩
theorem wd_1594 : (Jvm.Cond.code ({ cls := "BitDeskModel", name := "girth", desc := "(I)I" } : Jvm.MethodName) prog_9_method_73_code (5 : Nat) (Option.some Jvm.ClassFile.FieldType.int)) ∈ WS := ws_c7 60 rfl rfl
theorem wd_x1591 : (Jvm.Cond.methodLink "BitDeskLaw" (285 : Nat) ({ cls := "BitDeskModel", name := "girth", desc := "(I)I" } : Jvm.MethodName)) ∈ WS := ws_c7 57 rfl rfl
theorem wd_1592 : (Jvm.Cond.instanceMethod ({ cls := "BitDeskModel", name := "girth", desc := "(I)I" } : Jvm.MethodName)) ∈ WS := ws_c7 58 rfl rfl
theorem wd_1593 : (Jvm.Cond.selects "BitDeskModel" ({ cls := "BitDeskModel", name := "girth", desc := "(I)I" } : Jvm.MethodName) ({ cls := "BitDeskModel", name := "girth", desc := "(I)I" } : Jvm.MethodName)) ∈ WS := ws_c7 59 rfl rfl
theorem lk_L_285 : LkV RL 285 jX7_girth 1 := ⟨⟨wd_x1591, ⟨rfl, (by rw [cwd_nil rfl]; exact wd_1594)⟩, wd_102, ⟨by decide +kernel, by decide +kernel⟩, by decide +kernel⟩, wd_1592, wd_1593⟩
theorem wd_880 : (Jvm.Cond.codeWith ({ cls := "BitDeskLaw", name := "order", desc := "(LBitDesk;II[J)I" } : Jvm.MethodName) method_27_code (5 : Nat) (Option.some Jvm.ClassFile.FieldType.int) [((0 : Nat), (10 : Nat), (13 : Nat), (19 : Nat))]) ∈ WS := ws_c4 66 rfl rfl
theorem wd_x878 : (Jvm.Cond.methodLink "BitDeskLaw" (286 : Nat) ({ cls := "BitDeskLaw", name := "order", desc := "(LBitDesk;II[J)I" } : Jvm.MethodName)) ∈ WS := ws_c4 64 rfl rfl
theorem wd_879 : (Jvm.Cond.static ({ cls := "BitDeskLaw", name := "order", desc := "(LBitDesk;II[J)I" } : Jvm.MethodName)) ∈ WS := ws_c4 65 rfl rfl
theorem lk_L_286 : LkSX RL 286 jL_order 4 := ⟨wd_x878, ⟨(by decide), (by rw [cwd_hh (by decide)]; exact wd_880)⟩, wd_94, ⟨by decide +kernel, by decide +kernel⟩, by decide +kernel, wd_879⟩
theorem wd_1598 : (Jvm.Cond.code ({ cls := "BitDeskModel", name := "order", desc := "(II)I" } : Jvm.MethodName) prog_9_method_75_code (7 : Nat) (Option.some Jvm.ClassFile.FieldType.int)) ∈ WS := ws_c7 64 rfl rfl
theorem wd_x1595 : (Jvm.Cond.methodLink "BitDeskLaw" (288 : Nat) ({ cls := "BitDeskModel", name := "order", desc := "(II)I" } : Jvm.MethodName)) ∈ WS := ws_c7 61 rfl rfl
theorem wd_1596 : (Jvm.Cond.instanceMethod ({ cls := "BitDeskModel", name := "order", desc := "(II)I" } : Jvm.MethodName)) ∈ WS := ws_c7 62 rfl rfl
theorem wd_1597 : (Jvm.Cond.selects "BitDeskModel" ({ cls := "BitDeskModel", name := "order", desc := "(II)I" } : Jvm.MethodName) ({ cls := "BitDeskModel", name := "order", desc := "(II)I" } : Jvm.MethodName)) ∈ WS := ws_c7 63 rfl rfl
theorem lk_L_288 : LkV RL 288 jX7_order 2 := ⟨⟨wd_x1595, ⟨rfl, (by rw [cwd_nil rfl]; exact wd_1598)⟩, wd_102, ⟨by decide +kernel, by decide +kernel⟩, by decide +kernel⟩, wd_1596, wd_1597⟩
theorem wd_887 : (Jvm.Cond.codeWith ({ cls := "BitDeskLaw", name := "gained", desc := "(LBitDesk;III[J)I" } : Jvm.MethodName) method_28_code (6 : Nat) (Option.some Jvm.ClassFile.FieldType.int) [((0 : Nat), (12 : Nat), (15 : Nat), (19 : Nat))]) ∈ WS := ws_c4 73 rfl rfl
theorem wd_x885 : (Jvm.Cond.methodLink "BitDeskLaw" (289 : Nat) ({ cls := "BitDeskLaw", name := "gained", desc := "(LBitDesk;III[J)I" } : Jvm.MethodName)) ∈ WS := ws_c4 71 rfl rfl
theorem wd_886 : (Jvm.Cond.static ({ cls := "BitDeskLaw", name := "gained", desc := "(LBitDesk;III[J)I" } : Jvm.MethodName)) ∈ WS := ws_c4 72 rfl rfl
theorem lk_L_289 : LkSX RL 289 jL_gained 5 := ⟨wd_x885, ⟨(by decide), (by rw [cwd_hh (by decide)]; exact wd_887)⟩, wd_94, ⟨by decide +kernel, by decide +kernel⟩, by decide +kernel, wd_886⟩
theorem wd_1606 : (Jvm.Cond.code ({ cls := "BitDeskModel", name := "gained", desc := "(III)I" } : Jvm.MethodName) prog_9_method_77_code (4 : Nat) (Option.some Jvm.ClassFile.FieldType.int)) ∈ WS := ws_c7 72 rfl rfl
theorem wd_x1603 : (Jvm.Cond.methodLink "BitDeskLaw" (291 : Nat) ({ cls := "BitDeskModel", name := "gained", desc := "(III)I" } : Jvm.MethodName)) ∈ WS := ws_c7 69 rfl rfl
theorem wd_1604 : (Jvm.Cond.instanceMethod ({ cls := "BitDeskModel", name := "gained", desc := "(III)I" } : Jvm.MethodName)) ∈ WS := ws_c7 70 rfl rfl
theorem wd_1605 : (Jvm.Cond.selects "BitDeskModel" ({ cls := "BitDeskModel", name := "gained", desc := "(III)I" } : Jvm.MethodName) ({ cls := "BitDeskModel", name := "gained", desc := "(III)I" } : Jvm.MethodName)) ∈ WS := ws_c7 71 rfl rfl
theorem lk_L_291 : LkV RL 291 jX7_gained 3 := ⟨⟨wd_x1603, ⟨rfl, (by rw [cwd_nil rfl]; exact wd_1606)⟩, wd_102, ⟨by decide +kernel, by decide +kernel⟩, by decide +kernel⟩, wd_1604, wd_1605⟩
theorem wd_903 : (Jvm.Cond.codeWith ({ cls := "BitDeskLaw", name := "lost", desc := "(LBitDesk;III[J)I" } : Jvm.MethodName) method_29_code (6 : Nat) (Option.some Jvm.ClassFile.FieldType.int) [((0 : Nat), (12 : Nat), (15 : Nat), (19 : Nat))]) ∈ WS := ws_c4 89 rfl rfl
theorem wd_x901 : (Jvm.Cond.methodLink "BitDeskLaw" (292 : Nat) ({ cls := "BitDeskLaw", name := "lost", desc := "(LBitDesk;III[J)I" } : Jvm.MethodName)) ∈ WS := ws_c4 87 rfl rfl
theorem wd_902 : (Jvm.Cond.static ({ cls := "BitDeskLaw", name := "lost", desc := "(LBitDesk;III[J)I" } : Jvm.MethodName)) ∈ WS := ws_c4 88 rfl rfl
theorem lk_L_292 : LkSX RL 292 jL_lost 5 := ⟨wd_x901, ⟨(by decide), (by rw [cwd_hh (by decide)]; exact wd_903)⟩, wd_94, ⟨by decide +kernel, by decide +kernel⟩, by decide +kernel, wd_902⟩
theorem wd_1614 : (Jvm.Cond.code ({ cls := "BitDeskModel", name := "lost", desc := "(III)I" } : Jvm.MethodName) prog_9_method_78_code (4 : Nat) (Option.some Jvm.ClassFile.FieldType.int)) ∈ WS := ws_c7 80 rfl rfl
theorem wd_x1611 : (Jvm.Cond.methodLink "BitDeskLaw" (294 : Nat) ({ cls := "BitDeskModel", name := "lost", desc := "(III)I" } : Jvm.MethodName)) ∈ WS := ws_c7 77 rfl rfl
theorem wd_1612 : (Jvm.Cond.instanceMethod ({ cls := "BitDeskModel", name := "lost", desc := "(III)I" } : Jvm.MethodName)) ∈ WS := ws_c7 78 rfl rfl
theorem wd_1613 : (Jvm.Cond.selects "BitDeskModel" ({ cls := "BitDeskModel", name := "lost", desc := "(III)I" } : Jvm.MethodName) ({ cls := "BitDeskModel", name := "lost", desc := "(III)I" } : Jvm.MethodName)) ∈ WS := ws_c7 79 rfl rfl
theorem lk_L_294 : LkV RL 294 jX7_lost 3 := ⟨⟨wd_x1611, ⟨rfl, (by rw [cwd_nil rfl]; exact wd_1614)⟩, wd_102, ⟨by decide +kernel, by decide +kernel⟩, by decide +kernel⟩, wd_1612, wd_1613⟩
theorem wd_923 : (Jvm.Cond.codeWith ({ cls := "BitDeskLaw", name := "bestEdge", desc := "(LBitDesk;I[J)I" } : Jvm.MethodName) method_30_code (4 : Nat) (Option.some Jvm.ClassFile.FieldType.int) [((0 : Nat), (9 : Nat), (12 : Nat), (19 : Nat))]) ∈ WS := ws_c4 109 rfl rfl
theorem wd_x921 : (Jvm.Cond.methodLink "BitDeskLaw" (295 : Nat) ({ cls := "BitDeskLaw", name := "bestEdge", desc := "(LBitDesk;I[J)I" } : Jvm.MethodName)) ∈ WS := ws_c4 107 rfl rfl
theorem wd_922 : (Jvm.Cond.static ({ cls := "BitDeskLaw", name := "bestEdge", desc := "(LBitDesk;I[J)I" } : Jvm.MethodName)) ∈ WS := ws_c4 108 rfl rfl
theorem lk_L_295 : LkSX RL 295 jL_bestEdge 3 := ⟨wd_x921, ⟨(by decide), (by rw [cwd_hh (by decide)]; exact wd_923)⟩, wd_94, ⟨by decide +kernel, by decide +kernel⟩, by decide +kernel, wd_922⟩
theorem wd_1618 : (Jvm.Cond.code ({ cls := "BitDeskModel", name := "bestEdge", desc := "(I)I" } : Jvm.MethodName) prog_9_method_80_code (2 : Nat) (Option.some Jvm.ClassFile.FieldType.int)) ∈ WS := ws_c7 84 rfl rfl
theorem wd_x1615 : (Jvm.Cond.methodLink "BitDeskLaw" (297 : Nat) ({ cls := "BitDeskModel", name := "bestEdge", desc := "(I)I" } : Jvm.MethodName)) ∈ WS := ws_c7 81 rfl rfl
theorem wd_1616 : (Jvm.Cond.instanceMethod ({ cls := "BitDeskModel", name := "bestEdge", desc := "(I)I" } : Jvm.MethodName)) ∈ WS := ws_c7 82 rfl rfl
theorem wd_1617 : (Jvm.Cond.selects "BitDeskModel" ({ cls := "BitDeskModel", name := "bestEdge", desc := "(I)I" } : Jvm.MethodName) ({ cls := "BitDeskModel", name := "bestEdge", desc := "(I)I" } : Jvm.MethodName)) ∈ WS := ws_c7 83 rfl rfl
theorem lk_L_297 : LkV RL 297 jX7_bestEdge 1 := ⟨⟨wd_x1615, ⟨rfl, (by rw [cwd_nil rfl]; exact wd_1618)⟩, wd_102, ⟨by decide +kernel, by decide +kernel⟩, by decide +kernel⟩, wd_1616, wd_1617⟩
theorem wd_933 : (Jvm.Cond.codeWith ({ cls := "BitDeskLaw", name := "weakest", desc := "(LBitDesk;I[J)I" } : Jvm.MethodName) method_31_code (4 : Nat) (Option.some Jvm.ClassFile.FieldType.int) [((0 : Nat), (9 : Nat), (12 : Nat), (19 : Nat))]) ∈ WS := ws_c4 119 rfl rfl
theorem wd_x931 : (Jvm.Cond.methodLink "BitDeskLaw" (298 : Nat) ({ cls := "BitDeskLaw", name := "weakest", desc := "(LBitDesk;I[J)I" } : Jvm.MethodName)) ∈ WS := ws_c4 117 rfl rfl
theorem wd_932 : (Jvm.Cond.static ({ cls := "BitDeskLaw", name := "weakest", desc := "(LBitDesk;I[J)I" } : Jvm.MethodName)) ∈ WS := ws_c4 118 rfl rfl
theorem lk_L_298 : LkSX RL 298 jL_weakest 3 := ⟨wd_x931, ⟨(by decide), (by rw [cwd_hh (by decide)]; exact wd_933)⟩, wd_94, ⟨by decide +kernel, by decide +kernel⟩, by decide +kernel, wd_932⟩
theorem wd_1632 : (Jvm.Cond.code ({ cls := "BitDeskModel", name := "weakest", desc := "(I)I" } : Jvm.MethodName) prog_9_method_81_code (2 : Nat) (Option.some Jvm.ClassFile.FieldType.int)) ∈ WS := ws_c7 98 rfl rfl
theorem wd_x1629 : (Jvm.Cond.methodLink "BitDeskLaw" (300 : Nat) ({ cls := "BitDeskModel", name := "weakest", desc := "(I)I" } : Jvm.MethodName)) ∈ WS := ws_c7 95 rfl rfl
theorem wd_1630 : (Jvm.Cond.instanceMethod ({ cls := "BitDeskModel", name := "weakest", desc := "(I)I" } : Jvm.MethodName)) ∈ WS := ws_c7 96 rfl rfl
theorem wd_1631 : (Jvm.Cond.selects "BitDeskModel" ({ cls := "BitDeskModel", name := "weakest", desc := "(I)I" } : Jvm.MethodName) ({ cls := "BitDeskModel", name := "weakest", desc := "(I)I" } : Jvm.MethodName)) ∈ WS := ws_c7 97 rfl rfl
theorem lk_L_300 : LkV RL 300 jX7_weakest 1 := ⟨⟨wd_x1629, ⟨rfl, (by rw [cwd_nil rfl]; exact wd_1632)⟩, wd_102, ⟨by decide +kernel, by decide +kernel⟩, by decide +kernel⟩, wd_1630, wd_1631⟩
theorem wd_1296 : (Jvm.Cond.code ({ cls := "BitDeskModel", name := "thrown", desc := "()I" } : Jvm.MethodName) prog_9_method_2_code (1 : Nat) (Option.some Jvm.ClassFile.FieldType.int)) ∈ WS := ws_c6 2 rfl rfl
theorem wd_x1293 : (Jvm.Cond.methodLink "BitDeskLaw" (301 : Nat) ({ cls := "BitDeskModel", name := "thrown", desc := "()I" } : Jvm.MethodName)) ∈ WS := ws_c5 239 rfl rfl
theorem wd_1294 : (Jvm.Cond.instanceMethod ({ cls := "BitDeskModel", name := "thrown", desc := "()I" } : Jvm.MethodName)) ∈ WS := ws_c6 0 rfl rfl
theorem wd_1295 : (Jvm.Cond.selects "BitDeskModel" ({ cls := "BitDeskModel", name := "thrown", desc := "()I" } : Jvm.MethodName) ({ cls := "BitDeskModel", name := "thrown", desc := "()I" } : Jvm.MethodName)) ∈ WS := ws_c6 1 rfl rfl
theorem lk_L_301 : LkV RL 301 jX7_thrown 0 := ⟨⟨wd_x1293, ⟨rfl, (by rw [cwd_nil rfl]; exact wd_1296)⟩, wd_102, ⟨by decide +kernel, by decide +kernel⟩, by decide +kernel⟩, wd_1294, wd_1295⟩
theorem wd_940 : (Jvm.Cond.codeWith ({ cls := "BitDeskLaw", name := "triangles", desc := "(LBitDesk;I[J)I" } : Jvm.MethodName) method_32_code (4 : Nat) (Option.some Jvm.ClassFile.FieldType.int) [((0 : Nat), (9 : Nat), (12 : Nat), (19 : Nat))]) ∈ WS := ws_c4 126 rfl rfl
theorem wd_938 : (Jvm.Cond.methodLink "BitDeskLaw" (304 : Nat) ({ cls := "BitDeskLaw", name := "triangles", desc := "(LBitDesk;I[J)I" } : Jvm.MethodName)) ∈ WS := ws_c4 124 rfl rfl
theorem wd_939 : (Jvm.Cond.static ({ cls := "BitDeskLaw", name := "triangles", desc := "(LBitDesk;I[J)I" } : Jvm.MethodName)) ∈ WS := ws_c4 125 rfl rfl
theorem lk_L_304 : LkSX RL 304 jL_triangles 3 := ⟨wd_938, ⟨(by decide), (by rw [cwd_hh (by decide)]; exact wd_940)⟩, wd_94, ⟨by decide +kernel, by decide +kernel⟩, by decide +kernel, wd_939⟩
theorem wd_1636 : (Jvm.Cond.code ({ cls := "BitDeskModel", name := "triangles", desc := "(I)I" } : Jvm.MethodName) prog_9_method_82_code (6 : Nat) (Option.some Jvm.ClassFile.FieldType.int)) ∈ WS := ws_c7 102 rfl rfl
theorem wd_1633 : (Jvm.Cond.methodLink "BitDeskLaw" (306 : Nat) ({ cls := "BitDeskModel", name := "triangles", desc := "(I)I" } : Jvm.MethodName)) ∈ WS := ws_c7 99 rfl rfl
theorem wd_1634 : (Jvm.Cond.instanceMethod ({ cls := "BitDeskModel", name := "triangles", desc := "(I)I" } : Jvm.MethodName)) ∈ WS := ws_c7 100 rfl rfl
theorem wd_1635 : (Jvm.Cond.selects "BitDeskModel" ({ cls := "BitDeskModel", name := "triangles", desc := "(I)I" } : Jvm.MethodName) ({ cls := "BitDeskModel", name := "triangles", desc := "(I)I" } : Jvm.MethodName)) ∈ WS := ws_c7 101 rfl rfl
theorem lk_L_306 : LkV RL 306 jX7_triangles 1 := ⟨⟨wd_1633, ⟨rfl, (by rw [cwd_nil rfl]; exact wd_1636)⟩, wd_102, ⟨by decide +kernel, by decide +kernel⟩, by decide +kernel⟩, wd_1634, wd_1635⟩
theorem wd_947 : (Jvm.Cond.codeWith ({ cls := "BitDeskLaw", name := "fieldRank", desc := "(LBitDesk;I[J)I" } : Jvm.MethodName) method_33_code (4 : Nat) (Option.some Jvm.ClassFile.FieldType.int) [((0 : Nat), (9 : Nat), (12 : Nat), (19 : Nat))]) ∈ WS := ws_c4 133 rfl rfl
theorem wd_945 : (Jvm.Cond.methodLink "BitDeskLaw" (307 : Nat) ({ cls := "BitDeskLaw", name := "fieldRank", desc := "(LBitDesk;I[J)I" } : Jvm.MethodName)) ∈ WS := ws_c4 131 rfl rfl
theorem wd_946 : (Jvm.Cond.static ({ cls := "BitDeskLaw", name := "fieldRank", desc := "(LBitDesk;I[J)I" } : Jvm.MethodName)) ∈ WS := ws_c4 132 rfl rfl
theorem lk_L_307 : LkSX RL 307 jL_fieldRank 3 := ⟨wd_945, ⟨(by decide), (by rw [cwd_hh (by decide)]; exact wd_947)⟩, wd_94, ⟨by decide +kernel, by decide +kernel⟩, by decide +kernel, wd_946⟩
theorem wd_1640 : (Jvm.Cond.code ({ cls := "BitDeskModel", name := "fieldRank", desc := "(I)I" } : Jvm.MethodName) prog_9_method_85_code (2 : Nat) (Option.some Jvm.ClassFile.FieldType.int)) ∈ WS := ws_c7 106 rfl rfl
theorem wd_1637 : (Jvm.Cond.methodLink "BitDeskLaw" (309 : Nat) ({ cls := "BitDeskModel", name := "fieldRank", desc := "(I)I" } : Jvm.MethodName)) ∈ WS := ws_c7 103 rfl rfl
theorem wd_1638 : (Jvm.Cond.instanceMethod ({ cls := "BitDeskModel", name := "fieldRank", desc := "(I)I" } : Jvm.MethodName)) ∈ WS := ws_c7 104 rfl rfl
theorem wd_1639 : (Jvm.Cond.selects "BitDeskModel" ({ cls := "BitDeskModel", name := "fieldRank", desc := "(I)I" } : Jvm.MethodName) ({ cls := "BitDeskModel", name := "fieldRank", desc := "(I)I" } : Jvm.MethodName)) ∈ WS := ws_c7 105 rfl rfl
theorem lk_L_309 : LkV RL 309 jX7_fieldRank 1 := ⟨⟨wd_1637, ⟨rfl, (by rw [cwd_nil rfl]; exact wd_1640)⟩, wd_102, ⟨by decide +kernel, by decide +kernel⟩, by decide +kernel⟩, wd_1638, wd_1639⟩
theorem wd_976 : (Jvm.Cond.codeWith ({ cls := "BitDeskLaw", name := "solve", desc := "(LBitDesk;IJ[J)I" } : Jvm.MethodName) method_34_code (6 : Nat) (Option.some Jvm.ClassFile.FieldType.int) [((0 : Nat), (10 : Nat), (13 : Nat), (19 : Nat))]) ∈ WS := ws_c4 162 rfl rfl
theorem wd_974 : (Jvm.Cond.methodLink "BitDeskLaw" (310 : Nat) ({ cls := "BitDeskLaw", name := "solve", desc := "(LBitDesk;IJ[J)I" } : Jvm.MethodName)) ∈ WS := ws_c4 160 rfl rfl
theorem wd_975 : (Jvm.Cond.static ({ cls := "BitDeskLaw", name := "solve", desc := "(LBitDesk;IJ[J)I" } : Jvm.MethodName)) ∈ WS := ws_c4 161 rfl rfl
theorem lk_L_310 : LkSX RL 310 jL_solve 4 := ⟨wd_974, ⟨(by decide), (by rw [cwd_hh (by decide)]; exact wd_976)⟩, wd_94, ⟨by decide +kernel, by decide +kernel⟩, by decide +kernel, wd_975⟩
theorem wd_1652 : (Jvm.Cond.code ({ cls := "BitDeskModel", name := "solve", desc := "(IJ)J" } : Jvm.MethodName) prog_9_method_87_code (4 : Nat) (Option.some Jvm.ClassFile.FieldType.long)) ∈ WS := ws_c7 118 rfl rfl
theorem wd_1649 : (Jvm.Cond.methodLink "BitDeskLaw" (312 : Nat) ({ cls := "BitDeskModel", name := "solve", desc := "(IJ)J" } : Jvm.MethodName)) ∈ WS := ws_c7 115 rfl rfl
theorem wd_1650 : (Jvm.Cond.instanceMethod ({ cls := "BitDeskModel", name := "solve", desc := "(IJ)J" } : Jvm.MethodName)) ∈ WS := ws_c7 116 rfl rfl
theorem wd_1651 : (Jvm.Cond.selects "BitDeskModel" ({ cls := "BitDeskModel", name := "solve", desc := "(IJ)J" } : Jvm.MethodName) ({ cls := "BitDeskModel", name := "solve", desc := "(IJ)J" } : Jvm.MethodName)) ∈ WS := ws_c7 117 rfl rfl
theorem lk_L_312 : LkV RL 312 jX7_solve 2 := ⟨⟨wd_1649, ⟨rfl, (by rw [cwd_nil rfl]; exact wd_1652)⟩, wd_102, ⟨by decide +kernel, by decide +kernel⟩, by decide +kernel⟩, wd_1650, wd_1651⟩
theorem wd_992 : (Jvm.Cond.codeWith ({ cls := "BitDeskLaw", name := "freedom", desc := "(LBitDesk;IJ[J)I" } : Jvm.MethodName) method_35_code (6 : Nat) (Option.some Jvm.ClassFile.FieldType.int) [((0 : Nat), (11 : Nat), (14 : Nat), (19 : Nat))]) ∈ WS := ws_c4 178 rfl rfl
theorem wd_990 : (Jvm.Cond.methodLink "BitDeskLaw" (313 : Nat) ({ cls := "BitDeskLaw", name := "freedom", desc := "(LBitDesk;IJ[J)I" } : Jvm.MethodName)) ∈ WS := ws_c4 176 rfl rfl
theorem wd_991 : (Jvm.Cond.static ({ cls := "BitDeskLaw", name := "freedom", desc := "(LBitDesk;IJ[J)I" } : Jvm.MethodName)) ∈ WS := ws_c4 177 rfl rfl
theorem lk_L_313 : LkSX RL 313 jL_freedom 4 := ⟨wd_990, ⟨(by decide), (by rw [cwd_hh (by decide)]; exact wd_992)⟩, wd_94, ⟨by decide +kernel, by decide +kernel⟩, by decide +kernel, wd_991⟩
theorem wd_1661 : (Jvm.Cond.code ({ cls := "BitDeskModel", name := "freedom", desc := "(IJ)I" } : Jvm.MethodName) prog_9_method_88_code (4 : Nat) (Option.some Jvm.ClassFile.FieldType.int)) ∈ WS := ws_c7 127 rfl rfl
theorem wd_1658 : (Jvm.Cond.methodLink "BitDeskLaw" (315 : Nat) ({ cls := "BitDeskModel", name := "freedom", desc := "(IJ)I" } : Jvm.MethodName)) ∈ WS := ws_c7 124 rfl rfl
theorem wd_1659 : (Jvm.Cond.instanceMethod ({ cls := "BitDeskModel", name := "freedom", desc := "(IJ)I" } : Jvm.MethodName)) ∈ WS := ws_c7 125 rfl rfl
theorem wd_1660 : (Jvm.Cond.selects "BitDeskModel" ({ cls := "BitDeskModel", name := "freedom", desc := "(IJ)I" } : Jvm.MethodName) ({ cls := "BitDeskModel", name := "freedom", desc := "(IJ)I" } : Jvm.MethodName)) ∈ WS := ws_c7 126 rfl rfl
theorem lk_L_315 : LkV RL 315 jX7_freedom 2 := ⟨⟨wd_1658, ⟨rfl, (by rw [cwd_nil rfl]; exact wd_1661)⟩, wd_102, ⟨by decide +kernel, by decide +kernel⟩, by decide +kernel⟩, wd_1659, wd_1660⟩
theorem wd_999 : (Jvm.Cond.codeWith ({ cls := "BitDeskLaw", name := "pivot", desc := "(LBitDesk;II[J)I" } : Jvm.MethodName) method_36_code (5 : Nat) (Option.some Jvm.ClassFile.FieldType.int) [((0 : Nat), (10 : Nat), (13 : Nat), (19 : Nat))]) ∈ WS := ws_c4 185 rfl rfl
theorem wd_997 : (Jvm.Cond.methodLink "BitDeskLaw" (316 : Nat) ({ cls := "BitDeskLaw", name := "pivot", desc := "(LBitDesk;II[J)I" } : Jvm.MethodName)) ∈ WS := ws_c4 183 rfl rfl
theorem wd_998 : (Jvm.Cond.static ({ cls := "BitDeskLaw", name := "pivot", desc := "(LBitDesk;II[J)I" } : Jvm.MethodName)) ∈ WS := ws_c4 184 rfl rfl
theorem lk_L_316 : LkSX RL 316 jL_pivot 4 := ⟨wd_997, ⟨(by decide), (by rw [cwd_hh (by decide)]; exact wd_999)⟩, wd_94, ⟨by decide +kernel, by decide +kernel⟩, by decide +kernel, wd_998⟩
theorem wd_1665 : (Jvm.Cond.code ({ cls := "BitDeskModel", name := "pivot", desc := "(II)I" } : Jvm.MethodName) prog_9_method_89_code (3 : Nat) (Option.some Jvm.ClassFile.FieldType.int)) ∈ WS := ws_c7 131 rfl rfl
theorem wd_1662 : (Jvm.Cond.methodLink "BitDeskLaw" (318 : Nat) ({ cls := "BitDeskModel", name := "pivot", desc := "(II)I" } : Jvm.MethodName)) ∈ WS := ws_c7 128 rfl rfl
theorem wd_1663 : (Jvm.Cond.instanceMethod ({ cls := "BitDeskModel", name := "pivot", desc := "(II)I" } : Jvm.MethodName)) ∈ WS := ws_c7 129 rfl rfl
theorem wd_1664 : (Jvm.Cond.selects "BitDeskModel" ({ cls := "BitDeskModel", name := "pivot", desc := "(II)I" } : Jvm.MethodName) ({ cls := "BitDeskModel", name := "pivot", desc := "(II)I" } : Jvm.MethodName)) ∈ WS := ws_c7 130 rfl rfl
theorem lk_L_318 : LkV RL 318 jX7_pivot 2 := ⟨⟨wd_1662, ⟨rfl, (by rw [cwd_nil rfl]; exact wd_1665)⟩, wd_102, ⟨by decide +kernel, by decide +kernel⟩, by decide +kernel⟩, wd_1663, wd_1664⟩
theorem wd_1010 : (Jvm.Cond.codeWith ({ cls := "BitDeskLaw", name := "put", desc := "(LBitDesk;IIIZ[J)I" } : Jvm.MethodName) method_37_code (7 : Nat) (Option.some Jvm.ClassFile.FieldType.int) [((0 : Nat), (14 : Nat), (17 : Nat), (19 : Nat))]) ∈ WS := ws_c4 196 rfl rfl
theorem wd_1008 : (Jvm.Cond.methodLink "BitDeskLaw" (319 : Nat) ({ cls := "BitDeskLaw", name := "put", desc := "(LBitDesk;IIIZ[J)I" } : Jvm.MethodName)) ∈ WS := ws_c4 194 rfl rfl
theorem wd_1009 : (Jvm.Cond.static ({ cls := "BitDeskLaw", name := "put", desc := "(LBitDesk;IIIZ[J)I" } : Jvm.MethodName)) ∈ WS := ws_c4 195 rfl rfl
theorem lk_L_319 : LkSX RL 319 jL_put 6 := ⟨wd_1008, ⟨(by decide), (by rw [cwd_hh (by decide)]; exact wd_1010)⟩, wd_94, ⟨by decide +kernel, by decide +kernel⟩, by decide +kernel, wd_1009⟩
theorem wd_1673 : (Jvm.Cond.code ({ cls := "BitDeskModel", name := "put", desc := "(IIIZ)I" } : Jvm.MethodName) prog_9_method_94_code (8 : Nat) (Option.some Jvm.ClassFile.FieldType.int)) ∈ WS := ws_c7 139 rfl rfl
theorem wd_1670 : (Jvm.Cond.methodLink "BitDeskLaw" (322 : Nat) ({ cls := "BitDeskModel", name := "put", desc := "(IIIZ)I" } : Jvm.MethodName)) ∈ WS := ws_c7 136 rfl rfl
theorem wd_1671 : (Jvm.Cond.instanceMethod ({ cls := "BitDeskModel", name := "put", desc := "(IIIZ)I" } : Jvm.MethodName)) ∈ WS := ws_c7 137 rfl rfl
theorem wd_1672 : (Jvm.Cond.selects "BitDeskModel" ({ cls := "BitDeskModel", name := "put", desc := "(IIIZ)I" } : Jvm.MethodName) ({ cls := "BitDeskModel", name := "put", desc := "(IIIZ)I" } : Jvm.MethodName)) ∈ WS := ws_c7 138 rfl rfl
theorem lk_L_322 : LkV RL 322 jX7_put 4 := ⟨⟨wd_1670, ⟨rfl, (by rw [cwd_nil rfl]; exact wd_1673)⟩, wd_102, ⟨by decide +kernel, by decide +kernel⟩, by decide +kernel⟩, wd_1671, wd_1672⟩
theorem wd_1032 : (Jvm.Cond.codeWith ({ cls := "BitDeskLaw", name := "setRow", desc := "(LBitDesk;IIJ[J)I" } : Jvm.MethodName) method_38_code (7 : Nat) (Option.some Jvm.ClassFile.FieldType.int) [((0 : Nat), (12 : Nat), (15 : Nat), (19 : Nat))]) ∈ WS := ws_c4 218 rfl rfl
theorem wd_1030 : (Jvm.Cond.methodLink "BitDeskLaw" (323 : Nat) ({ cls := "BitDeskLaw", name := "setRow", desc := "(LBitDesk;IIJ[J)I" } : Jvm.MethodName)) ∈ WS := ws_c4 216 rfl rfl
theorem wd_1031 : (Jvm.Cond.static ({ cls := "BitDeskLaw", name := "setRow", desc := "(LBitDesk;IIJ[J)I" } : Jvm.MethodName)) ∈ WS := ws_c4 217 rfl rfl
theorem lk_L_323 : LkSX RL 323 jL_setRow 5 := ⟨wd_1030, ⟨(by decide), (by rw [cwd_hh (by decide)]; exact wd_1032)⟩, wd_94, ⟨by decide +kernel, by decide +kernel⟩, by decide +kernel, wd_1031⟩
theorem wd_1685 : (Jvm.Cond.code ({ cls := "BitDeskModel", name := "setRow", desc := "(IIJ)I" } : Jvm.MethodName) prog_9_method_95_code (6 : Nat) (Option.some Jvm.ClassFile.FieldType.int)) ∈ WS := ws_c7 151 rfl rfl
theorem wd_1682 : (Jvm.Cond.methodLink "BitDeskLaw" (326 : Nat) ({ cls := "BitDeskModel", name := "setRow", desc := "(IIJ)I" } : Jvm.MethodName)) ∈ WS := ws_c7 148 rfl rfl
theorem wd_1683 : (Jvm.Cond.instanceMethod ({ cls := "BitDeskModel", name := "setRow", desc := "(IIJ)I" } : Jvm.MethodName)) ∈ WS := ws_c7 149 rfl rfl
theorem wd_1684 : (Jvm.Cond.selects "BitDeskModel" ({ cls := "BitDeskModel", name := "setRow", desc := "(IIJ)I" } : Jvm.MethodName) ({ cls := "BitDeskModel", name := "setRow", desc := "(IIJ)I" } : Jvm.MethodName)) ∈ WS := ws_c7 150 rfl rfl
theorem lk_L_326 : LkV RL 326 jX7_setRow 3 := ⟨⟨wd_1682, ⟨rfl, (by rw [cwd_nil rfl]; exact wd_1685)⟩, wd_102, ⟨by decide +kernel, by decide +kernel⟩, by decide +kernel⟩, wd_1683, wd_1684⟩
theorem wd_1044 : (Jvm.Cond.codeWith ({ cls := "BitDeskLaw", name := "copy", desc := "(LBitDesk;II[J)I" } : Jvm.MethodName) method_39_code (5 : Nat) (Option.some Jvm.ClassFile.FieldType.int) [((0 : Nat), (10 : Nat), (13 : Nat), (19 : Nat))]) ∈ WS := ws_c4 230 rfl rfl
theorem wd_1042 : (Jvm.Cond.methodLink "BitDeskLaw" (327 : Nat) ({ cls := "BitDeskLaw", name := "copy", desc := "(LBitDesk;II[J)I" } : Jvm.MethodName)) ∈ WS := ws_c4 228 rfl rfl
theorem wd_1043 : (Jvm.Cond.static ({ cls := "BitDeskLaw", name := "copy", desc := "(LBitDesk;II[J)I" } : Jvm.MethodName)) ∈ WS := ws_c4 229 rfl rfl
theorem lk_L_327 : LkSX RL 327 jL_copy 4 := ⟨wd_1042, ⟨(by decide), (by rw [cwd_hh (by decide)]; exact wd_1044)⟩, wd_94, ⟨by decide +kernel, by decide +kernel⟩, by decide +kernel, wd_1043⟩
theorem wd_1689 : (Jvm.Cond.code ({ cls := "BitDeskModel", name := "copy", desc := "(II)I" } : Jvm.MethodName) prog_9_method_97_code (3 : Nat) (Option.some Jvm.ClassFile.FieldType.int)) ∈ WS := ws_c7 155 rfl rfl
theorem wd_1686 : (Jvm.Cond.methodLink "BitDeskLaw" (329 : Nat) ({ cls := "BitDeskModel", name := "copy", desc := "(II)I" } : Jvm.MethodName)) ∈ WS := ws_c7 152 rfl rfl
theorem wd_1687 : (Jvm.Cond.instanceMethod ({ cls := "BitDeskModel", name := "copy", desc := "(II)I" } : Jvm.MethodName)) ∈ WS := ws_c7 153 rfl rfl
theorem wd_1688 : (Jvm.Cond.selects "BitDeskModel" ({ cls := "BitDeskModel", name := "copy", desc := "(II)I" } : Jvm.MethodName) ({ cls := "BitDeskModel", name := "copy", desc := "(II)I" } : Jvm.MethodName)) ∈ WS := ws_c7 154 rfl rfl
theorem lk_L_329 : LkV RL 329 jX7_copy 2 := ⟨⟨wd_1686, ⟨rfl, (by rw [cwd_nil rfl]; exact wd_1689)⟩, wd_102, ⟨by decide +kernel, by decide +kernel⟩, by decide +kernel⟩, wd_1687, wd_1688⟩
theorem wd_1055 : (Jvm.Cond.codeWith ({ cls := "BitDeskLaw", name := "transpose", desc := "(LBitDesk;II[J)I" } : Jvm.MethodName) method_40_code (5 : Nat) (Option.some Jvm.ClassFile.FieldType.int) [((0 : Nat), (10 : Nat), (13 : Nat), (19 : Nat))]) ∈ WS := ws_c5 1 rfl rfl
theorem wd_1053 : (Jvm.Cond.methodLink "BitDeskLaw" (330 : Nat) ({ cls := "BitDeskLaw", name := "transpose", desc := "(LBitDesk;II[J)I" } : Jvm.MethodName)) ∈ WS := ws_c4 239 rfl rfl
theorem wd_1054 : (Jvm.Cond.static ({ cls := "BitDeskLaw", name := "transpose", desc := "(LBitDesk;II[J)I" } : Jvm.MethodName)) ∈ WS := ws_c5 0 rfl rfl
theorem lk_L_330 : LkSX RL 330 jL_transpose 4 := ⟨wd_1053, ⟨(by decide), (by rw [cwd_hh (by decide)]; exact wd_1055)⟩, wd_94, ⟨by decide +kernel, by decide +kernel⟩, by decide +kernel, wd_1054⟩
theorem wd_1697 : (Jvm.Cond.code ({ cls := "BitDeskModel", name := "transpose", desc := "(II)I" } : Jvm.MethodName) prog_9_method_98_code (5 : Nat) (Option.some Jvm.ClassFile.FieldType.int)) ∈ WS := ws_c7 163 rfl rfl
theorem wd_1694 : (Jvm.Cond.methodLink "BitDeskLaw" (332 : Nat) ({ cls := "BitDeskModel", name := "transpose", desc := "(II)I" } : Jvm.MethodName)) ∈ WS := ws_c7 160 rfl rfl
theorem wd_1695 : (Jvm.Cond.instanceMethod ({ cls := "BitDeskModel", name := "transpose", desc := "(II)I" } : Jvm.MethodName)) ∈ WS := ws_c7 161 rfl rfl
theorem wd_1696 : (Jvm.Cond.selects "BitDeskModel" ({ cls := "BitDeskModel", name := "transpose", desc := "(II)I" } : Jvm.MethodName) ({ cls := "BitDeskModel", name := "transpose", desc := "(II)I" } : Jvm.MethodName)) ∈ WS := ws_c7 162 rfl rfl
theorem lk_L_332 : LkV RL 332 jX7_transpose 2 := ⟨⟨wd_1694, ⟨rfl, (by rw [cwd_nil rfl]; exact wd_1697)⟩, wd_102, ⟨by decide +kernel, by decide +kernel⟩, by decide +kernel⟩, wd_1695, wd_1696⟩
theorem wd_1062 : (Jvm.Cond.codeWith ({ cls := "BitDeskLaw", name := "combine", desc := "(LBitDesk;IIII[J)I" } : Jvm.MethodName) method_41_code (7 : Nat) (Option.some Jvm.ClassFile.FieldType.int) [((0 : Nat), (14 : Nat), (17 : Nat), (19 : Nat)), ((0 : Nat), (14 : Nat), (21 : Nat), (13 : Nat))]) ∈ WS := ws_c5 8 rfl rfl
theorem wd_1060 : (Jvm.Cond.methodLink "BitDeskLaw" (333 : Nat) ({ cls := "BitDeskLaw", name := "combine", desc := "(LBitDesk;IIII[J)I" } : Jvm.MethodName)) ∈ WS := ws_c5 6 rfl rfl
theorem wd_1061 : (Jvm.Cond.static ({ cls := "BitDeskLaw", name := "combine", desc := "(LBitDesk;IIII[J)I" } : Jvm.MethodName)) ∈ WS := ws_c5 7 rfl rfl
theorem lk_L_333 : LkSX RL 333 jL_combine 6 := ⟨wd_1060, ⟨(by decide), (by rw [cwd_hh (by decide)]; exact wd_1062)⟩, wd_94, ⟨by decide +kernel, by decide +kernel⟩, by decide +kernel, wd_1061⟩
theorem wd_1701 : (Jvm.Cond.code ({ cls := "BitDeskModel", name := "combine", desc := "(IIII)I" } : Jvm.MethodName) prog_9_method_100_code (6 : Nat) (Option.some Jvm.ClassFile.FieldType.int)) ∈ WS := ws_c7 167 rfl rfl
theorem wd_1698 : (Jvm.Cond.methodLink "BitDeskLaw" (335 : Nat) ({ cls := "BitDeskModel", name := "combine", desc := "(IIII)I" } : Jvm.MethodName)) ∈ WS := ws_c7 164 rfl rfl
theorem wd_1699 : (Jvm.Cond.instanceMethod ({ cls := "BitDeskModel", name := "combine", desc := "(IIII)I" } : Jvm.MethodName)) ∈ WS := ws_c7 165 rfl rfl
theorem wd_1700 : (Jvm.Cond.selects "BitDeskModel" ({ cls := "BitDeskModel", name := "combine", desc := "(IIII)I" } : Jvm.MethodName) ({ cls := "BitDeskModel", name := "combine", desc := "(IIII)I" } : Jvm.MethodName)) ∈ WS := ws_c7 166 rfl rfl
theorem lk_L_335 : LkV RL 335 jX7_combine 4 := ⟨⟨wd_1698, ⟨rfl, (by rw [cwd_nil rfl]; exact wd_1701)⟩, wd_102, ⟨by decide +kernel, by decide +kernel⟩, by decide +kernel⟩, wd_1699, wd_1700⟩
theorem wd_1072 : (Jvm.Cond.codeWith ({ cls := "BitDeskLaw", name := "product", desc := "(LBitDesk;IIIZ[J)I" } : Jvm.MethodName) method_42_code (7 : Nat) (Option.some Jvm.ClassFile.FieldType.int) [((0 : Nat), (14 : Nat), (17 : Nat), (19 : Nat))]) ∈ WS := ws_c5 18 rfl rfl
theorem wd_1070 : (Jvm.Cond.methodLink "BitDeskLaw" (336 : Nat) ({ cls := "BitDeskLaw", name := "product", desc := "(LBitDesk;IIIZ[J)I" } : Jvm.MethodName)) ∈ WS := ws_c5 16 rfl rfl
theorem wd_1071 : (Jvm.Cond.static ({ cls := "BitDeskLaw", name := "product", desc := "(LBitDesk;IIIZ[J)I" } : Jvm.MethodName)) ∈ WS := ws_c5 17 rfl rfl
theorem lk_L_336 : LkSX RL 336 jL_product 6 := ⟨wd_1070, ⟨(by decide), (by rw [cwd_hh (by decide)]; exact wd_1072)⟩, wd_94, ⟨by decide +kernel, by decide +kernel⟩, by decide +kernel, wd_1071⟩
theorem wd_1708 : (Jvm.Cond.code ({ cls := "BitDeskModel", name := "product", desc := "(IIIZ)I" } : Jvm.MethodName) prog_9_method_103_code (5 : Nat) (Option.some Jvm.ClassFile.FieldType.int)) ∈ WS := ws_c7 174 rfl rfl
theorem wd_1705 : (Jvm.Cond.methodLink "BitDeskLaw" (338 : Nat) ({ cls := "BitDeskModel", name := "product", desc := "(IIIZ)I" } : Jvm.MethodName)) ∈ WS := ws_c7 171 rfl rfl
theorem wd_1706 : (Jvm.Cond.instanceMethod ({ cls := "BitDeskModel", name := "product", desc := "(IIIZ)I" } : Jvm.MethodName)) ∈ WS := ws_c7 172 rfl rfl
theorem wd_1707 : (Jvm.Cond.selects "BitDeskModel" ({ cls := "BitDeskModel", name := "product", desc := "(IIIZ)I" } : Jvm.MethodName) ({ cls := "BitDeskModel", name := "product", desc := "(IIIZ)I" } : Jvm.MethodName)) ∈ WS := ws_c7 173 rfl rfl
theorem lk_L_338 : LkV RL 338 jX7_product 4 := ⟨⟨wd_1705, ⟨rfl, (by rw [cwd_nil rfl]; exact wd_1708)⟩, wd_102, ⟨by decide +kernel, by decide +kernel⟩, by decide +kernel⟩, wd_1706, wd_1707⟩
theorem wd_1105 : (Jvm.Cond.codeWith ({ cls := "BitDeskLaw", name := "power", desc := "(LBitDesk;IIIZ[J)I" } : Jvm.MethodName) method_43_code (7 : Nat) (Option.some Jvm.ClassFile.FieldType.int) [((0 : Nat), (14 : Nat), (17 : Nat), (19 : Nat)), ((0 : Nat), (14 : Nat), (21 : Nat), (13 : Nat))]) ∈ WS := ws_c5 51 rfl rfl
theorem wd_1103 : (Jvm.Cond.methodLink "BitDeskLaw" (339 : Nat) ({ cls := "BitDeskLaw", name := "power", desc := "(LBitDesk;IIIZ[J)I" } : Jvm.MethodName)) ∈ WS := ws_c5 49 rfl rfl
theorem wd_1104 : (Jvm.Cond.static ({ cls := "BitDeskLaw", name := "power", desc := "(LBitDesk;IIIZ[J)I" } : Jvm.MethodName)) ∈ WS := ws_c5 50 rfl rfl
theorem lk_L_339 : LkSX RL 339 jL_power 6 := ⟨wd_1103, ⟨(by decide), (by rw [cwd_hh (by decide)]; exact wd_1105)⟩, wd_94, ⟨by decide +kernel, by decide +kernel⟩, by decide +kernel, wd_1104⟩
theorem wd_1720 : (Jvm.Cond.code ({ cls := "BitDeskModel", name := "power", desc := "(IIIZ)I" } : Jvm.MethodName) prog_9_method_105_code (6 : Nat) (Option.some Jvm.ClassFile.FieldType.int)) ∈ WS := ws_c7 186 rfl rfl
theorem wd_1717 : (Jvm.Cond.methodLink "BitDeskLaw" (341 : Nat) ({ cls := "BitDeskModel", name := "power", desc := "(IIIZ)I" } : Jvm.MethodName)) ∈ WS := ws_c7 183 rfl rfl
theorem wd_1718 : (Jvm.Cond.instanceMethod ({ cls := "BitDeskModel", name := "power", desc := "(IIIZ)I" } : Jvm.MethodName)) ∈ WS := ws_c7 184 rfl rfl
theorem wd_1719 : (Jvm.Cond.selects "BitDeskModel" ({ cls := "BitDeskModel", name := "power", desc := "(IIIZ)I" } : Jvm.MethodName) ({ cls := "BitDeskModel", name := "power", desc := "(IIIZ)I" } : Jvm.MethodName)) ∈ WS := ws_c7 185 rfl rfl
theorem lk_L_341 : LkV RL 341 jX7_power 4 := ⟨⟨wd_1717, ⟨rfl, (by rw [cwd_nil rfl]; exact wd_1720)⟩, wd_102, ⟨by decide +kernel, by decide +kernel⟩, by decide +kernel⟩, wd_1718, wd_1719⟩
theorem wd_1119 : (Jvm.Cond.codeWith ({ cls := "BitDeskLaw", name := "invert", desc := "(LBitDesk;II[J)I" } : Jvm.MethodName) method_44_code (5 : Nat) (Option.some Jvm.ClassFile.FieldType.int) [((0 : Nat), (10 : Nat), (13 : Nat), (19 : Nat))]) ∈ WS := ws_c5 65 rfl rfl
theorem wd_1117 : (Jvm.Cond.methodLink "BitDeskLaw" (342 : Nat) ({ cls := "BitDeskLaw", name := "invert", desc := "(LBitDesk;II[J)I" } : Jvm.MethodName)) ∈ WS := ws_c5 63 rfl rfl
theorem wd_1118 : (Jvm.Cond.static ({ cls := "BitDeskLaw", name := "invert", desc := "(LBitDesk;II[J)I" } : Jvm.MethodName)) ∈ WS := ws_c5 64 rfl rfl
theorem lk_L_342 : LkSX RL 342 jL_invert 4 := ⟨wd_1117, ⟨(by decide), (by rw [cwd_hh (by decide)]; exact wd_1119)⟩, wd_94, ⟨by decide +kernel, by decide +kernel⟩, by decide +kernel, wd_1118⟩
theorem wd_1729 : (Jvm.Cond.code ({ cls := "BitDeskModel", name := "invert", desc := "(II)I" } : Jvm.MethodName) prog_9_method_106_code (4 : Nat) (Option.some Jvm.ClassFile.FieldType.int)) ∈ WS := ws_c7 195 rfl rfl
theorem wd_1726 : (Jvm.Cond.methodLink "BitDeskLaw" (344 : Nat) ({ cls := "BitDeskModel", name := "invert", desc := "(II)I" } : Jvm.MethodName)) ∈ WS := ws_c7 192 rfl rfl
theorem wd_1727 : (Jvm.Cond.instanceMethod ({ cls := "BitDeskModel", name := "invert", desc := "(II)I" } : Jvm.MethodName)) ∈ WS := ws_c7 193 rfl rfl
theorem wd_1728 : (Jvm.Cond.selects "BitDeskModel" ({ cls := "BitDeskModel", name := "invert", desc := "(II)I" } : Jvm.MethodName) ({ cls := "BitDeskModel", name := "invert", desc := "(II)I" } : Jvm.MethodName)) ∈ WS := ws_c7 194 rfl rfl
theorem lk_L_344 : LkV RL 344 jX7_invert 2 := ⟨⟨wd_1726, ⟨rfl, (by rw [cwd_nil rfl]; exact wd_1729)⟩, wd_102, ⟨by decide +kernel, by decide +kernel⟩, by decide +kernel⟩, wd_1727, wd_1728⟩
theorem wd_1130 : (Jvm.Cond.codeWith ({ cls := "BitDeskLaw", name := "close", desc := "(LBitDesk;II[J)I" } : Jvm.MethodName) method_45_code (5 : Nat) (Option.some Jvm.ClassFile.FieldType.int) [((0 : Nat), (10 : Nat), (13 : Nat), (19 : Nat))]) ∈ WS := ws_c5 76 rfl rfl
theorem wd_1128 : (Jvm.Cond.methodLink "BitDeskLaw" (345 : Nat) ({ cls := "BitDeskLaw", name := "close", desc := "(LBitDesk;II[J)I" } : Jvm.MethodName)) ∈ WS := ws_c5 74 rfl rfl
theorem wd_1129 : (Jvm.Cond.static ({ cls := "BitDeskLaw", name := "close", desc := "(LBitDesk;II[J)I" } : Jvm.MethodName)) ∈ WS := ws_c5 75 rfl rfl
theorem lk_L_345 : LkSX RL 345 jL_close 4 := ⟨wd_1128, ⟨(by decide), (by rw [cwd_hh (by decide)]; exact wd_1130)⟩, wd_94, ⟨by decide +kernel, by decide +kernel⟩, by decide +kernel, wd_1129⟩
theorem wd_1733 : (Jvm.Cond.code ({ cls := "BitDeskModel", name := "close", desc := "(II)I" } : Jvm.MethodName) prog_9_method_107_code (3 : Nat) (Option.some Jvm.ClassFile.FieldType.int)) ∈ WS := ws_c7 199 rfl rfl
theorem wd_1730 : (Jvm.Cond.methodLink "BitDeskLaw" (347 : Nat) ({ cls := "BitDeskModel", name := "close", desc := "(II)I" } : Jvm.MethodName)) ∈ WS := ws_c7 196 rfl rfl
theorem wd_1731 : (Jvm.Cond.instanceMethod ({ cls := "BitDeskModel", name := "close", desc := "(II)I" } : Jvm.MethodName)) ∈ WS := ws_c7 197 rfl rfl
theorem wd_1732 : (Jvm.Cond.selects "BitDeskModel" ({ cls := "BitDeskModel", name := "close", desc := "(II)I" } : Jvm.MethodName) ({ cls := "BitDeskModel", name := "close", desc := "(II)I" } : Jvm.MethodName)) ∈ WS := ws_c7 198 rfl rfl
theorem lk_L_347 : LkV RL 347 jX7_close 2 := ⟨⟨wd_1730, ⟨rfl, (by rw [cwd_nil rfl]; exact wd_1733)⟩, wd_102, ⟨by decide +kernel, by decide +kernel⟩, by decide +kernel⟩, wd_1731, wd_1732⟩
theorem wd_1137 : (Jvm.Cond.codeWith ({ cls := "BitDeskLaw", name := "reduce", desc := "(LBitDesk;II[J)I" } : Jvm.MethodName) method_46_code (5 : Nat) (Option.some Jvm.ClassFile.FieldType.int) [((0 : Nat), (10 : Nat), (13 : Nat), (19 : Nat))]) ∈ WS := ws_c5 83 rfl rfl
theorem wd_1135 : (Jvm.Cond.methodLink "BitDeskLaw" (348 : Nat) ({ cls := "BitDeskLaw", name := "reduce", desc := "(LBitDesk;II[J)I" } : Jvm.MethodName)) ∈ WS := ws_c5 81 rfl rfl
theorem wd_1136 : (Jvm.Cond.static ({ cls := "BitDeskLaw", name := "reduce", desc := "(LBitDesk;II[J)I" } : Jvm.MethodName)) ∈ WS := ws_c5 82 rfl rfl
theorem lk_L_348 : LkSX RL 348 jL_reduce 4 := ⟨wd_1135, ⟨(by decide), (by rw [cwd_hh (by decide)]; exact wd_1137)⟩, wd_94, ⟨by decide +kernel, by decide +kernel⟩, by decide +kernel, wd_1136⟩
theorem wd_1737 : (Jvm.Cond.code ({ cls := "BitDeskModel", name := "reduce", desc := "(II)I" } : Jvm.MethodName) prog_9_method_109_code (6 : Nat) (Option.some Jvm.ClassFile.FieldType.int)) ∈ WS := ws_c7 203 rfl rfl
theorem wd_1734 : (Jvm.Cond.methodLink "BitDeskLaw" (350 : Nat) ({ cls := "BitDeskModel", name := "reduce", desc := "(II)I" } : Jvm.MethodName)) ∈ WS := ws_c7 200 rfl rfl
theorem wd_1735 : (Jvm.Cond.instanceMethod ({ cls := "BitDeskModel", name := "reduce", desc := "(II)I" } : Jvm.MethodName)) ∈ WS := ws_c7 201 rfl rfl
theorem wd_1736 : (Jvm.Cond.selects "BitDeskModel" ({ cls := "BitDeskModel", name := "reduce", desc := "(II)I" } : Jvm.MethodName) ({ cls := "BitDeskModel", name := "reduce", desc := "(II)I" } : Jvm.MethodName)) ∈ WS := ws_c7 202 rfl rfl
theorem lk_L_350 : LkV RL 350 jX7_reduce 2 := ⟨⟨wd_1734, ⟨rfl, (by rw [cwd_nil rfl]; exact wd_1737)⟩, wd_102, ⟨by decide +kernel, by decide +kernel⟩, by decide +kernel⟩, wd_1735, wd_1736⟩
theorem wd_1149 : (Jvm.Cond.codeWith ({ cls := "BitDeskLaw", name := "exchange", desc := "(LBitDesk;III[J)I" } : Jvm.MethodName) method_47_code (6 : Nat) (Option.some Jvm.ClassFile.FieldType.int) [((0 : Nat), (12 : Nat), (15 : Nat), (19 : Nat))]) ∈ WS := ws_c5 95 rfl rfl
theorem wd_1147 : (Jvm.Cond.methodLink "BitDeskLaw" (351 : Nat) ({ cls := "BitDeskLaw", name := "exchange", desc := "(LBitDesk;III[J)I" } : Jvm.MethodName)) ∈ WS := ws_c5 93 rfl rfl
theorem wd_1148 : (Jvm.Cond.static ({ cls := "BitDeskLaw", name := "exchange", desc := "(LBitDesk;III[J)I" } : Jvm.MethodName)) ∈ WS := ws_c5 94 rfl rfl
theorem lk_L_351 : LkSX RL 351 jL_exchange 5 := ⟨wd_1147, ⟨(by decide), (by rw [cwd_hh (by decide)]; exact wd_1149)⟩, wd_94, ⟨by decide +kernel, by decide +kernel⟩, by decide +kernel, wd_1148⟩
theorem wd_1745 : (Jvm.Cond.code ({ cls := "BitDeskModel", name := "exchange", desc := "(III)I" } : Jvm.MethodName) prog_9_method_111_code (7 : Nat) (Option.some Jvm.ClassFile.FieldType.int)) ∈ WS := ws_c7 211 rfl rfl
theorem wd_1742 : (Jvm.Cond.methodLink "BitDeskLaw" (353 : Nat) ({ cls := "BitDeskModel", name := "exchange", desc := "(III)I" } : Jvm.MethodName)) ∈ WS := ws_c7 208 rfl rfl
theorem wd_1743 : (Jvm.Cond.instanceMethod ({ cls := "BitDeskModel", name := "exchange", desc := "(III)I" } : Jvm.MethodName)) ∈ WS := ws_c7 209 rfl rfl
theorem wd_1744 : (Jvm.Cond.selects "BitDeskModel" ({ cls := "BitDeskModel", name := "exchange", desc := "(III)I" } : Jvm.MethodName) ({ cls := "BitDeskModel", name := "exchange", desc := "(III)I" } : Jvm.MethodName)) ∈ WS := ws_c7 210 rfl rfl
theorem lk_L_353 : LkV RL 353 jX7_exchange 3 := ⟨⟨wd_1742, ⟨rfl, (by rw [cwd_nil rfl]; exact wd_1745)⟩, wd_102, ⟨by decide +kernel, by decide +kernel⟩, by decide +kernel⟩, wd_1743, wd_1744⟩
theorem wd_1159 : (Jvm.Cond.codeWith ({ cls := "BitDeskLaw", name := "keep", desc := "(LBitDesk;IZ[J)I" } : Jvm.MethodName) method_48_code (5 : Nat) (Option.some Jvm.ClassFile.FieldType.int) [((0 : Nat), (10 : Nat), (13 : Nat), (19 : Nat))]) ∈ WS := ws_c5 105 rfl rfl
theorem wd_1157 : (Jvm.Cond.methodLink "BitDeskLaw" (354 : Nat) ({ cls := "BitDeskLaw", name := "keep", desc := "(LBitDesk;IZ[J)I" } : Jvm.MethodName)) ∈ WS := ws_c5 103 rfl rfl
theorem wd_1158 : (Jvm.Cond.static ({ cls := "BitDeskLaw", name := "keep", desc := "(LBitDesk;IZ[J)I" } : Jvm.MethodName)) ∈ WS := ws_c5 104 rfl rfl
theorem lk_L_354 : LkSX RL 354 jL_keep 4 := ⟨wd_1157, ⟨(by decide), (by rw [cwd_hh (by decide)]; exact wd_1159)⟩, wd_94, ⟨by decide +kernel, by decide +kernel⟩, by decide +kernel, wd_1158⟩
theorem wd_1752 : (Jvm.Cond.code ({ cls := "BitDeskModel", name := "keep", desc := "(IZ)I" } : Jvm.MethodName) prog_9_method_112_code (3 : Nat) (Option.some Jvm.ClassFile.FieldType.int)) ∈ WS := ws_c7 218 rfl rfl
theorem wd_1749 : (Jvm.Cond.methodLink "BitDeskLaw" (357 : Nat) ({ cls := "BitDeskModel", name := "keep", desc := "(IZ)I" } : Jvm.MethodName)) ∈ WS := ws_c7 215 rfl rfl
theorem wd_1750 : (Jvm.Cond.instanceMethod ({ cls := "BitDeskModel", name := "keep", desc := "(IZ)I" } : Jvm.MethodName)) ∈ WS := ws_c7 216 rfl rfl
theorem wd_1751 : (Jvm.Cond.selects "BitDeskModel" ({ cls := "BitDeskModel", name := "keep", desc := "(IZ)I" } : Jvm.MethodName) ({ cls := "BitDeskModel", name := "keep", desc := "(IZ)I" } : Jvm.MethodName)) ∈ WS := ws_c7 217 rfl rfl
theorem lk_L_357 : LkV RL 357 jX7_keep 2 := ⟨⟨wd_1749, ⟨rfl, (by rw [cwd_nil rfl]; exact wd_1752)⟩, wd_102, ⟨by decide +kernel, by decide +kernel⟩, by decide +kernel⟩, wd_1750, wd_1751⟩
theorem wd_1166 : (Jvm.Cond.codeWith ({ cls := "BitDeskLaw", name := "setBlock", desc := "(LBitDesk;I[J)I" } : Jvm.MethodName) method_49_code (4 : Nat) (Option.some Jvm.ClassFile.FieldType.int) [((0 : Nat), (9 : Nat), (12 : Nat), (13 : Nat))]) ∈ WS := ws_c5 112 rfl rfl
theorem wd_1164 : (Jvm.Cond.methodLink "BitDeskLaw" (358 : Nat) ({ cls := "BitDeskLaw", name := "setBlock", desc := "(LBitDesk;I[J)I" } : Jvm.MethodName)) ∈ WS := ws_c5 110 rfl rfl
theorem wd_1165 : (Jvm.Cond.static ({ cls := "BitDeskLaw", name := "setBlock", desc := "(LBitDesk;I[J)I" } : Jvm.MethodName)) ∈ WS := ws_c5 111 rfl rfl
theorem lk_L_358 : LkSX RL 358 jL_setBlock 3 := ⟨wd_1164, ⟨(by decide), (by rw [cwd_hh (by decide)]; exact wd_1166)⟩, wd_94, ⟨by decide +kernel, by decide +kernel⟩, by decide +kernel, wd_1165⟩
theorem wd_1756 : (Jvm.Cond.code ({ cls := "BitDeskModel", name := "setBlock", desc := "(I)I" } : Jvm.MethodName) prog_9_method_113_code (3 : Nat) (Option.some Jvm.ClassFile.FieldType.int)) ∈ WS := ws_c7 222 rfl rfl
theorem wd_1753 : (Jvm.Cond.methodLink "BitDeskLaw" (360 : Nat) ({ cls := "BitDeskModel", name := "setBlock", desc := "(I)I" } : Jvm.MethodName)) ∈ WS := ws_c7 219 rfl rfl
theorem wd_1754 : (Jvm.Cond.instanceMethod ({ cls := "BitDeskModel", name := "setBlock", desc := "(I)I" } : Jvm.MethodName)) ∈ WS := ws_c7 220 rfl rfl
theorem wd_1755 : (Jvm.Cond.selects "BitDeskModel" ({ cls := "BitDeskModel", name := "setBlock", desc := "(I)I" } : Jvm.MethodName) ({ cls := "BitDeskModel", name := "setBlock", desc := "(I)I" } : Jvm.MethodName)) ∈ WS := ws_c7 221 rfl rfl
theorem lk_L_360 : LkV RL 360 jX7_setBlock 1 := ⟨⟨wd_1753, ⟨rfl, (by rw [cwd_nil rfl]; exact wd_1756)⟩, wd_102, ⟨by decide +kernel, by decide +kernel⟩, by decide +kernel⟩, wd_1754, wd_1755⟩
theorem wd_1173 : (Jvm.Cond.codeWith ({ cls := "BitDeskLaw", name := "kept", desc := "(LBitDesk;II[J)I" } : Jvm.MethodName) method_50_code (5 : Nat) (Option.some Jvm.ClassFile.FieldType.int) [((0 : Nat), (10 : Nat), (13 : Nat), (19 : Nat)), ((0 : Nat), (10 : Nat), (17 : Nat), (13 : Nat))]) ∈ WS := ws_c5 119 rfl rfl
theorem wd_1171 : (Jvm.Cond.methodLink "BitDeskLaw" (361 : Nat) ({ cls := "BitDeskLaw", name := "kept", desc := "(LBitDesk;II[J)I" } : Jvm.MethodName)) ∈ WS := ws_c5 117 rfl rfl
theorem wd_1172 : (Jvm.Cond.static ({ cls := "BitDeskLaw", name := "kept", desc := "(LBitDesk;II[J)I" } : Jvm.MethodName)) ∈ WS := ws_c5 118 rfl rfl
theorem lk_L_361 : LkSX RL 361 jL_kept 4 := ⟨wd_1171, ⟨(by decide), (by rw [cwd_hh (by decide)]; exact wd_1173)⟩, wd_94, ⟨by decide +kernel, by decide +kernel⟩, by decide +kernel, wd_1172⟩
theorem wd_1761 : (Jvm.Cond.code ({ cls := "BitDeskModel", name := "kept", desc := "(II)I" } : Jvm.MethodName) prog_9_method_114_code (3 : Nat) (Option.some Jvm.ClassFile.FieldType.int)) ∈ WS := ws_c7 227 rfl rfl
theorem wd_1758 : (Jvm.Cond.methodLink "BitDeskLaw" (363 : Nat) ({ cls := "BitDeskModel", name := "kept", desc := "(II)I" } : Jvm.MethodName)) ∈ WS := ws_c7 224 rfl rfl
theorem wd_1759 : (Jvm.Cond.instanceMethod ({ cls := "BitDeskModel", name := "kept", desc := "(II)I" } : Jvm.MethodName)) ∈ WS := ws_c7 225 rfl rfl
theorem wd_1760 : (Jvm.Cond.selects "BitDeskModel" ({ cls := "BitDeskModel", name := "kept", desc := "(II)I" } : Jvm.MethodName) ({ cls := "BitDeskModel", name := "kept", desc := "(II)I" } : Jvm.MethodName)) ∈ WS := ws_c7 226 rfl rfl
theorem lk_L_363 : LkV RL 363 jX7_kept 2 := ⟨⟨wd_1758, ⟨rfl, (by rw [cwd_nil rfl]; exact wd_1761)⟩, wd_102, ⟨by decide +kernel, by decide +kernel⟩, by decide +kernel⟩, wd_1759, wd_1760⟩
theorem wd_1180 : (Jvm.Cond.codeWith ({ cls := "BitDeskLaw", name := "work", desc := "(LBitDesk;I[J)I" } : Jvm.MethodName) method_51_code (4 : Nat) (Option.some Jvm.ClassFile.FieldType.int) [((0 : Nat), (9 : Nat), (12 : Nat), (13 : Nat))]) ∈ WS := ws_c5 126 rfl rfl
theorem wd_1178 : (Jvm.Cond.methodLink "BitDeskLaw" (364 : Nat) ({ cls := "BitDeskLaw", name := "work", desc := "(LBitDesk;I[J)I" } : Jvm.MethodName)) ∈ WS := ws_c5 124 rfl rfl
theorem wd_1179 : (Jvm.Cond.static ({ cls := "BitDeskLaw", name := "work", desc := "(LBitDesk;I[J)I" } : Jvm.MethodName)) ∈ WS := ws_c5 125 rfl rfl
theorem lk_L_364 : LkSX RL 364 jL_work 3 := ⟨wd_1178, ⟨(by decide), (by rw [cwd_hh (by decide)]; exact wd_1180)⟩, wd_94, ⟨by decide +kernel, by decide +kernel⟩, by decide +kernel, wd_1179⟩
theorem wd_1766 : (Jvm.Cond.code ({ cls := "BitDeskModel", name := "work", desc := "(I)I" } : Jvm.MethodName) prog_9_method_115_code (2 : Nat) (Option.some Jvm.ClassFile.FieldType.int)) ∈ WS := ws_c7 232 rfl rfl
theorem wd_1763 : (Jvm.Cond.methodLink "BitDeskLaw" (366 : Nat) ({ cls := "BitDeskModel", name := "work", desc := "(I)I" } : Jvm.MethodName)) ∈ WS := ws_c7 229 rfl rfl
theorem wd_1764 : (Jvm.Cond.instanceMethod ({ cls := "BitDeskModel", name := "work", desc := "(I)I" } : Jvm.MethodName)) ∈ WS := ws_c7 230 rfl rfl
theorem wd_1765 : (Jvm.Cond.selects "BitDeskModel" ({ cls := "BitDeskModel", name := "work", desc := "(I)I" } : Jvm.MethodName) ({ cls := "BitDeskModel", name := "work", desc := "(I)I" } : Jvm.MethodName)) ∈ WS := ws_c7 231 rfl rfl
theorem lk_L_366 : LkV RL 366 jX7_work 1 := ⟨⟨wd_1763, ⟨rfl, (by rw [cwd_nil rfl]; exact wd_1766)⟩, wd_102, ⟨by decide +kernel, by decide +kernel⟩, by decide +kernel⟩, wd_1764, wd_1765⟩
theorem wd_1187 : (Jvm.Cond.codeWith ({ cls := "BitDeskLaw", name := "writeRow", desc := "(LBitDesk;II[J)I" } : Jvm.MethodName) method_52_code (5 : Nat) (Option.some Jvm.ClassFile.FieldType.int) [((0 : Nat), (10 : Nat), (13 : Nat), (19 : Nat))]) ∈ WS := ws_c5 133 rfl rfl
theorem wd_1185 : (Jvm.Cond.methodLink "BitDeskLaw" (367 : Nat) ({ cls := "BitDeskLaw", name := "writeRow", desc := "(LBitDesk;II[J)I" } : Jvm.MethodName)) ∈ WS := ws_c5 131 rfl rfl
theorem wd_1186 : (Jvm.Cond.static ({ cls := "BitDeskLaw", name := "writeRow", desc := "(LBitDesk;II[J)I" } : Jvm.MethodName)) ∈ WS := ws_c5 132 rfl rfl
theorem lk_L_367 : LkSX RL 367 jL_writeRow 4 := ⟨wd_1185, ⟨(by decide), (by rw [cwd_hh (by decide)]; exact wd_1187)⟩, wd_94, ⟨by decide +kernel, by decide +kernel⟩, by decide +kernel, wd_1186⟩
theorem wd_1770 : (Jvm.Cond.code ({ cls := "BitDeskModel", name := "writeRow", desc := "(II)I" } : Jvm.MethodName) prog_9_method_116_code (4 : Nat) (Option.some Jvm.ClassFile.FieldType.int)) ∈ WS := ws_c7 236 rfl rfl
theorem wd_1767 : (Jvm.Cond.methodLink "BitDeskLaw" (369 : Nat) ({ cls := "BitDeskModel", name := "writeRow", desc := "(II)I" } : Jvm.MethodName)) ∈ WS := ws_c7 233 rfl rfl
theorem wd_1768 : (Jvm.Cond.instanceMethod ({ cls := "BitDeskModel", name := "writeRow", desc := "(II)I" } : Jvm.MethodName)) ∈ WS := ws_c7 234 rfl rfl
theorem wd_1769 : (Jvm.Cond.selects "BitDeskModel" ({ cls := "BitDeskModel", name := "writeRow", desc := "(II)I" } : Jvm.MethodName) ({ cls := "BitDeskModel", name := "writeRow", desc := "(II)I" } : Jvm.MethodName)) ∈ WS := ws_c7 235 rfl rfl
theorem lk_L_369 : LkV RL 369 jX7_writeRow 2 := ⟨⟨wd_1767, ⟨rfl, (by rw [cwd_nil rfl]; exact wd_1770)⟩, wd_102, ⟨by decide +kernel, by decide +kernel⟩, by decide +kernel⟩, wd_1768, wd_1769⟩
theorem wd_527 : (Jvm.Cond.code ({ cls := "BitDesk", name := "outputByte", desc := "(I)I" } : Jvm.MethodName) prog_1_method_56_code (2 : Nat) (Option.some Jvm.ClassFile.FieldType.int)) ∈ WS := ws_c2 193 rfl rfl
theorem wd_524 : (Jvm.Cond.methodLink "BitDeskLaw" (370 : Nat) ({ cls := "BitDesk", name := "outputByte", desc := "(I)I" } : Jvm.MethodName)) ∈ WS := ws_c2 190 rfl rfl
theorem wd_525 : (Jvm.Cond.instanceMethod ({ cls := "BitDesk", name := "outputByte", desc := "(I)I" } : Jvm.MethodName)) ∈ WS := ws_c2 191 rfl rfl
theorem wd_526 : (Jvm.Cond.selects "BitDesk" ({ cls := "BitDesk", name := "outputByte", desc := "(I)I" } : Jvm.MethodName) ({ cls := "BitDesk", name := "outputByte", desc := "(I)I" } : Jvm.MethodName)) ∈ WS := ws_c2 192 rfl rfl
theorem lk_L_370 : LkV RL 370 jX6_outputByte 1 := ⟨⟨wd_524, ⟨rfl, (by rw [cwd_nil rfl]; exact wd_527)⟩, wd_95, ⟨by decide +kernel, by decide +kernel⟩, by decide +kernel⟩, wd_525, wd_526⟩
theorem wd_1774 : (Jvm.Cond.code ({ cls := "BitDeskModel", name := "outputByte", desc := "(I)I" } : Jvm.MethodName) prog_9_method_117_code (2 : Nat) (Option.some Jvm.ClassFile.FieldType.int)) ∈ WS := ws_c8 0 rfl rfl
theorem wd_1771 : (Jvm.Cond.methodLink "BitDeskLaw" (373 : Nat) ({ cls := "BitDeskModel", name := "outputByte", desc := "(I)I" } : Jvm.MethodName)) ∈ WS := ws_c7 237 rfl rfl
theorem wd_1772 : (Jvm.Cond.instanceMethod ({ cls := "BitDeskModel", name := "outputByte", desc := "(I)I" } : Jvm.MethodName)) ∈ WS := ws_c7 238 rfl rfl
theorem wd_1773 : (Jvm.Cond.selects "BitDeskModel" ({ cls := "BitDeskModel", name := "outputByte", desc := "(I)I" } : Jvm.MethodName) ({ cls := "BitDeskModel", name := "outputByte", desc := "(I)I" } : Jvm.MethodName)) ∈ WS := ws_c7 239 rfl rfl
theorem lk_L_373 : LkV RL 373 jX7_outputByte 1 := ⟨⟨wd_1771, ⟨rfl, (by rw [cwd_nil rfl]; exact wd_1774)⟩, wd_102, ⟨by decide +kernel, by decide +kernel⟩, by decide +kernel⟩, wd_1772, wd_1773⟩
theorem wd_531 : (Jvm.Cond.code ({ cls := "BitDesk", name := "undo", desc := "()I" } : Jvm.MethodName) prog_1_method_57_code (1 : Nat) (Option.some Jvm.ClassFile.FieldType.int)) ∈ WS := ws_c2 197 rfl rfl
theorem wd_528 : (Jvm.Cond.methodLink "BitDeskLaw" (374 : Nat) ({ cls := "BitDesk", name := "undo", desc := "()I" } : Jvm.MethodName)) ∈ WS := ws_c2 194 rfl rfl
theorem wd_529 : (Jvm.Cond.instanceMethod ({ cls := "BitDesk", name := "undo", desc := "()I" } : Jvm.MethodName)) ∈ WS := ws_c2 195 rfl rfl
theorem wd_530 : (Jvm.Cond.selects "BitDesk" ({ cls := "BitDesk", name := "undo", desc := "()I" } : Jvm.MethodName) ({ cls := "BitDesk", name := "undo", desc := "()I" } : Jvm.MethodName)) ∈ WS := ws_c2 196 rfl rfl
theorem lk_L_374 : LkV RL 374 jX6_undo 0 := ⟨⟨wd_528, ⟨rfl, (by rw [cwd_nil rfl]; exact wd_531)⟩, wd_95, ⟨by decide +kernel, by decide +kernel⟩, by decide +kernel⟩, wd_529, wd_530⟩
theorem wd_1669 : (Jvm.Cond.code ({ cls := "BitDeskModel", name := "undo", desc := "()I" } : Jvm.MethodName) prog_9_method_91_code (1 : Nat) (Option.some Jvm.ClassFile.FieldType.int)) ∈ WS := ws_c7 135 rfl rfl
theorem wd_1666 : (Jvm.Cond.methodLink "BitDeskLaw" (377 : Nat) ({ cls := "BitDeskModel", name := "undo", desc := "()I" } : Jvm.MethodName)) ∈ WS := ws_c7 132 rfl rfl
theorem wd_1667 : (Jvm.Cond.instanceMethod ({ cls := "BitDeskModel", name := "undo", desc := "()I" } : Jvm.MethodName)) ∈ WS := ws_c7 133 rfl rfl
theorem wd_1668 : (Jvm.Cond.selects "BitDeskModel" ({ cls := "BitDeskModel", name := "undo", desc := "()I" } : Jvm.MethodName) ({ cls := "BitDeskModel", name := "undo", desc := "()I" } : Jvm.MethodName)) ∈ WS := ws_c7 134 rfl rfl
theorem lk_L_377 : LkV RL 377 jX7_undo 0 := ⟨⟨wd_1666, ⟨rfl, (by rw [cwd_nil rfl]; exact wd_1669)⟩, wd_102, ⟨by decide +kernel, by decide +kernel⟩, by decide +kernel⟩, wd_1667, wd_1668⟩
theorem wd_1194 : (Jvm.Cond.codeWith ({ cls := "BitDeskLaw", name := "saveSnapshot", desc := "(LBitDesk;I[J)I" } : Jvm.MethodName) method_53_code (4 : Nat) (Option.some Jvm.ClassFile.FieldType.int) [((0 : Nat), (9 : Nat), (12 : Nat), (13 : Nat))]) ∈ WS := ws_c5 140 rfl rfl
theorem wd_1192 : (Jvm.Cond.methodLink "BitDeskLaw" (378 : Nat) ({ cls := "BitDeskLaw", name := "saveSnapshot", desc := "(LBitDesk;I[J)I" } : Jvm.MethodName)) ∈ WS := ws_c5 138 rfl rfl
theorem wd_1193 : (Jvm.Cond.static ({ cls := "BitDeskLaw", name := "saveSnapshot", desc := "(LBitDesk;I[J)I" } : Jvm.MethodName)) ∈ WS := ws_c5 139 rfl rfl
theorem lk_L_378 : LkSX RL 378 jL_saveSnapshot 3 := ⟨wd_1192, ⟨(by decide), (by rw [cwd_hh (by decide)]; exact wd_1194)⟩, wd_94, ⟨by decide +kernel, by decide +kernel⟩, by decide +kernel, wd_1193⟩
theorem wd_1778 : (Jvm.Cond.code ({ cls := "BitDeskModel", name := "saveSnapshot", desc := "(I)I" } : Jvm.MethodName) prog_9_method_118_code (2 : Nat) (Option.some Jvm.ClassFile.FieldType.int)) ∈ WS := ws_c8 4 rfl rfl
theorem wd_1775 : (Jvm.Cond.methodLink "BitDeskLaw" (380 : Nat) ({ cls := "BitDeskModel", name := "saveSnapshot", desc := "(I)I" } : Jvm.MethodName)) ∈ WS := ws_c8 1 rfl rfl
theorem wd_1776 : (Jvm.Cond.instanceMethod ({ cls := "BitDeskModel", name := "saveSnapshot", desc := "(I)I" } : Jvm.MethodName)) ∈ WS := ws_c8 2 rfl rfl
theorem wd_1777 : (Jvm.Cond.selects "BitDeskModel" ({ cls := "BitDeskModel", name := "saveSnapshot", desc := "(I)I" } : Jvm.MethodName) ({ cls := "BitDeskModel", name := "saveSnapshot", desc := "(I)I" } : Jvm.MethodName)) ∈ WS := ws_c8 3 rfl rfl
theorem lk_L_380 : LkV RL 380 jX7_saveSnapshot 1 := ⟨⟨wd_1775, ⟨rfl, (by rw [cwd_nil rfl]; exact wd_1778)⟩, wd_102, ⟨by decide +kernel, by decide +kernel⟩, by decide +kernel⟩, wd_1776, wd_1777⟩
theorem wd_1201 : (Jvm.Cond.codeWith ({ cls := "BitDeskLaw", name := "restoreSnapshot", desc := "(LBitDesk;I[J)I" } : Jvm.MethodName) method_54_code (4 : Nat) (Option.some Jvm.ClassFile.FieldType.int) [((0 : Nat), (9 : Nat), (12 : Nat), (13 : Nat))]) ∈ WS := ws_c5 147 rfl rfl
theorem wd_1199 : (Jvm.Cond.methodLink "BitDeskLaw" (381 : Nat) ({ cls := "BitDeskLaw", name := "restoreSnapshot", desc := "(LBitDesk;I[J)I" } : Jvm.MethodName)) ∈ WS := ws_c5 145 rfl rfl
theorem wd_1200 : (Jvm.Cond.static ({ cls := "BitDeskLaw", name := "restoreSnapshot", desc := "(LBitDesk;I[J)I" } : Jvm.MethodName)) ∈ WS := ws_c5 146 rfl rfl
theorem lk_L_381 : LkSX RL 381 jL_restoreSnapshot 3 := ⟨wd_1199, ⟨(by decide), (by rw [cwd_hh (by decide)]; exact wd_1201)⟩, wd_94, ⟨by decide +kernel, by decide +kernel⟩, by decide +kernel, wd_1200⟩
theorem wd_1782 : (Jvm.Cond.code ({ cls := "BitDeskModel", name := "restoreSnapshot", desc := "(I)I" } : Jvm.MethodName) prog_9_method_119_code (2 : Nat) (Option.some Jvm.ClassFile.FieldType.int)) ∈ WS := ws_c8 8 rfl rfl
theorem wd_1779 : (Jvm.Cond.methodLink "BitDeskLaw" (383 : Nat) ({ cls := "BitDeskModel", name := "restoreSnapshot", desc := "(I)I" } : Jvm.MethodName)) ∈ WS := ws_c8 5 rfl rfl
theorem wd_1780 : (Jvm.Cond.instanceMethod ({ cls := "BitDeskModel", name := "restoreSnapshot", desc := "(I)I" } : Jvm.MethodName)) ∈ WS := ws_c8 6 rfl rfl
theorem wd_1781 : (Jvm.Cond.selects "BitDeskModel" ({ cls := "BitDeskModel", name := "restoreSnapshot", desc := "(I)I" } : Jvm.MethodName) ({ cls := "BitDeskModel", name := "restoreSnapshot", desc := "(I)I" } : Jvm.MethodName)) ∈ WS := ws_c8 7 rfl rfl
theorem lk_L_383 : LkV RL 383 jX7_restoreSnapshot 1 := ⟨⟨wd_1779, ⟨rfl, (by rw [cwd_nil rfl]; exact wd_1782)⟩, wd_102, ⟨by decide +kernel, by decide +kernel⟩, by decide +kernel⟩, wd_1780, wd_1781⟩
end
-- 506.try
section
/-! calls in a body with handlers, calls of methods with handlers: ends that are known -/
section
variable {l : Launch} {J : Jm} {F L MC MS : Nat} {Q : Res → Mem → Prop} {pc : Nat} {lv : List (Nat × Value)} {st : List Value} {k n : Nat} {M : Mem}
theorem g_tV_r {ix nA F' L' mc' ms' : Nat} {J' : Jm} {As rest : List Value} {id ci : Nat} {q0 : vw_C} {k0 n0 : Nat} {v : Option Value} {M' : Mem} (hd : decode J.2.1 pc = .ok (.invokevirtual ix, 3)) (hst : st = As.reverse ++ .ref id :: rest) (hE : EvR l J' F' L' mc' ms' (.ref id :: As) M (.inl v) M') (hk9 : k0 = k + mc') (hn9 : n0 = n + ms') (hk : (mK M)[id]? = some (.inr ci)) (hc0 : vwCl[ci]? = some q0) (hq0 : q0.1 = J'.1.cls) (hlk : LkV J.1.cls ix J' nA) (hn : As.length = nA) (hcat : (rest.map fun v => v.category).sum ≤ 8) (hF : F' + 1 ≤ F ∧ 8 + (J'.2.2.1 + 11) + L' ≤ L) (hi : 0 < J.2.2.1) (kk : Go l J F L MC MS Q (pc + 3) lv (v.toList ++ rest) k n M') : Go l J F L MC MS Q pc lv st k0 n0 M := by
  subst hk9; subst hn9
  exact g_invV_try_n (j := 0) hd hlk hn hcat hF hE hst hk hc0 hq0 (fun v1 M1 h => by obtain ⟨h1, h2⟩ := h; cases h1; subst h2; exact kk) hi (fun E M1 h => by cases h.1)
theorem g_tVn_x {ix nA F' L' mc' ms' : Nat} {J' : Jm} {As rest : List Value} {id ci : Nat} {q0 : vw_C} {k0 n0 hpc : Nat} {E : String} {M' : Mem} {j : Fin 4} (hd : decode J.2.1 pc = .ok (.invokevirtual ix, 3)) (hst : st = As.reverse ++ .ref id :: rest) (hE : EvR l J' F' L' mc' ms' (.ref id :: As) M (.inr E) M') (hk9 : k0 = k + mc') (hn9 : n0 = n + ms') (hk : (mK M)[id]? = some (.inr ci)) (hc0 : vwCl[ci]? = some q0) (hq0 : q0.1 = J'.1.cls) (hlk : LkV J.1.cls ix J' nA) (hn : As.length = nA) (hcat : (rest.map fun v => v.category).sum ≤ 8) (hF : F' + 1 ≤ F ∧ 8 + (J'.2.2.1 + 11) + L' ≤ L) (hH : Hnd J pc E hpc) (hdh : decode J.2.1 hpc = .ok (.astore_n j, 1)) (hi : j.val < J.2.2.1) (kk : Go l J F L MC MS Q (hpc + 1) (lvF1 j.val lv) [] k n M') : Go l J F L MC MS Q pc lv st k0 n0 M := by
  subst hk9; subst hn9
  exact g_invV_try_n (j := j) hd hlk hn hcat hF hE hst hk hc0 hq0 (fun v1 M1 h => by cases h.1) hi (fun E1 M1 h => by obtain ⟨h1, h2⟩ := h; cases h1; subst h2; exact ⟨hpc, hH, hdh, kk⟩)
theorem g_tVw_x {ix nA F' L' mc' ms' : Nat} {J' : Jm} {As rest : List Value} {id ci : Nat} {q0 : vw_C} {k0 n0 hpc : Nat} {E : String} {M' : Mem} {i : Nat} (hd : decode J.2.1 pc = .ok (.invokevirtual ix, 3)) (hst : st = As.reverse ++ .ref id :: rest) (hE : EvR l J' F' L' mc' ms' (.ref id :: As) M (.inr E) M') (hk9 : k0 = k + mc') (hn9 : n0 = n + ms') (hk : (mK M)[id]? = some (.inr ci)) (hc0 : vwCl[ci]? = some q0) (hq0 : q0.1 = J'.1.cls) (hlk : LkV J.1.cls ix J' nA) (hn : As.length = nA) (hcat : (rest.map fun v => v.category).sum ≤ 8) (hF : F' + 1 ≤ F ∧ 8 + (J'.2.2.1 + 11) + L' ≤ L) (hH : Hnd J pc E hpc) (hdh : decode J.2.1 hpc = .ok (.astore i, 2)) (hi : i < J.2.2.1) (kk : Go l J F L MC MS Q (hpc + 2) (lvF1 i lv) [] k n M') : Go l J F L MC MS Q pc lv st k0 n0 M := by
  subst hk9; subst hn9
  exact g_invV_try_w (i := i) hd hlk hn hcat hF hE hst hk hc0 hq0 (fun v1 M1 h => by cases h.1) hi (fun E1 M1 h => by obtain ⟨h1, h2⟩ := h; cases h1; subst h2; exact ⟨hpc, hH, hdh, kk⟩)
theorem g_invSX_r {ix nA F' L' mc' ms' : Nat} {J' : Jm} {As rest : List Value} {k0 n0 : Nat} {v : Option Value} {M' : Mem} (hd : decode J.2.1 pc = .ok (.invokestatic ix, 3)) (hst : st = As.reverse ++ rest) (hE : EvR l J' F' L' mc' ms' As M (.inl v) M') (hk9 : k0 = k + mc') (hn9 : n0 = n + ms') (hlk : LkSX J.1.cls ix J' nA) (hn : As.length = nA) (hcat : (rest.map fun v => v.category).sum ≤ 8) (hF : F' + 1 ≤ F ∧ 8 + (J'.2.2.1 + 11) + L' ≤ L) (hh : J.2.2.2.2 = []) (kk : Go l J F L MC MS Q (pc + 3) lv (v.toList ++ rest) k n M') : Go l J F L MC MS Q pc lv st k0 n0 M := by
  subst hk9; subst hn9
  exact g_invSX hd hlk hn hcat hF hE hst hh (fun v1 M1 h => by obtain ⟨h1, h2⟩ := h; cases h1; subst h2; exact kk) (fun E M1 h => by cases h.1)
end
end
