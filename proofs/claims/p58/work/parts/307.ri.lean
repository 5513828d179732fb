/-! the reference: inverses; edges that are not needed -/
section
variable {l : Launch} {M : Mem} {n c : Nat} {A : Nat → Nat → Int32}
/-- elimination beside the unit -/
def ivR (M : Mem) (n : Nat) (f : Nat → Int32) : ES := elIt n (f, bitI, mI M 210, 0) n
theorem ivR_c (M : Mem) (n : Nat) (f : Nat → Int32) : (ivR M n f).2.2.2 ≤ n := by
  have := elIt_c n (f, bitI, mI M 210, 0) n
  unfold ivR; simp only at this; omega
theorem r_unitBeside {s t : Nat} {Q : Res → Mem → Prop} (h : Rr M n A) (hs : s < 6) (ht : t < 6) (kk : Go l jX7_invert 4 160 0 0 Q 54 [(0, .ref 198), (1, .int (nI s)), (2, .int (nI t))] [] 0 0 (sL (thr M 0) 209 (wr (mL (thr M 0) 209) (uR bitI) n))) : Go l jX7_invert 4 160 0 0 Q 0 [(0, .ref 198), (1, .int (nI s)), (2, .int (nI t))] [] 0 0 M := by
  have hn := h.2.2.2.1
  have hS := h.1
  have h1 : Rr (thr M 0) n A := h.thr
  have e0 : pI M 198 6 0 = thr M 0 := rfl
  have q0 := r_isThrown_0 (l := l) (x := 1) hS
  generalize thr M 0 = M1 at *
  refine g_aload_n (pc := 0) dX7_invert_0 rfl trivial ?_
  refine g_iload_n (pc := 1) dX7_invert_1 rfl ?_
  refine g_invS_r (pc := 2) (As := [_]) dX7_invert_2 rfl (r_isSlot_t (in6 hs)) rfl rfl lk_X7_216 rfl (nb rfl) ⟨nb rfl, nb rfl⟩ rfl ?_
  refine g_if_eq (pc := 5) (tgt := 19) dX7_invert_5 rfl (fun h5 => absurd h5 ((by decide))) (fun _ => ?_)
  refine g_iload_n (pc := 8) dX7_invert_8 rfl ?_
  refine g_invS_r (pc := 9) (As := [_]) dX7_invert_9 rfl (r_isSlot_t (in6 ht)) rfl rfl lk_X7_216 rfl (nb rfl) ⟨nb rfl, nb rfl⟩ rfl ?_
  refine g_if_eq (pc := 12) (tgt := 19) dX7_invert_12 rfl (fun h12 => absurd h12 ((by decide))) (fun _ => ?_)
  refine g_iconst (pc := 15) (v := 1) dX7_invert_15 rfl ?_
  refine g_goto (pc := 16) (tgt := 20) dX7_invert_16 rfl ?_
  refine g_iconst (pc := 20) (v := 1) dX7_invert_20 rfl ?_
  refine g_invV_r (pc := 21) (As := [_, _]) dX7_invert_21 rfl (q0) rfl rfl (shK hS rfl) rfl rfl lk_X7_209 rfl (nb rfl) ⟨nb rfl, nb rfl⟩ rfl ?_
  refine g_if_eq (pc := 24) (tgt := 29) dX7_invert_24 rfl (fun _ => ?_) (fun h24 => absurd (rfl) h24)
  refine g_iconst (pc := 29) (v := 0) dX7_invert_29 rfl ?_
  refine g_istore_n (pc := 30) (lv' := [(0, _), (1, _), (2, _), (3, _)]) dX7_invert_30 (nl rfl) rfl ?_
  refine go_loop (pc := 31) n (fun i => [(0, .ref 198), (1, .int (nI s)), (2, .int (nI t)), (3, .int (nI i))]) (fun i => sL M1 209 (wr (mL M1 209) (uR bitI) i)) ⟨rfl, rfl, rfl, rfl, trivial⟩ (sL_eq (wr_0 _ _)) ?_ ?_
  · intro i hi ih
    have h3 : Rr (sL M1 209 (wr (mL M1 209) (uR bitI) i)) n A := h1.sL (by decide)
    refine g_iload_n (pc := 31) dX7_invert_31 rfl ?_
    refine g_aload_n (pc := 32) dX7_invert_32 rfl trivial ?_
    refine g_invV_r (pc := 33) (As := []) dX7_invert_33 rfl (r_size h3) rfl rfl (shK h3.1 rfl) rfl rfl lk_X7_71 rfl (nb rfl) ⟨nb rfl, nb rfl⟩ rfl ?_
    refine g_icmp_ge (pc := 36) (tgt := 54) dX7_invert_36 rfl (fun h36 => absurd h36 (nI_ge hi (by omega))) (fun _ => ?_)
    refine g_aload_n (pc := 39) dX7_invert_39 rfl trivial ?_
    refine g_getf (pc := 40) dX7_invert_40 fk_X7_47 (shK h3.1 rfl) (fv_arr (shR h3.1 rfl)) ?_
    refine g_iload_n (pc := 43) dX7_invert_43 rfl ?_
    refine g_lconst (pc := 44) (v := 1) dX7_invert_44 rfl ?_
    refine g_iload_n (pc := 45) dX7_invert_45 rfl ?_
    refine g_lshl (pc := 46) dX7_invert_46 rfl ?_
    rw [sh_bit i (by omega)]
    refine g_lastore (pc := 47) dX7_invert_47 (shK h3.1 rfl) rfl (by omega) (nl rfl) ?_
    refine g_iinc (pc := 48) (lv' := [(0, _), (1, _), (2, _), (3, _)]) dX7_invert_48 rfl (nI_1 _) (nl rfl) rfl ?_
    refine g_goto (pc := 51) (tgt := 31) dX7_invert_51 rfl ?_
    exact go_cast (sL_st (wr_s _ (uR bitI) i)) ih
  · have h3 : Rr (sL M1 209 (wr (mL M1 209) (uR bitI) n)) n A := h1.sL (by decide)
    refine g_iload_n (pc := 31) dX7_invert_31 rfl ?_
    refine g_aload_n (pc := 32) dX7_invert_32 rfl trivial ?_
    refine g_invV_r (pc := 33) (As := []) dX7_invert_33 rfl (r_size h3) rfl rfl (shK h3.1 rfl) rfl rfl lk_X7_71 rfl (nb rfl) ⟨nb rfl, nb rfl⟩ rfl ?_
    refine g_icmp_ge (pc := 36) (tgt := 54) dX7_invert_36 rfl (fun _ => ?_) (fun h36 => absurd (nI_le (Nat.le_refl _) (by omega)) h36)
    exact g_sub (lv' := [(0, _), (1, _), (2, _)]) ⟨rfl, rfl, rfl, trivial⟩ kk
theorem o_invert {s t : Nat} (h : Rr M n A) (hs : s < 6) (ht : t < 6) (hsi : (ivR (thr M 0) n (A s)).2.2.2 < n) : EvR l jX7_invert 4 160 0 0 [.ref 198, .int (nI s), .int (nI t)] M (.inl (some (.int (-3)))) (rbM (thr M 0) n (ivR (thr M 0) n (A s))) := by
  have hn := h.2.2.2.1
  have h1 : Rr (thr M 0) n A := h.thr
  have h2 : Rr (sL (thr M 0) 209 (wr (mL (thr M 0) 209) (uR bitI) n)) n A := h1.sL (by decide)
  have q1 := r_reduces (l := l) (R := bitI) h2 hs (fun i hi => by rw [sL_self, wr_lt hi]; rfl)
  rw [rb_sL] at q1
  have q1 : EvR l jX7_reduces 2 60 0 0 [.ref 198, .int (nI s)] (sL (thr M 0) 209 (wr (mL (thr M 0) 209) (uR bitI) n)) (.inl none) (rbM (thr M 0) n (ivR (thr M 0) n (A s))) := q1
  have h3 := rb_R h1 (ivR (thr M 0) n (A s))
  have ec := rb_c (M := thr M 0) (n := n) (ivR (thr M 0) n (A s))
  generalize ivR (thr M 0) n (A s) = E at *
  generalize rbM (thr M 0) n E = M3 at *
  refine ev_intro rfl (nb rfl) rfl ?_
  refine r_unitBeside h hs ht ?_
  generalize sL (thr M 0) 209 (wr (mL (thr M 0) 209) (uR bitI) n) = M2 at *
  refine g_aload_n (pc := 54) dX7_invert_54 rfl trivial ?_
  refine g_iload_n (pc := 55) dX7_invert_55 rfl ?_
  refine g_invV_r (pc := 56) (As := [_]) dX7_invert_56 rfl (q1) rfl rfl (shK h2.1 rfl) rfl rfl lk_X7_303 rfl (nb rfl) ⟨nb rfl, nb rfl⟩ rfl ?_
  refine g_aload_n (pc := 59) dX7_invert_59 rfl trivial ?_
  refine g_getf (pc := 60) (v := .int _) dX7_invert_60 fk_X7_297 (shK h3.1 rfl) (fun _ => congrArg Value.int (ec)) ?_
  refine g_aload_n (pc := 63) dX7_invert_63 rfl trivial ?_
  refine g_invV_r (pc := 64) (As := []) dX7_invert_64 rfl (r_size h3) rfl rfl (shK h3.1 rfl) rfl rfl lk_X7_71 rfl (nb rfl) ⟨nb rfl, nb rfl⟩ rfl ?_
  refine g_icmp_ge (pc := 67) (tgt := 73) dX7_invert_67 rfl (fun h67 => absurd h67 (nI_ge hsi (by omega))) (fun _ => ?_)
  refine g_bipush (pc := 70) (v := (-3)) dX7_invert_70 rfl ?_
  refine g_ireturn (pc := 72) dX7_invert_72 rfl rfl ?_
  exact ⟨rfl, rfl⟩
/-- the memory behind an inverse -/
def inM (M : Mem) (n t : Nat) (f : Nat → Int32) (c : Nat) : Mem := lsM (kepM (rbM (thr M 0) n (ivR (thr M 0) n f)) c) t n (ivR (thr M 0) n f).2.1
theorem n_invert {s t : Nat} (h : Rr M n A) (hc : mI M 198 5 = nI c) (hc8 : c ≤ 8) (hs : s < 6) (ht : t < 6) (hsi : ¬ (ivR (thr M 0) n (A s)).2.2.2 < n) : EvR l jX7_invert 4 160 0 0 [.ref 198, .int (nI s), .int (nI t)] M (.inl (some (.int (onesF (ivR (thr M 0) n (A s)).2.1 n)))) (inM M n t (A s) c) := by
  have hn := h.2.2.2.1
  have h1 : Rr (thr M 0) n A := h.thr
  have h2 : Rr (sL (thr M 0) 209 (wr (mL (thr M 0) 209) (uR bitI) n)) n A := h1.sL (by decide)
  have q1 := r_reduces (l := l) (R := bitI) h2 hs (fun i hi => by rw [sL_self, wr_lt hi]; rfl)
  rw [rb_sL] at q1
  have q1 : EvR l jX7_reduces 2 60 0 0 [.ref 198, .int (nI s)] (sL (thr M 0) 209 (wr (mL (thr M 0) 209) (uR bitI) n)) (.inl none) (rbM (thr M 0) n (ivR (thr M 0) n (A s))) := q1
  have h3 := rb_R h1 (ivR (thr M 0) n (A s))
  have ec := rb_c (M := thr M 0) (n := n) (ivR (thr M 0) n (A s))
  have er := fun i (hi : i < n) => rb_r (M := thr M 0) (s := ivR (thr M 0) n (A s)) hi
  have ec5 : mI (rbM (thr M 0) n (ivR (thr M 0) n (A s))) 198 5 = nI c := by rw [rb_c0, fs_ne _ _ (by decide)]; exact (pI_k (by decide)).trans hc
  have hcn := ivR_c (thr M 0) n (A s)
  unfold inM
  generalize ivR (thr M 0) n (A s) = E at *
  generalize rbM (thr M 0) n E = M3 at *
  have q2 := r_keeps (l := l) h3 ec5 hc8
  have h4 : Rr (kepM M3 c) n A := kepM_R h3
  have q3 := r_lays (l := l) (x := 209) (f := E.2.1) h4 ht (shK h4.1 rfl) (by decide) (fun i hi => by rw [show mL (kepM M3 c) 209 = mL M3 209 from sL_ne (by decide)]; exact er i hi)
  generalize lsM (kepM M3 c) t n E.2.1 = M5 at *
  generalize kepM M3 c = M4 at *
  refine ev_intro rfl (nb rfl) rfl ?_
  refine r_unitBeside h hs ht ?_
  generalize sL (thr M 0) 209 (wr (mL (thr M 0) 209) (uR bitI) n) = M2 at *
  refine g_aload_n (pc := 54) dX7_invert_54 rfl trivial ?_
  refine g_iload_n (pc := 55) dX7_invert_55 rfl ?_
  refine g_invV_r (pc := 56) (As := [_]) dX7_invert_56 rfl (q1) rfl rfl (shK h2.1 rfl) rfl rfl lk_X7_303 rfl (nb rfl) ⟨nb rfl, nb rfl⟩ rfl ?_
  refine g_aload_n (pc := 59) dX7_invert_59 rfl trivial ?_
  refine g_getf (pc := 60) (v := .int _) dX7_invert_60 fk_X7_297 (shK h3.1 rfl) (fun _ => congrArg Value.int (ec)) ?_
  refine g_aload_n (pc := 63) dX7_invert_63 rfl trivial ?_
  refine g_invV_r (pc := 64) (As := []) dX7_invert_64 rfl (r_size h3) rfl rfl (shK h3.1 rfl) rfl rfl lk_X7_71 rfl (nb rfl) ⟨nb rfl, nb rfl⟩ rfl ?_
  refine g_icmp_ge (pc := 67) (tgt := 73) dX7_invert_67 rfl (fun _ => ?_) (fun h67 => absurd (nI_le (Nat.not_lt.mp hsi) (by omega)) h67)
  refine g_aload_n (pc := 73) dX7_invert_73 rfl trivial ?_
  refine g_invV_r (pc := 74) (As := []) dX7_invert_74 rfl (q2) rfl rfl (shK h3.1 rfl) rfl rfl lk_X7_315 rfl (nb rfl) ⟨nb rfl, nb rfl⟩ rfl ?_
  refine g_aload_n (pc := 77) dX7_invert_77 rfl trivial ?_
  refine g_aload_n (pc := 78) dX7_invert_78 rfl trivial ?_
  refine g_getf (pc := 79) dX7_invert_79 fk_X7_47 (shK h4.1 rfl) (fv_arr (shR h4.1 rfl)) ?_
  refine g_iload_n (pc := 82) dX7_invert_82 rfl ?_
  refine g_invV_r (pc := 83) (As := [_, _]) dX7_invert_83 rfl (q3) rfl rfl (shK h4.1 rfl) rfl rfl lk_X7_322 rfl (nb rfl) ⟨nb rfl, nb rfl⟩ rfl ?_
  refine g_ireturn (pc := 86) dX7_invert_86 rfl rfl ?_
  exact ⟨rfl, rfl⟩
theorem t_invert {v w : Int32} (h : Rr M n A) (hx : ¬ (inR v 6 ∧ inR w 6)) : EvR l jX7_invert 4 160 0 0 [.ref 198, .int v, .int w] M (.inl (some (.int 0))) (thr M 1) := by
  have hS := h.1
  refine ev_intro rfl (nb rfl) rfl ?_
  by_cases h1 : inR v 6
  · refine g_aload_n (pc := 0) dX7_invert_0 rfl trivial ?_
    refine g_iload_n (pc := 1) dX7_invert_1 rfl ?_
    refine g_invS_r (pc := 2) (As := [_]) dX7_invert_2 rfl (r_isSlot_t h1) rfl rfl lk_X7_216 rfl (nb rfl) ⟨nb rfl, nb rfl⟩ rfl ?_
    refine g_if_eq (pc := 5) (tgt := 19) dX7_invert_5 rfl (fun h5 => absurd h5 ((by decide))) (fun _ => ?_)
    refine g_iload_n (pc := 8) dX7_invert_8 rfl ?_
    refine g_invS_r (pc := 9) (As := [_]) dX7_invert_9 rfl (r_isSlot_f (fun q => hx ⟨h1, q⟩)) rfl rfl lk_X7_216 rfl (nb rfl) ⟨nb rfl, nb rfl⟩ rfl ?_
    refine g_if_eq (pc := 12) (tgt := 19) dX7_invert_12 rfl (fun _ => ?_) (fun h12 => absurd (rfl) h12)
    refine g_iconst (pc := 19) (v := 0) dX7_invert_19 rfl ?_
    refine g_iconst (pc := 20) (v := 1) dX7_invert_20 rfl ?_
    refine g_invV_r (pc := 21) (As := [_, _]) dX7_invert_21 rfl (r_isThrown_1 hS) rfl rfl (shK hS rfl) rfl rfl lk_X7_209 rfl (nb rfl) ⟨nb rfl, nb rfl⟩ rfl ?_
    refine g_if_eq (pc := 24) (tgt := 29) dX7_invert_24 rfl (fun h24 => absurd h24 ((by decide))) (fun _ => ?_)
    refine g_iconst (pc := 27) (v := 0) dX7_invert_27 rfl ?_
    refine g_ireturn (pc := 28) dX7_invert_28 rfl rfl ?_
    exact ⟨rfl, rfl⟩
  · refine g_aload_n (pc := 0) dX7_invert_0 rfl trivial ?_
    refine g_iload_n (pc := 1) dX7_invert_1 rfl ?_
    refine g_invS_r (pc := 2) (As := [_]) dX7_invert_2 rfl (r_isSlot_f h1) rfl rfl lk_X7_216 rfl (nb rfl) ⟨nb rfl, nb rfl⟩ rfl ?_
    refine g_if_eq (pc := 5) (tgt := 19) dX7_invert_5 rfl (fun _ => ?_) (fun h5 => absurd (rfl) h5)
    refine g_iconst (pc := 19) (v := 0) dX7_invert_19 rfl ?_
    refine g_iconst (pc := 20) (v := 1) dX7_invert_20 rfl ?_
    refine g_invV_r (pc := 21) (As := [_, _]) dX7_invert_21 rfl (r_isThrown_1 hS) rfl rfl (shK hS rfl) rfl rfl lk_X7_209 rfl (nb rfl) ⟨nb rfl, nb rfl⟩ rfl ?_
    refine g_if_eq (pc := 24) (tgt := 29) dX7_invert_24 rfl (fun h24 => absurd h24 ((by decide))) (fun _ => ?_)
    refine g_iconst (pc := 27) (v := 0) dX7_invert_27 rfl ?_
    refine g_ireturn (pc := 28) dX7_invert_28 rfl rfl ?_
    exact ⟨rfl, rfl⟩
def eqR (f g : Nat → Int32) (n : Nat) : Prop := ∀ i, i < n → f i = g i
theorem r_isSame_t {x y : Nat} {f g : Nat → Int32} (h : Rr M n A) (hx : isH x) (hy : isH y) (hf : ∀ i, i < n → mL M x i = uL (f i)) (hg : ∀ i, i < n → mL M y i = uL (g i)) (he : eqR f g n) : EvR l jX7_isSame 1 30 0 0 [.ref 198, .ref x, .ref y] M (.inl (some (.int 1))) M := by
  have hn := h.2.2.2.1
  have hS := h.1
  refine ev_intro rfl (nb rfl) rfl ?_
  refine g_iconst (pc := 0) (v := 0) dX7_isSame_0 rfl ?_
  refine g_istore_n (pc := 1) (lv' := [(0, _), (1, _), (2, _), (3, _)]) dX7_isSame_1 (nl rfl) rfl ?_
  refine go_loop (pc := 2) n (fun i => [(0, .ref 198), (1, .ref x), (2, .ref y), (3, .int (nI i))]) (fun i => M) ⟨rfl, rfl, rfl, rfl, trivial⟩ rfl ?_ ?_
  · intro i hi ih
    refine g_iload_n (pc := 2) dX7_isSame_2 rfl ?_
    refine g_aload_n (pc := 3) dX7_isSame_3 rfl trivial ?_
    refine g_invV_r (pc := 4) (As := []) dX7_isSame_4 rfl (r_size h) rfl rfl (shK hS rfl) rfl rfl lk_X7_71 rfl (nb rfl) ⟨nb rfl, nb rfl⟩ rfl ?_
    refine g_icmp_ge (pc := 7) (tgt := 28) dX7_isSame_7 rfl (fun h7 => absurd h7 (nI_ge hi (by omega))) (fun _ => ?_)
    refine g_aload_n (pc := 10) dX7_isSame_10 rfl trivial ?_
    refine g_iload_n (pc := 11) dX7_isSame_11 rfl ?_
    refine g_laload (pc := 12) dX7_isSame_12 (shK hS hx.k) rfl (by omega) (nl rfl) ?_
    rw [hf i hi]
    refine g_aload_n (pc := 13) dX7_isSame_13 rfl trivial ?_
    refine g_iload_n (pc := 14) dX7_isSame_14 rfl ?_
    refine g_laload (pc := 15) dX7_isSame_15 (shK hS hy.k) rfl (by omega) (nl rfl) ?_
    rw [hg i hi]
    refine g_lcmp (pc := 16) dX7_isSame_16 ?_
    refine g_if_eq (pc := 17) (tgt := 22) dX7_isSame_17 rfl (fun _ => ?_) (fun h17 => absurd ((lg_cmp_eq _ _).mpr (by rw [he i hi])) h17)
    refine g_iinc (pc := 22) (lv' := [(0, _), (1, _), (2, _), (3, _)]) dX7_isSame_22 rfl (nI_1 _) (nl rfl) rfl ?_
    refine g_goto (pc := 25) (tgt := 2) dX7_isSame_25 rfl ?_
    exact ih
  · refine g_iload_n (pc := 2) dX7_isSame_2 rfl ?_
    refine g_aload_n (pc := 3) dX7_isSame_3 rfl trivial ?_
    refine g_invV_r (pc := 4) (As := []) dX7_isSame_4 rfl (r_size h) rfl rfl (shK hS rfl) rfl rfl lk_X7_71 rfl (nb rfl) ⟨nb rfl, nb rfl⟩ rfl ?_
    refine g_icmp_ge (pc := 7) (tgt := 28) dX7_isSame_7 rfl (fun _ => ?_) (fun h7 => absurd (nI_le (Nat.le_refl _) (by omega)) h7)
    refine g_iconst (pc := 28) (v := 1) dX7_isSame_28 rfl ?_
    refine g_ireturn (pc := 29) dX7_isSame_29 rfl rfl ?_
    exact ⟨rfl, rfl⟩
theorem r_isSame_f {x y : Nat} {f g : Nat → Int32} (h : Rr M n A) (hx : isH x) (hy : isH y) (hf : ∀ i, i < n → mL M x i = uL (f i)) (hg : ∀ i, i < n → mL M y i = uL (g i)) (he : ¬ eqR f g n) : EvR l jX7_isSame 1 30 0 0 [.ref 198, .ref x, .ref y] M (.inl (some (.int 0))) M := by
  have hn := h.2.2.2.1
  have hS := h.1
  refine ev_intro rfl (nb rfl) rfl ?_
  refine g_iconst (pc := 0) (v := 0) dX7_isSame_0 rfl ?_
  refine g_istore_n (pc := 1) (lv' := [(0, _), (1, _), (2, _), (3, _)]) dX7_isSame_1 (nl rfl) rfl ?_
  refine go_while (pc := 2) (σ := Nat) (fun q => q ≤ n ∧ ∀ i, i < q → f i = g i) (fun q => n - q) (fun i => [(0, .ref 198), (1, .ref x), (2, .ref y), (3, .int (nI i))]) (fun i => M) 0 ⟨rfl, rfl, rfl, rfl, trivial⟩ rfl ⟨by omega, fun i hi => by omega⟩ ?_
  rintro i ⟨h1, h2⟩ ih
  by_cases hi : i < n
  · by_cases h9 : f i = g i
    · refine g_iload_n (pc := 2) dX7_isSame_2 rfl ?_
      refine g_aload_n (pc := 3) dX7_isSame_3 rfl trivial ?_
      refine g_invV_r (pc := 4) (As := []) dX7_isSame_4 rfl (r_size h) rfl rfl (shK hS rfl) rfl rfl lk_X7_71 rfl (nb rfl) ⟨nb rfl, nb rfl⟩ rfl ?_
      refine g_icmp_ge (pc := 7) (tgt := 28) dX7_isSame_7 rfl (fun h7 => absurd h7 (nI_ge hi (by omega))) (fun _ => ?_)
      refine g_aload_n (pc := 10) dX7_isSame_10 rfl trivial ?_
      refine g_iload_n (pc := 11) dX7_isSame_11 rfl ?_
      refine g_laload (pc := 12) dX7_isSame_12 (shK hS hx.k) rfl (by omega) (nl rfl) ?_
      rw [hf i hi]
      refine g_aload_n (pc := 13) dX7_isSame_13 rfl trivial ?_
      refine g_iload_n (pc := 14) dX7_isSame_14 rfl ?_
      refine g_laload (pc := 15) dX7_isSame_15 (shK hS hy.k) rfl (by omega) (nl rfl) ?_
      rw [hg i hi]
      refine g_lcmp (pc := 16) dX7_isSame_16 ?_
      refine g_if_eq (pc := 17) (tgt := 22) dX7_isSame_17 rfl (fun _ => ?_) (fun h17 => absurd ((lg_cmp_eq _ _).mpr (by rw [h9])) h17)
      refine g_iinc (pc := 22) (lv' := [(0, _), (1, _), (2, _), (3, _)]) dX7_isSame_22 rfl (nI_1 _) (nl rfl) rfl ?_
      refine g_goto (pc := 25) (tgt := 2) dX7_isSame_25 rfl ?_
      exact ih (i + 1) ⟨hi, fun j hj => (by omega : j < i ∨ j = i).elim (h2 j) (fun e => e ▸ h9)⟩ (by omega)
    · refine g_iload_n (pc := 2) dX7_isSame_2 rfl ?_
      refine g_aload_n (pc := 3) dX7_isSame_3 rfl trivial ?_
      refine g_invV_r (pc := 4) (As := []) dX7_isSame_4 rfl (r_size h) rfl rfl (shK hS rfl) rfl rfl lk_X7_71 rfl (nb rfl) ⟨nb rfl, nb rfl⟩ rfl ?_
      refine g_icmp_ge (pc := 7) (tgt := 28) dX7_isSame_7 rfl (fun h7 => absurd h7 (nI_ge hi (by omega))) (fun _ => ?_)
      refine g_aload_n (pc := 10) dX7_isSame_10 rfl trivial ?_
      refine g_iload_n (pc := 11) dX7_isSame_11 rfl ?_
      refine g_laload (pc := 12) dX7_isSame_12 (shK hS hx.k) rfl (by omega) (nl rfl) ?_
      rw [hf i hi]
      refine g_aload_n (pc := 13) dX7_isSame_13 rfl trivial ?_
      refine g_iload_n (pc := 14) dX7_isSame_14 rfl ?_
      refine g_laload (pc := 15) dX7_isSame_15 (shK hS hy.k) rfl (by omega) (nl rfl) ?_
      rw [hg i hi]
      refine g_lcmp (pc := 16) dX7_isSame_16 ?_
      refine g_if_eq (pc := 17) (tgt := 22) dX7_isSame_17 rfl (fun h17 => absurd h17 ((fun z => h9 (uL_inj.mp ((lg_cmp_eq _ _).mp z))))) (fun _ => ?_)
      refine g_iconst (pc := 20) (v := 0) dX7_isSame_20 rfl ?_
      refine g_ireturn (pc := 21) dX7_isSame_21 rfl rfl ?_
      exact ⟨rfl, rfl⟩
  · have : i = n := by omega
    subst this
    exact absurd h2 he
def eqB (f g : Nat → Int32) : Nat → Bool
  | 0 => true
  | k + 1 => eqB f g k && decide (f k = g k)
theorem eqB_iff (f g : Nat → Int32) : ∀ k, eqB f g k = true ↔ eqR f g k
  | 0 => ⟨fun _ i hi => by omega, fun _ => rfl⟩
  | k + 1 => by
    rw [eqB, Bool.and_eq_true, eqB_iff f g k, decide_eq_true_iff]
    constructor
    · rintro ⟨h1, h2⟩ i hi
      by_cases e : i = k
      · rw [e]; exact h2
      · exact h1 i (by omega)
    · intro h; exact ⟨fun i hi => h i (by omega), h k (by omega)⟩
/-- is an edge there that is not needed -/
def rcB (f : Nat → Int32) (n a b : Nat) (g : Nat → Int32) : Bool := hb (g a) b && eqB (wOut (tnF g a b) n n) (wOut f n n) n
/-- what is left of the edges behind k places -/
def rcF (f : Nat → Int32) (n : Nat) : Nat → Nat → Int32
  | 0 => f
  | k + 1 => if rcB f n (k / n) (k % n) (rcF f n k) = true then tnF (rcF f n k) (k / n) (k % n) else rcF f n k
/-- the second array by then -/
def rcO (w : Nat → Int64) (n : Nat) (F : Nat → Nat → Int32) : Nat → Nat → Int64
  | 0 => w
  | k + 1 => if hb (F k (k / n)) (k % n) = true then wr (rcO w n F k) (uR (wOut (tnF (F k) (k / n) (k % n)) n n)) n else rcO w n F k
theorem dvn : ∀ n, n < 33 → ∀ k, k < n * n → nI k / nI n = nI (k / n) ∧ nI k - nI k / nI n * nI n = nI (k % n) := fun n hn k hk => by
  have hk2 : k < 33 * 33 := Nat.lt_of_lt_of_le hk (Nat.mul_le_mul (show n ≤ 33 by omega) (show n ≤ 33 by omega))
  have e : nI k / nI n = nI (k / n) := (Int32.ofNat_div (a := k) (b := n) (by omega) (by omega)).symm
  have h1 := Nat.div_add_mod k n
  rw [Nat.mul_comm] at h1
  refine ⟨e, ?_⟩
  rw [e, nI_mul, nI_sub' (Nat.div_mul_le_self k n)]
  congr 1
  generalize k / n * n = a at *
  generalize k % n = b at *
  omega
/-- the memory behind k places -/
def rcM (M : Mem) (n : Nat) (f : Nat → Int32) (k : Nat) : Mem := sL (hdM (hdM M 207 n (rcF f n k)) 205 n (wOut f n n)) 206 (rcO (mL M 206) n (rcF f n) k)
theorem rcM_R {f : Nat → Int32} {k : Nat} (h : Rr M n A) : Rr (rcM M n f k) n A := Rr.sL ((h.hd (Or.inr (Or.inr rfl))).hd (Or.inl rfl)) (by decide)
theorem rcM_7 {f : Nat → Int32} {k i : Nat} (hi : i < n) : mL (rcM M n f k) 207 i = uL (rcF f n k i) := by unfold rcM; rw [sL_ne (by decide), hdM_ne (by decide)]; exact hdM_at hi
theorem rcM_5 {f : Nat → Int32} {k i : Nat} (hi : i < n) : mL (rcM M n f k) 205 i = uL (wOut f n n i) := by unfold rcM; rw [sL_ne (by decide)]; exact hdM_at hi
theorem hdM_comm {x y : Nat} {f g : Nat → Int32} (h : x ≠ y) : hdM (hdM M x n f) y n g = hdM (hdM M y n g) x n f := by
  unfold hdM
  rw [sL_ne (Ne.symm h), sL_ne h, sL_comm h]
theorem rd_st {f g : Nat → Int32} {w : Nat → Int64} {X : Mem} : hdM (sL X 206 w) 206 n g = sL X 206 (wr w (uR g) n) := by unfold hdM; rw [sL_self, sL_2]
theorem rd_207 {f g W : Nat → Int32} {w : Nat → Int64} {i : Nat} {v : Int32} (hi : i < n) : pL (sL (hdM (hdM M 207 n f) 205 n W) 206 w) 207 i (uL v) = sL (hdM (hdM M 207 n (fun_set f i v)) 205 n W) 206 w := by
  show sL (sL (hdM (hdM M 207 n f) 205 n W) 206 w) 207 (fun_set (mL (sL (hdM (hdM M 207 n f) 205 n W) 206 w) 207) i (uL v)) = _
  rw [sL_ne (by decide), hdM_ne (by decide), hdM_0, wr_set hi, sL_comm (show 206 ≠ 207 by decide)]
  congr 1
  unfold hdM
  rw [sL_comm (show 205 ≠ 207 by decide), sL_2, sL_ne (show 205 ≠ 207 by decide), sL_ne (show 205 ≠ 207 by decide)]
theorem n_reduce {s t : Nat} (h : Rr M n A) (hc : mI M 198 5 = nI c) (hc8 : c ≤ 8) (hs : s < 6) (ht : t < 6) : EvR l jX7_reduce 4 160 0 0 [.ref 198, .int (nI s), .int (nI t)] M (.inl (some (.int (onesF (rcF (A s) n (n * n)) n)))) (lsM (rcM (k0M M c) n (A s) (n * n)) t n (rcF (A s) n (n * n))) := by
  have hn := h.2.2.2.1
  have hS := h.1
  have h0 := h.2.2.1
  have hnn : n * n ≤ 1024 := Nat.mul_le_mul hn hn
  have q1 := r_k0 (l := l) h hc hc8
  have h1 : Rr (k0M M c) n A := k0M_R h
  have q2 := r_takes (l := l) (x := 207) h1 hs (Or.inr (Or.inr rfl))
  have h2 : Rr (hdM (k0M M c) 207 n (A s)) n A := h1.hd (Or.inr (Or.inr rfl))
  have q3 := r_closure (l := l) h2 hs
  have h4 := rcM_R (f := A s) (k := n * n) h1
  have q4 := r_lays (l := l) (x := 207) (f := rcF (A s) n (n * n)) h4 ht (shK h4.1 rfl) (by decide) (fun i hi => rcM_7 hi)
  have e3 : hdM (hdM (k0M M c) 207 n (A s)) 205 n (wOut (A s) n n) = rcM (k0M M c) n (A s) 0 := by
    unfold rcM
    rw [rcF, rcO]
    exact sL_eq (by rw [hdM_ne (by decide), hdM_ne (by decide)])
  generalize A s = f at *
  generalize k0M M c = M1 at *
  refine ev_intro rfl (nb rfl) rfl ?_
  refine g_aload_n (pc := 0) dX7_reduce_0 rfl trivial ?_
  refine g_iload_n (pc := 1) dX7_reduce_1 rfl ?_
  refine g_invS_r (pc := 2) (As := [_]) dX7_reduce_2 rfl (r_isSlot_t (in6 hs)) rfl rfl lk_X7_216 rfl (nb rfl) ⟨nb rfl, nb rfl⟩ rfl ?_
  refine g_if_eq (pc := 5) (tgt := 19) dX7_reduce_5 rfl (fun h5 => absurd h5 ((by decide))) (fun _ => ?_)
  refine g_iload_n (pc := 8) dX7_reduce_8 rfl ?_
  refine g_invS_r (pc := 9) (As := [_]) dX7_reduce_9 rfl (r_isSlot_t (in6 ht)) rfl rfl lk_X7_216 rfl (nb rfl) ⟨nb rfl, nb rfl⟩ rfl ?_
  refine g_if_eq (pc := 12) (tgt := 19) dX7_reduce_12 rfl (fun h12 => absurd h12 ((by decide))) (fun _ => ?_)
  refine g_iconst (pc := 15) (v := 1) dX7_reduce_15 rfl ?_
  refine g_goto (pc := 16) (tgt := 20) dX7_reduce_16 rfl ?_
  refine g_iconst (pc := 20) (v := 1) dX7_reduce_20 rfl ?_
  refine g_invV_r (pc := 21) (As := [_, _]) dX7_reduce_21 rfl (r_isThrown_0 hS) rfl rfl (shK hS rfl) rfl rfl lk_X7_209 rfl (nb rfl) ⟨nb rfl, nb rfl⟩ rfl ?_
  refine g_if_eq (pc := 24) (tgt := 29) dX7_reduce_24 rfl (fun _ => ?_) (fun h24 => absurd (rfl) h24)
  refine g_aload_n (pc := 29) dX7_reduce_29 rfl trivial ?_
  refine g_invV_r (pc := 30) (As := []) dX7_reduce_30 rfl (q1) rfl rfl (shK (h.thr (x := 0)).1 rfl) rfl rfl lk_X7_315 rfl (nb rfl) ⟨nb rfl, nb rfl⟩ rfl ?_
  refine g_aload_n (pc := 33) dX7_reduce_33 rfl trivial ?_
  refine g_iload_n (pc := 34) dX7_reduce_34 rfl ?_
  refine g_aload_n (pc := 35) dX7_reduce_35 rfl trivial ?_
  refine g_getf (pc := 36) dX7_reduce_36 fk_X7_40 (shK h1.1 rfl) (fv_arr (shR h1.1 rfl)) ?_
  refine g_invV_r (pc := 39) (As := [_, _]) dX7_reduce_39 rfl (q2) rfl rfl (shK h1.1 rfl) rfl rfl lk_X7_252 rfl (nb rfl) ⟨nb rfl, nb rfl⟩ rfl ?_
  refine g_aload_n (pc := 42) dX7_reduce_42 rfl trivial ?_
  refine g_iload_n (pc := 43) dX7_reduce_43 rfl ?_
  refine g_invV_r (pc := 44) (As := [_]) dX7_reduce_44 rfl (q3) rfl rfl (shK h2.1 rfl) rfl rfl lk_X7_260 rfl (nb rfl) ⟨nb rfl, nb rfl⟩ rfl ?_
  refine g_iconst (pc := 47) (v := 0) dX7_reduce_47 rfl ?_
  refine g_istore_n (pc := 48) (lv' := [(0, _), (1, _), (2, _), (3, _)]) dX7_reduce_48 (nl rfl) rfl ?_
  refine go_loop (pc := 49) (n * n) (fun k => [(0, .ref 198), (1, .int (nI s)), (2, .int (nI t)), (3, .int (nI k))]) (fun k => rcM M1 n f k) ⟨rfl, rfl, rfl, rfl, trivial⟩ e3 ?_ ?_
  · intro k hk ih
    obtain ⟨d1, d2⟩ := dvn n (by omega) k hk
    have ha : k / n < n := (Nat.div_lt_iff_lt_mul (by omega)).mpr hk
    have hb9 : k % n < n := Nat.mod_lt _ (by omega)
    have h5 : Rr (rcM M1 n f k) n A := rcM_R h1
    have e57 := fun i (hi : i < n) => rcM_7 (M := M1) (f := f) (k := k) hi
    have e55 := fun i (hi : i < n) => rcM_5 (M := M1) (f := f) (k := k) hi
    have hne0 : ¬ nI n = 0 := nI_ne0 (by omega) (by omega)
    have q5 := r_moves (l := l) (x := 207) (y := 206) (f := rcF f n k) h5 (Or.inr (Or.inr rfl)) (Or.inr (Or.inl rfl)) (by decide) (fun i hi => rcM_7 hi)
    have h6 : Rr (hdM (rcM M1 n f k) 206 n (rcF f n k)) n A := h5.hd (Or.inr (Or.inl rfl))
    have e66 : mL (hdM (rcM M1 n f k) 206 n (rcF f n k)) 206 (k / n) = uL (rcF f n k (k / n)) := hdM_at ha
    have e6t : pL (hdM (rcM M1 n f k) 206 n (rcF f n k)) 206 (k / n) (uL (rcF f n k (k / n) ^^^ bitI (k % n))) = hdM (rcM M1 n f k) 206 n (tnF (rcF f n k) (k / n) (k % n)) := hdM_st ha
    have h7 : Rr (hdM (rcM M1 n f k) 206 n (tnF (rcF f n k) (k / n) (k % n))) n A := h5.hd (Or.inr (Or.inl rfl))
    have q7 := r_closes (l := l) (x := 206) (f := tnF (rcF f n k) (k / n) (k % n)) h7 (Or.inr (Or.inl rfl)) (fun i hi => hdM_at hi)
    rw [hdM_2] at q7
    have h8 : Rr (hdM (rcM M1 n f k) 206 n (wOut (tnF (rcF f n k) (k / n) (k % n)) n n)) n A := h5.hd (Or.inr (Or.inl rfl))
    have e8 : hdM (rcM M1 n f k) 206 n (wOut (tnF (rcF f n k) (k / n) (k % n)) n n) = sL (hdM (hdM M1 207 n (rcF f n k)) 205 n (wOut f n n)) 206 (wr (rcO (mL M1 206) n (rcF f n) k) (uR (wOut (tnF (rcF f n k) (k / n) (k % n)) n n)) n) := by unfold rcM; exact rd_st (f := f)
    have e86 : ∀ i, i < n → mL (hdM (rcM M1 n f k) 206 n (wOut (tnF (rcF f n k) (k / n) (k % n)) n n)) 206 i = uL (wOut (tnF (rcF f n k) (k / n) (k % n)) n n i) := fun i hi => hdM_at hi
    have e85 : ∀ i, i < n → mL (hdM (rcM M1 n f k) 206 n (wOut (tnF (rcF f n k) (k / n) (k % n)) n n)) 205 i = uL (wOut f n n i) := fun i hi => by rw [hdM_ne (by decide)]; exact rcM_5 hi
    have e87 : mL (hdM (rcM M1 n f k) 206 n (wOut (tnF (rcF f n k) (k / n) (k % n)) n n)) 207 (k / n) = uL (rcF f n k (k / n)) := by rw [hdM_ne (by decide)]; exact rcM_7 ha
    have qs_t := fun he => r_isSame_t (l := l) (x := 206) (y := 205) h8 (Or.inr (Or.inl rfl)) (Or.inl rfl) e86 e85 he
    have qs_f := fun he => r_isSame_f (l := l) (x := 206) (y := 205) h8 (Or.inr (Or.inl rfl)) (Or.inl rfl) e86 e85 he
    have e8t : pL (hdM (rcM M1 n f k) 206 n (wOut (tnF (rcF f n k) (k / n) (k % n)) n n)) 207 (k / n) (uL (rcF f n k (k / n) ^^^ bitI (k % n))) = sL (hdM (hdM M1 207 n (tnF (rcF f n k) (k / n) (k % n))) 205 n (wOut f n n)) 206 (wr (rcO (mL M1 206) n (rcF f n) k) (uR (wOut (tnF (rcF f n k) (k / n) (k % n)) n n)) n) := by rw [e8]; exact rd_207 (g := f) ha
    have eN : rcM M1 n f (k + 1) = sL (hdM (hdM M1 207 n (if rcB f n (k / n) (k % n) (rcF f n k) = true then tnF (rcF f n k) (k / n) (k % n) else rcF f n k)) 205 n (wOut f n n)) 206 (if hb (rcF f n k (k / n)) (k % n) = true then wr (rcO (mL M1 206) n (rcF f n) k) (uR (wOut (tnF (rcF f n k) (k / n) (k % n)) n n)) n else rcO (mL M1 206) n (rcF f n) k) := rfl
    have eK : rcM M1 n f k = sL (hdM (hdM M1 207 n (rcF f n k)) 205 n (wOut f n n)) 206 (rcO (mL M1 206) n (rcF f n) k) := rfl
    rw [eN] at ih
    cases hb7 : hb (rcF f n k (k / n)) (k % n) with
    | false =>
      have hB : ¬ rcB f n (k / n) (k % n) (rcF f n k) = true := by unfold rcB; rw [hb7]; simp
      rw [hb7, if_neg hB, if_neg (by decide), ← eK] at ih
      generalize rcM M1 n f k = M5 at *
      refine g_iload_n (pc := 49) dX7_reduce_49 rfl ?_
      refine g_aload_n (pc := 50) dX7_reduce_50 rfl trivial ?_
      refine g_invV_r (pc := 51) (As := []) dX7_reduce_51 rfl (r_size h5) rfl rfl (shK h5.1 rfl) rfl rfl lk_X7_71 rfl (nb rfl) ⟨nb rfl, nb rfl⟩ rfl ?_
      refine g_aload_n (pc := 54) dX7_reduce_54 rfl trivial ?_
      refine g_invV_r (pc := 55) (As := []) dX7_reduce_55 rfl (r_size h5) rfl rfl (shK h5.1 rfl) rfl rfl lk_X7_71 rfl (nb rfl) ⟨nb rfl, nb rfl⟩ rfl ?_
      refine g_imul (pc := 58) dX7_reduce_58 ?_
      rw [nI_mul]
      refine g_icmp_ge (pc := 59) (tgt := 165) dX7_reduce_59 rfl (fun h59 => absurd h59 (nI_ge hk (by omega))) (fun _ => ?_)
      refine g_iload_n (pc := 62) dX7_reduce_62 rfl ?_
      refine g_aload_n (pc := 63) dX7_reduce_63 rfl trivial ?_
      refine g_invV_r (pc := 64) (As := []) dX7_reduce_64 rfl (r_size h5) rfl rfl (shK h5.1 rfl) rfl rfl lk_X7_71 rfl (nb rfl) ⟨nb rfl, nb rfl⟩ rfl ?_
      refine g_idiv (pc := 67) dX7_reduce_67 hne0 ?_
      rw [d1]
      refine g_istore (pc := 68) (lv' := [(0, _), (1, _), (2, _), (3, _), (4, _)]) dX7_reduce_68 (nl rfl) rfl ?_
      refine g_iload_n (pc := 70) dX7_reduce_70 rfl ?_
      refine g_aload_n (pc := 71) dX7_reduce_71 rfl trivial ?_
      refine g_invV_r (pc := 72) (As := []) dX7_reduce_72 rfl (r_size h5) rfl rfl (shK h5.1 rfl) rfl rfl lk_X7_71 rfl (nb rfl) ⟨nb rfl, nb rfl⟩ rfl ?_
      refine g_irem (pc := 75) dX7_reduce_75 hne0 ?_
      rw [d2]
      refine g_istore (pc := 76) (lv' := [(0, _), (1, _), (2, _), (3, _), (4, _), (5, _)]) dX7_reduce_76 (nl rfl) rfl ?_
      refine g_aload_n (pc := 78) dX7_reduce_78 rfl trivial ?_
      refine g_getf (pc := 79) dX7_reduce_79 fk_X7_40 (shK h5.1 rfl) (fv_arr (shR h5.1 rfl)) ?_
      refine g_iload (pc := 82) dX7_reduce_82 rfl ?_
      refine g_laload (pc := 84) dX7_reduce_84 (shK h5.1 rfl) rfl (by omega) (nl rfl) ?_
      rw [e57 _ ha]
      refine g_iload (pc := 85) dX7_reduce_85 rfl ?_
      refine g_invS_r (pc := 87) (As := [_, _]) dX7_reduce_87 rfl (r_one (show k % n < 32 by omega)) rfl rfl lk_X7_231 rfl (nb rfl) ⟨nb rfl, nb rfl⟩ rfl ?_
      rw [hb7]
      refine g_if_ne (pc := 90) (tgt := 96) dX7_reduce_90 rfl (fun h90 => absurd h90 ((fun z => z rfl))) (fun _ => ?_)
      refine g_goto (pc := 93) (tgt := 159) dX7_reduce_93 rfl ?_
      refine g_iinc (pc := 159) (lv' := [(0, _), (1, _), (2, _), (3, _), (4, _), (5, _)]) dX7_reduce_159 rfl (nI_1 _) (nl rfl) rfl ?_
      refine g_goto (pc := 162) (tgt := 49) dX7_reduce_162 rfl ?_
      exact g_sub (lv' := [(0, _), (1, _), (2, _), (3, _)]) ⟨rfl, rfl, rfl, rfl, trivial⟩ ih
    | true =>
      cases hq : eqB (wOut (tnF (rcF f n k) (k / n) (k % n)) n n) (wOut f n n) n with
      | true =>
        have hB : rcB f n (k / n) (k % n) (rcF f n k) = true := by unfold rcB; rw [hb7, hq]; rfl
        have qs := qs_t ((eqB_iff _ _ _).mp hq)
        rw [hb7, if_pos hB, if_pos rfl, ← e8t] at ih
        generalize hdM (rcM M1 n f k) 206 n (wOut (tnF (rcF f n k) (k / n) (k % n)) n n) = M8 at *
        generalize hdM (rcM M1 n f k) 206 n (tnF (rcF f n k) (k / n) (k % n)) = M7 at *
        generalize hdM (rcM M1 n f k) 206 n (rcF f n k) = M6 at *
        generalize rcM M1 n f k = M5 at *
        refine g_iload_n (pc := 49) dX7_reduce_49 rfl ?_
        refine g_aload_n (pc := 50) dX7_reduce_50 rfl trivial ?_
        refine g_invV_r (pc := 51) (As := []) dX7_reduce_51 rfl (r_size h5) rfl rfl (shK h5.1 rfl) rfl rfl lk_X7_71 rfl (nb rfl) ⟨nb rfl, nb rfl⟩ rfl ?_
        refine g_aload_n (pc := 54) dX7_reduce_54 rfl trivial ?_
        refine g_invV_r (pc := 55) (As := []) dX7_reduce_55 rfl (r_size h5) rfl rfl (shK h5.1 rfl) rfl rfl lk_X7_71 rfl (nb rfl) ⟨nb rfl, nb rfl⟩ rfl ?_
        refine g_imul (pc := 58) dX7_reduce_58 ?_
        rw [nI_mul]
        refine g_icmp_ge (pc := 59) (tgt := 165) dX7_reduce_59 rfl (fun h59 => absurd h59 (nI_ge hk (by omega))) (fun _ => ?_)
        refine g_iload_n (pc := 62) dX7_reduce_62 rfl ?_
        refine g_aload_n (pc := 63) dX7_reduce_63 rfl trivial ?_
        refine g_invV_r (pc := 64) (As := []) dX7_reduce_64 rfl (r_size h5) rfl rfl (shK h5.1 rfl) rfl rfl lk_X7_71 rfl (nb rfl) ⟨nb rfl, nb rfl⟩ rfl ?_
        refine g_idiv (pc := 67) dX7_reduce_67 hne0 ?_
        rw [d1]
        refine g_istore (pc := 68) (lv' := [(0, _), (1, _), (2, _), (3, _), (4, _)]) dX7_reduce_68 (nl rfl) rfl ?_
        refine g_iload_n (pc := 70) dX7_reduce_70 rfl ?_
        refine g_aload_n (pc := 71) dX7_reduce_71 rfl trivial ?_
        refine g_invV_r (pc := 72) (As := []) dX7_reduce_72 rfl (r_size h5) rfl rfl (shK h5.1 rfl) rfl rfl lk_X7_71 rfl (nb rfl) ⟨nb rfl, nb rfl⟩ rfl ?_
        refine g_irem (pc := 75) dX7_reduce_75 hne0 ?_
        rw [d2]
        refine g_istore (pc := 76) (lv' := [(0, _), (1, _), (2, _), (3, _), (4, _), (5, _)]) dX7_reduce_76 (nl rfl) rfl ?_
        refine g_aload_n (pc := 78) dX7_reduce_78 rfl trivial ?_
        refine g_getf (pc := 79) dX7_reduce_79 fk_X7_40 (shK h5.1 rfl) (fv_arr (shR h5.1 rfl)) ?_
        refine g_iload (pc := 82) dX7_reduce_82 rfl ?_
        refine g_laload (pc := 84) dX7_reduce_84 (shK h5.1 rfl) rfl (by omega) (nl rfl) ?_
        rw [e57 _ ha]
        refine g_iload (pc := 85) dX7_reduce_85 rfl ?_
        refine g_invS_r (pc := 87) (As := [_, _]) dX7_reduce_87 rfl (r_one (show k % n < 32 by omega)) rfl rfl lk_X7_231 rfl (nb rfl) ⟨nb rfl, nb rfl⟩ rfl ?_
        rw [hb7]
        refine g_if_ne (pc := 90) (tgt := 96) dX7_reduce_90 rfl (fun _ => ?_) (fun h90 => absurd ((by decide)) h90)
        refine g_aload_n (pc := 96) dX7_reduce_96 rfl trivial ?_
        refine g_aload_n (pc := 97) dX7_reduce_97 rfl trivial ?_
        refine g_getf (pc := 98) dX7_reduce_98 fk_X7_40 (shK h5.1 rfl) (fv_arr (shR h5.1 rfl)) ?_
        refine g_aload_n (pc := 101) dX7_reduce_101 rfl trivial ?_
        refine g_getf (pc := 102) dX7_reduce_102 fk_X7_37 (shK h5.1 rfl) (fv_arr (shR h5.1 rfl)) ?_
        refine g_invV_r (pc := 105) (As := [_, _]) dX7_reduce_105 rfl (q5) rfl rfl (shK h5.1 rfl) rfl rfl lk_X7_339 rfl (nb rfl) ⟨nb rfl, nb rfl⟩ rfl ?_
        refine g_aload_n (pc := 108) dX7_reduce_108 rfl trivial ?_
        refine g_getf (pc := 109) dX7_reduce_109 fk_X7_37 (shK h6.1 rfl) (fv_arr (shR h6.1 rfl)) ?_
        refine g_iload (pc := 112) dX7_reduce_112 rfl ?_
        refine g_dup2_11 (pc := 114) dX7_reduce_114 rfl rfl ?_
        refine g_laload (pc := 115) dX7_reduce_115 (shK h6.1 rfl) rfl (show k / n < 32 by omega) (nl rfl) ?_
        rw [e66]
        refine g_lconst (pc := 116) (v := 1) dX7_reduce_116 rfl ?_
        refine g_iload (pc := 117) dX7_reduce_117 rfl ?_
        refine g_lshl (pc := 119) dX7_reduce_119 rfl ?_
        rw [sh_bit (k % n) (by omega)]
        refine g_lxor (pc := 120) dX7_reduce_120 ?_
        rw [uL_xor]
        refine g_lastore (pc := 121) dX7_reduce_121 (shK h6.1 rfl) rfl (show k / n < 32 by omega) (nl rfl) ?_
        refine go_cast e6t ?_
        refine g_aload_n (pc := 122) dX7_reduce_122 rfl trivial ?_
        refine g_aload_n (pc := 123) dX7_reduce_123 rfl trivial ?_
        refine g_getf (pc := 124) dX7_reduce_124 fk_X7_37 (shK h7.1 rfl) (fv_arr (shR h7.1 rfl)) ?_
        refine g_invV_r (pc := 127) (As := [_]) dX7_reduce_127 rfl (q7) rfl rfl (shK h7.1 rfl) rfl rfl lk_X7_256 rfl (nb rfl) ⟨nb rfl, nb rfl⟩ rfl ?_
        refine g_aload_n (pc := 130) dX7_reduce_130 rfl trivial ?_
        refine g_aload_n (pc := 131) dX7_reduce_131 rfl trivial ?_
        refine g_getf (pc := 132) dX7_reduce_132 fk_X7_37 (shK h8.1 rfl) (fv_arr (shR h8.1 rfl)) ?_
        refine g_aload_n (pc := 135) dX7_reduce_135 rfl trivial ?_
        refine g_getf (pc := 136) dX7_reduce_136 fk_X7_34 (shK h8.1 rfl) (fv_arr (shR h8.1 rfl)) ?_
        refine g_invV_r (pc := 139) (As := [_, _]) dX7_reduce_139 rfl (qs) rfl rfl (shK h8.1 rfl) rfl rfl lk_X7_343 rfl (nb rfl) ⟨nb rfl, nb rfl⟩ rfl ?_
        refine g_if_eq (pc := 142) (tgt := 159) dX7_reduce_142 rfl (fun h142 => absurd h142 ((by decide))) (fun _ => ?_)
        refine g_aload_n (pc := 145) dX7_reduce_145 rfl trivial ?_
        refine g_getf (pc := 146) dX7_reduce_146 fk_X7_40 (shK h8.1 rfl) (fv_arr (shR h8.1 rfl)) ?_
        refine g_iload (pc := 149) dX7_reduce_149 rfl ?_
        refine g_dup2_11 (pc := 151) dX7_reduce_151 rfl rfl ?_
        refine g_laload (pc := 152) dX7_reduce_152 (shK h8.1 rfl) rfl (show k / n < 32 by omega) (nl rfl) ?_
        rw [e87]
        refine g_lconst (pc := 153) (v := 1) dX7_reduce_153 rfl ?_
        refine g_iload (pc := 154) dX7_reduce_154 rfl ?_
        refine g_lshl (pc := 156) dX7_reduce_156 rfl ?_
        rw [sh_bit (k % n) (by omega)]
        refine g_lxor (pc := 157) dX7_reduce_157 ?_
        rw [uL_xor]
        refine g_lastore (pc := 158) dX7_reduce_158 (shK h8.1 rfl) rfl (show k / n < 32 by omega) (nl rfl) ?_
        refine g_iinc (pc := 159) (lv' := [(0, _), (1, _), (2, _), (3, _), (4, _), (5, _)]) dX7_reduce_159 rfl (nI_1 _) (nl rfl) rfl ?_
        refine g_goto (pc := 162) (tgt := 49) dX7_reduce_162 rfl ?_
        exact g_sub (lv' := [(0, _), (1, _), (2, _), (3, _)]) ⟨rfl, rfl, rfl, rfl, trivial⟩ ih
      | false =>
        have hB : ¬ rcB f n (k / n) (k % n) (rcF f n k) = true := by unfold rcB; rw [hb7, hq]; decide
        have qs := qs_f (fun z => by rw [(eqB_iff _ _ _).mpr z] at hq; cases hq)
        rw [hb7, if_neg hB, if_pos rfl, ← e8] at ih
        generalize hdM (rcM M1 n f k) 206 n (wOut (tnF (rcF f n k) (k / n) (k % n)) n n) = M8 at *
        generalize hdM (rcM M1 n f k) 206 n (tnF (rcF f n k) (k / n) (k % n)) = M7 at *
        generalize hdM (rcM M1 n f k) 206 n (rcF f n k) = M6 at *
        generalize rcM M1 n f k = M5 at *
        refine g_iload_n (pc := 49) dX7_reduce_49 rfl ?_
        refine g_aload_n (pc := 50) dX7_reduce_50 rfl trivial ?_
        refine g_invV_r (pc := 51) (As := []) dX7_reduce_51 rfl (r_size h5) rfl rfl (shK h5.1 rfl) rfl rfl lk_X7_71 rfl (nb rfl) ⟨nb rfl, nb rfl⟩ rfl ?_
        refine g_aload_n (pc := 54) dX7_reduce_54 rfl trivial ?_
        refine g_invV_r (pc := 55) (As := []) dX7_reduce_55 rfl (r_size h5) rfl rfl (shK h5.1 rfl) rfl rfl lk_X7_71 rfl (nb rfl) ⟨nb rfl, nb rfl⟩ rfl ?_
        refine g_imul (pc := 58) dX7_reduce_58 ?_
        rw [nI_mul]
        refine g_icmp_ge (pc := 59) (tgt := 165) dX7_reduce_59 rfl (fun h59 => absurd h59 (nI_ge hk (by omega))) (fun _ => ?_)
        refine g_iload_n (pc := 62) dX7_reduce_62 rfl ?_
        refine g_aload_n (pc := 63) dX7_reduce_63 rfl trivial ?_
        refine g_invV_r (pc := 64) (As := []) dX7_reduce_64 rfl (r_size h5) rfl rfl (shK h5.1 rfl) rfl rfl lk_X7_71 rfl (nb rfl) ⟨nb rfl, nb rfl⟩ rfl ?_
        refine g_idiv (pc := 67) dX7_reduce_67 hne0 ?_
        rw [d1]
        refine g_istore (pc := 68) (lv' := [(0, _), (1, _), (2, _), (3, _), (4, _)]) dX7_reduce_68 (nl rfl) rfl ?_
        refine g_iload_n (pc := 70) dX7_reduce_70 rfl ?_
        refine g_aload_n (pc := 71) dX7_reduce_71 rfl trivial ?_
        refine g_invV_r (pc := 72) (As := []) dX7_reduce_72 rfl (r_size h5) rfl rfl (shK h5.1 rfl) rfl rfl lk_X7_71 rfl (nb rfl) ⟨nb rfl, nb rfl⟩ rfl ?_
        refine g_irem (pc := 75) dX7_reduce_75 hne0 ?_
        rw [d2]
        refine g_istore (pc := 76) (lv' := [(0, _), (1, _), (2, _), (3, _), (4, _), (5, _)]) dX7_reduce_76 (nl rfl) rfl ?_
        refine g_aload_n (pc := 78) dX7_reduce_78 rfl trivial ?_
        refine g_getf (pc := 79) dX7_reduce_79 fk_X7_40 (shK h5.1 rfl) (fv_arr (shR h5.1 rfl)) ?_
        refine g_iload (pc := 82) dX7_reduce_82 rfl ?_
        refine g_laload (pc := 84) dX7_reduce_84 (shK h5.1 rfl) rfl (by omega) (nl rfl) ?_
        rw [e57 _ ha]
        refine g_iload (pc := 85) dX7_reduce_85 rfl ?_
        refine g_invS_r (pc := 87) (As := [_, _]) dX7_reduce_87 rfl (r_one (show k % n < 32 by omega)) rfl rfl lk_X7_231 rfl (nb rfl) ⟨nb rfl, nb rfl⟩ rfl ?_
        rw [hb7]
        refine g_if_ne (pc := 90) (tgt := 96) dX7_reduce_90 rfl (fun _ => ?_) (fun h90 => absurd ((by decide)) h90)
        refine g_aload_n (pc := 96) dX7_reduce_96 rfl trivial ?_
        refine g_aload_n (pc := 97) dX7_reduce_97 rfl trivial ?_
        refine g_getf (pc := 98) dX7_reduce_98 fk_X7_40 (shK h5.1 rfl) (fv_arr (shR h5.1 rfl)) ?_
        refine g_aload_n (pc := 101) dX7_reduce_101 rfl trivial ?_
        refine g_getf (pc := 102) dX7_reduce_102 fk_X7_37 (shK h5.1 rfl) (fv_arr (shR h5.1 rfl)) ?_
        refine g_invV_r (pc := 105) (As := [_, _]) dX7_reduce_105 rfl (q5) rfl rfl (shK h5.1 rfl) rfl rfl lk_X7_339 rfl (nb rfl) ⟨nb rfl, nb rfl⟩ rfl ?_
        refine g_aload_n (pc := 108) dX7_reduce_108 rfl trivial ?_
        refine g_getf (pc := 109) dX7_reduce_109 fk_X7_37 (shK h6.1 rfl) (fv_arr (shR h6.1 rfl)) ?_
        refine g_iload (pc := 112) dX7_reduce_112 rfl ?_
        refine g_dup2_11 (pc := 114) dX7_reduce_114 rfl rfl ?_
        refine g_laload (pc := 115) dX7_reduce_115 (shK h6.1 rfl) rfl (show k / n < 32 by omega) (nl rfl) ?_
        rw [e66]
        refine g_lconst (pc := 116) (v := 1) dX7_reduce_116 rfl ?_
        refine g_iload (pc := 117) dX7_reduce_117 rfl ?_
        refine g_lshl (pc := 119) dX7_reduce_119 rfl ?_
        rw [sh_bit (k % n) (by omega)]
        refine g_lxor (pc := 120) dX7_reduce_120 ?_
        rw [uL_xor]
        refine g_lastore (pc := 121) dX7_reduce_121 (shK h6.1 rfl) rfl (show k / n < 32 by omega) (nl rfl) ?_
        refine go_cast e6t ?_
        refine g_aload_n (pc := 122) dX7_reduce_122 rfl trivial ?_
        refine g_aload_n (pc := 123) dX7_reduce_123 rfl trivial ?_
        refine g_getf (pc := 124) dX7_reduce_124 fk_X7_37 (shK h7.1 rfl) (fv_arr (shR h7.1 rfl)) ?_
        refine g_invV_r (pc := 127) (As := [_]) dX7_reduce_127 rfl (q7) rfl rfl (shK h7.1 rfl) rfl rfl lk_X7_256 rfl (nb rfl) ⟨nb rfl, nb rfl⟩ rfl ?_
        refine g_aload_n (pc := 130) dX7_reduce_130 rfl trivial ?_
        refine g_aload_n (pc := 131) dX7_reduce_131 rfl trivial ?_
        refine g_getf (pc := 132) dX7_reduce_132 fk_X7_37 (shK h8.1 rfl) (fv_arr (shR h8.1 rfl)) ?_
        refine g_aload_n (pc := 135) dX7_reduce_135 rfl trivial ?_
        refine g_getf (pc := 136) dX7_reduce_136 fk_X7_34 (shK h8.1 rfl) (fv_arr (shR h8.1 rfl)) ?_
        refine g_invV_r (pc := 139) (As := [_, _]) dX7_reduce_139 rfl (qs) rfl rfl (shK h8.1 rfl) rfl rfl lk_X7_343 rfl (nb rfl) ⟨nb rfl, nb rfl⟩ rfl ?_
        refine g_if_eq (pc := 142) (tgt := 159) dX7_reduce_142 rfl (fun _ => ?_) (fun h142 => absurd (rfl) h142)
        refine g_iinc (pc := 159) (lv' := [(0, _), (1, _), (2, _), (3, _), (4, _), (5, _)]) dX7_reduce_159 rfl (nI_1 _) (nl rfl) rfl ?_
        refine g_goto (pc := 162) (tgt := 49) dX7_reduce_162 rfl ?_
        exact g_sub (lv' := [(0, _), (1, _), (2, _), (3, _)]) ⟨rfl, rfl, rfl, rfl, trivial⟩ ih
  · generalize rcM M1 n f (n * n) = M4 at *
    refine g_iload_n (pc := 49) dX7_reduce_49 rfl ?_
    refine g_aload_n (pc := 50) dX7_reduce_50 rfl trivial ?_
    refine g_invV_r (pc := 51) (As := []) dX7_reduce_51 rfl (r_size h4) rfl rfl (shK h4.1 rfl) rfl rfl lk_X7_71 rfl (nb rfl) ⟨nb rfl, nb rfl⟩ rfl ?_
    refine g_aload_n (pc := 54) dX7_reduce_54 rfl trivial ?_
    refine g_invV_r (pc := 55) (As := []) dX7_reduce_55 rfl (r_size h4) rfl rfl (shK h4.1 rfl) rfl rfl lk_X7_71 rfl (nb rfl) ⟨nb rfl, nb rfl⟩ rfl ?_
    refine g_imul (pc := 58) dX7_reduce_58 ?_
    rw [nI_mul]
    refine g_icmp_ge (pc := 59) (tgt := 165) dX7_reduce_59 rfl (fun _ => ?_) (fun h59 => absurd (nI_le (Nat.le_refl _) (by omega)) h59)
    refine g_aload_n (pc := 165) dX7_reduce_165 rfl trivial ?_
    refine g_aload_n (pc := 166) dX7_reduce_166 rfl trivial ?_
    refine g_getf (pc := 167) dX7_reduce_167 fk_X7_40 (shK h4.1 rfl) (fv_arr (shR h4.1 rfl)) ?_
    refine g_iload_n (pc := 170) dX7_reduce_170 rfl ?_
    refine g_invV_r (pc := 171) (As := [_, _]) dX7_reduce_171 rfl (q4) rfl rfl (shK h4.1 rfl) rfl rfl lk_X7_322 rfl (nb rfl) ⟨nb rfl, nb rfl⟩ rfl ?_
    refine g_ireturn (pc := 174) dX7_reduce_174 rfl rfl ?_
    exact ⟨rfl, rfl⟩
theorem t_reduce {v w : Int32} (h : Rr M n A) (hx : ¬ (inR v 6 ∧ inR w 6)) : EvR l jX7_reduce 4 160 0 0 [.ref 198, .int v, .int w] M (.inl (some (.int 0))) (thr M 1) := by
  have hS := h.1
  refine ev_intro rfl (nb rfl) rfl ?_
  by_cases h1 : inR v 6
  · refine g_aload_n (pc := 0) dX7_reduce_0 rfl trivial ?_
    refine g_iload_n (pc := 1) dX7_reduce_1 rfl ?_
    refine g_invS_r (pc := 2) (As := [_]) dX7_reduce_2 rfl (r_isSlot_t h1) rfl rfl lk_X7_216 rfl (nb rfl) ⟨nb rfl, nb rfl⟩ rfl ?_
    refine g_if_eq (pc := 5) (tgt := 19) dX7_reduce_5 rfl (fun h5 => absurd h5 ((by decide))) (fun _ => ?_)
    refine g_iload_n (pc := 8) dX7_reduce_8 rfl ?_
    refine g_invS_r (pc := 9) (As := [_]) dX7_reduce_9 rfl (r_isSlot_f (fun q => hx ⟨h1, q⟩)) rfl rfl lk_X7_216 rfl (nb rfl) ⟨nb rfl, nb rfl⟩ rfl ?_
    refine g_if_eq (pc := 12) (tgt := 19) dX7_reduce_12 rfl (fun _ => ?_) (fun h12 => absurd (rfl) h12)
    refine g_iconst (pc := 19) (v := 0) dX7_reduce_19 rfl ?_
    refine g_iconst (pc := 20) (v := 1) dX7_reduce_20 rfl ?_
    refine g_invV_r (pc := 21) (As := [_, _]) dX7_reduce_21 rfl (r_isThrown_1 hS) rfl rfl (shK hS rfl) rfl rfl lk_X7_209 rfl (nb rfl) ⟨nb rfl, nb rfl⟩ rfl ?_
    refine g_if_eq (pc := 24) (tgt := 29) dX7_reduce_24 rfl (fun h24 => absurd h24 ((by decide))) (fun _ => ?_)
    refine g_iconst (pc := 27) (v := 0) dX7_reduce_27 rfl ?_
    refine g_ireturn (pc := 28) dX7_reduce_28 rfl rfl ?_
    exact ⟨rfl, rfl⟩
  · refine g_aload_n (pc := 0) dX7_reduce_0 rfl trivial ?_
    refine g_iload_n (pc := 1) dX7_reduce_1 rfl ?_
    refine g_invS_r (pc := 2) (As := [_]) dX7_reduce_2 rfl (r_isSlot_f h1) rfl rfl lk_X7_216 rfl (nb rfl) ⟨nb rfl, nb rfl⟩ rfl ?_
    refine g_if_eq (pc := 5) (tgt := 19) dX7_reduce_5 rfl (fun _ => ?_) (fun h5 => absurd (rfl) h5)
    refine g_iconst (pc := 19) (v := 0) dX7_reduce_19 rfl ?_
    refine g_iconst (pc := 20) (v := 1) dX7_reduce_20 rfl ?_
    refine g_invV_r (pc := 21) (As := [_, _]) dX7_reduce_21 rfl (r_isThrown_1 hS) rfl rfl (shK hS rfl) rfl rfl lk_X7_209 rfl (nb rfl) ⟨nb rfl, nb rfl⟩ rfl ?_
    refine g_if_eq (pc := 24) (tgt := 29) dX7_reduce_24 rfl (fun h24 => absurd h24 ((by decide))) (fun _ => ?_)
    refine g_iconst (pc := 27) (v := 0) dX7_reduce_27 rfl ?_
    refine g_ireturn (pc := 28) dX7_reduce_28 rfl rfl ?_
    exact ⟨rfl, rfl⟩
end

