/-! the reference: products and powers made -/
section
variable {l : Launch} {M : Mem} {n bl c : Nat} {A : Nat → Nat → Int32}
theorem k0M_ne {x : Nat} (hx : x ≠ 201) : mL (k0M M c) x = mL M x := sL_ne hx
theorem muM_R {fl : Bool} {f g : Nat → Int32} (h : Rr M n A) : Rr (muM M fl f g n bl) n A := (ctM_R h).hd (Or.inr (Or.inr rfl))
theorem muM_at {fl : Bool} {f g : Nat → Int32} {i : Nat} (hi : i < n) : mL (muM M fl f g n bl) 207 i = uL (mlF fl f g n i) := hdM_at hi
theorem muM_ne {fl : Bool} {f g : Nat → Int32} {x : Nat} (h1 : x ≠ 199) (h2 : x ≠ 207) : mL (muM M fl f g n bl) x = mL M x := by unfold muM; rw [hdM_ne h2, ctM_ne h1]
theorem muM_1 {fl : Bool} {f g : Nat → Int32} : mL (muM M fl f g n bl) 199 1 = mL M 199 1 := by unfold muM; rw [hdM_ne (by decide), ctM_1]
/-- the memory behind a product -/
def pdM (M : Mem) (n bl t : Nat) (fl : Bool) (f g : Nat → Int32) (c : Nat) : Mem := lsM (muM (hdM (hdM (k0M M c) 205 n f) 206 n g) fl f g n bl) t n (mlF fl f g n)
theorem n_product {a b t : Nat} {fl : Bool} (h : Rr M n A) (hc : mI M 198 5 = nI c) (hc8 : c ≤ 8) (hbl : mL M 199 1 = lN bl) (hb1 : 1 ≤ bl) (hb8 : bl ≤ 8) (ha : a < 6) (hb9 : b < 6) (ht : t < 6) : EvR l jX7_product 4 160 0 0 [.ref 198, .int (nI a), .int (nI b), .int (nI t), .int (b1 fl)] M (.inl (some (.int (onesF (mlF fl (A a) (A b) n) n)))) (pdM M n bl t fl (A a) (A b) c) := by
  have hn := h.2.2.2.1
  have hS := h.1
  have q1 := r_k0 (l := l) h hc hc8
  have h1 : Rr (k0M M c) n A := k0M_R h
  have q2 := r_takes (l := l) (x := 205) h1 ha (Or.inl rfl)
  have h2 : Rr (hdM (k0M M c) 205 n (A a)) n A := h1.hd (Or.inl rfl)
  have q3 := r_takes (l := l) (x := 206) h2 hb9 (Or.inr (Or.inl rfl))
  have h3 : Rr (hdM (hdM (k0M M c) 205 n (A a)) 206 n (A b)) n A := h2.hd (Or.inr (Or.inl rfl))
  have e3 : mL (hdM (hdM (k0M M c) 205 n (A a)) 206 n (A b)) 199 1 = lN bl := by rw [hdM_ne (by decide), hdM_ne (by decide), k0M_ne (by decide)]; exact hbl
  have q4 := r_multiplies (l := l) (xa := 205) (xb := 206) (fl := fl) (f := A a) (g := A b) h3 e3 hb1 hb8 (Or.inl rfl) (Or.inr rfl) (fun i hi => by rw [hdM_ne (by decide)]; exact hdM_at hi) (fun i hi => hdM_at hi)
  have h4 : Rr (muM (hdM (hdM (k0M M c) 205 n (A a)) 206 n (A b)) fl (A a) (A b) n bl) n A := muM_R h3
  have q5 := r_lays (l := l) (x := 207) (f := mlF fl (A a) (A b) n) h4 ht (shK h4.1 rfl) (by decide) (fun i hi => muM_at hi)
  unfold pdM
  generalize lsM (muM (hdM (hdM (k0M M c) 205 n (A a)) 206 n (A b)) fl (A a) (A b) n bl) t n (mlF fl (A a) (A b) n) = M5 at *
  generalize muM (hdM (hdM (k0M M c) 205 n (A a)) 206 n (A b)) fl (A a) (A b) n bl = M4 at *
  generalize hdM (hdM (k0M M c) 205 n (A a)) 206 n (A b) = M3 at *
  generalize hdM (k0M M c) 205 n (A a) = M2 at *
  generalize k0M M c = M1 at *
  refine ev_intro rfl (nb rfl) rfl ?_
  refine g_aload_n (pc := 0) dX7_product_0 rfl trivial ?_
  refine g_iload_n (pc := 1) dX7_product_1 rfl ?_
  refine g_invS_r (pc := 2) (As := [_]) dX7_product_2 rfl (r_isSlot_t (in6 ha)) rfl rfl lk_X7_216 rfl (nb rfl) ⟨nb rfl, nb rfl⟩ rfl ?_
  refine g_if_eq (pc := 5) (tgt := 26) dX7_product_5 rfl (fun h5 => absurd h5 ((by decide))) (fun _ => ?_)
  refine g_iload_n (pc := 8) dX7_product_8 rfl ?_
  refine g_invS_r (pc := 9) (As := [_]) dX7_product_9 rfl (r_isSlot_t (in6 hb9)) rfl rfl lk_X7_216 rfl (nb rfl) ⟨nb rfl, nb rfl⟩ rfl ?_
  refine g_if_eq (pc := 12) (tgt := 26) dX7_product_12 rfl (fun h12 => absurd h12 ((by decide))) (fun _ => ?_)
  refine g_iload_n (pc := 15) dX7_product_15 rfl ?_
  refine g_invS_r (pc := 16) (As := [_]) dX7_product_16 rfl (r_isSlot_t (in6 ht)) rfl rfl lk_X7_216 rfl (nb rfl) ⟨nb rfl, nb rfl⟩ rfl ?_
  refine g_if_eq (pc := 19) (tgt := 26) dX7_product_19 rfl (fun h19 => absurd h19 ((by decide))) (fun _ => ?_)
  refine g_iconst (pc := 22) (v := 1) dX7_product_22 rfl ?_
  refine g_goto (pc := 23) (tgt := 27) dX7_product_23 rfl ?_
  refine g_iconst (pc := 27) (v := 1) dX7_product_27 rfl ?_
  refine g_invV_r (pc := 28) (As := [_, _]) dX7_product_28 rfl (r_isThrown_0 hS) rfl rfl (shK hS rfl) rfl rfl lk_X7_209 rfl (nb rfl) ⟨nb rfl, nb rfl⟩ rfl ?_
  refine g_if_eq (pc := 31) (tgt := 36) dX7_product_31 rfl (fun _ => ?_) (fun h31 => absurd (rfl) h31)
  refine g_aload_n (pc := 36) dX7_product_36 rfl trivial ?_
  refine g_invV_r (pc := 37) (As := []) dX7_product_37 rfl (q1) rfl rfl (shK (h.thr (x := 0)).1 rfl) rfl rfl lk_X7_315 rfl (nb rfl) ⟨nb rfl, nb rfl⟩ rfl ?_
  refine g_aload_n (pc := 40) dX7_product_40 rfl trivial ?_
  refine g_iload_n (pc := 41) dX7_product_41 rfl ?_
  refine g_aload_n (pc := 42) dX7_product_42 rfl trivial ?_
  refine g_getf (pc := 43) dX7_product_43 fk_X7_34 (shK h1.1 rfl) (fv_arr (shR h1.1 rfl)) ?_
  refine g_invV_r (pc := 46) (As := [_, _]) dX7_product_46 rfl (q2) rfl rfl (shK h1.1 rfl) rfl rfl lk_X7_252 rfl (nb rfl) ⟨nb rfl, nb rfl⟩ rfl ?_
  refine g_aload_n (pc := 49) dX7_product_49 rfl trivial ?_
  refine g_iload_n (pc := 50) dX7_product_50 rfl ?_
  refine g_aload_n (pc := 51) dX7_product_51 rfl trivial ?_
  refine g_getf (pc := 52) dX7_product_52 fk_X7_37 (shK h2.1 rfl) (fv_arr (shR h2.1 rfl)) ?_
  refine g_invV_r (pc := 55) (As := [_, _]) dX7_product_55 rfl (q3) rfl rfl (shK h2.1 rfl) rfl rfl lk_X7_252 rfl (nb rfl) ⟨nb rfl, nb rfl⟩ rfl ?_
  refine g_aload_n (pc := 58) dX7_product_58 rfl trivial ?_
  refine g_aload_n (pc := 59) dX7_product_59 rfl trivial ?_
  refine g_getf (pc := 60) dX7_product_60 fk_X7_34 (shK h3.1 rfl) (fv_arr (shR h3.1 rfl)) ?_
  refine g_aload_n (pc := 63) dX7_product_63 rfl trivial ?_
  refine g_getf (pc := 64) dX7_product_64 fk_X7_37 (shK h3.1 rfl) (fv_arr (shR h3.1 rfl)) ?_
  refine g_aload_n (pc := 67) dX7_product_67 rfl trivial ?_
  refine g_getf (pc := 68) dX7_product_68 fk_X7_40 (shK h3.1 rfl) (fv_arr (shR h3.1 rfl)) ?_
  refine g_iload (pc := 71) dX7_product_71 rfl ?_
  refine g_invV_r (pc := 73) (As := [_, _, _, _]) dX7_product_73 rfl (q4) rfl rfl (shK h3.1 rfl) rfl rfl lk_X7_333 rfl (nb rfl) ⟨nb rfl, nb rfl⟩ rfl ?_
  refine g_aload_n (pc := 76) dX7_product_76 rfl trivial ?_
  refine g_aload_n (pc := 77) dX7_product_77 rfl trivial ?_
  refine g_getf (pc := 78) dX7_product_78 fk_X7_40 (shK h4.1 rfl) (fv_arr (shR h4.1 rfl)) ?_
  refine g_iload_n (pc := 81) dX7_product_81 rfl ?_
  refine g_invV_r (pc := 82) (As := [_, _]) dX7_product_82 rfl (q5) rfl rfl (shK h4.1 rfl) rfl rfl lk_X7_322 rfl (nb rfl) ⟨nb rfl, nb rfl⟩ rfl ?_
  refine g_ireturn (pc := 85) dX7_product_85 rfl rfl ?_
  exact ⟨rfl, rfl⟩
theorem t_product {v w u x : Int32} (h : Rr M n A) (hx : ¬ (inR v 6 ∧ inR w 6 ∧ inR u 6)) : EvR l jX7_product 4 160 0 0 [.ref 198, .int v, .int w, .int u, .int x] M (.inl (some (.int 0))) (thr M 1) := by
  have hS := h.1
  refine ev_intro rfl (nb rfl) rfl ?_
  by_cases h1 : inR v 6
  · by_cases h2 : inR w 6
    · refine g_aload_n (pc := 0) dX7_product_0 rfl trivial ?_
      refine g_iload_n (pc := 1) dX7_product_1 rfl ?_
      refine g_invS_r (pc := 2) (As := [_]) dX7_product_2 rfl (r_isSlot_t h1) rfl rfl lk_X7_216 rfl (nb rfl) ⟨nb rfl, nb rfl⟩ rfl ?_
      refine g_if_eq (pc := 5) (tgt := 26) dX7_product_5 rfl (fun h5 => absurd h5 ((by decide))) (fun _ => ?_)
      refine g_iload_n (pc := 8) dX7_product_8 rfl ?_
      refine g_invS_r (pc := 9) (As := [_]) dX7_product_9 rfl (r_isSlot_t h2) rfl rfl lk_X7_216 rfl (nb rfl) ⟨nb rfl, nb rfl⟩ rfl ?_
      refine g_if_eq (pc := 12) (tgt := 26) dX7_product_12 rfl (fun h12 => absurd h12 ((by decide))) (fun _ => ?_)
      refine g_iload_n (pc := 15) dX7_product_15 rfl ?_
      refine g_invS_r (pc := 16) (As := [_]) dX7_product_16 rfl (r_isSlot_f (fun q => hx ⟨h1, h2, q⟩)) rfl rfl lk_X7_216 rfl (nb rfl) ⟨nb rfl, nb rfl⟩ rfl ?_
      refine g_if_eq (pc := 19) (tgt := 26) dX7_product_19 rfl (fun _ => ?_) (fun h19 => absurd (rfl) h19)
      refine g_iconst (pc := 26) (v := 0) dX7_product_26 rfl ?_
      refine g_iconst (pc := 27) (v := 1) dX7_product_27 rfl ?_
      refine g_invV_r (pc := 28) (As := [_, _]) dX7_product_28 rfl (r_isThrown_1 hS) rfl rfl (shK hS rfl) rfl rfl lk_X7_209 rfl (nb rfl) ⟨nb rfl, nb rfl⟩ rfl ?_
      refine g_if_eq (pc := 31) (tgt := 36) dX7_product_31 rfl (fun h31 => absurd h31 ((by decide))) (fun _ => ?_)
      refine g_iconst (pc := 34) (v := 0) dX7_product_34 rfl ?_
      refine g_ireturn (pc := 35) dX7_product_35 rfl rfl ?_
      exact ⟨rfl, rfl⟩
    · refine g_aload_n (pc := 0) dX7_product_0 rfl trivial ?_
      refine g_iload_n (pc := 1) dX7_product_1 rfl ?_
      refine g_invS_r (pc := 2) (As := [_]) dX7_product_2 rfl (r_isSlot_t h1) rfl rfl lk_X7_216 rfl (nb rfl) ⟨nb rfl, nb rfl⟩ rfl ?_
      refine g_if_eq (pc := 5) (tgt := 26) dX7_product_5 rfl (fun h5 => absurd h5 ((by decide))) (fun _ => ?_)
      refine g_iload_n (pc := 8) dX7_product_8 rfl ?_
      refine g_invS_r (pc := 9) (As := [_]) dX7_product_9 rfl (r_isSlot_f h2) rfl rfl lk_X7_216 rfl (nb rfl) ⟨nb rfl, nb rfl⟩ rfl ?_
      refine g_if_eq (pc := 12) (tgt := 26) dX7_product_12 rfl (fun _ => ?_) (fun h12 => absurd (rfl) h12)
      refine g_iconst (pc := 26) (v := 0) dX7_product_26 rfl ?_
      refine g_iconst (pc := 27) (v := 1) dX7_product_27 rfl ?_
      refine g_invV_r (pc := 28) (As := [_, _]) dX7_product_28 rfl (r_isThrown_1 hS) rfl rfl (shK hS rfl) rfl rfl lk_X7_209 rfl (nb rfl) ⟨nb rfl, nb rfl⟩ rfl ?_
      refine g_if_eq (pc := 31) (tgt := 36) dX7_product_31 rfl (fun h31 => absurd h31 ((by decide))) (fun _ => ?_)
      refine g_iconst (pc := 34) (v := 0) dX7_product_34 rfl ?_
      refine g_ireturn (pc := 35) dX7_product_35 rfl rfl ?_
      exact ⟨rfl, rfl⟩
  · refine g_aload_n (pc := 0) dX7_product_0 rfl trivial ?_
    refine g_iload_n (pc := 1) dX7_product_1 rfl ?_
    refine g_invS_r (pc := 2) (As := [_]) dX7_product_2 rfl (r_isSlot_f h1) rfl rfl lk_X7_216 rfl (nb rfl) ⟨nb rfl, nb rfl⟩ rfl ?_
    refine g_if_eq (pc := 5) (tgt := 26) dX7_product_5 rfl (fun _ => ?_) (fun h5 => absurd (rfl) h5)
    refine g_iconst (pc := 26) (v := 0) dX7_product_26 rfl ?_
    refine g_iconst (pc := 27) (v := 1) dX7_product_27 rfl ?_
    refine g_invV_r (pc := 28) (As := [_, _]) dX7_product_28 rfl (r_isThrown_1 hS) rfl rfl (shK hS rfl) rfl rfl lk_X7_209 rfl (nb rfl) ⟨nb rfl, nb rfl⟩ rfl ?_
    refine g_if_eq (pc := 31) (tgt := 36) dX7_product_31 rfl (fun h31 => absurd h31 ((by decide))) (fun _ => ?_)
    refine g_iconst (pc := 34) (v := 0) dX7_product_34 rfl ?_
    refine g_ireturn (pc := 35) dX7_product_35 rfl rfl ?_
    exact ⟨rfl, rfl⟩
theorem r_moves {x y : Nat} {f : Nat → Int32} (h : Rr M n A) (hx : isH x) (hy : isH y) (hxy : x ≠ y) (hf : ∀ i, i < n → mL M x i = uL (f i)) : EvR l jX7_moves 1 30 0 0 [.ref 198, .ref x, .ref y] M (.inl none) (hdM M y n f) := by
  have hn := h.2.2.2.1
  have hS := h.1
  refine ev_intro rfl (nb rfl) rfl ?_
  refine g_iconst (pc := 0) (v := 0) dX7_moves_0 rfl ?_
  refine g_istore_n (pc := 1) (lv' := [(0, _), (1, _), (2, _), (3, _)]) dX7_moves_1 (nl rfl) rfl ?_
  refine go_loop (pc := 2) n (fun i => [(0, .ref 198), (1, .ref x), (2, .ref y), (3, .int (nI i))]) (fun i => sL M y (wr (mL M y) (uR f) i)) ⟨rfl, rfl, rfl, rfl, trivial⟩ (sL_eq (wr_0 _ _)) ?_ ?_
  · intro i hi ih
    have h' : Rr (sL M y (wr (mL M y) (uR f) i)) n A := h.sL hy.ne
    have e1 : mL (sL M y (wr (mL M y) (uR f) i)) x i = uL (f i) := by rw [sL_ne hxy]; exact hf i hi
    refine g_iload_n (pc := 2) dX7_moves_2 rfl ?_
    refine g_aload_n (pc := 3) dX7_moves_3 rfl trivial ?_
    refine g_invV_r (pc := 4) (As := []) dX7_moves_4 rfl (r_size h') rfl rfl (shK h'.1 rfl) rfl rfl lk_X7_71 rfl (nb rfl) ⟨nb rfl, nb rfl⟩ rfl ?_
    refine g_icmp_ge (pc := 7) (tgt := 22) dX7_moves_7 rfl (fun h7 => absurd h7 (nI_ge hi (by omega))) (fun _ => ?_)
    refine g_aload_n (pc := 10) dX7_moves_10 rfl trivial ?_
    refine g_iload_n (pc := 11) dX7_moves_11 rfl ?_
    refine g_aload_n (pc := 12) dX7_moves_12 rfl trivial ?_
    refine g_iload_n (pc := 13) dX7_moves_13 rfl ?_
    refine g_laload (pc := 14) dX7_moves_14 (shK h'.1 hx.k) rfl (by omega) (nl rfl) ?_
    rw [e1]
    refine g_lastore (pc := 15) dX7_moves_15 (shK h'.1 hy.k) rfl (by omega) (nl rfl) ?_
    refine g_iinc (pc := 16) (lv' := [(0, _), (1, _), (2, _), (3, _)]) dX7_moves_16 rfl (nI_1 _) (nl rfl) rfl ?_
    refine g_goto (pc := 19) (tgt := 2) dX7_moves_19 rfl ?_
    exact go_cast (sL_st (wr_s _ (uR f) i)) ih
  · have h' : Rr (sL M y (wr (mL M y) (uR f) n)) n A := h.sL hy.ne
    refine g_iload_n (pc := 2) dX7_moves_2 rfl ?_
    refine g_aload_n (pc := 3) dX7_moves_3 rfl trivial ?_
    refine g_invV_r (pc := 4) (As := []) dX7_moves_4 rfl (r_size h') rfl rfl (shK h'.1 rfl) rfl rfl lk_X7_71 rfl (nb rfl) ⟨nb rfl, nb rfl⟩ rfl ?_
    refine g_icmp_ge (pc := 7) (tgt := 22) dX7_moves_7 rfl (fun _ => ?_) (fun h7 => absurd (nI_le (Nat.le_refl _) (by omega)) h7)
    refine g_return (pc := 22) dX7_moves_22 rfl ?_
    exact ⟨rfl, rfl⟩
/-- a power in the making: the power so far, what the latest product made and took, the third array -/
abbrev PW : Type := (Nat → Int32) × Int64 × Int64 × (Nat → Int64)
def pqM (M : Mem) (n : Nat) (s : PW) : Mem := hdM (sL (pL (pL M 199 2 s.2.1) 199 3 s.2.2.1) 207 s.2.2.2) 205 n s.1
def pwX (f g : Nat → Int32) (fl : Bool) (n bl : Nat) (T : Nat → Int64) : PW := (mlF fl f g n, lN (mdN n bl (blocks n bl)), lN (tkN f n bl (blocks n bl)), wr T (uR (mlF fl f g n)) n)
theorem pqM_R {s : PW} (h : Rr M n A) : Rr (pqM M n s) n A := Rr.hd (Rr.sL ((h.pL (by decide)).pL (by decide)) (by decide)) (Or.inl rfl)
theorem pqM_1 {s : PW} : mL (pqM M n s) 199 1 = mL M 199 1 := by unfold pqM; rw [hdM_ne (by decide), sL_ne (by decide), pL_k (by decide), pL_k (by decide)]
theorem pqM_5 {s : PW} {i : Nat} (hi : i < n) : mL (pqM M n s) 205 i = uL (s.1 i) := hdM_at hi
theorem pqM_6 {s : PW} : mL (pqM M n s) 206 = mL M 206 := by unfold pqM; rw [hdM_ne (by decide), sL_ne (by decide), pL_i (by decide), pL_i (by decide)]
theorem mem_extL {M M' : Mem} (h1 : mK M = mK M') (h2 : mX M = mX M') (h3 : mI M = mI M') (h4 : mR M = mR M') (h5 : mD M = mD M') (h6 : mS M = mS M') (h : ∀ i, mL M i = mL M' i) : M = M' := by
  obtain ⟨a1, a2, a3, a4, a5, a6, a7⟩ := M
  obtain ⟨b1, b2, b3, b4, b5, b6, b7⟩ := M'
  have h7 : a4 = b4 := funext h
  cases h1; cases h2; cases h3; cases h4; cases h5; cases h6; cases h7
  rfl
theorem pL_0 (M : Mem) (i k : Nat) (x : Int64) : mL (pL M i k x) i = fun_set (mL M i) k x := sL_self M i _
theorem ctM_0 {a b : Nat} : mL (ctM M a b) 199 = fun_set (fun_set (mL M 199) 2 (lN a)) 3 (lN b) := by unfold ctM; rw [pL_0, pL_0]
theorem hdM_0 {x : Nat} {f : Nat → Int32} : mL (hdM M x n f) x = wr (mL M x) (uR f) n := sL_self M x _
theorem pq_5 {s : PW} : mL (pqM M n s) 205 = wr (mL M 205) (uR s.1) n := by unfold pqM; rw [hdM_0, sL_ne (by decide), pL_i (by decide), pL_i (by decide)]
theorem pq_7 {s : PW} : mL (pqM M n s) 207 = s.2.2.2 := by unfold pqM; rw [hdM_ne (by decide), sL_self]
theorem pq_9 {s : PW} : mL (pqM M n s) 199 = fun_set (fun_set (mL M 199) 2 s.2.1) 3 s.2.2.1 := by unfold pqM; rw [hdM_ne (by decide), sL_ne (by decide), pL_0, pL_0]
theorem pq_ne {s : PW} {i : Nat} (h1 : i ≠ 199) (h2 : i ≠ 205) (h3 : i ≠ 207) : mL (pqM M n s) i = mL M i := by unfold pqM; rw [hdM_ne h2, sL_ne h3, pL_i h1, pL_i h1]
theorem mu_7 {fl : Bool} {f g : Nat → Int32} : mL (muM M fl f g n bl) 207 = wr (mL M 207) (uR (mlF fl f g n)) n := by unfold muM; rw [hdM_0, ctM_ne (by decide)]
theorem mu_9 {fl : Bool} {f g : Nat → Int32} : mL (muM M fl f g n bl) 199 = fun_set (fun_set (mL M 199) 2 (lN (mdN n bl (blocks n bl)))) 3 (lN (tkN f n bl (blocks n bl))) := by unfold muM; rw [hdM_ne (by decide), ctM_0]
/-- a product and its moving back -/
theorem pw_mul {s : PW} {f g : Nat → Int32} {fl : Bool} : hdM (muM (pqM M n s) fl f g n bl) 205 n (mlF fl f g n) = pqM M n (pwX f g fl n bl s.2.2.2) := by
  refine mem_extL rfl rfl rfl rfl rfl rfl (fun i => ?_)
  by_cases h5 : i = 205
  · subst h5
    rw [hdM_0, muM_ne (by decide) (by decide), pq_5, pq_5, wr_wr]; rfl
  · rw [hdM_ne h5]
    by_cases h7 : i = 207
    · subst h7
      rw [mu_7, pq_7, pq_7]; rfl
    · by_cases h9 : i = 199
      · subst h9
        rw [mu_9, pq_9, pq_9, fs_comm _ _ _ (show 3 ≠ 2 by decide), fs_twice, fs_twice]; rfl
      · rw [muM_ne h9 h7, pq_ne h9 h5 h7, pq_ne h9 h5 h7]
def pwB (f0 : Nat → Int32) (fl : Bool) (n bl : Nat) (x : Int32) (b : Nat) (s : PW) : PW := if hb x b = true then pwX (pwX s.1 s.1 fl n bl s.2.2.2).1 f0 fl n bl (pwX s.1 s.1 fl n bl s.2.2.2).2.2.2 else pwX s.1 s.1 fl n bl s.2.2.2
/-- the bits below k, from the highest on -/
def pwL (f0 : Nat → Int32) (fl : Bool) (n bl : Nat) (x : Int32) : Nat → PW → PW
  | 0, s => s
  | k + 1, s => pwL f0 fl n bl x k (pwB f0 fl n bl x k s)
/-- one more than the highest bit, of those below k -/
def hiB (x : Int32) : Nat → Nat
  | 0 => 0
  | k + 1 => if hb x k = true then k + 1 else hiB x k
theorem hiB_le (x : Int32) : ∀ k, hiB x k ≤ k
  | 0 => Nat.le_refl 0
  | k + 1 => by have := hiB_le x k; rw [hiB]; split <;> omega
def pwS (M : Mem) : PW := (bitI, mL M 199 2, mL M 199 3, mL M 207)
def pqE (M : Mem) (f0 : Nat → Int32) (fl : Bool) (n bl : Nat) (x : Int32) : PW := pwL f0 fl n bl x (hiB x 21) (pwS M)
def pwZ (M : Mem) (n bl t : Nat) (fl : Bool) (f0 : Nat → Int32) (x : Int32) (c : Nat) : Mem := lsM (pqM (hdM (k0M M c) 206 n f0) n (pqE M f0 fl n bl x)) t n (pqE M f0 fl n bl x).1
theorem ishr_bit : ∀ (x : Int32) (b : Nat), b < 32 → x >>> (nI b &&& 31) &&& 1 = b1 (hb x b) := by
  intro x b hb9
  apply Int32.toBitVec_inj.mp
  apply BitVec.eq_of_getLsbD_eq
  intro i hi
  have e : ((nI b &&& 31).toBitVec.smod 32).toNat = b := (by decide +kernel : ∀ b, b < 32 → ((nI b &&& 31).toBitVec.smod 32).toNat = b) b hb9
  rw [Int32.toBitVec_and, BitVec.getLsbD_and, Int32.toBitVec_shiftRight]
  show ((BitVec.sshiftRight x.toBitVec ((nI b &&& 31).toBitVec.smod 32).toNat).getLsbD i && _) = _
  rw [e, BitVec.getLsbD_sshiftRight]
  have h2 : (b1 (hb x b)).toBitVec.getLsbD i = (hb x b && decide (i = 0)) := hb_b1 _ i
  rw [h2]
  by_cases h0 : i = 0
  · subst h0
    have h3 : (1 : Int32).toBitVec.getLsbD 0 = true := by decide
    rw [h3]
    simp [hb9, hb]
  · have h3 : (1 : Int32).toBitVec.getLsbD i = false := (by decide +kernel : ∀ i, i < 32 → i ≠ 0 → (1 : Int32).toBitVec.getLsbD i = false) i hi h0
    rw [h3]; simp [h0]
theorem n_power {s t : Nat} {x : Int32} {fl : Bool} (h : Rr M n A) (hc : mI M 198 5 = nI c) (hc8 : c ≤ 8) (hbl : mL M 199 1 = lN bl) (hb1 : 1 ≤ bl) (hb8 : bl ≤ 8) (hs : s < 6) (ht : t < 6) (hx : ¬ x < 0 ∧ x ≤ 1000000) : EvR l jX7_power 4 160 0 0 [.ref 198, .int (nI s), .int x, .int (nI t), .int (b1 fl)] M (.inl (some (.int (onesF (pqE M (A s) fl n bl x).1 n)))) (pwZ M n bl t fl (A s) x c) := by
  have hn := h.2.2.2.1
  have hS := h.1
  have h' := h.thr (x := 0)
  have e2 : thr (thr M 0) 0 = thr M 0 := thr_2
  have hl2 : (0 : Int64) ≤ x.toInt64 ∧ x.toInt64 ≤ 1000000 := (lim_long (a := 0) (b := 1000000)).mpr hx
  have q1 := r_k0 (l := l) h hc hc8
  have h1 : Rr (k0M M c) n A := k0M_R h
  have q2 := r_takes (l := l) (x := 206) h1 hs (Or.inr (Or.inl rfl))
  have h2 : Rr (hdM (k0M M c) 206 n (A s)) n A := h1.hd (Or.inr (Or.inl rfl))
  have e21 : mL (hdM (k0M M c) 206 n (A s)) 199 1 = lN bl := by rw [hdM_ne (by decide), k0M_ne (by decide)]; exact hbl
  have e26 : ∀ i, i < n → mL (hdM (k0M M c) 206 n (A s)) 206 i = uL (A s i) := fun i hi => hdM_at hi
  have e27 : pwS M = pwS (hdM (k0M M c) 206 n (A s)) := by unfold pwS; rw [hdM_ne (by decide), hdM_ne (by decide), k0M_ne (by decide), k0M_ne (by decide)]
  unfold pwZ pqE
  rw [e27]
  generalize hdM (k0M M c) 206 n (A s) = M2 at *
  generalize k0M M c = M1 at *
  generalize A s = f0 at *
  have e20 : sL M2 205 (wr (mL M2 205) (uR bitI) n) = pqM M2 n (pwS M2) := by
    unfold pqM pwS
    simp only
    have z2 : pL M2 199 2 (mL M2 199 2) = M2 := by show sL M2 199 (fun_set (mL M2 199) 2 (mL M2 199 2)) = M2; rw [fs_same, sL_id]
    have z3 : pL M2 199 3 (mL M2 199 3) = M2 := by show sL M2 199 (fun_set (mL M2 199) 3 (mL M2 199 3)) = M2; rw [fs_same, sL_id]
    rw [z2, z3, sL_id]; rfl
  refine ev_intro rfl (nb rfl) rfl ?_
  refine g_aload_n (pc := 0) dX7_power_0 rfl trivial ?_
  refine g_iload_n (pc := 1) dX7_power_1 rfl ?_
  refine g_invS_r (pc := 2) (As := [_]) dX7_power_2 rfl (r_isSlot_t (in6 hs)) rfl rfl lk_X7_216 rfl (nb rfl) ⟨nb rfl, nb rfl⟩ rfl ?_
  refine g_if_eq (pc := 5) (tgt := 19) dX7_power_5 rfl (fun h5 => absurd h5 ((by decide))) (fun _ => ?_)
  refine g_iload_n (pc := 8) dX7_power_8 rfl ?_
  refine g_invS_r (pc := 9) (As := [_]) dX7_power_9 rfl (r_isSlot_t (in6 ht)) rfl rfl lk_X7_216 rfl (nb rfl) ⟨nb rfl, nb rfl⟩ rfl ?_
  refine g_if_eq (pc := 12) (tgt := 19) dX7_power_12 rfl (fun h12 => absurd h12 ((by decide))) (fun _ => ?_)
  refine g_iconst (pc := 15) (v := 1) dX7_power_15 rfl ?_
  refine g_goto (pc := 16) (tgt := 20) dX7_power_16 rfl ?_
  refine g_iconst (pc := 20) (v := 1) dX7_power_20 rfl ?_
  refine g_invV_r (pc := 21) (As := [_, _]) dX7_power_21 rfl (r_isThrown_0 hS) rfl rfl (shK hS rfl) rfl rfl lk_X7_209 rfl (nb rfl) ⟨nb rfl, nb rfl⟩ rfl ?_
  refine g_if_ne (pc := 24) (tgt := 44) dX7_power_24 rfl (fun h24 => absurd h24 ((fun z => z rfl))) (fun _ => ?_)
  refine g_aload_n (pc := 27) dX7_power_27 rfl trivial ?_
  refine g_iload_n (pc := 28) dX7_power_28 rfl ?_
  refine g_i2l (pc := 29) dX7_power_29 rfl ?_
  refine g_lconst (pc := 30) (v := 0) dX7_power_30 rfl ?_
  refine g_ldc2 (pc := 31) dX7_power_31 wd_1721 ?_
  refine g_invS_r (pc := 34) (As := [_, _, _]) dX7_power_34 rfl (r_in_t hl2.1 hl2.2) rfl rfl lk_X7_67 rfl (nb rfl) ⟨nb rfl, nb rfl⟩ rfl ?_
  refine g_iconst (pc := 37) (v := 2) dX7_power_37 rfl ?_
  refine g_invV_r (pc := 38) (As := [_, _]) dX7_power_38 rfl (r_isThrown_0 h'.1) rfl rfl (shK hS rfl) rfl rfl lk_X7_209 rfl (nb rfl) ⟨nb rfl, nb rfl⟩ rfl ?_
  refine go_cast e2 ?_
  refine g_if_eq (pc := 41) (tgt := 46) dX7_power_41 rfl (fun _ => ?_) (fun h41 => absurd (rfl) h41)
  refine g_aload_n (pc := 46) dX7_power_46 rfl trivial ?_
  refine g_invV_r (pc := 47) (As := []) dX7_power_47 rfl (q1) rfl rfl (shK h'.1 rfl) rfl rfl lk_X7_315 rfl (nb rfl) ⟨nb rfl, nb rfl⟩ rfl ?_
  refine g_aload_n (pc := 50) dX7_power_50 rfl trivial ?_
  refine g_iload_n (pc := 51) dX7_power_51 rfl ?_
  refine g_aload_n (pc := 52) dX7_power_52 rfl trivial ?_
  refine g_getf (pc := 53) dX7_power_53 fk_X7_37 (shK h1.1 rfl) (fv_arr (shR h1.1 rfl)) ?_
  refine g_invV_r (pc := 56) (As := [_, _]) dX7_power_56 rfl (q2) rfl rfl (shK h1.1 rfl) rfl rfl lk_X7_252 rfl (nb rfl) ⟨nb rfl, nb rfl⟩ rfl ?_
  refine g_iconst (pc := 59) (v := 0) dX7_power_59 rfl ?_
  refine g_istore (pc := 60) (lv' := [(0, _), (1, _), (2, _), (3, _), (4, _), (5, _)]) dX7_power_60 (nl rfl) rfl ?_
  refine go_loop (pc := 62) n (fun i => [(0, .ref 198), (1, .int (nI s)), (2, .int x), (3, .int (nI t)), (4, .int (b1 fl)), (5, .int (nI i))]) (fun i => sL M2 205 (wr (mL M2 205) (uR bitI) i)) ⟨rfl, rfl, rfl, rfl, rfl, rfl, trivial⟩ (sL_eq (wr_0 _ _)) ?_ ?_
  · intro i hi ih
    have h3 : Rr (sL M2 205 (wr (mL M2 205) (uR bitI) i)) n A := h2.sL (by decide)
    refine g_iload (pc := 62) dX7_power_62 rfl ?_
    refine g_aload_n (pc := 64) dX7_power_64 rfl trivial ?_
    refine g_invV_r (pc := 65) (As := []) dX7_power_65 rfl (r_size h3) rfl rfl (shK h3.1 rfl) rfl rfl lk_X7_71 rfl (nb rfl) ⟨nb rfl, nb rfl⟩ rfl ?_
    refine g_icmp_ge (pc := 68) (tgt := 88) dX7_power_68 rfl (fun h68 => absurd h68 (nI_ge hi (by omega))) (fun _ => ?_)
    refine g_aload_n (pc := 71) dX7_power_71 rfl trivial ?_
    refine g_getf (pc := 72) dX7_power_72 fk_X7_34 (shK h3.1 rfl) (fv_arr (shR h3.1 rfl)) ?_
    refine g_iload (pc := 75) dX7_power_75 rfl ?_
    refine g_lconst (pc := 77) (v := 1) dX7_power_77 rfl ?_
    refine g_iload (pc := 78) dX7_power_78 rfl ?_
    refine g_lshl (pc := 80) dX7_power_80 rfl ?_
    rw [sh_bit i (by omega)]
    refine g_lastore (pc := 81) dX7_power_81 (shK h3.1 rfl) rfl (by omega) (nl rfl) ?_
    refine g_iinc (pc := 82) (lv' := [(0, _), (1, _), (2, _), (3, _), (4, _), (5, _)]) dX7_power_82 rfl (nI_1 _) (nl rfl) rfl ?_
    refine g_goto (pc := 85) (tgt := 62) dX7_power_85 rfl ?_
    exact go_cast (sL_st (wr_s _ (uR bitI) i)) ih
  · have h3 : Rr (sL M2 205 (wr (mL M2 205) (uR bitI) n)) n A := h2.sL (by decide)
    have hmain : Go l jX7_power 4 160 0 0 (fun r' M' => r' = .inl (some (.int (onesF (pwL f0 fl n bl x (hiB x 21) (pwS M2)).1 n))) ∧ M' = lsM (pqM M2 n (pwL f0 fl n bl x (hiB x 21) (pwS M2))) t n (pwL f0 fl n bl x (hiB x 21) (pwS M2)).1) 112 [(0, .ref 198), (1, .int (nI s)), (2, .int x), (3, .int (nI t)), (4, .int (b1 fl)), (5, .int (nI (hiB x 21) - 1))] [] 0 0 (pqM M2 n (pwS M2)) := by
      obtain ⟨E, hE⟩ : ∃ E, E = pwL f0 fl n bl x (hiB x 21) (pwS M2) := ⟨_, rfl⟩
      rw [← hE]
      refine go_while (pc := 112) (σ := Nat × PW) (fun q => q.1 ≤ 21 ∧ pwL f0 fl n bl x q.1 q.2 = E) (fun q => q.1) (fun q => [(0, .ref 198), (1, .int (nI s)), (2, .int x), (3, .int (nI t)), (4, .int (b1 fl)), (5, .int (nI q.1 - 1))]) (fun q => pqM M2 n q.2) (hiB x 21, pwS M2) ⟨rfl, rfl, rfl, rfl, rfl, rfl, trivial⟩ rfl ⟨hiB_le x 21, hE.symm⟩ ?_
      rintro ⟨k, z⟩ ⟨k1, k2⟩ ih
      simp only at k1 k2 ih
      have h4 : Rr (pqM M2 n z) n A := pqM_R h2
      cases k with
      | zero =>
        rw [pwL] at k2
        subst k2
        have q5 := r_lays (l := l) (x := 205) (f := z.1) h4 ht (shK h4.1 rfl) (by decide) (fun i hi => pqM_5 hi)
        generalize lsM (pqM M2 n z) t n z.1 = M6 at *
        generalize pqM M2 n z = M5 at *
        refine g_iload (pc := 112) dX7_power_112 rfl ?_
        refine g_if_lt (pc := 114) (tgt := 193) dX7_power_114 rfl (fun _ => ?_) (fun h114 => absurd ((show nI 0 - 1 < 0 by decide)) h114)
        refine g_aload_n (pc := 193) dX7_power_193 rfl trivial ?_
        refine g_aload_n (pc := 194) dX7_power_194 rfl trivial ?_
        refine g_getf (pc := 195) dX7_power_195 fk_X7_34 (shK h4.1 rfl) (fv_arr (shR h4.1 rfl)) ?_
        refine g_iload_n (pc := 198) dX7_power_198 rfl ?_
        refine g_invV_r (pc := 199) (As := [_, _]) dX7_power_199 rfl (q5) rfl rfl (shK h4.1 rfl) rfl rfl lk_X7_322 rfl (nb rfl) ⟨nb rfl, nb rfl⟩ rfl ?_
        refine g_ireturn (pc := 202) dX7_power_202 rfl rfl ?_
        exact ⟨rfl, rfl⟩
      | succ k =>
        rw [pwL] at k2
        have ih2 := ih (k, pwB f0 fl n bl x k z) ⟨by simp only; omega, k2⟩ (by simp only; omega)
        simp only at ih2
        have e41 : mL (pqM M2 n z) 199 1 = lN bl := pqM_1.trans e21
        have q4 := r_multiplies (l := l) (xa := 205) (xb := 205) (fl := fl) (f := z.1) (g := z.1) h4 e41 hb1 hb8 (Or.inl rfl) (Or.inl rfl) (fun i hi => pqM_5 hi) (fun i hi => pqM_5 hi)
        have h5 : Rr (muM (pqM M2 n z) fl z.1 z.1 n bl) n A := muM_R h4
        have q5 := r_moves (l := l) (x := 207) (y := 205) (f := mlF fl z.1 z.1 n) h5 (Or.inr (Or.inr rfl)) (Or.inl rfl) (by decide) (fun i hi => muM_at hi)
        rw [pw_mul] at q5
        have h6 : Rr (pqM M2 n (pwX z.1 z.1 fl n bl z.2.2.2)) n A := pqM_R h2
        have e61 : mL (pqM M2 n (pwX z.1 z.1 fl n bl z.2.2.2)) 199 1 = lN bl := pqM_1.trans e21
        generalize hz2 : pwX z.1 z.1 fl n bl z.2.2.2 = z2 at *
        have q6 := r_multiplies (l := l) (xa := 205) (xb := 206) (fl := fl) (f := z2.1) (g := f0) h6 e61 hb1 hb8 (Or.inl rfl) (Or.inr rfl) (fun i hi => pqM_5 hi) (fun i hi => by rw [pqM_6]; exact e26 i hi)
        have h7 : Rr (muM (pqM M2 n z2) fl z2.1 f0 n bl) n A := muM_R h6
        have q7 := r_moves (l := l) (x := 207) (y := 205) (f := mlF fl z2.1 f0 n) h7 (Or.inr (Or.inr rfl)) (Or.inl rfl) (by decide) (fun i hi => muM_at hi)
        rw [pw_mul] at q7
        have h8 : Rr (pqM M2 n (pwX z2.1 f0 fl n bl z2.2.2.2)) n A := pqM_R h2
        have ebit := ishr_bit x k (by omega)
        unfold pwB at ih2
        rw [hz2] at ih2
        rw [nI_pred]
        generalize hM8 : pqM M2 n (pwX z2.1 f0 fl n bl z2.2.2.2) = M8 at *
        generalize muM (pqM M2 n z2) fl z2.1 f0 n bl = M7 at *
        generalize muM (pqM M2 n z) fl z.1 z.1 n bl = M5 at *
        cases hb7 : hb x k with
        | true =>
          rw [hb7, if_pos rfl, hM8] at ih2
          rw [hb7] at ebit
          generalize pqM M2 n z2 = M6 at *
          generalize pqM M2 n z = M4 at *
          refine g_iload (pc := 112) dX7_power_112 rfl ?_
          refine g_if_lt (pc := 114) (tgt := 193) dX7_power_114 rfl (fun h114 => absurd h114 (nI_pos (by omega))) (fun _ => ?_)
          refine g_aload_n (pc := 117) dX7_power_117 rfl trivial ?_
          refine g_aload_n (pc := 118) dX7_power_118 rfl trivial ?_
          refine g_getf (pc := 119) dX7_power_119 fk_X7_34 (shK h4.1 rfl) (fv_arr (shR h4.1 rfl)) ?_
          refine g_aload_n (pc := 122) dX7_power_122 rfl trivial ?_
          refine g_getf (pc := 123) dX7_power_123 fk_X7_34 (shK h4.1 rfl) (fv_arr (shR h4.1 rfl)) ?_
          refine g_aload_n (pc := 126) dX7_power_126 rfl trivial ?_
          refine g_getf (pc := 127) dX7_power_127 fk_X7_40 (shK h4.1 rfl) (fv_arr (shR h4.1 rfl)) ?_
          refine g_iload (pc := 130) dX7_power_130 rfl ?_
          refine g_invV_r (pc := 132) (As := [_, _, _, _]) dX7_power_132 rfl (q4) rfl rfl (shK h4.1 rfl) rfl rfl lk_X7_333 rfl (nb rfl) ⟨nb rfl, nb rfl⟩ rfl ?_
          refine g_aload_n (pc := 135) dX7_power_135 rfl trivial ?_
          refine g_aload_n (pc := 136) dX7_power_136 rfl trivial ?_
          refine g_getf (pc := 137) dX7_power_137 fk_X7_40 (shK h5.1 rfl) (fv_arr (shR h5.1 rfl)) ?_
          refine g_aload_n (pc := 140) dX7_power_140 rfl trivial ?_
          refine g_getf (pc := 141) dX7_power_141 fk_X7_34 (shK h5.1 rfl) (fv_arr (shR h5.1 rfl)) ?_
          refine g_invV_r (pc := 144) (As := [_, _]) dX7_power_144 rfl (q5) rfl rfl (shK h5.1 rfl) rfl rfl lk_X7_339 rfl (nb rfl) ⟨nb rfl, nb rfl⟩ rfl ?_
          refine g_iload_n (pc := 147) dX7_power_147 rfl ?_
          refine g_iload (pc := 148) dX7_power_148 rfl ?_
          refine g_ishr (pc := 150) dX7_power_150 ?_
          refine g_iconst (pc := 151) (v := 1) dX7_power_151 rfl ?_
          refine g_iand (pc := 152) dX7_power_152 ?_
          rw [ebit]
          refine g_iconst (pc := 153) (v := 1) dX7_power_153 rfl ?_
          refine g_icmp_ne (pc := 154) (tgt := 187) dX7_power_154 rfl (fun h154 => absurd h154 ((fun z => z rfl))) (fun _ => ?_)
          refine g_aload_n (pc := 157) dX7_power_157 rfl trivial ?_
          refine g_aload_n (pc := 158) dX7_power_158 rfl trivial ?_
          refine g_getf (pc := 159) dX7_power_159 fk_X7_34 (shK h6.1 rfl) (fv_arr (shR h6.1 rfl)) ?_
          refine g_aload_n (pc := 162) dX7_power_162 rfl trivial ?_
          refine g_getf (pc := 163) dX7_power_163 fk_X7_37 (shK h6.1 rfl) (fv_arr (shR h6.1 rfl)) ?_
          refine g_aload_n (pc := 166) dX7_power_166 rfl trivial ?_
          refine g_getf (pc := 167) dX7_power_167 fk_X7_40 (shK h6.1 rfl) (fv_arr (shR h6.1 rfl)) ?_
          refine g_iload (pc := 170) dX7_power_170 rfl ?_
          refine g_invV_r (pc := 172) (As := [_, _, _, _]) dX7_power_172 rfl (q6) rfl rfl (shK h6.1 rfl) rfl rfl lk_X7_333 rfl (nb rfl) ⟨nb rfl, nb rfl⟩ rfl ?_
          refine g_aload_n (pc := 175) dX7_power_175 rfl trivial ?_
          refine g_aload_n (pc := 176) dX7_power_176 rfl trivial ?_
          refine g_getf (pc := 177) dX7_power_177 fk_X7_40 (shK h7.1 rfl) (fv_arr (shR h7.1 rfl)) ?_
          refine g_aload_n (pc := 180) dX7_power_180 rfl trivial ?_
          refine g_getf (pc := 181) dX7_power_181 fk_X7_34 (shK h7.1 rfl) (fv_arr (shR h7.1 rfl)) ?_
          refine g_invV_r (pc := 184) (As := [_, _]) dX7_power_184 rfl (q7) rfl rfl (shK h7.1 rfl) rfl rfl lk_X7_339 rfl (nb rfl) ⟨nb rfl, nb rfl⟩ rfl ?_
          refine g_iinc (pc := 187) (lv' := [(0, _), (1, _), (2, _), (3, _), (4, _), (5, _)]) dX7_power_187 rfl (show nI k + -1 = nI k - 1 from (Int32.sub_eq_add_neg _ _).symm) (nl rfl) rfl ?_
          refine g_goto (pc := 190) (tgt := 112) dX7_power_190 rfl ?_
          exact ih2
        | false =>
          rw [hb7, if_neg (by decide)] at ih2
          rw [hb7] at ebit
          generalize pqM M2 n z2 = M6 at *
          generalize pqM M2 n z = M4 at *
          refine g_iload (pc := 112) dX7_power_112 rfl ?_
          refine g_if_lt (pc := 114) (tgt := 193) dX7_power_114 rfl (fun h114 => absurd h114 (nI_pos (by omega))) (fun _ => ?_)
          refine g_aload_n (pc := 117) dX7_power_117 rfl trivial ?_
          refine g_aload_n (pc := 118) dX7_power_118 rfl trivial ?_
          refine g_getf (pc := 119) dX7_power_119 fk_X7_34 (shK h4.1 rfl) (fv_arr (shR h4.1 rfl)) ?_
          refine g_aload_n (pc := 122) dX7_power_122 rfl trivial ?_
          refine g_getf (pc := 123) dX7_power_123 fk_X7_34 (shK h4.1 rfl) (fv_arr (shR h4.1 rfl)) ?_
          refine g_aload_n (pc := 126) dX7_power_126 rfl trivial ?_
          refine g_getf (pc := 127) dX7_power_127 fk_X7_40 (shK h4.1 rfl) (fv_arr (shR h4.1 rfl)) ?_
          refine g_iload (pc := 130) dX7_power_130 rfl ?_
          refine g_invV_r (pc := 132) (As := [_, _, _, _]) dX7_power_132 rfl (q4) rfl rfl (shK h4.1 rfl) rfl rfl lk_X7_333 rfl (nb rfl) ⟨nb rfl, nb rfl⟩ rfl ?_
          refine g_aload_n (pc := 135) dX7_power_135 rfl trivial ?_
          refine g_aload_n (pc := 136) dX7_power_136 rfl trivial ?_
          refine g_getf (pc := 137) dX7_power_137 fk_X7_40 (shK h5.1 rfl) (fv_arr (shR h5.1 rfl)) ?_
          refine g_aload_n (pc := 140) dX7_power_140 rfl trivial ?_
          refine g_getf (pc := 141) dX7_power_141 fk_X7_34 (shK h5.1 rfl) (fv_arr (shR h5.1 rfl)) ?_
          refine g_invV_r (pc := 144) (As := [_, _]) dX7_power_144 rfl (q5) rfl rfl (shK h5.1 rfl) rfl rfl lk_X7_339 rfl (nb rfl) ⟨nb rfl, nb rfl⟩ rfl ?_
          refine g_iload_n (pc := 147) dX7_power_147 rfl ?_
          refine g_iload (pc := 148) dX7_power_148 rfl ?_
          refine g_ishr (pc := 150) dX7_power_150 ?_
          refine g_iconst (pc := 151) (v := 1) dX7_power_151 rfl ?_
          refine g_iand (pc := 152) dX7_power_152 ?_
          rw [ebit]
          refine g_iconst (pc := 153) (v := 1) dX7_power_153 rfl ?_
          refine g_icmp_ne (pc := 154) (tgt := 187) dX7_power_154 rfl (fun _ => ?_) (fun h154 => absurd ((by decide)) h154)
          refine g_iinc (pc := 187) (lv' := [(0, _), (1, _), (2, _), (3, _), (4, _), (5, _)]) dX7_power_187 rfl (show nI k + -1 = nI k - 1 from (Int32.sub_eq_add_neg _ _).symm) (nl rfl) rfl ?_
          refine g_goto (pc := 190) (tgt := 112) dX7_power_190 rfl ?_
          exact ih2
    have h3 : Rr (pqM M2 n (pwS M2)) n A := pqM_R h2
    rw [e20]
    generalize pwL f0 fl n bl x (hiB x 21) (pwS M2) = E at *
    generalize pqM M2 n (pwS M2) = M3 at *
    refine g_iload (pc := 62) dX7_power_62 rfl ?_
    refine g_aload_n (pc := 64) dX7_power_64 rfl trivial ?_
    refine g_invV_r (pc := 65) (As := []) dX7_power_65 rfl (r_size h3) rfl rfl (shK h3.1 rfl) rfl rfl lk_X7_71 rfl (nb rfl) ⟨nb rfl, nb rfl⟩ rfl ?_
    refine g_icmp_ge (pc := 68) (tgt := 88) dX7_power_68 rfl (fun _ => ?_) (fun h68 => absurd (nI_le (Nat.le_refl _) (by omega)) h68)
    refine g_bipush (pc := 88) (v := 20) dX7_power_88 rfl ?_
    refine g_istore (pc := 90) (lv' := [(0, _), (1, _), (2, _), (3, _), (4, _), (5, _)]) dX7_power_90 (nl rfl) rfl ?_
    refine go_while (pc := 92) (σ := Nat) (fun q => q ≤ 21 ∧ hiB x q = hiB x 21) (fun q => q) (fun q => [(0, .ref 198), (1, .int (nI s)), (2, .int x), (3, .int (nI t)), (4, .int (b1 fl)), (5, .int (nI q - 1))]) (fun q => M3) 21 ⟨rfl, rfl, rfl, rfl, rfl, by rw [nI_pred]; rfl, trivial⟩ rfl ⟨Nat.le_refl _, rfl⟩ ?_
    rintro q ⟨a1, a2⟩ ih
    cases q with
    | zero =>
      rw [← a2, hiB] at hmain
      refine g_iload (pc := 92) dX7_power_92 rfl ?_
      refine g_if_lt (pc := 94) (tgt := 112) dX7_power_94 rfl (fun _ => ?_) (fun h94 => absurd ((show nI 0 - 1 < 0 by decide)) h94)
      exact hmain
    | succ q =>
      have ebit := ishr_bit x q (by omega)
      rw [hiB] at a2
      rw [nI_pred]
      cases hb7 : hb x q with
      | true =>
        rw [hb7, if_pos rfl] at a2
        rw [hb7] at ebit
        rw [← a2, nI_pred] at hmain
        refine g_iload (pc := 92) dX7_power_92 rfl ?_
        refine g_if_lt (pc := 94) (tgt := 112) dX7_power_94 rfl (fun h94 => absurd h94 (nI_pos (by omega))) (fun _ => ?_)
        refine g_iload_n (pc := 97) dX7_power_97 rfl ?_
        refine g_iload (pc := 98) dX7_power_98 rfl ?_
        refine g_ishr (pc := 100) dX7_power_100 ?_
        refine g_iconst (pc := 101) (v := 1) dX7_power_101 rfl ?_
        refine g_iand (pc := 102) dX7_power_102 ?_
        rw [ebit]
        refine g_if_ne (pc := 103) (tgt := 112) dX7_power_103 rfl (fun _ => ?_) (fun h103 => absurd ((by decide)) h103)
        exact hmain
      | false =>
        rw [hb7, if_neg (by decide)] at a2
        rw [hb7] at ebit
        have ih2 := ih q ⟨by omega, a2⟩ (by omega)
        refine g_iload (pc := 92) dX7_power_92 rfl ?_
        refine g_if_lt (pc := 94) (tgt := 112) dX7_power_94 rfl (fun h94 => absurd h94 (nI_pos (by omega))) (fun _ => ?_)
        refine g_iload_n (pc := 97) dX7_power_97 rfl ?_
        refine g_iload (pc := 98) dX7_power_98 rfl ?_
        refine g_ishr (pc := 100) dX7_power_100 ?_
        refine g_iconst (pc := 101) (v := 1) dX7_power_101 rfl ?_
        refine g_iand (pc := 102) dX7_power_102 ?_
        rw [ebit]
        refine g_if_ne (pc := 103) (tgt := 112) dX7_power_103 rfl (fun h103 => absurd h103 ((fun z => z rfl))) (fun _ => ?_)
        refine g_iinc (pc := 106) (lv' := [(0, _), (1, _), (2, _), (3, _), (4, _), (5, _)]) dX7_power_106 rfl (show nI q + -1 = nI q - 1 from (Int32.sub_eq_add_neg _ _).symm) (nl rfl) rfl ?_
        refine g_goto (pc := 109) (tgt := 92) dX7_power_109 rfl ?_
        exact ih2
theorem t_power {v w u x : Int32} (h : Rr M n A) (hx : ¬ (inR v 6 ∧ inR u 6)) : EvR l jX7_power 4 160 0 0 [.ref 198, .int v, .int w, .int u, .int x] M (.inl (some (.int 0))) (thr M 1) := by
  have hS := h.1
  refine ev_intro rfl (nb rfl) rfl ?_
  by_cases h1 : inR v 6
  · refine g_aload_n (pc := 0) dX7_power_0 rfl trivial ?_
    refine g_iload_n (pc := 1) dX7_power_1 rfl ?_
    refine g_invS_r (pc := 2) (As := [_]) dX7_power_2 rfl (r_isSlot_t h1) rfl rfl lk_X7_216 rfl (nb rfl) ⟨nb rfl, nb rfl⟩ rfl ?_
    refine g_if_eq (pc := 5) (tgt := 19) dX7_power_5 rfl (fun h5 => absurd h5 ((by decide))) (fun _ => ?_)
    refine g_iload_n (pc := 8) dX7_power_8 rfl ?_
    refine g_invS_r (pc := 9) (As := [_]) dX7_power_9 rfl (r_isSlot_f (fun q => hx ⟨h1, q⟩)) rfl rfl lk_X7_216 rfl (nb rfl) ⟨nb rfl, nb rfl⟩ rfl ?_
    refine g_if_eq (pc := 12) (tgt := 19) dX7_power_12 rfl (fun _ => ?_) (fun h12 => absurd (rfl) h12)
    refine g_iconst (pc := 19) (v := 0) dX7_power_19 rfl ?_
    refine g_iconst (pc := 20) (v := 1) dX7_power_20 rfl ?_
    refine g_invV_r (pc := 21) (As := [_, _]) dX7_power_21 rfl (r_isThrown_1 hS) rfl rfl (shK hS rfl) rfl rfl lk_X7_209 rfl (nb rfl) ⟨nb rfl, nb rfl⟩ rfl ?_
    refine g_if_ne (pc := 24) (tgt := 44) dX7_power_24 rfl (fun _ => ?_) (fun h24 => absurd ((by decide)) h24)
    refine g_iconst (pc := 44) (v := 0) dX7_power_44 rfl ?_
    refine g_ireturn (pc := 45) dX7_power_45 rfl rfl ?_
    exact ⟨rfl, rfl⟩
  · refine g_aload_n (pc := 0) dX7_power_0 rfl trivial ?_
    refine g_iload_n (pc := 1) dX7_power_1 rfl ?_
    refine g_invS_r (pc := 2) (As := [_]) dX7_power_2 rfl (r_isSlot_f h1) rfl rfl lk_X7_216 rfl (nb rfl) ⟨nb rfl, nb rfl⟩ rfl ?_
    refine g_if_eq (pc := 5) (tgt := 19) dX7_power_5 rfl (fun _ => ?_) (fun h5 => absurd (rfl) h5)
    refine g_iconst (pc := 19) (v := 0) dX7_power_19 rfl ?_
    refine g_iconst (pc := 20) (v := 1) dX7_power_20 rfl ?_
    refine g_invV_r (pc := 21) (As := [_, _]) dX7_power_21 rfl (r_isThrown_1 hS) rfl rfl (shK hS rfl) rfl rfl lk_X7_209 rfl (nb rfl) ⟨nb rfl, nb rfl⟩ rfl ?_
    refine g_if_ne (pc := 24) (tgt := 44) dX7_power_24 rfl (fun _ => ?_) (fun h24 => absurd ((by decide)) h24)
    refine g_iconst (pc := 44) (v := 0) dX7_power_44 rfl ?_
    refine g_ireturn (pc := 45) dX7_power_45 rfl rfl ?_
    exact ⟨rfl, rfl⟩
theorem u_power' {v w u x : Int32} (h : Rr M n A) (h1 : inR v 6) (h2 : inR u 6) (hx : ¬ (¬ w < 0 ∧ w ≤ 1000000)) : EvR l jX7_power 4 160 0 0 [.ref 198, .int v, .int w, .int u, .int x] M (.inl (some (.int 0))) (thr M 2) := by
  have hS := h.1
  have h' := h.thr (x := 0)
  refine ev_intro rfl (nb rfl) rfl ?_
  refine g_aload_n (pc := 0) dX7_power_0 rfl trivial ?_
  refine g_iload_n (pc := 1) dX7_power_1 rfl ?_
  refine g_invS_r (pc := 2) (As := [_]) dX7_power_2 rfl (r_isSlot_t h1) rfl rfl lk_X7_216 rfl (nb rfl) ⟨nb rfl, nb rfl⟩ rfl ?_
  refine g_if_eq (pc := 5) (tgt := 19) dX7_power_5 rfl (fun h5 => absurd h5 ((by decide))) (fun _ => ?_)
  refine g_iload_n (pc := 8) dX7_power_8 rfl ?_
  refine g_invS_r (pc := 9) (As := [_]) dX7_power_9 rfl (r_isSlot_t h2) rfl rfl lk_X7_216 rfl (nb rfl) ⟨nb rfl, nb rfl⟩ rfl ?_
  refine g_if_eq (pc := 12) (tgt := 19) dX7_power_12 rfl (fun h12 => absurd h12 ((by decide))) (fun _ => ?_)
  refine g_iconst (pc := 15) (v := 1) dX7_power_15 rfl ?_
  refine g_goto (pc := 16) (tgt := 20) dX7_power_16 rfl ?_
  refine g_iconst (pc := 20) (v := 1) dX7_power_20 rfl ?_
  refine g_invV_r (pc := 21) (As := [_, _]) dX7_power_21 rfl (r_isThrown_0 hS) rfl rfl (shK hS rfl) rfl rfl lk_X7_209 rfl (nb rfl) ⟨nb rfl, nb rfl⟩ rfl ?_
  refine g_if_ne (pc := 24) (tgt := 44) dX7_power_24 rfl (fun h24 => absurd h24 ((fun z => z rfl))) (fun _ => ?_)
  refine g_aload_n (pc := 27) dX7_power_27 rfl trivial ?_
  refine g_iload_n (pc := 28) dX7_power_28 rfl ?_
  refine g_i2l (pc := 29) dX7_power_29 rfl ?_
  refine g_lconst (pc := 30) (v := 0) dX7_power_30 rfl ?_
  refine g_ldc2 (pc := 31) dX7_power_31 wd_1721 ?_
  refine g_invS_r (pc := 34) (As := [_, _, _]) dX7_power_34 rfl (r_in_f (fun z => hx ((lim_long (a := 0) (b := 1000000)).mp z))) rfl rfl lk_X7_67 rfl (nb rfl) ⟨nb rfl, nb rfl⟩ rfl ?_
  refine g_iconst (pc := 37) (v := 2) dX7_power_37 rfl ?_
  refine g_invV_r (pc := 38) (As := [_, _]) dX7_power_38 rfl (r_isThrown_1 h'.1) rfl rfl (shK hS rfl) rfl rfl lk_X7_209 rfl (nb rfl) ⟨nb rfl, nb rfl⟩ rfl ?_
  refine g_if_eq (pc := 41) (tgt := 46) dX7_power_41 rfl (fun h41 => absurd h41 ((by decide))) (fun _ => ?_)
  refine g_iconst (pc := 44) (v := 0) dX7_power_44 rfl ?_
  refine g_ireturn (pc := 45) dX7_power_45 rfl rfl ?_
  exact ⟨rfl, thr_2⟩
end

