/-! the reference: what changes its state -/
section
variable {l : Launch} {M : Mem} {n c : Nat} {A : Nat → Nat → Int32}
/-- copies k numbers from place h of u to place t of w -/
def cpF (w : Nat → Int64) (t : Nat) (u : Nat → Int64) (h k : Nat) : Nat → Int64 := fun i => if 220 * t ≤ i ∧ i < 220 * t + k then u (i - 220 * t + 220 * h) else w i
theorem cpF_0 (w u : Nat → Int64) (t h : Nat) : cpF w t u h 0 = w := by funext i; unfold cpF; rw [if_neg (by omega)]
theorem cpF_s (w u : Nat → Int64) (t h k : Nat) : fun_set (cpF w t u h k) (220 * t + k) (u (220 * h + k)) = cpF w t u h (k + 1) := by
  funext i
  unfold cpF fun_set
  dsimp only
  by_cases h1 : i = 220 * t + k
  · rw [if_pos h1, if_pos (by omega)]; congr 1; omega
  · rw [if_neg h1]
    by_cases h2 : 220 * t ≤ i ∧ i < 220 * t + k
    · rw [if_pos h2, if_pos (by omega)]
    · rw [if_neg h2, if_neg (by omega)]
theorem ix220 (t k : Nat) : 220 * nI t + nI k = nI (220 * t + k) := by rw [show (220 : Int32) = nI 220 from rfl, nI_mul, nI_add]
theorem r_copies {x y lx ly h t : Nat} (hkx : (mK M)[x]? = some (kL lx)) (hky : (mK M)[y]? = some (kL ly)) (hxy : x ≠ y) (h1 : 220 * h + 220 ≤ lx) (h2 : 220 * t + 220 ≤ ly) (h3 : lx < 3000) (h4 : ly < 3000) : EvR l jX7_copies 0 0 0 0 [.ref x, .int (nI h), .ref y, .int (nI t)] M (.inl none) (sL M y (cpF (mL M y) t (mL M x) h 220)) := by
  refine ev_intro rfl (nb rfl) rfl ?_
  refine g_iconst (pc := 0) (v := 0) dX7_copies_0 rfl ?_
  refine g_istore (pc := 1) (lv' := [(0, _), (1, _), (2, _), (3, _), (4, _)]) dX7_copies_1 (nl rfl) rfl ?_
  refine go_loop (pc := 3) 220 (fun i => [(0, .ref x), (1, .int (nI h)), (2, .ref y), (3, .int (nI t)), (4, .int (nI i))]) (fun i => sL M y (cpF (mL M y) t (mL M x) h i)) ⟨rfl, rfl, rfl, rfl, rfl, trivial⟩ (sL_eq (cpF_0 _ _ _ _)) ?_ ?_
  · intro i hi ih
    have hkx2 : (mK (sL M y (cpF (mL M y) t (mL M x) h i)))[x]? = some (kL lx) := hkx
    have hky2 : (mK (sL M y (cpF (mL M y) t (mL M x) h i)))[y]? = some (kL ly) := hky
    refine g_iload (pc := 3) dX7_copies_3 rfl ?_
    refine g_sipush (pc := 5) (v := 220) dX7_copies_5 rfl ?_
    refine g_icmp_ge (pc := 8) (tgt := 37) dX7_copies_8 rfl (fun h8 => absurd h8 (nI_ge (b := 220) hi (by decide))) (fun _ => ?_)
    refine g_aload_n (pc := 11) dX7_copies_11 rfl trivial ?_
    refine g_sipush (pc := 12) (v := 220) dX7_copies_12 rfl ?_
    refine g_iload_n (pc := 15) dX7_copies_15 rfl ?_
    refine g_imul (pc := 16) dX7_copies_16 ?_
    refine g_iload (pc := 17) dX7_copies_17 rfl ?_
    refine g_iadd (pc := 19) dX7_copies_19 ?_
    rw [ix220]
    refine g_aload_n (pc := 20) dX7_copies_20 rfl trivial ?_
    refine g_sipush (pc := 21) (v := 220) dX7_copies_21 rfl ?_
    refine g_iload_n (pc := 24) dX7_copies_24 rfl ?_
    refine g_imul (pc := 25) dX7_copies_25 ?_
    refine g_iload (pc := 26) dX7_copies_26 rfl ?_
    refine g_iadd (pc := 28) dX7_copies_28 ?_
    rw [ix220]
    refine g_laload (pc := 29) dX7_copies_29 hkx2 rfl (show 220 * h + i < lx by omega) (by omega) ?_
    rw [sL_ne hxy]
    refine g_lastore (pc := 30) dX7_copies_30 hky2 rfl (show 220 * t + i < ly by omega) (by omega) ?_
    refine g_iinc (pc := 31) (lv' := [(0, _), (1, _), (2, _), (3, _), (4, _)]) dX7_copies_31 rfl (nI_1 _) (nl rfl) rfl ?_
    refine g_goto (pc := 34) (tgt := 3) dX7_copies_34 rfl ?_
    exact go_cast (sL_st (cpF_s _ _ t h i)) ih
  · refine g_iload (pc := 3) dX7_copies_3 rfl ?_
    refine g_sipush (pc := 5) (v := 220) dX7_copies_5 rfl ?_
    refine g_icmp_ge (pc := 8) (tgt := 37) dX7_copies_8 rfl (fun _ => ?_) (fun h8 => absurd (nI_le (Nat.le_refl 220) (by decide)) h8)
    refine g_return (pc := 37) dX7_copies_37 rfl ?_
    exact ⟨rfl, rfl⟩
/-- the reference before an action: c actions can be taken back -/
def Pu (M : Mem) (n : Nat) (A : Nat → Nat → Int32) (c : Nat) : Prop := Rr M n A ∧ mI M 198 5 = nI c ∧ c ≤ 8
def shF (w : Nat → Int64) (k : Nat) : Nat → Int64 := fun i => if i < k then w (i + 220) else w i
theorem shF_0 (w : Nat → Int64) : shF w 0 = w := by funext i; unfold shF; rw [if_neg (by omega)]
theorem shF_s (w : Nat → Int64) (k : Nat) : fun_set (shF w k) k (w (k + 220)) = shF w (k + 1) := by
  funext i
  unfold shF fun_set
  dsimp only
  by_cases h1 : i = k
  · rw [if_pos h1, if_pos (by omega), h1]
  · rw [if_neg h1]
    by_cases h2 : i < k
    · rw [if_pos h2, if_pos (by omega)]
    · rw [if_neg h2, if_neg (by omega)]
/-- the past: where the next one goes, what is there then -/
def paC (c : Nat) : Nat := if c = 8 then 7 else c
def paW (w : Nat → Int64) (c : Nat) : Nat → Int64 := if c = 8 then shF w 1540 else w
def kepM (M : Mem) (c : Nat) : Mem := pI (sL M 201 (cpF (paW (mL M 201) c) (paC c) (mL M 199) 0 220)) 198 5 (nI (paC c + 1))
theorem pI_2 (M : Mem) (i k : Nat) (x y : Int32) : pI (pI M i k x) i k y = pI M i k y := sI_st (fs_twice _ _ _ _)
theorem kepM_R (h : Rr M n A) : Rr (kepM M c) n A := h.sL (x := 201) (by decide)
theorem kepM_n : mL (kepM M c) 199 = mL M 199 := sL_ne (by decide)
theorem r_keeps (h : Rr M n A) (hc : mI M 198 5 = nI c) (hc8 : c ≤ 8) : EvR l jX7_keeps 1 30 0 0 [.ref 198] M (.inl none) (kepM M c) := by
  have hS := h.1
  refine ev_intro rfl (nb rfl) rfl ?_
  by_cases h8 : c = 8
  · subst h8
    have ek : kepM M 8 = pI (sL M 201 (cpF (shF (mL M 201) 1540) 7 (mL M 199) 0 220)) 198 5 (nI 8) := rfl
    rw [ek]
    refine g_aload_n (pc := 0) dX7_keeps_0 rfl trivial ?_
    refine g_getf (pc := 1) (v := .int _) dX7_keeps_1 fk_X7_201 (shK hS rfl) (fun _ => congrArg Value.int (hc)) ?_
    refine g_bipush (pc := 4) (v := 8) dX7_keeps_4 rfl ?_
    refine g_icmp_ne (pc := 6) (tgt := 50) dX7_keeps_6 rfl (fun h6 => absurd h6 ((fun z => z rfl))) (fun _ => ?_)
    refine g_iconst (pc := 9) (v := 0) dX7_keeps_9 rfl ?_
    refine g_istore_n (pc := 10) (lv' := [(0, _), (1, _)]) dX7_keeps_10 (nl rfl) rfl ?_
    refine go_loop (pc := 11) 1540 (fun i => [(0, .ref 198), (1, .int (nI i))]) (fun i => sL M 201 (shF (mL M 201) i)) ⟨rfl, rfl, trivial⟩ (sL_eq (shF_0 _)) ?_ ?_
    · intro i hi ih
      have hS1 : Shp (sL M 201 (shF (mL M 201) i)) := hS
      refine g_iload_n (pc := 11) dX7_keeps_11 rfl ?_
      refine g_sipush (pc := 12) (v := 1540) dX7_keeps_12 rfl ?_
      refine g_icmp_ge (pc := 15) (tgt := 40) dX7_keeps_15 rfl (fun h15 => absurd h15 (nI_ge (b := 1540) hi (by decide))) (fun _ => ?_)
      refine g_aload_n (pc := 18) dX7_keeps_18 rfl trivial ?_
      refine g_getf (pc := 19) dX7_keeps_19 fk_X7_16 (shK hS1 rfl) (fv_arr (shR hS1 rfl)) ?_
      refine g_iload_n (pc := 22) dX7_keeps_22 rfl ?_
      refine g_aload_n (pc := 23) dX7_keeps_23 rfl trivial ?_
      refine g_getf (pc := 24) dX7_keeps_24 fk_X7_16 (shK hS1 rfl) (fv_arr (shR hS1 rfl)) ?_
      refine g_iload_n (pc := 27) dX7_keeps_27 rfl ?_
      refine g_sipush (pc := 28) (v := 220) dX7_keeps_28 rfl ?_
      refine g_iadd (pc := 31) dX7_keeps_31 ?_
      rw [show (220 : Int32) = nI 220 from rfl, nI_add]
      refine g_laload (pc := 32) dX7_keeps_32 (shK hS1 rfl) rfl (show i + 220 < 1760 by omega) (nl rfl) ?_
      rw [sL_self, show shF (mL M 201) i (i + 220) = mL M 201 (i + 220) by unfold shF; rw [if_neg (by omega)]]
      refine g_lastore (pc := 33) dX7_keeps_33 (shK hS1 rfl) rfl (show i < 1760 by omega) (nl rfl) ?_
      refine g_iinc (pc := 34) (lv' := [(0, _), (1, _)]) dX7_keeps_34 rfl (nI_1 _) (nl rfl) rfl ?_
      refine g_goto (pc := 37) (tgt := 11) dX7_keeps_37 rfl ?_
      exact go_cast (sL_st (shF_s _ i)) ih
    · have hS1 : Shp (sL M 201 (shF (mL M 201) 1540)) := hS
      have hS2 : Shp (pI (sL M 201 (shF (mL M 201) 1540)) 198 5 (nI 7)) := hS
      have q1 := r_copies (l := l) (M := pI (sL M 201 (shF (mL M 201) 1540)) 198 5 (nI 7)) (x := 199) (y := 201) (h := 0) (t := 7) (shK hS2 rfl) (shK hS2 rfl) (by decide) (by decide) (by decide) (by decide) (by decide)
      have e9 : pI (sL (pI (sL M 201 (shF (mL M 201) 1540)) 198 5 (nI 7)) 201 (cpF (mL (pI (sL M 201 (shF (mL M 201) 1540)) 198 5 (nI 7)) 201) 7 (mL (pI (sL M 201 (shF (mL M 201) 1540)) 198 5 (nI 7)) 199) 0 220)) 198 5 (nI 8) = pI (sL M 201 (cpF (shF (mL M 201) 1540) 7 (mL M 199) 0 220)) 198 5 (nI 8) := by
        have a1 : mL (pI (sL M 201 (shF (mL M 201) 1540)) 198 5 (nI 7)) 201 = shF (mL M 201) 1540 := sL_self M 201 _
        have a2 : mL (pI (sL M 201 (shF (mL M 201) 1540)) 198 5 (nI 7)) 199 = mL M 199 := sL_ne (by decide)
        rw [a1, a2]
        generalize shF (mL M 201) 1540 = w
        generalize cpF w 7 (mL M 199) 0 220 = w2
        have a3 : sL (pI (sL M 201 w) 198 5 (nI 7)) 201 w2 = pI (sL (sL M 201 w) 201 w2) 198 5 (nI 7) := rfl
        rw [a3, sL_2, pI_2]
      have hS3 : Shp (sL (pI (sL M 201 (shF (mL M 201) 1540)) 198 5 (nI 7)) 201 (cpF (mL (pI (sL M 201 (shF (mL M 201) 1540)) 198 5 (nI 7)) 201) 7 (mL (pI (sL M 201 (shF (mL M 201) 1540)) 198 5 (nI 7)) 199) 0 220)) := hS
      have hc3 : mI (sL (pI (sL M 201 (shF (mL M 201) 1540)) 198 5 (nI 7)) 201 (cpF (mL (pI (sL M 201 (shF (mL M 201) 1540)) 198 5 (nI 7)) 201) 7 (mL (pI (sL M 201 (shF (mL M 201) 1540)) 198 5 (nI 7)) 199) 0 220)) 198 5 = nI 7 := pI_self (sL M 201 (shF (mL M 201) 1540)) 198 5 (nI 7)
      have hc1 : mI (sL M 201 (shF (mL M 201) 1540)) 198 5 = nI 8 := hc
      have hc2 : mI (pI (sL M 201 (shF (mL M 201) 1540)) 198 5 (nI 7)) 198 5 = nI 7 := pI_self _ _ _ _
      have e1 : pI (sL M 201 (shF (mL M 201) 1540)) 198 5 (nI 8 - 1) = pI (sL M 201 (shF (mL M 201) 1540)) 198 5 (nI 7) := by rw [show nI 8 - 1 = nI 7 from nI_pred 7]
      generalize sL (pI (sL M 201 (shF (mL M 201) 1540)) 198 5 (nI 7)) 201 (cpF (mL (pI (sL M 201 (shF (mL M 201) 1540)) 198 5 (nI 7)) 201) 7 (mL (pI (sL M 201 (shF (mL M 201) 1540)) 198 5 (nI 7)) 199) 0 220) = M3 at *
      generalize hM2 : pI (sL M 201 (shF (mL M 201) 1540)) 198 5 (nI 7) = M2 at *
      generalize hM1 : sL M 201 (shF (mL M 201) 1540) = M1 at *
      refine g_iload_n (pc := 11) dX7_keeps_11 rfl ?_
      refine g_sipush (pc := 12) (v := 1540) dX7_keeps_12 rfl ?_
      refine g_icmp_ge (pc := 15) (tgt := 40) dX7_keeps_15 rfl (fun _ => ?_) (fun h15 => absurd (nI_le (Nat.le_refl 1540) (by decide)) h15)
      refine g_aload_n (pc := 40) dX7_keeps_40 rfl trivial ?_
      refine g_dup (pc := 41) dX7_keeps_41 rfl ?_
      refine g_getf (pc := 42) (v := .int _) dX7_keeps_42 fk_X7_201 (shK hS1 rfl) (fun _ => congrArg Value.int (hc1)) ?_
      refine g_iconst (pc := 45) (v := 1) dX7_keeps_45 rfl ?_
      refine g_isub (pc := 46) dX7_keeps_46 ?_
      refine g_putI (pc := 47) dX7_keeps_47 fp_X7_201 (shK hS1 rfl) ⟨rfl, rfl⟩ (fun _ _ _ _ => rfl) ?_
      refine go_cast e1 ?_
      refine g_aload_n (pc := 50) dX7_keeps_50 rfl trivial ?_
      refine g_getf (pc := 51) dX7_keeps_51 fk_X7_9 (shK hS2 rfl) (fv_arr (shR hS2 rfl)) ?_
      refine g_iconst (pc := 54) (v := 0) dX7_keeps_54 rfl ?_
      refine g_aload_n (pc := 55) dX7_keeps_55 rfl trivial ?_
      refine g_getf (pc := 56) dX7_keeps_56 fk_X7_16 (shK hS2 rfl) (fv_arr (shR hS2 rfl)) ?_
      refine g_aload_n (pc := 59) dX7_keeps_59 rfl trivial ?_
      refine g_getf (pc := 60) (v := .int _) dX7_keeps_60 fk_X7_201 (shK hS2 rfl) (fun _ => congrArg Value.int (hc2)) ?_
      refine g_invS_r (pc := 63) (As := [_, _, _, _]) dX7_keeps_63 rfl (q1) rfl rfl lk_X7_198 rfl (nb rfl) ⟨nb rfl, nb rfl⟩ rfl ?_
      refine g_aload_n (pc := 66) dX7_keeps_66 rfl trivial ?_
      refine g_dup (pc := 67) dX7_keeps_67 rfl ?_
      refine g_getf (pc := 68) (v := .int _) dX7_keeps_68 fk_X7_201 (shK hS3 rfl) (fun _ => congrArg Value.int (hc3)) ?_
      refine g_iconst (pc := 71) (v := 1) dX7_keeps_71 rfl ?_
      refine g_iadd (pc := 72) dX7_keeps_72 ?_
      rw [nI_1]
      refine g_putI (pc := 73) dX7_keeps_73 fp_X7_201 (shK hS3 rfl) ⟨rfl, rfl⟩ (fun _ _ _ _ => rfl) ?_
      refine go_cast e9 ?_
      refine g_return (pc := 76) dX7_keeps_76 rfl ?_
      exact ⟨rfl, rfl⟩
  · have ek : kepM M c = pI (sL M 201 (cpF (mL M 201) c (mL M 199) 0 220)) 198 5 (nI (c + 1)) := by unfold kepM paW paC; rw [if_neg h8, if_neg h8]
    rw [ek]
    have q1 := r_copies (l := l) (M := M) (x := 199) (y := 201) (h := 0) (t := c) (shK hS rfl) (shK hS rfl) (by decide) (by decide) (by omega) (by decide) (by decide)
    have hS2 : Shp (sL M 201 (cpF (mL M 201) c (mL M 199) 0 220)) := hS
    have hc2 : mI (sL M 201 (cpF (mL M 201) c (mL M 199) 0 220)) 198 5 = nI c := hc
    generalize sL M 201 (cpF (mL M 201) c (mL M 199) 0 220) = M2 at *
    refine g_aload_n (pc := 0) dX7_keeps_0 rfl trivial ?_
    refine g_getf (pc := 1) (v := .int _) dX7_keeps_1 fk_X7_201 (shK hS rfl) (fun _ => congrArg Value.int (hc)) ?_
    refine g_bipush (pc := 4) (v := 8) dX7_keeps_4 rfl ?_
    refine g_icmp_ne (pc := 6) (tgt := 50) dX7_keeps_6 rfl (fun _ => ?_) (fun h6 => absurd ((fun z => h8 ((nI_eq (b := 8) (by omega) (by decide)).mp z))) h6)
    refine g_aload_n (pc := 50) dX7_keeps_50 rfl trivial ?_
    refine g_getf (pc := 51) dX7_keeps_51 fk_X7_9 (shK hS rfl) (fv_arr (shR hS rfl)) ?_
    refine g_iconst (pc := 54) (v := 0) dX7_keeps_54 rfl ?_
    refine g_aload_n (pc := 55) dX7_keeps_55 rfl trivial ?_
    refine g_getf (pc := 56) dX7_keeps_56 fk_X7_16 (shK hS rfl) (fv_arr (shR hS rfl)) ?_
    refine g_aload_n (pc := 59) dX7_keeps_59 rfl trivial ?_
    refine g_getf (pc := 60) (v := .int _) dX7_keeps_60 fk_X7_201 (shK hS rfl) (fun _ => congrArg Value.int (hc)) ?_
    refine g_invS_r (pc := 63) (As := [_, _, _, _]) dX7_keeps_63 rfl (q1) rfl rfl lk_X7_198 rfl (nb rfl) ⟨nb rfl, nb rfl⟩ rfl ?_
    refine g_aload_n (pc := 66) dX7_keeps_66 rfl trivial ?_
    refine g_dup (pc := 67) dX7_keeps_67 rfl ?_
    refine g_getf (pc := 68) (v := .int _) dX7_keeps_68 fk_X7_201 (shK hS2 rfl) (fun _ => congrArg Value.int (hc2)) ?_
    refine g_iconst (pc := 71) (v := 1) dX7_keeps_71 rfl ?_
    refine g_iadd (pc := 72) dX7_keeps_72 ?_
    rw [nI_1]
    refine g_putI (pc := 73) dX7_keeps_73 fp_X7_201 (shK hS2 rfl) ⟨rfl, rfl⟩ (fun _ _ _ _ => rfl) ?_
    refine g_return (pc := 76) dX7_keeps_76 rfl ?_
    exact ⟨rfl, rfl⟩
/-- the numbers of a slot's closure -/
def lkM (M : Mem) (s : Nat) (x : Int32) : Mem := if mL M 199 (4 + s) = 1 then pL (pL M 199 (10 + s) x.toInt64) 199 (16 + s) (mL M 199 (16 + s) + x.toInt64) else M
def anM (M : Mem) (s : Nat) (x : Int32) : Mem := pL (lkM M s x) 199 (22 + s) (mL (lkM M s x) 199 (22 + s) + mL M 199 (4 + s))
theorem pL_k {i k j : Nat} {x : Int64} (h : j ≠ k) : mL (pL M i k x) i j = mL M i j := by simp only [pL, sL, mL, fs_self, fs_ne _ _ h]
theorem pL_self (M : Mem) (i k : Nat) (x : Int64) : mL (pL M i k x) i k = x := by simp only [pL, sL, mL, fs_self]
theorem pL_i {i k j : Nat} {x : Int64} (h : j ≠ i) : mL (pL M i k x) j = mL M j := by simp only [pL, sL, mL, fs_ne _ _ h]
/-- a number behind the size and ahead of the rows, or the size as it was -/
theorem Rr.pL {k : Nat} {x : Int64} (h : Rr M n A) (hk : 0 < k ∧ k < 28) : Rr (pL M 199 k x) n A := ⟨h.1, by rw [pL_k (by omega)]; exact h.2.1, h.2.2.1, h.2.2.2.1, fun s r hs hr => by rw [pL_k (by omega)]; exact h.2.2.2.2 s r hs hr⟩
theorem lkM_R {s : Nat} {x : Int32} (h : Rr M n A) (hs : s < 6) : Rr (lkM M s x) n A := by
  unfold lkM
  split
  · exact (h.pL (by omega)).pL (by omega)
  · exact h
theorem anM_R {s : Nat} {x : Int32} (h : Rr M n A) (hs : s < 6) : Rr (anM M s x) n A := by unfold anM; exact (lkM_R h hs).pL (by omega)
theorem r_looks {s : Nat} {x : Int32} (h : Rr M n A) (hs : s < 6) : EvR l jX7_looks 0 0 0 0 [.ref 198, .int (nI s), .int x] M (.inl none) (lkM M s x) := by
  have hS := h.1
  have i4 : 4 + nI s = nI (4 + s) := nI_add 4 s
  have i10 : 10 + nI s = nI (10 + s) := nI_add 10 s
  have i16 : 16 + nI s = nI (16 + s) := nI_add 16 s
  refine ev_intro rfl (nb rfl) rfl ?_
  unfold lkM
  by_cases h1 : mL M 199 (4 + s) = 1
  · rw [if_pos h1]
    have hS1 : Shp (pL M 199 (10 + s) x.toInt64) := hS
    have e1 : mL (pL M 199 (10 + s) x.toInt64) 199 (16 + s) = mL M 199 (16 + s) := pL_k (by omega)
    generalize hM1 : pL M 199 (10 + s) x.toInt64 = M1 at *
    refine g_aload_n (pc := 0) dX7_looks_0 rfl trivial ?_
    refine g_getf (pc := 1) dX7_looks_1 fk_X7_9 (shK hS rfl) (fv_arr (shR hS rfl)) ?_
    refine g_iconst (pc := 4) (v := 4) dX7_looks_4 rfl ?_
    refine g_iload_n (pc := 5) dX7_looks_5 rfl ?_
    refine g_iadd (pc := 6) dX7_looks_6 ?_
    rw [i4]
    refine g_laload (pc := 7) dX7_looks_7 (shK hS rfl) rfl (show 4 + s < 220 by omega) (nl rfl) ?_
    rw [h1]
    refine g_lconst (pc := 8) (v := 1) dX7_looks_8 rfl ?_
    refine g_lcmp (pc := 9) dX7_looks_9 ?_
    refine g_if_ne (pc := 10) (tgt := 38) dX7_looks_10 rfl (fun h10 => absurd h10 ((by decide))) (fun _ => ?_)
    refine g_aload_n (pc := 13) dX7_looks_13 rfl trivial ?_
    refine g_getf (pc := 14) dX7_looks_14 fk_X7_9 (shK hS rfl) (fv_arr (shR hS rfl)) ?_
    refine g_bipush (pc := 17) (v := 10) dX7_looks_17 rfl ?_
    refine g_iload_n (pc := 19) dX7_looks_19 rfl ?_
    refine g_iadd (pc := 20) dX7_looks_20 ?_
    rw [i10]
    refine g_iload_n (pc := 21) dX7_looks_21 rfl ?_
    refine g_i2l (pc := 22) dX7_looks_22 rfl ?_
    refine g_lastore (pc := 23) dX7_looks_23 (shK hS rfl) rfl (show 10 + s < 220 by omega) (nl rfl) ?_
    refine go_cast hM1 ?_
    refine g_aload_n (pc := 24) dX7_looks_24 rfl trivial ?_
    refine g_getf (pc := 25) dX7_looks_25 fk_X7_9 (shK hS1 rfl) (fv_arr (shR hS1 rfl)) ?_
    refine g_bipush (pc := 28) (v := 16) dX7_looks_28 rfl ?_
    refine g_iload_n (pc := 30) dX7_looks_30 rfl ?_
    refine g_iadd (pc := 31) dX7_looks_31 ?_
    rw [i16]
    refine g_dup2_11 (pc := 32) dX7_looks_32 rfl rfl ?_
    refine g_laload (pc := 33) dX7_looks_33 (shK hS1 rfl) rfl (show 16 + s < 220 by omega) (nl rfl) ?_
    rw [e1]
    refine g_iload_n (pc := 34) dX7_looks_34 rfl ?_
    refine g_i2l (pc := 35) dX7_looks_35 rfl ?_
    refine g_ladd (pc := 36) dX7_looks_36 ?_
    refine g_lastore (pc := 37) dX7_looks_37 (shK hS1 rfl) rfl (show 16 + s < 220 by omega) (nl rfl) ?_
    refine g_return (pc := 38) dX7_looks_38 rfl ?_
    exact ⟨rfl, rfl⟩
  · rw [if_neg h1]
    refine g_aload_n (pc := 0) dX7_looks_0 rfl trivial ?_
    refine g_getf (pc := 1) dX7_looks_1 fk_X7_9 (shK hS rfl) (fv_arr (shR hS rfl)) ?_
    refine g_iconst (pc := 4) (v := 4) dX7_looks_4 rfl ?_
    refine g_iload_n (pc := 5) dX7_looks_5 rfl ?_
    refine g_iadd (pc := 6) dX7_looks_6 ?_
    rw [i4]
    refine g_laload (pc := 7) dX7_looks_7 (shK hS rfl) rfl (show 4 + s < 220 by omega) (nl rfl) ?_
    refine g_lconst (pc := 8) (v := 1) dX7_looks_8 rfl ?_
    refine g_lcmp (pc := 9) dX7_looks_9 ?_
    refine g_if_ne (pc := 10) (tgt := 38) dX7_looks_10 rfl (fun _ => ?_) (fun h10 => absurd ((fun z => h1 ((lg_cmp_eq _ _).mp z))) h10)
    refine g_return (pc := 38) dX7_looks_38 rfl ?_
    exact ⟨rfl, rfl⟩
theorem lkM_4 {s : Nat} {x : Int32} : mL (lkM M s x) 199 (4 + s) = mL M 199 (4 + s) := by
  unfold lkM
  split
  · rw [pL_k (by omega), pL_k (by omega)]
  · rfl
theorem r_madeAnew {s : Nat} (h : Rr M n A) (hs : s < 6) : EvR l jX7_madeAnew 1 30 0 0 [.ref 198, .int (nI s)] M (.inl none) (anM M s (nI n)) := by
  have hS := h.1
  have q1 := r_looks (l := l) (x := nI n) h hs
  have h1 := lkM_R (x := nI n) h hs
  have e4 := lkM_4 (M := M) (s := s) (x := nI n)
  have i4 : 4 + nI s = nI (4 + s) := nI_add 4 s
  have i22 : 22 + nI s = nI (22 + s) := nI_add 22 s
  refine ev_intro rfl (nb rfl) rfl ?_
  unfold anM
  generalize lkM M s (nI n) = M1 at *
  refine g_aload_n (pc := 0) dX7_madeAnew_0 rfl trivial ?_
  refine g_iload_n (pc := 1) dX7_madeAnew_1 rfl ?_
  refine g_aload_n (pc := 2) dX7_madeAnew_2 rfl trivial ?_
  refine g_invV_r (pc := 3) (As := []) dX7_madeAnew_3 rfl (r_size h) rfl rfl (shK hS rfl) rfl rfl lk_X7_71 rfl (nb rfl) ⟨nb rfl, nb rfl⟩ rfl ?_
  refine g_invV_r (pc := 6) (As := [_, _]) dX7_madeAnew_6 rfl (q1) rfl rfl (shK hS rfl) rfl rfl lk_X7_312 rfl (nb rfl) ⟨nb rfl, nb rfl⟩ rfl ?_
  refine g_aload_n (pc := 9) dX7_madeAnew_9 rfl trivial ?_
  refine g_getf (pc := 10) dX7_madeAnew_10 fk_X7_9 (shK h1.1 rfl) (fv_arr (shR h1.1 rfl)) ?_
  refine g_bipush (pc := 13) (v := 22) dX7_madeAnew_13 rfl ?_
  refine g_iload_n (pc := 15) dX7_madeAnew_15 rfl ?_
  refine g_iadd (pc := 16) dX7_madeAnew_16 ?_
  rw [i22]
  refine g_dup2_11 (pc := 17) dX7_madeAnew_17 rfl rfl ?_
  refine g_laload (pc := 18) dX7_madeAnew_18 (shK h1.1 rfl) rfl (show 22 + s < 220 by omega) (nl rfl) ?_
  refine g_aload_n (pc := 19) dX7_madeAnew_19 rfl trivial ?_
  refine g_getf (pc := 20) dX7_madeAnew_20 fk_X7_9 (shK h1.1 rfl) (fv_arr (shR h1.1 rfl)) ?_
  refine g_iconst (pc := 23) (v := 4) dX7_madeAnew_23 rfl ?_
  refine g_iload_n (pc := 24) dX7_madeAnew_24 rfl ?_
  refine g_iadd (pc := 25) dX7_madeAnew_25 ?_
  rw [i4]
  refine g_laload (pc := 26) dX7_madeAnew_26 (shK h1.1 rfl) rfl (show 4 + s < 220 by omega) (nl rfl) ?_
  rw [e4]
  refine g_ladd (pc := 27) dX7_madeAnew_27 ?_
  refine g_lastore (pc := 28) dX7_madeAnew_28 (shK h1.1 rfl) rfl (show 22 + s < 220 by omega) (nl rfl) ?_
  refine g_return (pc := 29) dX7_madeAnew_29 rfl ?_
  exact ⟨rfl, rfl⟩
/-- k rows of a slot -/
def lyF (u : Nat → Int64) (t : Nat) (f : Nat → Int32) (k : Nat) : Nat → Int64 := fun i => if 28 + 32 * t ≤ i ∧ i < 28 + 32 * t + k then uL (f (i - (28 + 32 * t))) else u i
theorem lyF_0 (u : Nat → Int64) (t : Nat) (f : Nat → Int32) : lyF u t f 0 = u := by funext i; unfold lyF; rw [if_neg (by omega)]
theorem lyF_s (u : Nat → Int64) (t : Nat) (f : Nat → Int32) (k : Nat) : fun_set (lyF u t f k) (28 + 32 * t + k) (uL (f k)) = lyF u t f (k + 1) := by
  funext i
  unfold lyF fun_set
  dsimp only
  by_cases h1 : i = 28 + 32 * t + k
  · rw [if_pos h1, if_pos (by omega)]; congr 2; omega
  · rw [if_neg h1]
    by_cases h2 : 28 + 32 * t ≤ i ∧ i < 28 + 32 * t + k
    · rw [if_pos h2, if_pos (by omega)]
    · rw [if_neg h2, if_neg (by omega)]
def lyM (M : Mem) (t n : Nat) (f : Nat → Int32) : Mem := sL M 199 (lyF (mL M 199) t f n)
theorem lyM_R {t k : Nat} {f : Nat → Int32} (h : Rr M n A) (ht : t < 6) (hk : k ≤ n) : Rr (lyM M t k f) n (fun_set A t (wr (A t) f k)) := by
  have hn := h.2.2.2.1
  have e : mL (lyM M t k f) 199 = lyF (mL M 199) t f k := sL_self M 199 _
  refine ⟨h.1, ?_, h.2.2.1, hn, fun s r hs hr => ?_⟩
  · rw [e]; unfold lyF; rw [if_neg (by omega)]; exact h.2.1
  · rw [e]; unfold lyF fun_set
    by_cases h1 : s = t
    · subst h1
      rw [if_pos rfl]
      by_cases h2 : r < k
      · rw [if_pos (by omega), wr_lt h2]; congr 2; omega
      · rw [if_neg (by omega), wr_ge (by omega)]; exact h.2.2.2.2 s r hs hr
    · rw [if_neg h1, if_neg (by omega)]; exact h.2.2.2.2 s r hs hr
theorem lyM_R' {t : Nat} {f : Nat → Int32} (h : Rr M n A) (ht : t < 6) : Rr (lyM M t n f) n (fun_set A t f) := by
  have h1 := lyM_R (f := f) h ht (Nat.le_refl n)
  refine ⟨h1.1, h1.2.1, h1.2.2.1, h1.2.2.2.1, fun s r hs hr => ?_⟩
  rw [h1.2.2.2.2 s r hs hr]
  unfold fun_set
  by_cases e : s = t
  · rw [if_pos e, if_pos e, wr_lt hr]
  · rw [if_neg e, if_neg e]
theorem r_setsRow {s r : Nat} {x : Int64} (hS : Shp M) (hs : s < 6) (hr : r < 32) : EvR l jX7_setsRow 0 0 0 0 [.ref 198, .int (nI s), .int (nI r), .long x] M (.inl none) (pL M 199 (28 + 32 * s + r) x) := by
  refine ev_intro rfl (nb rfl) rfl ?_
  refine g_aload_n (pc := 0) dX7_setsRow_0 rfl trivial ?_
  refine g_getf (pc := 1) dX7_setsRow_1 fk_X7_9 (shK hS rfl) (fv_arr (shR hS rfl)) ?_
  refine g_bipush (pc := 4) (v := 28) dX7_setsRow_4 rfl ?_
  refine g_bipush (pc := 6) (v := 32) dX7_setsRow_6 rfl ?_
  refine g_iload_n (pc := 8) dX7_setsRow_8 rfl ?_
  refine g_imul (pc := 9) dX7_setsRow_9 ?_
  refine g_iadd (pc := 10) dX7_setsRow_10 ?_
  refine g_iload_n (pc := 11) dX7_setsRow_11 rfl ?_
  refine g_iadd (pc := 12) dX7_setsRow_12 ?_
  rw [ixR]
  refine g_lload_n (pc := 13) dX7_setsRow_13 rfl ?_
  refine g_lastore (pc := 14) dX7_setsRow_14 (shK hS rfl) rfl (show 28 + 32 * s + r < 220 by omega) (nl rfl) ?_
  refine g_return (pc := 15) dX7_setsRow_15 rfl ?_
  exact ⟨rfl, rfl⟩
/-- rows become a slot's matrix -/
def lsM (M : Mem) (t n : Nat) (f : Nat → Int32) : Mem := anM (lyM M t n f) t (nI n)
theorem lsM_R {t : Nat} {f : Nat → Int32} (h : Rr M n A) (ht : t < 6) : Rr (lsM M t n f) n (fun_set A t f) := anM_R (lyM_R' h ht) ht
theorem r_lays {x t : Nat} {f : Nat → Int32} (h : Rr M n A) (ht : t < 6) (hkx : (mK M)[x]? = some (kL 32)) (hx : x ≠ 199) (hf : ∀ i, i < n → mL M x i = uL (f i)) : EvR l jX7_lays 2 60 0 0 [.ref 198, .ref x, .int (nI t)] M (.inl (some (.int (onesF f n)))) (lsM M t n f) := by
  have hS := h.1
  have hn := h.2.2.2.1
  have q1 := r_madeAnew (l := l) (lyM_R' (f := f) h ht) ht
  have h2 := lsM_R (f := f) h ht
  have q2 := r_onesOf (l := l) h2 ht
  rw [show fun_set A t f t = f from fs_self A t f] at q2
  have h1 := lyM_R' (f := f) h ht
  have q1 : EvR l jX7_madeAnew 1 30 0 0 [.ref 198, .int (nI t)] (lyM M t n f) (.inl none) (lsM M t n f) := q1
  generalize lsM M t n f = M2 at *
  refine ev_intro rfl (nb rfl) rfl ?_
  refine g_iconst (pc := 0) (v := 0) dX7_lays_0 rfl ?_
  refine g_istore_n (pc := 1) (lv' := [(0, _), (1, _), (2, _), (3, _)]) dX7_lays_1 (nl rfl) rfl ?_
  refine go_loop (pc := 2) n (fun i => [(0, .ref 198), (1, .ref x), (2, .int (nI t)), (3, .int (nI i))]) (fun i => lyM M t i f) ⟨rfl, rfl, rfl, rfl, trivial⟩ (sL_eq (lyF_0 _ _ _)) ?_ ?_
  · intro i hi ih
    have h3 := lyM_R (f := f) (k := i) h ht (by omega)
    have q3 := r_setsRow (l := l) (x := uL (f i)) (r := i) h3.1 ht (by omega)
    have e3 : pL (lyM M t i f) 199 (28 + 32 * t + i) (uL (f i)) = lyM M t (i + 1) f := sL_st (lyF_s _ _ _ i)
    rw [e3] at q3
    have e4 : mL (lyM M t i f) x i = uL (f i) := by rw [show mL (lyM M t i f) x = mL M x from sL_ne hx]; exact hf i hi
    have hkx3 : (mK (lyM M t i f))[x]? = some (kL 32) := hkx
    generalize lyM M t (i + 1) f = M4 at *
    generalize lyM M t i f = M3 at *
    refine g_iload_n (pc := 2) dX7_lays_2 rfl ?_
    refine g_aload_n (pc := 3) dX7_lays_3 rfl trivial ?_
    refine g_invV_r (pc := 4) (As := []) dX7_lays_4 rfl (r_size h3) rfl rfl (shK h3.1 rfl) rfl rfl lk_X7_71 rfl (nb rfl) ⟨nb rfl, nb rfl⟩ rfl ?_
    refine g_icmp_ge (pc := 7) (tgt := 25) dX7_lays_7 rfl (fun h7 => absurd h7 (nI_ge hi (by omega))) (fun _ => ?_)
    refine g_aload_n (pc := 10) dX7_lays_10 rfl trivial ?_
    refine g_iload_n (pc := 11) dX7_lays_11 rfl ?_
    refine g_iload_n (pc := 12) dX7_lays_12 rfl ?_
    refine g_aload_n (pc := 13) dX7_lays_13 rfl trivial ?_
    refine g_iload_n (pc := 14) dX7_lays_14 rfl ?_
    refine g_laload (pc := 15) dX7_lays_15 hkx3 rfl (by omega) (nl rfl) ?_
    rw [e4]
    refine g_invV_r (pc := 16) (As := [_, _, _]) dX7_lays_16 rfl (q3) rfl rfl (shK h3.1 rfl) rfl rfl lk_X7_318 rfl (nb rfl) ⟨nb rfl, nb rfl⟩ rfl ?_
    refine g_iinc (pc := 19) (lv' := [(0, _), (1, _), (2, _), (3, _)]) dX7_lays_19 rfl (nI_1 _) (nl rfl) rfl ?_
    refine g_goto (pc := 22) (tgt := 2) dX7_lays_22 rfl ?_
    exact ih
  · generalize lyM M t n f = M3 at *
    refine g_iload_n (pc := 2) dX7_lays_2 rfl ?_
    refine g_aload_n (pc := 3) dX7_lays_3 rfl trivial ?_
    refine g_invV_r (pc := 4) (As := []) dX7_lays_4 rfl (r_size h1) rfl rfl (shK h1.1 rfl) rfl rfl lk_X7_71 rfl (nb rfl) ⟨nb rfl, nb rfl⟩ rfl ?_
    refine g_icmp_ge (pc := 7) (tgt := 25) dX7_lays_7 rfl (fun _ => ?_) (fun h7 => absurd (nI_le (Nat.le_refl _) (by omega)) h7)
    refine g_aload_n (pc := 25) dX7_lays_25 rfl trivial ?_
    refine g_iload_n (pc := 26) dX7_lays_26 rfl ?_
    refine g_invV_r (pc := 27) (As := [_]) dX7_lays_27 rfl (q1) rfl rfl (shK h1.1 rfl) rfl rfl lk_X7_204 rfl (nb rfl) ⟨nb rfl, nb rfl⟩ rfl ?_
    refine g_aload_n (pc := 30) dX7_lays_30 rfl trivial ?_
    refine g_iload_n (pc := 31) dX7_lays_31 rfl ?_
    refine g_invV_r (pc := 32) (As := [_]) dX7_lays_32 rfl (q2) rfl rfl (shK h2.1 rfl) rfl rfl lk_X7_238 rfl (nb rfl) ⟨nb rfl, nb rfl⟩ rfl ?_
    refine g_ireturn (pc := 35) dX7_lays_35 rfl rfl ?_
    exact ⟨rfl, rfl⟩
end

