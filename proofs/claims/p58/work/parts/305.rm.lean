/-! the reference: products -/
/-- entries made and taken by k blocks -/
def mdN (n bl : Nat) : Nat → Nat
  | 0 => 0
  | k + 1 => mdN n bl k + (2 ^ (min bl (n - k * bl)) - 1)
def tkI (f : Nat → Int32) (st c : Nat) (t : Nat) : Nat → Nat
  | 0 => t
  | i + 1 => if setI (f i) st c = 0 then tkI f st c t i else tkI f st c t i + 1
def tkN (f : Nat → Int32) (n bl : Nat) : Nat → Nat
  | 0 => 0
  | k + 1 => tkI f (k * bl) (min bl (n - k * bl)) (tkN f n bl k) n
theorem uL_shr (x : Int32) {c : Nat} (hc : c < 32) : uL x >>> ((nI c).toInt64 &&& 63) = uL (us x (nI c)) := hl_ext fun i hi => by
  rw [hl_shr _ (by omega) i hi, msb_uL, hl_uL, hl_uL]
  have e : i < 32 → hb (us x (nI c)) i = hb x (c + i) := fun h => by
    unfold hb
    show ((x.toUInt32 >>> ((nI c).toUInt32 &&& Int32.toUInt32 31)).toInt32).toBitVec.getLsbD i = _
    rw [ush32 x hc, BitVec.getLsbD_ushiftRight]
  by_cases h : i < 32
  · rw [e h]
    by_cases h2 : c + i < 32
    · rw [if_pos (by omega)]; simp [h, h2]
    · rw [hb_ge (by omega)]
      split <;> simp [h2]
  · split
    · simp [h]; intro; omega
    · simp [h]
theorem low_lN : ∀ c, c ≤ 8 → uL (lowM c) = lN (2 ^ c - 1) := by decide +kernel
section
variable {l : Launch} {M : Mem} {n bl : Nat} {A : Nat → Nat → Int32}
def ctM (M : Mem) (a b : Nat) : Mem := pL (pL M 199 2 (lN a)) 199 3 (lN b)
theorem ctM_R {a b : Nat} (h : Rr M n A) : Rr (ctM M a b) n A := (h.pL (by decide)).pL (by decide)
theorem ctM_2 {a b : Nat} : mL (ctM M a b) 199 2 = lN a := by unfold ctM; rw [pL_k (by decide), pL_self]
theorem ctM_3 {a b : Nat} : mL (ctM M a b) 199 3 = lN b := pL_self _ 199 3 _
theorem ctM_1 {a b : Nat} : mL (ctM M a b) 199 1 = mL M 199 1 := by unfold ctM; rw [pL_k (by decide), pL_k (by decide)]
theorem ctM_ne {a b x : Nat} (hx : x ≠ 199) : mL (ctM M a b) x = mL M x := by unfold ctM; rw [pL_i hx, pL_i hx]
theorem pL_2 (M : Mem) (i k : Nat) (x y : Int64) : pL (pL M i k x) i k y = pL M i k y := sL_st (fs_twice _ _ _ _)
theorem pL_comm {i k j : Nat} {x y : Int64} (h : k ≠ j) : pL (pL M i k x) i j y = pL (pL M i j y) i k x := by
  show sL (sL M i (fun_set (mL M i) k x)) i (fun_set (mL (sL M i (fun_set (mL M i) k x)) i) j y) = sL (sL M i (fun_set (mL M i) j y)) i (fun_set (mL (sL M i (fun_set (mL M i) j y)) i) k x)
  rw [sL_self, sL_self, sL_2, sL_2, fs_comm _ _ _ h]
theorem ctM_st2 {a b x : Nat} : pL (ctM M a b) 199 2 (lN x) = ctM M x b := by unfold ctM; rw [pL_comm (show 3 ≠ 2 by decide), pL_2]
theorem ctM_st3 {a b x : Nat} : pL (ctM M a b) 199 3 (lN x) = ctM M a x := by unfold ctM; rw [pL_2]
theorem r_counts {x : Nat} {f : Nat → Int32} (h : Rr M n A) (hbl : mL M 199 1 = lN bl) (hb1 : 1 ≤ bl) (hb8 : bl ≤ 8) (hkx : (mK M)[x]? = some (kL 32)) (hx : x ≠ 199) (hf : ∀ i, i < n → mL M x i = uL (f i)) : EvR l jX7_counts 1 30 0 0 [.ref 198, .ref x] M (.inl none) (ctM M (mdN n bl (blocks n bl)) (tkN f n bl (blocks n bl))) := by
  have hn := h.2.2.2.1
  have hS := h.1
  have hg := blocks_ge (n := n) (bl := bl) hb1
  have hS1 : Shp (pL M 199 2 (lN 0)) := hS
  have e00 : pL (pL M 199 2 0) 199 3 0 = ctM M 0 0 := rfl
  have h00 : Rr (ctM M 0 0) n A := ctM_R h
  have e01 : mL (ctM M 0 0) 199 1 = lN bl := ctM_1.trans hbl
  refine ev_intro rfl (nb rfl) rfl ?_
  refine g_aload_n (pc := 0) dX7_counts_0 rfl trivial ?_
  refine g_getf (pc := 1) dX7_counts_1 fk_X7_9 (shK hS rfl) (fv_arr (shR hS rfl)) ?_
  refine g_iconst (pc := 4) (v := 2) dX7_counts_4 rfl ?_
  refine g_lconst (pc := 5) (v := 0) dX7_counts_5 rfl ?_
  refine g_lastore (pc := 6) dX7_counts_6 (shK hS rfl) rfl (by decide) (nl rfl) ?_
  refine g_aload_n (pc := 7) dX7_counts_7 rfl trivial ?_
  refine g_getf (pc := 8) dX7_counts_8 fk_X7_9 (shK hS rfl) (fv_arr (shR hS rfl)) ?_
  refine g_iconst (pc := 11) (v := 3) dX7_counts_11 rfl ?_
  refine g_lconst (pc := 12) (v := 0) dX7_counts_12 rfl ?_
  refine g_lastore (pc := 13) dX7_counts_13 (shK hS rfl) rfl (by decide) (nl rfl) ?_
  refine go_cast e00 ?_
  refine g_aload_n (pc := 14) dX7_counts_14 rfl trivial ?_
  refine g_getf (pc := 15) dX7_counts_15 fk_X7_9 (shK h00.1 rfl) (fv_arr (shR h00.1 rfl)) ?_
  refine g_iconst (pc := 18) (v := 1) dX7_counts_18 rfl ?_
  refine g_laload (pc := 19) dX7_counts_19 (shK h00.1 rfl) rfl (by decide) (nl rfl) ?_
  rw [e01]
  refine g_l2i (pc := 20) dX7_counts_20 (lN_i bl) ?_
  refine g_istore_n (pc := 21) (lv' := [(0, _), (1, _), (2, _)]) dX7_counts_21 (nl rfl) rfl ?_
  refine g_iconst (pc := 22) (v := 0) dX7_counts_22 rfl ?_
  refine g_istore_n (pc := 23) (lv' := [(0, _), (1, _), (2, _), (3, _)]) dX7_counts_23 (nl rfl) rfl ?_
  refine go_loop (pc := 24) (blocks n bl) (fun k => [(0, .ref 198), (1, .ref x), (2, .int (nI bl)), (3, .int (nI (k * bl)))]) (fun k => ctM M (mdN n bl k) (tkN f n bl k)) ⟨rfl, rfl, rfl, by rw [Nat.zero_mul]; rfl, trivial⟩ rfl ?_ ?_
  · intro k hk ih
    have hlt := blocks_lt (n := n) (bl := bl) hb1 hk
    have hcol : min bl (n - k * bl) ≤ 8 := by omega
    rw [mdN, tkN, show (k + 1) * bl = k * bl + bl from Nat.succ_mul k bl] at ih
    have h3 : Rr (ctM M (mdN n bl k) (tkN f n bl k)) n A := ctM_R h
    have e32 := ctM_2 (M := M) (a := mdN n bl k) (b := tkN f n bl k)
    have h4 : Rr (ctM M (mdN n bl k + (2 ^ min bl (n - k * bl) - 1)) (tkN f n bl k)) n A := ctM_R h
    have est := ctM_st2 (M := M) (a := mdN n bl k) (b := tkN f n bl k) (x := mdN n bl k + (2 ^ min bl (n - k * bl) - 1))
    have emin : (if nI (n - k * bl) < nI bl then nI (n - k * bl) else nI bl) = nI (min bl (n - k * bl)) := by
      by_cases hh : n - k * bl < bl
      · rw [if_pos (nI_lt hh (by omega)), Nat.min_eq_right (by omega)]
      · rw [if_neg (nI_nlt (by omega) (by omega)), Nat.min_eq_left (by omega)]
    generalize ctM M (mdN n bl (blocks n bl)) (tkN f n bl (blocks n bl)) = M9 at *
    generalize mdN n bl k = md at *
    generalize tkN f n bl k = tk at *
    generalize min bl (n - k * bl) = col at *
    have elow := low_lN col hcol
    have esub : nI n - nI (k * bl) = nI (n - k * bl) := nI_sub' (by omega)
    generalize k * bl = st at *
    refine g_iload_n (pc := 24) dX7_counts_24 rfl ?_
    refine g_aload_n (pc := 25) dX7_counts_25 rfl trivial ?_
    refine g_invV_r (pc := 26) (As := []) dX7_counts_26 rfl (r_size h3) rfl rfl (shK h3.1 rfl) rfl rfl lk_X7_71 rfl (nb rfl) ⟨nb rfl, nb rfl⟩ rfl ?_
    refine g_icmp_ge (pc := 29) (tgt := 116) dX7_counts_29 rfl (fun h29 => absurd h29 (nI_ge hlt (by omega))) (fun _ => ?_)
    refine g_iload_n (pc := 32) dX7_counts_32 rfl ?_
    refine g_aload_n (pc := 33) dX7_counts_33 rfl trivial ?_
    refine g_invV_r (pc := 34) (As := []) dX7_counts_34 rfl (r_size h3) rfl rfl (shK h3.1 rfl) rfl rfl lk_X7_71 rfl (nb rfl) ⟨nb rfl, nb rfl⟩ rfl ?_
    refine g_iload_n (pc := 37) dX7_counts_37 rfl ?_
    refine g_isub (pc := 38) dX7_counts_38 ?_
    rw [esub]
    refine g_mmin (pc := 39) dX7_counts_39 wd_1348 wd_430 wd_107 wd_431 (nb rfl) (nb rfl) ?_
    rw [emin]
    refine g_istore (pc := 42) (lv' := [(0, _), (1, _), (2, _), (3, _), (4, _)]) dX7_counts_42 (nl rfl) rfl ?_
    refine g_lconst (pc := 44) (v := 1) dX7_counts_44 rfl ?_
    refine g_iload (pc := 45) dX7_counts_45 rfl ?_
    refine g_lshl (pc := 47) dX7_counts_47 rfl ?_
    refine g_lconst (pc := 48) (v := 1) dX7_counts_48 rfl ?_
    refine g_lsub (pc := 49) dX7_counts_49 ?_
    rw [sh_low col (by omega)]
    refine g_lstore (pc := 50) (lv' := [(0, _), (1, _), (2, _), (3, _), (4, _), (5, _)]) dX7_counts_50 (nl rfl) rfl ?_
    refine g_aload_n (pc := 52) dX7_counts_52 rfl trivial ?_
    refine g_getf (pc := 53) dX7_counts_53 fk_X7_9 (shK h3.1 rfl) (fv_arr (shR h3.1 rfl)) ?_
    refine g_iconst (pc := 56) (v := 2) dX7_counts_56 rfl ?_
    refine g_dup2_11 (pc := 57) dX7_counts_57 rfl rfl ?_
    refine g_laload (pc := 58) dX7_counts_58 (shK h3.1 rfl) rfl (by decide) (nl rfl) ?_
    rw [e32]
    refine g_lload (pc := 59) dX7_counts_59 rfl ?_
    refine g_ladd (pc := 61) dX7_counts_61 ?_
    rw [show lN md + uL (lowM col) = lN (md + (2 ^ col - 1)) by rw [elow, lN_add]]
    refine g_lastore (pc := 62) dX7_counts_62 (shK h3.1 rfl) rfl (by decide) (nl rfl) ?_
    refine go_cast est ?_
    refine g_iconst (pc := 63) (v := 0) dX7_counts_63 rfl ?_
    refine g_istore (pc := 64) (lv' := [(0, _), (1, _), (2, _), (3, _), (4, _), (5, _), (7, _)]) dX7_counts_64 (nl rfl) rfl ?_
    refine go_loop (pc := 66) n (fun i => [(0, .ref 198), (1, .ref x), (2, .int (nI bl)), (3, .int (nI st)), (4, .int (nI col)), (5, .long (uL (lowM col))), (7, .int (nI i))]) (fun i => ctM M (md + (2 ^ col - 1)) (tkI f st col tk i)) ⟨rfl, rfl, rfl, rfl, rfl, rfl, rfl, trivial⟩ rfl ?_ ?_
    · intro i hi ih2
      rw [tkI] at ih2
      have h5 : Rr (ctM M (md + (2 ^ col - 1)) (tkI f st col tk i)) n A := ctM_R h
      have e53 := ctM_3 (M := M) (a := md + (2 ^ col - 1)) (b := tkI f st col tk i)
      have e5x : mL (ctM M (md + (2 ^ col - 1)) (tkI f st col tk i)) x i = uL (f i) := by rw [ctM_ne hx]; exact hf i hi
      have hk5 : (mK (ctM M (md + (2 ^ col - 1)) (tkI f st col tk i)))[x]? = some (kL 32) := hkx
      have est0 := ctM_st3 (M := M) (a := md + (2 ^ col - 1)) (b := tkI f st col tk i) (x := tkI f st col tk i)
      have est1 := ctM_st3 (M := M) (a := md + (2 ^ col - 1)) (b := tkI f st col tk i) (x := tkI f st col tk i + 1)
      have eset : us (f i) (nI st) &&& lowM col = setI (f i) st col := rfl
      generalize setI (f i) st col = z at *
      generalize tkI f st col tk i = t at *
      generalize hM5 : ctM M (md + (2 ^ col - 1)) t = M5 at *
      by_cases hz : z = 0
      · rw [if_pos hz, hM5] at ih2
        refine g_iload (pc := 66) dX7_counts_66 rfl ?_
        refine g_aload_n (pc := 68) dX7_counts_68 rfl trivial ?_
        refine g_invV_r (pc := 69) (As := []) dX7_counts_69 rfl (r_size h5) rfl rfl (shK h5.1 rfl) rfl rfl lk_X7_71 rfl (nb rfl) ⟨nb rfl, nb rfl⟩ rfl ?_
        refine g_icmp_ge (pc := 72) (tgt := 109) dX7_counts_72 rfl (fun h72 => absurd h72 (nI_ge hi (by omega))) (fun _ => ?_)
        refine g_aload_n (pc := 75) dX7_counts_75 rfl trivial ?_
        refine g_getf (pc := 76) dX7_counts_76 fk_X7_9 (shK h5.1 rfl) (fv_arr (shR h5.1 rfl)) ?_
        refine g_iconst (pc := 79) (v := 3) dX7_counts_79 rfl ?_
        refine g_dup2_11 (pc := 80) dX7_counts_80 rfl rfl ?_
        refine g_laload (pc := 81) dX7_counts_81 (shK h5.1 rfl) rfl (by decide) (nl rfl) ?_
        rw [e53]
        refine g_aload_n (pc := 82) dX7_counts_82 rfl trivial ?_
        refine g_iload (pc := 83) dX7_counts_83 rfl ?_
        refine g_laload (pc := 85) dX7_counts_85 hk5 rfl (by omega) (nl rfl) ?_
        rw [e5x]
        refine g_iload_n (pc := 86) dX7_counts_86 rfl ?_
        refine g_lshr (pc := 87) dX7_counts_87 rfl ?_
        rw [uL_shr _ (show st < 32 by omega)]
        refine g_lload (pc := 88) dX7_counts_88 rfl ?_
        refine g_land (pc := 90) dX7_counts_90 ?_
        rw [uL_and, eset]
        refine g_lconst (pc := 91) (v := 0) dX7_counts_91 rfl ?_
        refine g_lcmp (pc := 92) dX7_counts_92 ?_
        refine g_if_ne (pc := 93) (tgt := 100) dX7_counts_93 rfl (fun h93 => absurd h93 ((fun y => y ((lg_cmp_eq _ _).mpr (uL_eq0.mpr hz))))) (fun _ => ?_)
        refine g_lconst (pc := 96) (v := 0) dX7_counts_96 rfl ?_
        refine g_goto (pc := 97) (tgt := 101) dX7_counts_97 rfl ?_
        refine g_ladd (pc := 101) dX7_counts_101 ?_
        rw [Int64.add_zero]
        refine g_lastore (pc := 102) dX7_counts_102 (shK h5.1 rfl) rfl (by decide) (nl rfl) ?_
        refine go_cast est0 ?_
        refine g_iinc (pc := 103) (lv' := [(0, _), (1, _), (2, _), (3, _), (4, _), (5, _), (7, _)]) dX7_counts_103 rfl (nI_1 _) (nl rfl) rfl ?_
        refine g_goto (pc := 106) (tgt := 66) dX7_counts_106 rfl ?_
        exact ih2
      · rw [if_neg hz] at ih2
        refine g_iload (pc := 66) dX7_counts_66 rfl ?_
        refine g_aload_n (pc := 68) dX7_counts_68 rfl trivial ?_
        refine g_invV_r (pc := 69) (As := []) dX7_counts_69 rfl (r_size h5) rfl rfl (shK h5.1 rfl) rfl rfl lk_X7_71 rfl (nb rfl) ⟨nb rfl, nb rfl⟩ rfl ?_
        refine g_icmp_ge (pc := 72) (tgt := 109) dX7_counts_72 rfl (fun h72 => absurd h72 (nI_ge hi (by omega))) (fun _ => ?_)
        refine g_aload_n (pc := 75) dX7_counts_75 rfl trivial ?_
        refine g_getf (pc := 76) dX7_counts_76 fk_X7_9 (shK h5.1 rfl) (fv_arr (shR h5.1 rfl)) ?_
        refine g_iconst (pc := 79) (v := 3) dX7_counts_79 rfl ?_
        refine g_dup2_11 (pc := 80) dX7_counts_80 rfl rfl ?_
        refine g_laload (pc := 81) dX7_counts_81 (shK h5.1 rfl) rfl (by decide) (nl rfl) ?_
        rw [e53]
        refine g_aload_n (pc := 82) dX7_counts_82 rfl trivial ?_
        refine g_iload (pc := 83) dX7_counts_83 rfl ?_
        refine g_laload (pc := 85) dX7_counts_85 hk5 rfl (by omega) (nl rfl) ?_
        rw [e5x]
        refine g_iload_n (pc := 86) dX7_counts_86 rfl ?_
        refine g_lshr (pc := 87) dX7_counts_87 rfl ?_
        rw [uL_shr _ (show st < 32 by omega)]
        refine g_lload (pc := 88) dX7_counts_88 rfl ?_
        refine g_land (pc := 90) dX7_counts_90 ?_
        rw [uL_and, eset]
        refine g_lconst (pc := 91) (v := 0) dX7_counts_91 rfl ?_
        refine g_lcmp (pc := 92) dX7_counts_92 ?_
        refine g_if_ne (pc := 93) (tgt := 100) dX7_counts_93 rfl (fun _ => ?_) (fun h93 => absurd ((fun y => hz (uL_eq0.mp ((lg_cmp_eq _ _).mp y)))) h93)
        refine g_lconst (pc := 100) (v := 1) dX7_counts_100 rfl ?_
        refine g_ladd (pc := 101) dX7_counts_101 ?_
        rw [lN_1]
        refine g_lastore (pc := 102) dX7_counts_102 (shK h5.1 rfl) rfl (by decide) (nl rfl) ?_
        refine go_cast est1 ?_
        refine g_iinc (pc := 103) (lv' := [(0, _), (1, _), (2, _), (3, _), (4, _), (5, _), (7, _)]) dX7_counts_103 rfl (nI_1 _) (nl rfl) rfl ?_
        refine g_goto (pc := 106) (tgt := 66) dX7_counts_106 rfl ?_
        exact ih2
    · have h5 : Rr (ctM M (md + (2 ^ col - 1)) (tkI f st col tk n)) n A := ctM_R h
      generalize ctM M (md + (2 ^ col - 1)) (tkI f st col tk n) = M5 at *
      refine g_iload (pc := 66) dX7_counts_66 rfl ?_
      refine g_aload_n (pc := 68) dX7_counts_68 rfl trivial ?_
      refine g_invV_r (pc := 69) (As := []) dX7_counts_69 rfl (r_size h5) rfl rfl (shK h5.1 rfl) rfl rfl lk_X7_71 rfl (nb rfl) ⟨nb rfl, nb rfl⟩ rfl ?_
      refine g_icmp_ge (pc := 72) (tgt := 109) dX7_counts_72 rfl (fun _ => ?_) (fun h72 => absurd (nI_le (Nat.le_refl _) (by omega)) h72)
      refine g_iload_n (pc := 109) dX7_counts_109 rfl ?_
      refine g_iload_n (pc := 110) dX7_counts_110 rfl ?_
      refine g_iadd (pc := 111) dX7_counts_111 ?_
      rw [nI_add]
      refine g_istore_n (pc := 112) (lv' := [(0, _), (1, _), (2, _), (3, _), (4, _), (5, _), (7, _)]) dX7_counts_112 (nl rfl) rfl ?_
      refine g_goto (pc := 113) (tgt := 24) dX7_counts_113 rfl ?_
      exact g_sub (lv' := [(0, _), (1, _), (2, _), (3, _)]) ⟨rfl, rfl, rfl, rfl, trivial⟩ ih
  · have h3 : Rr (ctM M (mdN n bl (blocks n bl)) (tkN f n bl (blocks n bl))) n A := ctM_R h
    generalize ctM M (mdN n bl (blocks n bl)) (tkN f n bl (blocks n bl)) = M9 at *
    refine g_iload_n (pc := 24) dX7_counts_24 rfl ?_
    refine g_aload_n (pc := 25) dX7_counts_25 rfl trivial ?_
    refine g_invV_r (pc := 26) (As := []) dX7_counts_26 rfl (r_size h3) rfl rfl (shK h3.1 rfl) rfl rfl lk_X7_71 rfl (nb rfl) ⟨nb rfl, nb rfl⟩ rfl ?_
    refine g_icmp_ge (pc := 29) (tgt := 116) dX7_counts_29 rfl (fun _ => ?_) (fun h29 => absurd (nI_le hg.1 (by omega)) h29)
    refine g_return (pc := 116) dX7_counts_116 rfl ?_
    exact ⟨rfl, rfl⟩
/-- a row of a product, by one column after the other -/
def mlI (fl : Bool) (g : Nat → Int32) (x : Int32) : Nat → Int32
  | 0 => 0
  | c + 1 => jn (b1 fl) (mlI fl g x c) (if hb x c = true then g c else 0)
def mlF (fl : Bool) (f g : Nat → Int32) (n : Nat) : Nat → Int32 := fun r => mlI fl g (f r) n
theorem uL_jn (fl : Bool) (x y : Int32) : uL (jn (b1 fl) x y) = if fl = true then uL x ^^^ uL y else uL x ||| uL y := by
  cases fl
  · rw [if_neg (by decide), uL_or]; rfl
  · rw [if_pos rfl, uL_xor]; rfl
def muM (M : Mem) (fl : Bool) (f g : Nat → Int32) (n bl : Nat) : Mem := hdM (ctM M (mdN n bl (blocks n bl)) (tkN f n bl (blocks n bl))) 207 n (mlF fl f g n)
theorem r_multiplies {xa xb : Nat} {fl : Bool} {f g : Nat → Int32} (h : Rr M n A) (hbl : mL M 199 1 = lN bl) (hb1 : 1 ≤ bl) (hb8 : bl ≤ 8) (ha : xa = 205 ∨ xa = 206) (hb9 : xb = 205 ∨ xb = 206) (hf : ∀ i, i < n → mL M xa i = uL (f i)) (hg : ∀ i, i < n → mL M xb i = uL (g i)) : EvR l jX7_multiplies 2 60 0 0 [.ref 198, .ref xa, .ref xb, .ref 207, .int (b1 fl)] M (.inl none) (muM M fl f g n bl) := by
  have hn := h.2.2.2.1
  have hS := h.1
  have hka : (mK M)[xa]? = some (kL 32) := shK hS (by rcases ha with rfl | rfl <;> rfl)
  have hkb : (mK M)[xb]? = some (kL 32) := shK hS (by rcases hb9 with rfl | rfl <;> rfl)
  have hna : xa ≠ 199 := by rcases ha with rfl | rfl <;> decide
  have hnb : xb ≠ 199 := by rcases hb9 with rfl | rfl <;> decide
  have hna7 : xa ≠ 207 := by rcases ha with rfl | rfl <;> decide
  have hnb7 : xb ≠ 207 := by rcases hb9 with rfl | rfl <;> decide
  have q1 := r_counts (l := l) h hbl hb1 hb8 hka hna hf
  unfold muM
  have h1 : Rr (ctM M (mdN n bl (blocks n bl)) (tkN f n bl (blocks n bl))) n A := ctM_R h
  have hf1 : ∀ i, i < n → mL (ctM M (mdN n bl (blocks n bl)) (tkN f n bl (blocks n bl))) xa i = uL (f i) := fun i hi => by rw [ctM_ne hna]; exact hf i hi
  have hg1 : ∀ i, i < n → mL (ctM M (mdN n bl (blocks n bl)) (tkN f n bl (blocks n bl))) xb i = uL (g i) := fun i hi => by rw [ctM_ne hnb]; exact hg i hi
  have hka : (mK (ctM M (mdN n bl (blocks n bl)) (tkN f n bl (blocks n bl))))[xa]? = some (kL 32) := hka
  have hkb : (mK (ctM M (mdN n bl (blocks n bl)) (tkN f n bl (blocks n bl))))[xb]? = some (kL 32) := hkb
  generalize ctM M (mdN n bl (blocks n bl)) (tkN f n bl (blocks n bl)) = M1 at *
  unfold hdM
  refine ev_intro rfl (nb rfl) rfl ?_
  refine g_aload_n (pc := 0) dX7_multiplies_0 rfl trivial ?_
  refine g_aload_n (pc := 1) dX7_multiplies_1 rfl trivial ?_
  refine g_invV_r (pc := 2) (As := [_]) dX7_multiplies_2 rfl (q1) rfl rfl (shK hS rfl) rfl rfl lk_X7_330 rfl (nb rfl) ⟨nb rfl, nb rfl⟩ rfl ?_
  refine g_iconst (pc := 5) (v := 0) dX7_multiplies_5 rfl ?_
  refine g_istore (pc := 6) (lv' := [(0, _), (1, _), (2, _), (3, _), (4, _), (5, _)]) dX7_multiplies_6 (nl rfl) rfl ?_
  refine go_loop (pc := 8) n (fun i => [(0, .ref 198), (1, .ref xa), (2, .ref xb), (3, .ref 207), (4, .int (b1 fl)), (5, .int (nI i))]) (fun i => sL M1 207 (wr (mL M1 207) (uR (mlF fl f g n)) i)) ⟨rfl, rfl, rfl, rfl, rfl, rfl, trivial⟩ (sL_eq (wr_0 _ _)) ?_ ?_
  · intro r hr ih
    have h4 : Rr (sL M1 207 (wr (mL M1 207) (uR (mlF fl f g n)) r)) n A := h1.sL (by decide)
    have ew : wr (mL M1 207) (uR (mlF fl f g n)) (r + 1) = fun_set (wr (mL M1 207) (uR (mlF fl f g n)) r) r (uL (mlI fl g (f r) n)) := (wr_s _ _ _).symm
    rw [ew] at ih
    generalize hG9 : wr (mL M1 207) (uR (mlF fl f g n)) n = G9 at *
    generalize wr (mL M1 207) (uR (mlF fl f g n)) r = u at *
    refine g_iload (pc := 8) dX7_multiplies_8 rfl ?_
    refine g_aload_n (pc := 10) dX7_multiplies_10 rfl trivial ?_
    refine g_invV_r (pc := 11) (As := []) dX7_multiplies_11 rfl (r_size h4) rfl rfl (shK h4.1 rfl) rfl rfl lk_X7_71 rfl (nb rfl) ⟨nb rfl, nb rfl⟩ rfl ?_
    refine g_icmp_ge (pc := 14) (tgt := 95) dX7_multiplies_14 rfl (fun h14 => absurd h14 (nI_ge hr (by omega))) (fun _ => ?_)
    refine g_aload_n (pc := 17) dX7_multiplies_17 rfl trivial ?_
    refine g_iload (pc := 18) dX7_multiplies_18 rfl ?_
    refine g_lconst (pc := 20) (v := 0) dX7_multiplies_20 rfl ?_
    refine g_lastore (pc := 21) dX7_multiplies_21 (shK h4.1 rfl) rfl (by omega) (nl rfl) ?_
    refine g_iconst (pc := 22) (v := 0) dX7_multiplies_22 rfl ?_
    refine g_istore (pc := 23) (lv' := [(0, _), (1, _), (2, _), (3, _), (4, _), (5, _), (6, _)]) dX7_multiplies_23 (nl rfl) rfl ?_
    refine go_loop (pc := 25) n (fun i => [(0, .ref 198), (1, .ref xa), (2, .ref xb), (3, .ref 207), (4, .int (b1 fl)), (5, .int (nI r)), (6, .int (nI i))]) (fun i => sL M1 207 (fun_set u r (uL (mlI fl g (f r) i)))) ⟨rfl, rfl, rfl, rfl, rfl, rfl, rfl, trivial⟩ (sL_st (by rw [mlI, uL_0])) ?_ ?_
    · intro i hi ih2
      have h5 : Rr (sL M1 207 (fun_set u r (uL (mlI fl g (f r) i)))) n A := h1.sL (by decide)
      have e5 : mL (sL M1 207 (fun_set u r (uL (mlI fl g (f r) i)))) 207 r = uL (mlI fl g (f r) i) := by rw [sL_self, fs_self]
      have ea : mL (sL M1 207 (fun_set u r (uL (mlI fl g (f r) i)))) xa r = uL (f r) := by rw [sL_ne hna7]; exact hf1 r hr
      have eb : mL (sL M1 207 (fun_set u r (uL (mlI fl g (f r) i)))) xb i = uL (g i) := by rw [sL_ne hnb7]; exact hg1 i hi
      have ka5 : (mK (sL M1 207 (fun_set u r (uL (mlI fl g (f r) i)))))[xa]? = some (kL 32) := hka
      have kb5 : (mK (sL M1 207 (fun_set u r (uL (mlI fl g (f r) i)))))[xb]? = some (kL 32) := hkb
      have est := fun v => sL_st (M := M1) (a := 207) (i := r) (g := fun_set u r (uL (mlI fl g (f r) i))) (x := v) (h := fun_set u r v) (fs_twice _ _ _ _)
      rw [mlI, uL_jn] at ih2
      generalize mlI fl g (f r) i = x at *
      cases hb7 : hb (f r) i with
      | true =>
        rw [hb7, if_pos rfl] at ih2
        cases fl with
        | true =>
          rw [if_pos rfl] at ih2
          refine g_iload (pc := 25) dX7_multiplies_25 rfl ?_
          refine g_aload_n (pc := 27) dX7_multiplies_27 rfl trivial ?_
          refine g_invV_r (pc := 28) (As := []) dX7_multiplies_28 rfl (r_size h5) rfl rfl (shK h5.1 rfl) rfl rfl lk_X7_71 rfl (nb rfl) ⟨nb rfl, nb rfl⟩ rfl ?_
          refine g_icmp_ge (pc := 31) (tgt := 89) dX7_multiplies_31 rfl (fun h31 => absurd h31 (nI_ge hi (by omega))) (fun _ => ?_)
          refine g_aload_n (pc := 34) dX7_multiplies_34 rfl trivial ?_
          refine g_iload (pc := 35) dX7_multiplies_35 rfl ?_
          refine g_laload (pc := 37) dX7_multiplies_37 ka5 rfl (by omega) (nl rfl) ?_
          rw [ea]
          refine g_iload (pc := 38) dX7_multiplies_38 rfl ?_
          refine g_invS_r (pc := 40) (As := [_, _]) dX7_multiplies_40 rfl (r_one (show i < 32 by omega)) rfl rfl lk_X7_231 rfl (nb rfl) ⟨nb rfl, nb rfl⟩ rfl ?_
          rw [hb7]
          refine g_iconst (pc := 43) (v := 1) dX7_multiplies_43 rfl ?_
          refine g_icmp_ne (pc := 44) (tgt := 54) dX7_multiplies_44 rfl (fun h44 => absurd h44 ((fun z => z rfl))) (fun _ => ?_)
          refine g_aload_n (pc := 47) dX7_multiplies_47 rfl trivial ?_
          refine g_iload (pc := 48) dX7_multiplies_48 rfl ?_
          refine g_laload (pc := 50) dX7_multiplies_50 kb5 rfl (by omega) (nl rfl) ?_
          rw [eb]
          refine g_goto (pc := 51) (tgt := 55) dX7_multiplies_51 rfl ?_
          refine g_lstore (pc := 55) (lv' := [(0, _), (1, _), (2, _), (3, _), (4, _), (5, _), (6, _), (7, _)]) dX7_multiplies_55 (nl rfl) rfl ?_
          refine g_aload_n (pc := 57) dX7_multiplies_57 rfl trivial ?_
          refine g_iload (pc := 58) dX7_multiplies_58 rfl ?_
          refine g_iload (pc := 60) dX7_multiplies_60 rfl ?_
          refine g_if_eq (pc := 62) (tgt := 75) dX7_multiplies_62 rfl (fun h62 => absurd h62 ((by decide))) (fun _ => ?_)
          refine g_aload_n (pc := 65) dX7_multiplies_65 rfl trivial ?_
          refine g_iload (pc := 66) dX7_multiplies_66 rfl ?_
          refine g_laload (pc := 68) dX7_multiplies_68 (shK h5.1 rfl) rfl (by omega) (nl rfl) ?_
          rw [e5]
          refine g_lload (pc := 69) dX7_multiplies_69 rfl ?_
          refine g_lxor (pc := 71) dX7_multiplies_71 ?_
          refine g_goto (pc := 72) (tgt := 82) dX7_multiplies_72 rfl ?_
          refine g_lastore (pc := 82) dX7_multiplies_82 (shK h5.1 rfl) rfl (by omega) (nl rfl) ?_
          refine go_cast (est _) ?_
          refine g_iinc (pc := 83) (lv' := [(0, _), (1, _), (2, _), (3, _), (4, _), (5, _), (6, _), (7, _)]) dX7_multiplies_83 rfl (nI_1 _) (nl rfl) rfl ?_
          refine g_goto (pc := 86) (tgt := 25) dX7_multiplies_86 rfl ?_
          exact g_sub (lv' := [(0, _), (1, _), (2, _), (3, _), (4, _), (5, _), (6, _)]) ⟨rfl, rfl, rfl, rfl, rfl, rfl, rfl, trivial⟩ ih2
        | false =>
          rw [if_neg (by decide)] at ih2
          refine g_iload (pc := 25) dX7_multiplies_25 rfl ?_
          refine g_aload_n (pc := 27) dX7_multiplies_27 rfl trivial ?_
          refine g_invV_r (pc := 28) (As := []) dX7_multiplies_28 rfl (r_size h5) rfl rfl (shK h5.1 rfl) rfl rfl lk_X7_71 rfl (nb rfl) ⟨nb rfl, nb rfl⟩ rfl ?_
          refine g_icmp_ge (pc := 31) (tgt := 89) dX7_multiplies_31 rfl (fun h31 => absurd h31 (nI_ge hi (by omega))) (fun _ => ?_)
          refine g_aload_n (pc := 34) dX7_multiplies_34 rfl trivial ?_
          refine g_iload (pc := 35) dX7_multiplies_35 rfl ?_
          refine g_laload (pc := 37) dX7_multiplies_37 ka5 rfl (by omega) (nl rfl) ?_
          rw [ea]
          refine g_iload (pc := 38) dX7_multiplies_38 rfl ?_
          refine g_invS_r (pc := 40) (As := [_, _]) dX7_multiplies_40 rfl (r_one (show i < 32 by omega)) rfl rfl lk_X7_231 rfl (nb rfl) ⟨nb rfl, nb rfl⟩ rfl ?_
          rw [hb7]
          refine g_iconst (pc := 43) (v := 1) dX7_multiplies_43 rfl ?_
          refine g_icmp_ne (pc := 44) (tgt := 54) dX7_multiplies_44 rfl (fun h44 => absurd h44 ((fun z => z rfl))) (fun _ => ?_)
          refine g_aload_n (pc := 47) dX7_multiplies_47 rfl trivial ?_
          refine g_iload (pc := 48) dX7_multiplies_48 rfl ?_
          refine g_laload (pc := 50) dX7_multiplies_50 kb5 rfl (by omega) (nl rfl) ?_
          rw [eb]
          refine g_goto (pc := 51) (tgt := 55) dX7_multiplies_51 rfl ?_
          refine g_lstore (pc := 55) (lv' := [(0, _), (1, _), (2, _), (3, _), (4, _), (5, _), (6, _), (7, _)]) dX7_multiplies_55 (nl rfl) rfl ?_
          refine g_aload_n (pc := 57) dX7_multiplies_57 rfl trivial ?_
          refine g_iload (pc := 58) dX7_multiplies_58 rfl ?_
          refine g_iload (pc := 60) dX7_multiplies_60 rfl ?_
          refine g_if_eq (pc := 62) (tgt := 75) dX7_multiplies_62 rfl (fun _ => ?_) (fun h62 => absurd (rfl) h62)
          refine g_aload_n (pc := 75) dX7_multiplies_75 rfl trivial ?_
          refine g_iload (pc := 76) dX7_multiplies_76 rfl ?_
          refine g_laload (pc := 78) dX7_multiplies_78 (shK h5.1 rfl) rfl (by omega) (nl rfl) ?_
          rw [e5]
          refine g_lload (pc := 79) dX7_multiplies_79 rfl ?_
          refine g_lor (pc := 81) dX7_multiplies_81 ?_
          refine g_lastore (pc := 82) dX7_multiplies_82 (shK h5.1 rfl) rfl (by omega) (nl rfl) ?_
          refine go_cast (est _) ?_
          refine g_iinc (pc := 83) (lv' := [(0, _), (1, _), (2, _), (3, _), (4, _), (5, _), (6, _), (7, _)]) dX7_multiplies_83 rfl (nI_1 _) (nl rfl) rfl ?_
          refine g_goto (pc := 86) (tgt := 25) dX7_multiplies_86 rfl ?_
          exact g_sub (lv' := [(0, _), (1, _), (2, _), (3, _), (4, _), (5, _), (6, _)]) ⟨rfl, rfl, rfl, rfl, rfl, rfl, rfl, trivial⟩ ih2
      | false =>
        rw [hb7, if_neg (show ¬ false = true by decide), uL_0] at ih2
        cases fl with
        | true =>
          rw [if_pos rfl] at ih2
          refine g_iload (pc := 25) dX7_multiplies_25 rfl ?_
          refine g_aload_n (pc := 27) dX7_multiplies_27 rfl trivial ?_
          refine g_invV_r (pc := 28) (As := []) dX7_multiplies_28 rfl (r_size h5) rfl rfl (shK h5.1 rfl) rfl rfl lk_X7_71 rfl (nb rfl) ⟨nb rfl, nb rfl⟩ rfl ?_
          refine g_icmp_ge (pc := 31) (tgt := 89) dX7_multiplies_31 rfl (fun h31 => absurd h31 (nI_ge hi (by omega))) (fun _ => ?_)
          refine g_aload_n (pc := 34) dX7_multiplies_34 rfl trivial ?_
          refine g_iload (pc := 35) dX7_multiplies_35 rfl ?_
          refine g_laload (pc := 37) dX7_multiplies_37 ka5 rfl (by omega) (nl rfl) ?_
          rw [ea]
          refine g_iload (pc := 38) dX7_multiplies_38 rfl ?_
          refine g_invS_r (pc := 40) (As := [_, _]) dX7_multiplies_40 rfl (r_one (show i < 32 by omega)) rfl rfl lk_X7_231 rfl (nb rfl) ⟨nb rfl, nb rfl⟩ rfl ?_
          rw [hb7]
          refine g_iconst (pc := 43) (v := 1) dX7_multiplies_43 rfl ?_
          refine g_icmp_ne (pc := 44) (tgt := 54) dX7_multiplies_44 rfl (fun _ => ?_) (fun h44 => absurd ((by decide)) h44)
          refine g_lconst (pc := 54) (v := 0) dX7_multiplies_54 rfl ?_
          refine g_lstore (pc := 55) (lv' := [(0, _), (1, _), (2, _), (3, _), (4, _), (5, _), (6, _), (7, _)]) dX7_multiplies_55 (nl rfl) rfl ?_
          refine g_aload_n (pc := 57) dX7_multiplies_57 rfl trivial ?_
          refine g_iload (pc := 58) dX7_multiplies_58 rfl ?_
          refine g_iload (pc := 60) dX7_multiplies_60 rfl ?_
          refine g_if_eq (pc := 62) (tgt := 75) dX7_multiplies_62 rfl (fun h62 => absurd h62 ((by decide))) (fun _ => ?_)
          refine g_aload_n (pc := 65) dX7_multiplies_65 rfl trivial ?_
          refine g_iload (pc := 66) dX7_multiplies_66 rfl ?_
          refine g_laload (pc := 68) dX7_multiplies_68 (shK h5.1 rfl) rfl (by omega) (nl rfl) ?_
          rw [e5]
          refine g_lload (pc := 69) dX7_multiplies_69 rfl ?_
          refine g_lxor (pc := 71) dX7_multiplies_71 ?_
          refine g_goto (pc := 72) (tgt := 82) dX7_multiplies_72 rfl ?_
          refine g_lastore (pc := 82) dX7_multiplies_82 (shK h5.1 rfl) rfl (by omega) (nl rfl) ?_
          refine go_cast (est _) ?_
          refine g_iinc (pc := 83) (lv' := [(0, _), (1, _), (2, _), (3, _), (4, _), (5, _), (6, _), (7, _)]) dX7_multiplies_83 rfl (nI_1 _) (nl rfl) rfl ?_
          refine g_goto (pc := 86) (tgt := 25) dX7_multiplies_86 rfl ?_
          exact g_sub (lv' := [(0, _), (1, _), (2, _), (3, _), (4, _), (5, _), (6, _)]) ⟨rfl, rfl, rfl, rfl, rfl, rfl, rfl, trivial⟩ ih2
        | false =>
          rw [if_neg (by decide)] at ih2
          refine g_iload (pc := 25) dX7_multiplies_25 rfl ?_
          refine g_aload_n (pc := 27) dX7_multiplies_27 rfl trivial ?_
          refine g_invV_r (pc := 28) (As := []) dX7_multiplies_28 rfl (r_size h5) rfl rfl (shK h5.1 rfl) rfl rfl lk_X7_71 rfl (nb rfl) ⟨nb rfl, nb rfl⟩ rfl ?_
          refine g_icmp_ge (pc := 31) (tgt := 89) dX7_multiplies_31 rfl (fun h31 => absurd h31 (nI_ge hi (by omega))) (fun _ => ?_)
          refine g_aload_n (pc := 34) dX7_multiplies_34 rfl trivial ?_
          refine g_iload (pc := 35) dX7_multiplies_35 rfl ?_
          refine g_laload (pc := 37) dX7_multiplies_37 ka5 rfl (by omega) (nl rfl) ?_
          rw [ea]
          refine g_iload (pc := 38) dX7_multiplies_38 rfl ?_
          refine g_invS_r (pc := 40) (As := [_, _]) dX7_multiplies_40 rfl (r_one (show i < 32 by omega)) rfl rfl lk_X7_231 rfl (nb rfl) ⟨nb rfl, nb rfl⟩ rfl ?_
          rw [hb7]
          refine g_iconst (pc := 43) (v := 1) dX7_multiplies_43 rfl ?_
          refine g_icmp_ne (pc := 44) (tgt := 54) dX7_multiplies_44 rfl (fun _ => ?_) (fun h44 => absurd ((by decide)) h44)
          refine g_lconst (pc := 54) (v := 0) dX7_multiplies_54 rfl ?_
          refine g_lstore (pc := 55) (lv' := [(0, _), (1, _), (2, _), (3, _), (4, _), (5, _), (6, _), (7, _)]) dX7_multiplies_55 (nl rfl) rfl ?_
          refine g_aload_n (pc := 57) dX7_multiplies_57 rfl trivial ?_
          refine g_iload (pc := 58) dX7_multiplies_58 rfl ?_
          refine g_iload (pc := 60) dX7_multiplies_60 rfl ?_
          refine g_if_eq (pc := 62) (tgt := 75) dX7_multiplies_62 rfl (fun _ => ?_) (fun h62 => absurd (rfl) h62)
          refine g_aload_n (pc := 75) dX7_multiplies_75 rfl trivial ?_
          refine g_iload (pc := 76) dX7_multiplies_76 rfl ?_
          refine g_laload (pc := 78) dX7_multiplies_78 (shK h5.1 rfl) rfl (by omega) (nl rfl) ?_
          rw [e5]
          refine g_lload (pc := 79) dX7_multiplies_79 rfl ?_
          refine g_lor (pc := 81) dX7_multiplies_81 ?_
          refine g_lastore (pc := 82) dX7_multiplies_82 (shK h5.1 rfl) rfl (by omega) (nl rfl) ?_
          refine go_cast (est _) ?_
          refine g_iinc (pc := 83) (lv' := [(0, _), (1, _), (2, _), (3, _), (4, _), (5, _), (6, _), (7, _)]) dX7_multiplies_83 rfl (nI_1 _) (nl rfl) rfl ?_
          refine g_goto (pc := 86) (tgt := 25) dX7_multiplies_86 rfl ?_
          exact g_sub (lv' := [(0, _), (1, _), (2, _), (3, _), (4, _), (5, _), (6, _)]) ⟨rfl, rfl, rfl, rfl, rfl, rfl, rfl, trivial⟩ ih2
    · have h5 : Rr (sL M1 207 (fun_set u r (uL (mlI fl g (f r) n)))) n A := h1.sL (by decide)
      refine g_iload (pc := 25) dX7_multiplies_25 rfl ?_
      refine g_aload_n (pc := 27) dX7_multiplies_27 rfl trivial ?_
      refine g_invV_r (pc := 28) (As := []) dX7_multiplies_28 rfl (r_size h5) rfl rfl (shK h5.1 rfl) rfl rfl lk_X7_71 rfl (nb rfl) ⟨nb rfl, nb rfl⟩ rfl ?_
      refine g_icmp_ge (pc := 31) (tgt := 89) dX7_multiplies_31 rfl (fun _ => ?_) (fun h31 => absurd (nI_le (Nat.le_refl _) (by omega)) h31)
      refine g_iinc (pc := 89) (lv' := [(0, _), (1, _), (2, _), (3, _), (4, _), (5, _), (6, _)]) dX7_multiplies_89 rfl (nI_1 _) (nl rfl) rfl ?_
      refine g_goto (pc := 92) (tgt := 8) dX7_multiplies_92 rfl ?_
      exact g_sub (lv' := [(0, _), (1, _), (2, _), (3, _), (4, _), (5, _)]) ⟨rfl, rfl, rfl, rfl, rfl, rfl, trivial⟩ ih
  · have h4 : Rr (sL M1 207 (wr (mL M1 207) (uR (mlF fl f g n)) n)) n A := h1.sL (by decide)
    refine g_iload (pc := 8) dX7_multiplies_8 rfl ?_
    refine g_aload_n (pc := 10) dX7_multiplies_10 rfl trivial ?_
    refine g_invV_r (pc := 11) (As := []) dX7_multiplies_11 rfl (r_size h4) rfl rfl (shK h4.1 rfl) rfl rfl lk_X7_71 rfl (nb rfl) ⟨nb rfl, nb rfl⟩ rfl ?_
    refine g_icmp_ge (pc := 14) (tgt := 95) dX7_multiplies_14 rfl (fun _ => ?_) (fun h14 => absurd (nI_le (Nat.le_refl _) (by omega)) h14)
    refine g_return (pc := 95) dX7_multiplies_95 rfl ?_
    exact ⟨rfl, rfl⟩
end

