section
variable {l : Launch} {M : Mem} {n p c : Nat}
def srcN (a b i : Nat) : Nat := if i = a then b else if i = b then a else i
def exF (f : Nat → Int32) (a b i : Nat) : Int32 := exch (f (srcN a b i)) a b
def exC (f : Nat → Int32) (a b : Nat) : Nat → Int32
  | 0 => 0
  | k + 1 => exC f a b k + bcJ (exF f a b k ^^^ f k)
theorem u_exchange {s a b : Nat} (hD : Dk M n p c) (hs : s < 6) (ha : a < n) (hb9 : b < n) : EvR l jX6_exchange 9 160 3 18 [.ref 0, .int (nI s), .int (nI a), .int (nI b)] M (.inl (some (.int (exC (mI M (6 + 2 * s)) a b n)))) (storeM (mkM (remM M p c) (exF (mI M (6 + 2 * s)) a b) n) 195 s n) := by
  have hn := hD.2.2.1
  have hS1 := remM_S hD.1 p c
  have hz1 := d_z hD
  have er : mI (remM M p c) (6 + 2 * s) = mI M (6 + 2 * s) := remM_ne hD.2.2.2.2.1 (by omega) (by omega)
  have q1 := d_remember (l := l) hD
  rw [← er]
  generalize remM M p c = R at *
  obtain ⟨f, hf⟩ : ∃ f, f = mI R (6 + 2 * s) := ⟨_, rfl⟩
  rw [← hf]
  obtain ⟨g, hg⟩ : ∃ g, g = exF f a b := ⟨_, rfl⟩
  rw [← hg]
  have hg1 : ∀ i, g i = exch (f (srcN a b i)) a b := fun i => by rw [hg]; rfl
  have hS2 : ∀ k, Shp (mkM R g k) := fun k => mk_S hS1 g k
  have hz2 : ∀ k, mI (mkM R g k) 3 1 = nI n := fun k => (congrFun (mk_ne (by decide)) 1).trans hz1
  have er2 : ∀ k, mI (mkM R g k) (6 + 2 * s) = f := fun k => (mk_ne (by omega)).trans hf.symm
  have q2 := s_store (l := l) (r := 195) (n := n) (hS2 n) hs (hz2 n) hn (shK (hS2 n) rfl)
  have est : ∀ k, pI (mkM R g k) 195 k (g k) = mkM R g (k + 1) := fun k => mk_st k
  have erd : ∀ k, mI (mkM R g (k + 1)) 195 k = g k := fun k => by unfold mkM; rw [sI_self, wr_lt (Nat.lt_succ_self k)]
  have e00 : R = mkM R g 0 := mk_0
  refine ev_intro rfl (nb rfl) rfl ?_
  refine g_aload_n (pc := 0) dX6_exchange_0 rfl trivial ?_
  refine g_iload_n (pc := 1) dX6_exchange_1 rfl ?_
  refine g_iload_n (pc := 2) dX6_exchange_2 rfl ?_
  refine g_iload_n (pc := 3) dX6_exchange_3 rfl ?_
  refine g_invV_r (pc := 4) (As := [_, _, _]) dX6_exchange_4 rfl (s_needCell hD.1 hD.2.1 (in6 hs) (inR_nI ha (by omega)) (inR_nI hb9 (by omega))) rfl rfl (shK hD.1 rfl) rfl rfl lk_X6_109 rfl (nb rfl) ⟨nb rfl, nb rfl⟩ rfl ?_
  refine g_aload_n (pc := 7) dX6_exchange_7 rfl trivial ?_
  refine g_invV_r (pc := 8) (As := []) dX6_exchange_8 rfl (q1) rfl rfl (shK hD.1 rfl) rfl rfl lk_X6_222 rfl (nb rfl) ⟨nb rfl, nb rfl⟩ rfl ?_
  refine g_aload_n (pc := 11) dX6_exchange_11 rfl trivial ?_
  refine g_iload_n (pc := 12) dX6_exchange_12 rfl ?_
  refine g_invV_r (pc := 13) (As := [_]) dX6_exchange_13 rfl (s_rowsOf hS1 hs) rfl rfl (shK hS1 rfl) rfl rfl lk_X6_112 rfl (nb rfl) ⟨nb rfl, nb rfl⟩ rfl ?_
  refine g_astore (pc := 16) (lv' := [(0, _), (1, _), (2, _), (3, _), (4, _)]) dX6_exchange_16 trivial (nl rfl) rfl ?_
  refine g_iconst (pc := 18) (v := 0) dX6_exchange_18 rfl ?_
  refine g_istore (pc := 19) (lv' := [(0, _), (1, _), (2, _), (3, _), (4, _), (5, _)]) dX6_exchange_19 (nl rfl) rfl ?_
  refine g_iconst (pc := 21) (v := 0) dX6_exchange_21 rfl ?_
  refine g_istore (pc := 22) (lv' := [(0, _), (1, _), (2, _), (3, _), (4, _), (5, _), (6, _)]) dX6_exchange_22 (nl rfl) rfl ?_
  refine go_loop (pc := 24) n (fun i => [(0, .ref 0), (1, .int (nI s)), (2, .int (nI a)), (3, .int (nI b)), (4, .ref (6 + 2 * s)), (5, .int (exC f a b i)), (6, .int (nI i))]) (fun i => mkM R g i) ⟨rfl, rfl, rfl, rfl, rfl, rfl, rfl, trivial⟩ e00 ?_ ?_
  · intro i hi ih
    have hS3 := hS2 i
    have hz3 := hz2 i
    have er3 := er2 i
    have est3 := est i
    have hS5 := hS2 (i + 1)
    have er5 := er2 (i + 1)
    have erd5 := erd i
    generalize exC f a b n = X9 at ih ⊢
    rw [exC] at ih
    generalize exC f a b i = x0 at ih ⊢
    have hEF : exF f a b i = g i := by rw [hg]
    rw [hEF] at ih
    generalize mkM R g n = M9 at *
    generalize mkM R g (i + 1) = M4 at *
    generalize mkM R g i = M3 at *
    have hgi := hg1 i
    generalize g i = y at *
    have hend : ∀ j, j < 32 → y = exch (f j) a b → Go l jX6_exchange 9 160 3 18 (fun r' M' => r' = .inl (some (.int X9)) ∧ M' = storeM M9 195 s n) 60 [(0, .ref 0), (1, .int (nI s)), (2, .int (nI a)), (3, .int (nI b)), (4, .ref (6 + 2 * s)), (5, .int x0), (6, .int (nI i)), (7, .int (nI j))] [] 0 0 M3 := by
      intro j hj hy
      refine g_aload_n (pc := 60) dX6_exchange_60 rfl trivial ?_
      refine g_getf (pc := 61) dX6_exchange_61 fk_X6_58 (shK hS3 rfl) (fv_arr (shR hS3 rfl)) ?_
      refine g_iload (pc := 64) dX6_exchange_64 rfl ?_
      refine g_aload (pc := 66) dX6_exchange_66 rfl trivial ?_
      refine g_iload (pc := 68) dX6_exchange_68 rfl ?_
      refine g_iaload (pc := 70) dX6_exchange_70 (shK hS3 (rows_lay hs)) rfl hj (nl rfl) ?_
      rw [er3]
      refine g_iload_n (pc := 71) dX6_exchange_71 rfl ?_
      refine g_iload_n (pc := 72) dX6_exchange_72 rfl ?_
      refine g_invS_r (pc := 73) (As := [_, _, _]) dX6_exchange_73 rfl (s_exchanged (show a < 32 by omega) (show b < 32 by omega)) rfl rfl lk_X6_285 rfl (nb rfl) ⟨nb rfl, nb rfl⟩ rfl ?_
      rw [← hy]
      refine g_iastore (pc := 76) dX6_exchange_76 (shK hS3 rfl) rfl (by omega) (nl rfl) ?_
      refine go_cast est3 ?_
      refine g_iload (pc := 77) dX6_exchange_77 rfl ?_
      refine g_aload_n (pc := 79) dX6_exchange_79 rfl trivial ?_
      refine g_getf (pc := 80) dX6_exchange_80 fk_X6_58 (shK hS5 rfl) (fv_arr (shR hS5 rfl)) ?_
      refine g_iload (pc := 83) dX6_exchange_83 rfl ?_
      refine g_iaload (pc := 85) dX6_exchange_85 (shK hS5 rfl) rfl (by omega) (nl rfl) ?_
      rw [erd5]
      refine g_aload (pc := 86) dX6_exchange_86 rfl trivial ?_
      refine g_iload (pc := 88) dX6_exchange_88 rfl ?_
      refine g_iaload (pc := 90) dX6_exchange_90 (shK hS5 (rows_lay hs)) rfl (by omega) (nl rfl) ?_
      rw [er5]
      refine g_ixor (pc := 91) dX6_exchange_91 ?_
      refine g_invS_r (pc := 92) (As := [_]) dX6_exchange_92 rfl (s_bitCount) rfl rfl lk_X6_132 rfl (nb rfl) ⟨nb rfl, nb rfl⟩ rfl ?_
      refine g_iadd (pc := 95) dX6_exchange_95 ?_
      refine g_istore (pc := 96) (lv' := [(0, _), (1, _), (2, _), (3, _), (4, _), (5, _), (6, _), (7, _)]) dX6_exchange_96 (nl rfl) rfl ?_
      refine g_iinc (pc := 98) (lv' := [(0, _), (1, _), (2, _), (3, _), (4, _), (5, _), (6, _), (7, _)]) dX6_exchange_98 rfl (nI_1 _) (nl rfl) rfl ?_
      refine g_goto (pc := 101) (tgt := 24) dX6_exchange_101 rfl ?_
      exact g_sub (lv' := [(0, _), (1, _), (2, _), (3, _), (4, _), (5, _), (6, _)]) ⟨rfl, rfl, rfl, rfl, rfl, rfl, rfl, trivial⟩ ih
    unfold srcN at hgi
    refine g_iload (pc := 24) dX6_exchange_24 rfl ?_
    refine g_aload_n (pc := 26) dX6_exchange_26 rfl trivial ?_
    refine g_getf (pc := 27) dX6_exchange_27 fk_X6_19 (shK hS3 rfl) (fv_obj (shR hS3 rfl)) ?_
    refine g_getf (pc := 30) (v := .int _) dX6_exchange_30 fk_X6_89 (shK hS3 rfl) (fun _ => congrArg Value.int (hz3)) ?_
    refine g_icmp_ge (pc := 33) (tgt := 104) dX6_exchange_33 rfl (fun h33 => absurd h33 (nI_ge hi (by omega))) (fun _ => ?_)
    refine g_iload (pc := 36) dX6_exchange_36 rfl ?_
    refine g_iload_n (pc := 38) dX6_exchange_38 rfl ?_
    refine g_icmp_ne (pc := 39) (tgt := 46) dX6_exchange_39 rfl (fun h39 => ?_) (fun h39 => ?_)
    · rw [if_neg (fun h => h39 (by rw [h]))] at hgi
      refine g_iload (pc := 46) dX6_exchange_46 rfl ?_
      refine g_iload_n (pc := 48) dX6_exchange_48 rfl ?_
      refine g_icmp_ne (pc := 49) (tgt := 56) dX6_exchange_49 rfl (fun h49 => ?_) (fun h49 => ?_)
      · rw [if_neg (fun h => h49 (by rw [h]))] at hgi
        refine g_iload (pc := 56) dX6_exchange_56 rfl ?_
        refine g_istore (pc := 58) (lv' := [(0, _), (1, _), (2, _), (3, _), (4, _), (5, _), (6, _), (7, _)]) dX6_exchange_58 (nl rfl) rfl ?_
        exact hend _ (by omega) hgi
      · rw [if_pos ((nI_eq (by omega) (by omega)).mp (Decidable.not_not.mp h49))] at hgi
        refine g_iload_n (pc := 52) dX6_exchange_52 rfl ?_
        refine g_goto (pc := 53) (tgt := 58) dX6_exchange_53 rfl ?_
        refine g_istore (pc := 58) (lv' := [(0, _), (1, _), (2, _), (3, _), (4, _), (5, _), (6, _), (7, _)]) dX6_exchange_58 (nl rfl) rfl ?_
        exact hend _ (by omega) hgi
    · rw [if_pos ((nI_eq (by omega) (by omega)).mp (Decidable.not_not.mp h39))] at hgi
      refine g_iload_n (pc := 42) dX6_exchange_42 rfl ?_
      refine g_goto (pc := 43) (tgt := 58) dX6_exchange_43 rfl ?_
      refine g_istore (pc := 58) (lv' := [(0, _), (1, _), (2, _), (3, _), (4, _), (5, _), (6, _), (7, _)]) dX6_exchange_58 (nl rfl) rfl ?_
      exact hend _ (by omega) hgi
  · have hS3 := hS2 n
    have hz3 := hz2 n
    generalize mkM R g n = M9 at *
    refine g_iload (pc := 24) dX6_exchange_24 rfl ?_
    refine g_aload_n (pc := 26) dX6_exchange_26 rfl trivial ?_
    refine g_getf (pc := 27) dX6_exchange_27 fk_X6_19 (shK hS3 rfl) (fv_obj (shR hS3 rfl)) ?_
    refine g_getf (pc := 30) (v := .int _) dX6_exchange_30 fk_X6_89 (shK hS3 rfl) (fun _ => congrArg Value.int (hz3)) ?_
    refine g_icmp_ge (pc := 33) (tgt := 104) dX6_exchange_33 rfl (fun _ => ?_) (fun h33 => absurd (nI_le (Nat.le_refl _) (by omega)) h33)
    refine g_aload_n (pc := 104) dX6_exchange_104 rfl trivial ?_
    refine g_aload_n (pc := 105) dX6_exchange_105 rfl trivial ?_
    refine g_getf (pc := 106) dX6_exchange_106 fk_X6_58 (shK hS3 rfl) (fv_arr (shR hS3 rfl)) ?_
    refine g_iload_n (pc := 109) dX6_exchange_109 rfl ?_
    refine g_invV_r (pc := 110) (As := [_, _]) dX6_exchange_110 rfl (q2) rfl rfl (shK hS3 rfl) rfl rfl lk_X6_247 rfl (nb rfl) ⟨nb rfl, nb rfl⟩ rfl ?_
    refine g_pop (pc := 113) dX6_exchange_113 rfl ?_
    refine g_iload (pc := 114) dX6_exchange_114 rfl ?_
    refine g_ireturn (pc := 116) dX6_exchange_116 rfl rfl ?_
    exact ⟨rfl, rfl⟩
/-- one call is taken back; b is the past state -/
def unP (p : Nat) : Nat := if p = 0 then 7 else p - 1
def unM (M : Mem) (p c : Nat) : Mem := dropC (stTake (pI (pI M 0 5 (nI (c - 1))) 0 4 (nI (unP p))) 3 (32 + 14 * unP p)) 6
theorem u_undo (hD : Dk M n p c) (hk : keptOk M (32 + 14 * unP p)) (hc : 1 ≤ c) : EvR l jX6_undo 3 120 0 0 [.ref 0] M (.inl (some (.int (nI (c - 1))))) (unM M p c) := by
  have hp : unP p < 8 := by have := hD.2.2.2.2.1; unfold unP; split <;> omega
  obtain ⟨b1, b2⟩ := past_ok (unP p) hp
  have hb9 := st_of b1
  have hS := hD.1
  have hS1 : Shp (pI (pI M 0 5 (nI (c - 1))) 0 4 (nI (unP p))) := shp_pI (shp_pI hS)
  have hk1 : keptOk (pI (pI M 0 5 (nI (c - 1))) 0 4 (nI (unP p))) (32 + 14 * unP p) := fun s hs => by
    rw [pI_i (by omega), pI_i (by omega)]; exact hk s hs
  have h4 : mI (pI (pI M 0 5 (nI (c - 1))) 0 4 (nI (unP p))) 0 4 = nI (unP p) := pI_self _ _ _ _
  have h5 : mI (pI (pI M 0 5 (nI (c - 1))) 0 4 (nI (unP p))) 0 5 = nI (c - 1) := (pI_k (by decide)).trans (pI_self _ _ _ _)
  have h40 : mI (pI M 0 5 (nI (c - 1))) 0 4 = nI p := (pI_k (by decide)).trans hD.2.2.2.1
  have q1 := s_stTake (l := l) hS1 st3 hb9 (by omega) hk1
  unfold unM
  have hS0 : Shp (pI M 0 5 (nI (c - 1))) := shp_pI hS
  generalize hB : pI (pI M 0 5 (nI (c - 1))) 0 4 (nI (unP p)) = B at *
  have hS2 := stTake_S hS1 3 (32 + 14 * unP p)
  have h52 : mI (stTake B 3 (32 + 14 * unP p)) 0 5 = nI (c - 1) := by rw [stTake_ne (by decide)]; exact h5
  generalize stTake B 3 (32 + 14 * unP p) = T at *
  have q2 := s_dropClosures (l := l) hS2
  have hS3 := dropC_S hS2 6
  have h53 : mI (dropC T 6) 0 5 = nI (c - 1) := by rw [dropC_ne (by decide) 6 (Nat.le_refl _)]; exact h52
  generalize dropC T 6 = U at *
  have hend : Go l jX6_undo 3 120 0 0 (fun r' M9 => r' = .inl (some (.int (nI (c - 1)))) ∧ M9 = U) 41 [(0, .ref 0)] [] 0 0 B := by
    refine g_aload_n (pc := 41) dX6_undo_41 rfl trivial ?_
    refine g_getf (pc := 42) dX6_undo_42 fk_X6_19 (shK hS1 rfl) (fv_obj (shR hS1 rfl)) ?_
    refine g_aload_n (pc := 45) dX6_undo_45 rfl trivial ?_
    refine g_getf (pc := 46) dX6_undo_46 fk_X6_26 (shK hS1 rfl) (fv_arr (shR hS1 rfl)) ?_
    refine g_aload_n (pc := 49) dX6_undo_49 rfl trivial ?_
    refine g_getf (pc := 50) (v := .int _) dX6_undo_50 fk_X6_310 (shK hS1 rfl) (fun _ => congrArg Value.int (h4)) ?_
    refine g_aaload_State (pc := 53) dX6_undo_53 (shK hS1 rfl) rfl hp (by decide) (shR hS1 b2) ?_
    refine g_invV_r (pc := 54) (As := [_]) dX6_undo_54 rfl (q1) rfl rfl (shK hS1 rfl) rfl rfl lk_X6_313 rfl (nb rfl) ⟨nb rfl, nb rfl⟩ rfl ?_
    refine g_aload_n (pc := 57) dX6_undo_57 rfl trivial ?_
    refine g_invV_r (pc := 58) (As := []) dX6_undo_58 rfl (q2) rfl rfl (shK hS2 rfl) rfl rfl lk_X6_316 rfl (nb rfl) ⟨nb rfl, nb rfl⟩ rfl ?_
    refine g_aload_n (pc := 61) dX6_undo_61 rfl trivial ?_
    refine g_getf (pc := 62) (v := .int _) dX6_undo_62 fk_X6_106 (shK hS3 rfl) (fun _ => congrArg Value.int (h53)) ?_
    refine g_ireturn (pc := 65) dX6_undo_65 rfl rfl ?_
    exact ⟨rfl, rfl⟩
  refine ev_intro rfl (nb rfl) rfl ?_
  by_cases h0 : p = 0
  · refine g_aload_n (pc := 0) dX6_undo_0 rfl trivial ?_
    refine g_getf (pc := 1) (v := .int _) dX6_undo_1 fk_X6_106 (shK hS rfl) (fun _ => congrArg Value.int (hD.2.2.2.2.2.1)) ?_
    refine g_if_ne (pc := 4) (tgt := 9) dX6_undo_4 rfl (fun _ => ?_) (fun h4 => absurd (nI_ne0 hc (by have := hD.2.2.2.2.2.2.1; omega)) h4)
    refine g_aload_n (pc := 9) dX6_undo_9 rfl trivial ?_
    refine g_dup (pc := 10) dX6_undo_10 rfl ?_
    refine g_getf (pc := 11) (v := .int _) dX6_undo_11 fk_X6_106 (shK hS rfl) (fun _ => congrArg Value.int (hD.2.2.2.2.2.1)) ?_
    refine g_iconst (pc := 14) (v := 1) dX6_undo_14 rfl ?_
    refine g_isub (pc := 15) dX6_undo_15 ?_
    rw [nI_m1 hc]
    refine g_putI (pc := 16) dX6_undo_16 fp_X6_106 (shK hS rfl) ⟨rfl, rfl⟩ (fun _ _ _ _ => rfl) ?_
    refine g_aload_n (pc := 19) dX6_undo_19 rfl trivial ?_
    refine g_aload_n (pc := 20) dX6_undo_20 rfl trivial ?_
    refine g_getf (pc := 21) (v := .int _) dX6_undo_21 fk_X6_310 (shK hS0 rfl) (fun _ => congrArg Value.int (h40)) ?_
    refine g_if_ne (pc := 24) (tgt := 32) dX6_undo_24 rfl (fun h24 => absurd h24 ((fun h => h (by rw [h0]; rfl)))) (fun _ => ?_)
    refine g_bipush (pc := 27) (v := 7) dX6_undo_27 rfl ?_
    refine g_goto (pc := 29) (tgt := 38) dX6_undo_29 rfl ?_
    refine g_putI (pc := 38) dX6_undo_38 fp_X6_310 (shK hS0 rfl) ⟨rfl, rfl⟩ (fun _ _ _ _ => rfl) ?_
    refine go_cast (show _ = B by rw [← hB]; unfold unP; rw [if_pos h0]; rfl) ?_
    exact hend
  · refine g_aload_n (pc := 0) dX6_undo_0 rfl trivial ?_
    refine g_getf (pc := 1) (v := .int _) dX6_undo_1 fk_X6_106 (shK hS rfl) (fun _ => congrArg Value.int (hD.2.2.2.2.2.1)) ?_
    refine g_if_ne (pc := 4) (tgt := 9) dX6_undo_4 rfl (fun _ => ?_) (fun h4 => absurd (nI_ne0 hc (by have := hD.2.2.2.2.2.2.1; omega)) h4)
    refine g_aload_n (pc := 9) dX6_undo_9 rfl trivial ?_
    refine g_dup (pc := 10) dX6_undo_10 rfl ?_
    refine g_getf (pc := 11) (v := .int _) dX6_undo_11 fk_X6_106 (shK hS rfl) (fun _ => congrArg Value.int (hD.2.2.2.2.2.1)) ?_
    refine g_iconst (pc := 14) (v := 1) dX6_undo_14 rfl ?_
    refine g_isub (pc := 15) dX6_undo_15 ?_
    rw [nI_m1 hc]
    refine g_putI (pc := 16) dX6_undo_16 fp_X6_106 (shK hS rfl) ⟨rfl, rfl⟩ (fun _ _ _ _ => rfl) ?_
    refine g_aload_n (pc := 19) dX6_undo_19 rfl trivial ?_
    refine g_aload_n (pc := 20) dX6_undo_20 rfl trivial ?_
    refine g_getf (pc := 21) (v := .int _) dX6_undo_21 fk_X6_310 (shK hS0 rfl) (fun _ => congrArg Value.int (h40)) ?_
    refine g_if_ne (pc := 24) (tgt := 32) dX6_undo_24 rfl (fun _ => ?_) (fun h24 => absurd (nI_ne0 (Nat.pos_of_ne_zero h0) (by have := hD.2.2.2.2.1; omega)) h24)
    refine g_aload_n (pc := 32) dX6_undo_32 rfl trivial ?_
    refine g_getf (pc := 33) (v := .int _) dX6_undo_33 fk_X6_310 (shK hS0 rfl) (fun _ => congrArg Value.int (h40)) ?_
    refine g_iconst (pc := 36) (v := 1) dX6_undo_36 rfl ?_
    refine g_isub (pc := 37) dX6_undo_37 ?_
    rw [nI_m1 (Nat.pos_of_ne_zero h0)]
    refine g_putI (pc := 38) dX6_undo_38 fp_X6_310 (shK hS0 rfl) ⟨rfl, rfl⟩ (fun _ _ _ _ => rfl) ?_
    refine go_cast (show _ = B by rw [← hB]; unfold unP; rw [if_neg h0]) ?_
    exact hend
end
