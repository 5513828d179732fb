/-! the reference: places changed, closures kept, numbers, snapshots, output -/
section
variable {l : Launch} {M : Mem} {n c : Nat} {A : Nat → Nat → Int32}
theorem r_exchanged {x : Int32} {a b : Nat} (ha : a < 32) (hb9 : b < 32) : EvR l jX7_exchanged 1 30 0 0 [.long (uL x), .int (nI a), .int (nI b)] M (.inl (some (.long (uL (exch x a b))))) M := by
  have e : exch x a b = if Bool.xor (hb x a) (hb x b) = true then x ^^^ (bitI a ^^^ bitI b) else x ^^^ 0 := by
    unfold exch
    cases hb x a <;> cases hb x b
    · rw [if_pos rfl, if_neg (by decide), Int32.xor_zero]
    · rw [if_neg (by decide), if_pos (by decide), Int32.xor_assoc]
    · rw [if_neg (by decide), if_pos (by decide), Int32.xor_assoc]
    · rw [if_pos rfl, if_neg (by decide), Int32.xor_zero]
  rw [e]
  refine ev_intro rfl (nb rfl) rfl ?_
  cases h9 : Bool.xor (hb x a) (hb x b) with
  | true =>
    rw [if_pos rfl]
    refine g_lload_n (pc := 0) dX7_exchanged_0 rfl ?_
    refine g_iload_n (pc := 1) dX7_exchanged_1 rfl ?_
    refine g_invS_r (pc := 2) (As := [_, _]) dX7_exchanged_2 rfl (r_one ha) rfl rfl lk_X7_231 rfl (nb rfl) ⟨nb rfl, nb rfl⟩ rfl ?_
    refine g_lload_n (pc := 5) dX7_exchanged_5 rfl ?_
    refine g_iload_n (pc := 6) dX7_exchanged_6 rfl ?_
    refine g_invS_r (pc := 7) (As := [_, _]) dX7_exchanged_7 rfl (r_one hb9) rfl rfl lk_X7_231 rfl (nb rfl) ⟨nb rfl, nb rfl⟩ rfl ?_
    refine g_ixor (pc := 10) dX7_exchanged_10 ?_
    rw [b1_xor, h9]
    refine g_istore (pc := 11) (lv' := [(0, _), (2, _), (3, _), (4, _)]) dX7_exchanged_11 (nl rfl) rfl ?_
    refine g_lload_n (pc := 13) dX7_exchanged_13 rfl ?_
    refine g_iload (pc := 14) dX7_exchanged_14 rfl ?_
    refine g_iconst (pc := 16) (v := 1) dX7_exchanged_16 rfl ?_
    refine g_icmp_ne (pc := 17) (tgt := 30) dX7_exchanged_17 rfl (fun h17 => absurd h17 ((fun z => z rfl))) (fun _ => ?_)
    refine g_lconst (pc := 20) (v := 1) dX7_exchanged_20 rfl ?_
    refine g_iload_n (pc := 21) dX7_exchanged_21 rfl ?_
    refine g_lshl (pc := 22) dX7_exchanged_22 rfl ?_
    rw [sh_bit a ha]
    refine g_lconst (pc := 23) (v := 1) dX7_exchanged_23 rfl ?_
    refine g_iload_n (pc := 24) dX7_exchanged_24 rfl ?_
    refine g_lshl (pc := 25) dX7_exchanged_25 rfl ?_
    rw [sh_bit b hb9]
    refine g_lxor (pc := 26) dX7_exchanged_26 ?_
    rw [uL_xor]
    refine g_goto (pc := 27) (tgt := 31) dX7_exchanged_27 rfl ?_
    refine g_lxor (pc := 31) dX7_exchanged_31 ?_
    rw [uL_xor]
    refine g_lreturn (pc := 32) dX7_exchanged_32 rfl ?_
    exact ⟨rfl, rfl⟩
  | false =>
    rw [if_neg (by decide)]
    refine g_lload_n (pc := 0) dX7_exchanged_0 rfl ?_
    refine g_iload_n (pc := 1) dX7_exchanged_1 rfl ?_
    refine g_invS_r (pc := 2) (As := [_, _]) dX7_exchanged_2 rfl (r_one ha) rfl rfl lk_X7_231 rfl (nb rfl) ⟨nb rfl, nb rfl⟩ rfl ?_
    refine g_lload_n (pc := 5) dX7_exchanged_5 rfl ?_
    refine g_iload_n (pc := 6) dX7_exchanged_6 rfl ?_
    refine g_invS_r (pc := 7) (As := [_, _]) dX7_exchanged_7 rfl (r_one hb9) rfl rfl lk_X7_231 rfl (nb rfl) ⟨nb rfl, nb rfl⟩ rfl ?_
    refine g_ixor (pc := 10) dX7_exchanged_10 ?_
    rw [b1_xor, h9]
    refine g_istore (pc := 11) (lv' := [(0, _), (2, _), (3, _), (4, _)]) dX7_exchanged_11 (nl rfl) rfl ?_
    refine g_lload_n (pc := 13) dX7_exchanged_13 rfl ?_
    refine g_iload (pc := 14) dX7_exchanged_14 rfl ?_
    refine g_iconst (pc := 16) (v := 1) dX7_exchanged_16 rfl ?_
    refine g_icmp_ne (pc := 17) (tgt := 30) dX7_exchanged_17 rfl (fun _ => ?_) (fun h17 => absurd ((by decide)) h17)
    refine g_lconst (pc := 30) (v := 0) dX7_exchanged_30 rfl ?_
    refine g_lxor (pc := 31) dX7_exchanged_31 ?_
    rw [← uL_0, uL_xor]
    refine g_lreturn (pc := 32) dX7_exchanged_32 rfl ?_
    exact ⟨rfl, rfl⟩
theorem n_exchange {s a b : Nat} (h : Rr M n A) (hc : mI M 198 5 = nI c) (hc8 : c ≤ 8) (hs : s < 6) (ha : a < n) (hb9 : b < n) : EvR l jX7_exchange 4 160 0 0 [.ref 198, .int (nI s), .int (nI a), .int (nI b)] M (.inl (some (.int (exC (A s) a b n)))) (lsM (hdM (k0M M c) 205 n (exF (A s) a b)) s n (exF (A s) a b)) := by
  have hn := h.2.2.2.1
  have hS := h.1
  have q1 := r_k0 (l := l) h hc hc8
  have h1 : Rr (k0M M c) n A := k0M_R h
  have h2 : Rr (hdM (k0M M c) 205 n (exF (A s) a b)) n A := h1.hd (Or.inl rfl)
  have q3 := r_lays (l := l) (x := 205) (f := exF (A s) a b) h2 hs (shK h2.1 rfl) (by decide) (fun i hi => hdM_at hi)
  obtain ⟨f, hf⟩ : ∃ f, f = A s := ⟨_, rfl⟩
  rw [← hf]
  rw [← hf] at q3 h2
  have hrow : ∀ (M' : Mem) (h' : Rr M' n A) k (hk : k < n), EvR l jX7_rowOf 0 0 0 0 [.ref 198, .int (nI s), .int (nI k)] M' (.inl (some (.long (uL (f k))))) M' := fun M' h' k hk => by rw [hf]; exact r_rowOf h' hs hk
  have hg1 : ∀ i, exF f a b i = exch (f (srcN a b i)) a b := fun i => rfl
  have hsucc : ∀ i, exC f a b (i + 1) = exC f a b i + bcJ (exF f a b i ^^^ f i) := fun i => rfl
  have h00 : exC f a b 0 = 0 := rfl
  generalize exC f a b = EC at *
  generalize exF f a b = g at *
  generalize lsM (hdM (k0M M c) 205 n g) s n g = M3 at *
  generalize k0M M c = M1 at *
  refine ev_intro rfl (nb rfl) rfl ?_
  refine g_aload_n (pc := 0) dX7_exchange_0 rfl trivial ?_
  refine g_aload_n (pc := 1) dX7_exchange_1 rfl trivial ?_
  refine g_iload_n (pc := 2) dX7_exchange_2 rfl ?_
  refine g_iload_n (pc := 3) dX7_exchange_3 rfl ?_
  refine g_invV_r (pc := 4) (As := [_, _]) dX7_exchange_4 rfl (r_areIn_t h (in6 hs) (inR_nI ha (by omega))) rfl rfl (shK hS rfl) rfl rfl lk_X7_223 rfl (nb rfl) ⟨nb rfl, nb rfl⟩ rfl ?_
  refine g_if_eq (pc := 7) (tgt := 22) dX7_exchange_7 rfl (fun h7 => absurd h7 ((by decide))) (fun _ => ?_)
  refine g_aload_n (pc := 10) dX7_exchange_10 rfl trivial ?_
  refine g_iload_n (pc := 11) dX7_exchange_11 rfl ?_
  refine g_invV_r (pc := 12) (As := [_]) dX7_exchange_12 rfl (r_isNode_t h (inR_nI hb9 (by omega))) rfl rfl (shK hS rfl) rfl rfl lk_X7_220 rfl (nb rfl) ⟨nb rfl, nb rfl⟩ rfl ?_
  refine g_if_eq (pc := 15) (tgt := 22) dX7_exchange_15 rfl (fun h15 => absurd h15 ((by decide))) (fun _ => ?_)
  refine g_iconst (pc := 18) (v := 1) dX7_exchange_18 rfl ?_
  refine g_goto (pc := 19) (tgt := 23) dX7_exchange_19 rfl ?_
  refine g_iconst (pc := 23) (v := 1) dX7_exchange_23 rfl ?_
  refine g_invV_r (pc := 24) (As := [_, _]) dX7_exchange_24 rfl (r_isThrown_0 hS) rfl rfl (shK hS rfl) rfl rfl lk_X7_209 rfl (nb rfl) ⟨nb rfl, nb rfl⟩ rfl ?_
  refine g_if_eq (pc := 27) (tgt := 32) dX7_exchange_27 rfl (fun _ => ?_) (fun h27 => absurd (rfl) h27)
  refine g_aload_n (pc := 32) dX7_exchange_32 rfl trivial ?_
  refine g_invV_r (pc := 33) (As := []) dX7_exchange_33 rfl (q1) rfl rfl (shK (h.thr (x := 0)).1 rfl) rfl rfl lk_X7_315 rfl (nb rfl) ⟨nb rfl, nb rfl⟩ rfl ?_
  refine g_iconst (pc := 36) (v := 0) dX7_exchange_36 rfl ?_
  refine g_istore (pc := 37) (lv' := [(0, _), (1, _), (2, _), (3, _), (4, _)]) dX7_exchange_37 (nl rfl) rfl ?_
  refine g_iconst (pc := 39) (v := 0) dX7_exchange_39 rfl ?_
  refine g_istore (pc := 40) (lv' := [(0, _), (1, _), (2, _), (3, _), (4, _), (5, _)]) dX7_exchange_40 (nl rfl) rfl ?_
  refine go_loop (pc := 42) n (fun i => [(0, .ref 198), (1, .int (nI s)), (2, .int (nI a)), (3, .int (nI b)), (4, .int (EC i)), (5, .int (nI i))]) (fun i => sL M1 205 (wr (mL M1 205) (uR g) i)) ⟨rfl, rfl, rfl, rfl, by rw [h00]; rfl, rfl, trivial⟩ (sL_eq (wr_0 _ _)) ?_ ?_
  · intro i hi ih
    have h4 : Rr (sL M1 205 (wr (mL M1 205) (uR g) i)) n A := h1.sL (by decide)
    have h5 : Rr (sL M1 205 (wr (mL M1 205) (uR g) (i + 1))) n A := h1.sL (by decide)
    have e5 : mL (sL M1 205 (wr (mL M1 205) (uR g) (i + 1))) 205 i = uL (g i) := by rw [sL_self, wr_lt (by omega)]; rfl
    have est : pL (sL M1 205 (wr (mL M1 205) (uR g) i)) 205 i (uL (g i)) = sL M1 205 (wr (mL M1 205) (uR g) (i + 1)) := sL_st (wr_s _ (uR g) i)
    rw [hsucc i] at ih
    have hgi := hg1 i
    generalize EC i = x0 at *
    generalize g i = y at *
    generalize sL M1 205 (wr (mL M1 205) (uR g) (i + 1)) = M5 at *
    generalize sL M1 205 (wr (mL M1 205) (uR g) i) = M4 at *
    have hend : ∀ j, j < n → y = exch (f j) a b → Go l jX7_exchange 4 160 0 0 (fun r' M' => r' = .inl (some (.int (EC n))) ∧ M' = M3) 73 [(0, .ref 198), (1, .int (nI s)), (2, .int (nI a)), (3, .int (nI b)), (4, .int x0), (5, .int (nI i))] [.int (nI j)] 0 0 M4 := by
      intro j hj hy
      refine g_istore (pc := 73) (lv' := [(0, _), (1, _), (2, _), (3, _), (4, _), (5, _), (6, _)]) dX7_exchange_73 (nl rfl) rfl ?_
      refine g_aload_n (pc := 75) dX7_exchange_75 rfl trivial ?_
      refine g_getf (pc := 76) dX7_exchange_76 fk_X7_34 (shK h4.1 rfl) (fv_arr (shR h4.1 rfl)) ?_
      refine g_iload (pc := 79) dX7_exchange_79 rfl ?_
      refine g_aload_n (pc := 81) dX7_exchange_81 rfl trivial ?_
      refine g_iload_n (pc := 82) dX7_exchange_82 rfl ?_
      refine g_iload (pc := 83) dX7_exchange_83 rfl ?_
      refine g_invV_r (pc := 85) (As := [_, _]) dX7_exchange_85 rfl ((hrow M4 h4 j hj)) rfl rfl (shK h4.1 rfl) rfl rfl lk_X7_227 rfl (nb rfl) ⟨nb rfl, nb rfl⟩ rfl ?_
      refine g_iload_n (pc := 88) dX7_exchange_88 rfl ?_
      refine g_iload_n (pc := 89) dX7_exchange_89 rfl ?_
      refine g_invS_r (pc := 90) (As := [_, _, _]) dX7_exchange_90 rfl (r_exchanged (x := f j) (show a < 32 by omega) (show b < 32 by omega)) rfl rfl lk_X7_347 rfl (nb rfl) ⟨nb rfl, nb rfl⟩ rfl ?_
      rw [← hy]
      refine g_lastore (pc := 93) dX7_exchange_93 (shK h4.1 rfl) rfl (by omega) (nl rfl) ?_
      refine go_cast est ?_
      refine g_iload (pc := 94) dX7_exchange_94 rfl ?_
      refine g_aload_n (pc := 96) dX7_exchange_96 rfl trivial ?_
      refine g_getf (pc := 97) dX7_exchange_97 fk_X7_34 (shK h5.1 rfl) (fv_arr (shR h5.1 rfl)) ?_
      refine g_iload (pc := 100) dX7_exchange_100 rfl ?_
      refine g_laload (pc := 102) dX7_exchange_102 (shK h5.1 rfl) rfl (by omega) (nl rfl) ?_
      rw [e5]
      refine g_aload_n (pc := 103) dX7_exchange_103 rfl trivial ?_
      refine g_iload_n (pc := 104) dX7_exchange_104 rfl ?_
      refine g_iload (pc := 105) dX7_exchange_105 rfl ?_
      refine g_invV_r (pc := 107) (As := [_, _]) dX7_exchange_107 rfl ((hrow M5 h5 i hi)) rfl rfl (shK h5.1 rfl) rfl rfl lk_X7_227 rfl (nb rfl) ⟨nb rfl, nb rfl⟩ rfl ?_
      refine g_lxor (pc := 110) dX7_exchange_110 ?_
      rw [uL_xor]
      refine g_invS_r (pc := 111) (As := [_]) dX7_exchange_111 rfl (r_bitsOf) rfl rfl lk_X7_234 rfl (nb rfl) ⟨nb rfl, nb rfl⟩ rfl ?_
      refine g_iadd (pc := 114) dX7_exchange_114 ?_
      refine g_istore (pc := 115) (lv' := [(0, _), (1, _), (2, _), (3, _), (4, _), (5, _), (6, _)]) dX7_exchange_115 (nl rfl) rfl ?_
      refine g_iinc (pc := 117) (lv' := [(0, _), (1, _), (2, _), (3, _), (4, _), (5, _), (6, _)]) dX7_exchange_117 rfl (nI_1 _) (nl rfl) rfl ?_
      refine g_goto (pc := 120) (tgt := 42) dX7_exchange_120 rfl ?_
      exact g_sub (lv' := [(0, _), (1, _), (2, _), (3, _), (4, _), (5, _)]) ⟨rfl, rfl, rfl, rfl, rfl, rfl, trivial⟩ ih
    unfold srcN at hgi
    by_cases hia : i = a
    · rw [if_pos hia] at hgi
      refine g_iload (pc := 42) dX7_exchange_42 rfl ?_
      refine g_aload_n (pc := 44) dX7_exchange_44 rfl trivial ?_
      refine g_invV_r (pc := 45) (As := []) dX7_exchange_45 rfl (r_size h4) rfl rfl (shK h4.1 rfl) rfl rfl lk_X7_71 rfl (nb rfl) ⟨nb rfl, nb rfl⟩ rfl ?_
      refine g_icmp_ge (pc := 48) (tgt := 123) dX7_exchange_48 rfl (fun h48 => absurd h48 (nI_ge hi (by omega))) (fun _ => ?_)
      refine g_iload (pc := 51) dX7_exchange_51 rfl ?_
      refine g_iload_n (pc := 53) dX7_exchange_53 rfl ?_
      refine g_icmp_ne (pc := 54) (tgt := 61) dX7_exchange_54 rfl (fun h54 => absurd h54 ((fun z => z (by rw [hia])))) (fun _ => ?_)
      refine g_iload_n (pc := 57) dX7_exchange_57 rfl ?_
      refine g_goto (pc := 58) (tgt := 73) dX7_exchange_58 rfl ?_
      exact hend _ (by omega) hgi
    · rw [if_neg hia] at hgi
      by_cases hib : i = b
      · rw [if_pos hib] at hgi
        refine g_iload (pc := 42) dX7_exchange_42 rfl ?_
        refine g_aload_n (pc := 44) dX7_exchange_44 rfl trivial ?_
        refine g_invV_r (pc := 45) (As := []) dX7_exchange_45 rfl (r_size h4) rfl rfl (shK h4.1 rfl) rfl rfl lk_X7_71 rfl (nb rfl) ⟨nb rfl, nb rfl⟩ rfl ?_
        refine g_icmp_ge (pc := 48) (tgt := 123) dX7_exchange_48 rfl (fun h48 => absurd h48 (nI_ge hi (by omega))) (fun _ => ?_)
        refine g_iload (pc := 51) dX7_exchange_51 rfl ?_
        refine g_iload_n (pc := 53) dX7_exchange_53 rfl ?_
        refine g_icmp_ne (pc := 54) (tgt := 61) dX7_exchange_54 rfl (fun _ => ?_) (fun h54 => absurd ((fun z => hia ((nI_eq (by omega) (by omega)).mp z))) h54)
        refine g_iload (pc := 61) dX7_exchange_61 rfl ?_
        refine g_iload_n (pc := 63) dX7_exchange_63 rfl ?_
        refine g_icmp_ne (pc := 64) (tgt := 71) dX7_exchange_64 rfl (fun h64 => absurd h64 ((fun z => z (by rw [hib])))) (fun _ => ?_)
        refine g_iload_n (pc := 67) dX7_exchange_67 rfl ?_
        refine g_goto (pc := 68) (tgt := 73) dX7_exchange_68 rfl ?_
        exact hend _ (by omega) hgi
      · rw [if_neg hib] at hgi
        refine g_iload (pc := 42) dX7_exchange_42 rfl ?_
        refine g_aload_n (pc := 44) dX7_exchange_44 rfl trivial ?_
        refine g_invV_r (pc := 45) (As := []) dX7_exchange_45 rfl (r_size h4) rfl rfl (shK h4.1 rfl) rfl rfl lk_X7_71 rfl (nb rfl) ⟨nb rfl, nb rfl⟩ rfl ?_
        refine g_icmp_ge (pc := 48) (tgt := 123) dX7_exchange_48 rfl (fun h48 => absurd h48 (nI_ge hi (by omega))) (fun _ => ?_)
        refine g_iload (pc := 51) dX7_exchange_51 rfl ?_
        refine g_iload_n (pc := 53) dX7_exchange_53 rfl ?_
        refine g_icmp_ne (pc := 54) (tgt := 61) dX7_exchange_54 rfl (fun _ => ?_) (fun h54 => absurd ((fun z => hia ((nI_eq (by omega) (by omega)).mp z))) h54)
        refine g_iload (pc := 61) dX7_exchange_61 rfl ?_
        refine g_iload_n (pc := 63) dX7_exchange_63 rfl ?_
        refine g_icmp_ne (pc := 64) (tgt := 71) dX7_exchange_64 rfl (fun _ => ?_) (fun h64 => absurd ((fun z => hib ((nI_eq (by omega) (by omega)).mp z))) h64)
        refine g_iload (pc := 71) dX7_exchange_71 rfl ?_
        exact hend _ (by omega) hgi
  · have h2 : Rr (sL M1 205 (wr (mL M1 205) (uR g) n)) n A := h2
    have q3 : EvR l jX7_lays 2 60 0 0 [.ref 198, .ref 205, .int (nI s)] (sL M1 205 (wr (mL M1 205) (uR g) n)) (.inl (some (.int (onesF g n)))) M3 := q3
    generalize sL M1 205 (wr (mL M1 205) (uR g) n) = M2 at *
    refine g_iload (pc := 42) dX7_exchange_42 rfl ?_
    refine g_aload_n (pc := 44) dX7_exchange_44 rfl trivial ?_
    refine g_invV_r (pc := 45) (As := []) dX7_exchange_45 rfl (r_size h2) rfl rfl (shK h2.1 rfl) rfl rfl lk_X7_71 rfl (nb rfl) ⟨nb rfl, nb rfl⟩ rfl ?_
    refine g_icmp_ge (pc := 48) (tgt := 123) dX7_exchange_48 rfl (fun _ => ?_) (fun h48 => absurd (nI_le (Nat.le_refl _) (by omega)) h48)
    refine g_aload_n (pc := 123) dX7_exchange_123 rfl trivial ?_
    refine g_aload_n (pc := 124) dX7_exchange_124 rfl trivial ?_
    refine g_getf (pc := 125) dX7_exchange_125 fk_X7_34 (shK h2.1 rfl) (fv_arr (shR h2.1 rfl)) ?_
    refine g_iload_n (pc := 128) dX7_exchange_128 rfl ?_
    refine g_invV_r (pc := 129) (As := [_, _]) dX7_exchange_129 rfl (q3) rfl rfl (shK h2.1 rfl) rfl rfl lk_X7_322 rfl (nb rfl) ⟨nb rfl, nb rfl⟩ rfl ?_
    refine g_istore (pc := 132) (lv' := [(0, _), (1, _), (2, _), (3, _), (4, _), (5, _)]) dX7_exchange_132 (nl rfl) rfl ?_
    refine g_iload (pc := 134) dX7_exchange_134 rfl ?_
    refine g_ireturn (pc := 136) dX7_exchange_136 rfl rfl ?_
    exact ⟨rfl, rfl⟩
theorem t_exchange {v w u : Int32} (h : Rr M n A) (hx : ¬ (inR v 6 ∧ inR w n ∧ inR u n)) : EvR l jX7_exchange 4 160 0 0 [.ref 198, .int v, .int w, .int u] M (.inl (some (.int 0))) (thr M 1) := by
  have hS := h.1
  refine ev_intro rfl (nb rfl) rfl ?_
  by_cases h1 : inR v 6 ∧ inR w n
  · refine g_aload_n (pc := 0) dX7_exchange_0 rfl trivial ?_
    refine g_aload_n (pc := 1) dX7_exchange_1 rfl trivial ?_
    refine g_iload_n (pc := 2) dX7_exchange_2 rfl ?_
    refine g_iload_n (pc := 3) dX7_exchange_3 rfl ?_
    refine g_invV_r (pc := 4) (As := [_, _]) dX7_exchange_4 rfl (r_areIn_t h h1.1 h1.2) rfl rfl (shK hS rfl) rfl rfl lk_X7_223 rfl (nb rfl) ⟨nb rfl, nb rfl⟩ rfl ?_
    refine g_if_eq (pc := 7) (tgt := 22) dX7_exchange_7 rfl (fun h7 => absurd h7 ((by decide))) (fun _ => ?_)
    refine g_aload_n (pc := 10) dX7_exchange_10 rfl trivial ?_
    refine g_iload_n (pc := 11) dX7_exchange_11 rfl ?_
    refine g_invV_r (pc := 12) (As := [_]) dX7_exchange_12 rfl (r_isNode_f h (fun q => hx ⟨h1.1, h1.2, q⟩)) rfl rfl (shK hS rfl) rfl rfl lk_X7_220 rfl (nb rfl) ⟨nb rfl, nb rfl⟩ rfl ?_
    refine g_if_eq (pc := 15) (tgt := 22) dX7_exchange_15 rfl (fun _ => ?_) (fun h15 => absurd (rfl) h15)
    refine g_iconst (pc := 22) (v := 0) dX7_exchange_22 rfl ?_
    refine g_iconst (pc := 23) (v := 1) dX7_exchange_23 rfl ?_
    refine g_invV_r (pc := 24) (As := [_, _]) dX7_exchange_24 rfl (r_isThrown_1 hS) rfl rfl (shK hS rfl) rfl rfl lk_X7_209 rfl (nb rfl) ⟨nb rfl, nb rfl⟩ rfl ?_
    refine g_if_eq (pc := 27) (tgt := 32) dX7_exchange_27 rfl (fun h27 => absurd h27 ((by decide))) (fun _ => ?_)
    refine g_iconst (pc := 30) (v := 0) dX7_exchange_30 rfl ?_
    refine g_ireturn (pc := 31) dX7_exchange_31 rfl rfl ?_
    exact ⟨rfl, rfl⟩
  · refine g_aload_n (pc := 0) dX7_exchange_0 rfl trivial ?_
    refine g_aload_n (pc := 1) dX7_exchange_1 rfl trivial ?_
    refine g_iload_n (pc := 2) dX7_exchange_2 rfl ?_
    refine g_iload_n (pc := 3) dX7_exchange_3 rfl ?_
    refine g_invV_r (pc := 4) (As := [_, _]) dX7_exchange_4 rfl (r_areIn_f h h1) rfl rfl (shK hS rfl) rfl rfl lk_X7_223 rfl (nb rfl) ⟨nb rfl, nb rfl⟩ rfl ?_
    refine g_if_eq (pc := 7) (tgt := 22) dX7_exchange_7 rfl (fun _ => ?_) (fun h7 => absurd (rfl) h7)
    refine g_iconst (pc := 22) (v := 0) dX7_exchange_22 rfl ?_
    refine g_iconst (pc := 23) (v := 1) dX7_exchange_23 rfl ?_
    refine g_invV_r (pc := 24) (As := [_, _]) dX7_exchange_24 rfl (r_isThrown_1 hS) rfl rfl (shK hS rfl) rfl rfl lk_X7_209 rfl (nb rfl) ⟨nb rfl, nb rfl⟩ rfl ?_
    refine g_if_eq (pc := 27) (tgt := 32) dX7_exchange_27 rfl (fun h27 => absurd h27 ((by decide))) (fun _ => ?_)
    refine g_iconst (pc := 30) (v := 0) dX7_exchange_30 rfl ?_
    refine g_ireturn (pc := 31) dX7_exchange_31 rfl rfl ?_
    exact ⟨rfl, rfl⟩
def kmI (u : Nat → Int64) : Nat → Int32
  | 0 => 0
  | k + 1 => kmI u k + (u (4 + k)).toInt32
theorem r_keptMany (hS : Shp M) : EvR l jX7_keptMany 0 0 0 0 [.ref 198] M (.inl (some (.int (kmI (mL M 199) 6)))) M := by
  refine ev_intro rfl (nb rfl) rfl ?_
  refine g_iconst (pc := 0) (v := 0) dX7_keptMany_0 rfl ?_
  refine g_istore_n (pc := 1) (lv' := [(0, _), (1, _)]) dX7_keptMany_1 (nl rfl) rfl ?_
  refine g_iconst (pc := 2) (v := 0) dX7_keptMany_2 rfl ?_
  refine g_istore_n (pc := 3) (lv' := [(0, _), (1, _), (2, _)]) dX7_keptMany_3 (nl rfl) rfl ?_
  refine go_loop (pc := 4) 6 (fun i => [(0, .ref 198), (1, .int (kmI (mL M 199) i)), (2, .int (nI i))]) (fun i => M) ⟨rfl, rfl, rfl, trivial⟩ rfl ?_ ?_
  · intro i hi ih
    have i4 : 4 + nI i = nI (4 + i) := nI_add 4 i
    generalize kmI (mL M 199) 6 = X at *
    rw [kmI] at ih
    refine g_iload_n (pc := 4) dX7_keptMany_4 rfl ?_
    refine g_bipush (pc := 5) (v := 6) dX7_keptMany_5 rfl ?_
    refine g_icmp_ge (pc := 7) (tgt := 28) dX7_keptMany_7 rfl (fun h7 => absurd h7 (nI_ge (b := 6) hi (by decide))) (fun _ => ?_)
    refine g_iload_n (pc := 10) dX7_keptMany_10 rfl ?_
    refine g_aload_n (pc := 11) dX7_keptMany_11 rfl trivial ?_
    refine g_getf (pc := 12) dX7_keptMany_12 fk_X7_9 (shK hS rfl) (fv_arr (shR hS rfl)) ?_
    refine g_iconst (pc := 15) (v := 4) dX7_keptMany_15 rfl ?_
    refine g_iload_n (pc := 16) dX7_keptMany_16 rfl ?_
    refine g_iadd (pc := 17) dX7_keptMany_17 ?_
    rw [i4]
    refine g_laload (pc := 18) dX7_keptMany_18 (shK hS rfl) rfl (show 4 + i < 220 by omega) (nl rfl) ?_
    refine g_l2i (pc := 19) dX7_keptMany_19 rfl ?_
    refine g_iadd (pc := 20) dX7_keptMany_20 ?_
    refine g_istore_n (pc := 21) (lv' := [(0, _), (1, _), (2, _)]) dX7_keptMany_21 (nl rfl) rfl ?_
    refine g_iinc (pc := 22) (lv' := [(0, _), (1, _), (2, _)]) dX7_keptMany_22 rfl (nI_1 _) (nl rfl) rfl ?_
    refine g_goto (pc := 25) (tgt := 4) dX7_keptMany_25 rfl ?_
    exact ih
  · refine g_iload_n (pc := 4) dX7_keptMany_4 rfl ?_
    refine g_bipush (pc := 5) (v := 6) dX7_keptMany_5 rfl ?_
    refine g_icmp_ge (pc := 7) (tgt := 28) dX7_keptMany_7 rfl (fun _ => ?_) (fun h7 => absurd (nI_le (Nat.le_refl 6) (by decide)) h7)
    refine g_iload_n (pc := 28) dX7_keptMany_28 rfl ?_
    refine g_ireturn (pc := 29) dX7_keptMany_29 rfl rfl ?_
    exact ⟨rfl, rfl⟩
def b1L (b : Bool) : Int64 := match b with
  | true => 1
  | false => 0
/-- a slot's closure is kept from now on, or no longer -/
def kpS (M : Mem) (s : Nat) (b : Bool) : Mem := pL M 199 (4 + s) (b1L b)
theorem n_keep {s : Nat} {b : Bool} (h : Rr M n A) (hc : mI M 198 5 = nI c) (hc8 : c ≤ 8) (hs : s < 6) : EvR l jX7_keep 4 160 0 0 [.ref 198, .int (nI s), .int (b1 b)] M (.inl (some (.int (kmI (mL (anM (kpS (k0M M c) s b) s (nI n)) 199) 6)))) (anM (kpS (k0M M c) s b) s (nI n)) := by
  have hn := h.2.2.2.1
  have hS := h.1
  have i4 : 4 + nI s = nI (4 + s) := nI_add 4 s
  have q1 := r_k0 (l := l) h hc hc8
  have h1 : Rr (k0M M c) n A := k0M_R h
  have h2 : Rr (kpS (k0M M c) s b) n A := h1.pL (by omega)
  have q2 := r_madeAnew (l := l) h2 hs
  have h3 := anM_R (x := nI n) h2 hs
  have e2 : pL (k0M M c) 199 (4 + s) (b1L b) = kpS (k0M M c) s b := rfl
  generalize anM (kpS (k0M M c) s b) s (nI n) = M3 at *
  generalize kpS (k0M M c) s b = M2 at *
  generalize k0M M c = M1 at *
  refine ev_intro rfl (nb rfl) rfl ?_
  cases b with
  | true =>
    refine g_aload_n (pc := 0) dX7_keep_0 rfl trivial ?_
    refine g_iload_n (pc := 1) dX7_keep_1 rfl ?_
    refine g_invS_r (pc := 2) (As := [_]) dX7_keep_2 rfl (r_isSlot_t (in6 hs)) rfl rfl lk_X7_216 rfl (nb rfl) ⟨nb rfl, nb rfl⟩ rfl ?_
    refine g_iconst (pc := 5) (v := 1) dX7_keep_5 rfl ?_
    refine g_invV_r (pc := 6) (As := [_, _]) dX7_keep_6 rfl (r_isThrown_0 hS) rfl rfl (shK hS rfl) rfl rfl lk_X7_209 rfl (nb rfl) ⟨nb rfl, nb rfl⟩ rfl ?_
    refine g_if_eq (pc := 9) (tgt := 14) dX7_keep_9 rfl (fun _ => ?_) (fun h9 => absurd (rfl) h9)
    refine g_aload_n (pc := 14) dX7_keep_14 rfl trivial ?_
    refine g_invV_r (pc := 15) (As := []) dX7_keep_15 rfl (q1) rfl rfl (shK (h.thr (x := 0)).1 rfl) rfl rfl lk_X7_315 rfl (nb rfl) ⟨nb rfl, nb rfl⟩ rfl ?_
    refine g_aload_n (pc := 18) dX7_keep_18 rfl trivial ?_
    refine g_getf (pc := 19) dX7_keep_19 fk_X7_9 (shK h1.1 rfl) (fv_arr (shR h1.1 rfl)) ?_
    refine g_iconst (pc := 22) (v := 4) dX7_keep_22 rfl ?_
    refine g_iload_n (pc := 23) dX7_keep_23 rfl ?_
    refine g_iadd (pc := 24) dX7_keep_24 ?_
    rw [i4]
    refine g_iload_n (pc := 25) dX7_keep_25 rfl ?_
    refine g_if_eq (pc := 26) (tgt := 33) dX7_keep_26 rfl (fun h26 => absurd h26 ((by decide))) (fun _ => ?_)
    refine g_lconst (pc := 29) (v := 1) dX7_keep_29 rfl ?_
    refine g_goto (pc := 30) (tgt := 34) dX7_keep_30 rfl ?_
    refine g_lastore (pc := 34) dX7_keep_34 (shK h1.1 rfl) rfl (show 4 + s < 220 by omega) (nl rfl) ?_
    refine go_cast e2 ?_
    refine g_aload_n (pc := 35) dX7_keep_35 rfl trivial ?_
    refine g_iload_n (pc := 36) dX7_keep_36 rfl ?_
    refine g_invV_r (pc := 37) (As := [_]) dX7_keep_37 rfl (q2) rfl rfl (shK h2.1 rfl) rfl rfl lk_X7_204 rfl (nb rfl) ⟨nb rfl, nb rfl⟩ rfl ?_
    refine g_aload_n (pc := 40) dX7_keep_40 rfl trivial ?_
    refine g_invV_r (pc := 41) (As := []) dX7_keep_41 rfl (r_keptMany h3.1) rfl rfl (shK h3.1 rfl) rfl rfl lk_X7_213 rfl (nb rfl) ⟨nb rfl, nb rfl⟩ rfl ?_
    refine g_ireturn (pc := 44) dX7_keep_44 rfl rfl ?_
    exact ⟨rfl, rfl⟩
  | false =>
    refine g_aload_n (pc := 0) dX7_keep_0 rfl trivial ?_
    refine g_iload_n (pc := 1) dX7_keep_1 rfl ?_
    refine g_invS_r (pc := 2) (As := [_]) dX7_keep_2 rfl (r_isSlot_t (in6 hs)) rfl rfl lk_X7_216 rfl (nb rfl) ⟨nb rfl, nb rfl⟩ rfl ?_
    refine g_iconst (pc := 5) (v := 1) dX7_keep_5 rfl ?_
    refine g_invV_r (pc := 6) (As := [_, _]) dX7_keep_6 rfl (r_isThrown_0 hS) rfl rfl (shK hS rfl) rfl rfl lk_X7_209 rfl (nb rfl) ⟨nb rfl, nb rfl⟩ rfl ?_
    refine g_if_eq (pc := 9) (tgt := 14) dX7_keep_9 rfl (fun _ => ?_) (fun h9 => absurd (rfl) h9)
    refine g_aload_n (pc := 14) dX7_keep_14 rfl trivial ?_
    refine g_invV_r (pc := 15) (As := []) dX7_keep_15 rfl (q1) rfl rfl (shK (h.thr (x := 0)).1 rfl) rfl rfl lk_X7_315 rfl (nb rfl) ⟨nb rfl, nb rfl⟩ rfl ?_
    refine g_aload_n (pc := 18) dX7_keep_18 rfl trivial ?_
    refine g_getf (pc := 19) dX7_keep_19 fk_X7_9 (shK h1.1 rfl) (fv_arr (shR h1.1 rfl)) ?_
    refine g_iconst (pc := 22) (v := 4) dX7_keep_22 rfl ?_
    refine g_iload_n (pc := 23) dX7_keep_23 rfl ?_
    refine g_iadd (pc := 24) dX7_keep_24 ?_
    rw [i4]
    refine g_iload_n (pc := 25) dX7_keep_25 rfl ?_
    refine g_if_eq (pc := 26) (tgt := 33) dX7_keep_26 rfl (fun _ => ?_) (fun h26 => absurd (rfl) h26)
    refine g_lconst (pc := 33) (v := 0) dX7_keep_33 rfl ?_
    refine g_lastore (pc := 34) dX7_keep_34 (shK h1.1 rfl) rfl (show 4 + s < 220 by omega) (nl rfl) ?_
    refine go_cast e2 ?_
    refine g_aload_n (pc := 35) dX7_keep_35 rfl trivial ?_
    refine g_iload_n (pc := 36) dX7_keep_36 rfl ?_
    refine g_invV_r (pc := 37) (As := [_]) dX7_keep_37 rfl (q2) rfl rfl (shK h2.1 rfl) rfl rfl lk_X7_204 rfl (nb rfl) ⟨nb rfl, nb rfl⟩ rfl ?_
    refine g_aload_n (pc := 40) dX7_keep_40 rfl trivial ?_
    refine g_invV_r (pc := 41) (As := []) dX7_keep_41 rfl (r_keptMany h3.1) rfl rfl (shK h3.1 rfl) rfl rfl lk_X7_213 rfl (nb rfl) ⟨nb rfl, nb rfl⟩ rfl ?_
    refine g_ireturn (pc := 44) dX7_keep_44 rfl rfl ?_
    exact ⟨rfl, rfl⟩
theorem t_keep {v w : Int32} (h : Rr M n A) (hx : ¬ inR v 6) : EvR l jX7_keep 4 160 0 0 [.ref 198, .int v, .int w] M (.inl (some (.int 0))) (thr M 1) := by
  have hS := h.1
  refine ev_intro rfl (nb rfl) rfl ?_
  refine g_aload_n (pc := 0) dX7_keep_0 rfl trivial ?_
  refine g_iload_n (pc := 1) dX7_keep_1 rfl ?_
  refine g_invS_r (pc := 2) (As := [_]) dX7_keep_2 rfl (r_isSlot_f hx) rfl rfl lk_X7_216 rfl (nb rfl) ⟨nb rfl, nb rfl⟩ rfl ?_
  refine g_iconst (pc := 5) (v := 1) dX7_keep_5 rfl ?_
  refine g_invV_r (pc := 6) (As := [_, _]) dX7_keep_6 rfl (r_isThrown_1 hS) rfl rfl (shK hS rfl) rfl rfl lk_X7_209 rfl (nb rfl) ⟨nb rfl, nb rfl⟩ rfl ?_
  refine g_if_eq (pc := 9) (tgt := 14) dX7_keep_9 rfl (fun h9 => absurd h9 ((by decide))) (fun _ => ?_)
  refine g_iconst (pc := 12) (v := 0) dX7_keep_12 rfl ?_
  refine g_ireturn (pc := 13) dX7_keep_13 rfl rfl ?_
  exact ⟨rfl, rfl⟩
theorem lim_long {x : Int32} {a b : Int32} : (a.toInt64 ≤ x.toInt64 ∧ x.toInt64 ≤ b.toInt64) ↔ (¬ x < a ∧ x ≤ b) := by
  rw [le_long, le_long, Int32.not_lt]
theorem n_setBlock {x : Int32} (h : Rr M n A) (hc : mI M 198 5 = nI c) (hc8 : c ≤ 8) (hx : ¬ x < 1 ∧ x ≤ 8) : EvR l jX7_setBlock 4 160 0 0 [.ref 198, .int x] M (.inl (some (.int (mL M 199 1).toInt32))) (pL (k0M M c) 199 1 x.toInt64) := by
  have hS := h.1
  obtain ⟨a1, a2⟩ := (lim_long (a := 1) (b := 8)).mpr hx
  have q1 := r_k0 (l := l) h hc hc8
  have h1 : Rr (k0M M c) n A := k0M_R h
  have e1 : mL (k0M M c) 199 = mL M 199 := kepM_n
  have h2 : Rr (pL (k0M M c) 199 1 x.toInt64) n A := h1.pL (by decide)
  generalize k0M M c = M1 at *
  refine ev_intro rfl (nb rfl) rfl ?_
  refine g_aload_n (pc := 0) dX7_setBlock_0 rfl trivial ?_
  refine g_iload_n (pc := 1) dX7_setBlock_1 rfl ?_
  refine g_i2l (pc := 2) dX7_setBlock_2 rfl ?_
  refine g_lconst (pc := 3) (v := 1) dX7_setBlock_3 rfl ?_
  refine g_ldc2 (pc := 4) dX7_setBlock_4 wd_1757 ?_
  refine g_invS_r (pc := 7) (As := [_, _, _]) dX7_setBlock_7 rfl (r_in_t a1 a2) rfl rfl lk_X7_67 rfl (nb rfl) ⟨nb rfl, nb rfl⟩ rfl ?_
  refine g_iconst (pc := 10) (v := 1) dX7_setBlock_10 rfl ?_
  refine g_invV_r (pc := 11) (As := [_, _]) dX7_setBlock_11 rfl (r_isThrown_0 hS) rfl rfl (shK hS rfl) rfl rfl lk_X7_209 rfl (nb rfl) ⟨nb rfl, nb rfl⟩ rfl ?_
  refine g_if_eq (pc := 14) (tgt := 19) dX7_setBlock_14 rfl (fun _ => ?_) (fun h14 => absurd (rfl) h14)
  refine g_aload_n (pc := 19) dX7_setBlock_19 rfl trivial ?_
  refine g_invV_r (pc := 20) (As := []) dX7_setBlock_20 rfl (q1) rfl rfl (shK (h.thr (x := 0)).1 rfl) rfl rfl lk_X7_315 rfl (nb rfl) ⟨nb rfl, nb rfl⟩ rfl ?_
  refine g_aload_n (pc := 23) dX7_setBlock_23 rfl trivial ?_
  refine g_getf (pc := 24) dX7_setBlock_24 fk_X7_9 (shK h1.1 rfl) (fv_arr (shR h1.1 rfl)) ?_
  refine g_iconst (pc := 27) (v := 1) dX7_setBlock_27 rfl ?_
  refine g_laload (pc := 28) dX7_setBlock_28 (shK h1.1 rfl) rfl (by decide) (nl rfl) ?_
  rw [e1]
  refine g_l2i (pc := 29) dX7_setBlock_29 rfl ?_
  refine g_istore_n (pc := 30) (lv' := [(0, _), (1, _), (2, _)]) dX7_setBlock_30 (nl rfl) rfl ?_
  refine g_aload_n (pc := 31) dX7_setBlock_31 rfl trivial ?_
  refine g_getf (pc := 32) dX7_setBlock_32 fk_X7_9 (shK h1.1 rfl) (fv_arr (shR h1.1 rfl)) ?_
  refine g_iconst (pc := 35) (v := 1) dX7_setBlock_35 rfl ?_
  refine g_iload_n (pc := 36) dX7_setBlock_36 rfl ?_
  refine g_i2l (pc := 37) dX7_setBlock_37 rfl ?_
  refine g_lastore (pc := 38) dX7_setBlock_38 (shK h1.1 rfl) rfl (by decide) (nl rfl) ?_
  refine g_iload_n (pc := 39) dX7_setBlock_39 rfl ?_
  refine g_ireturn (pc := 40) dX7_setBlock_40 rfl rfl ?_
  exact ⟨rfl, rfl⟩
theorem t_setBlock {x : Int32} (hS : Shp M) (hx : ¬ (¬ x < 1 ∧ x ≤ 8)) : EvR l jX7_setBlock 4 160 0 0 [.ref 198, .int x] M (.inl (some (.int 0))) (thr M 1) := by
  refine ev_intro rfl (nb rfl) rfl ?_
  refine g_aload_n (pc := 0) dX7_setBlock_0 rfl trivial ?_
  refine g_iload_n (pc := 1) dX7_setBlock_1 rfl ?_
  refine g_i2l (pc := 2) dX7_setBlock_2 rfl ?_
  refine g_lconst (pc := 3) (v := 1) dX7_setBlock_3 rfl ?_
  refine g_ldc2 (pc := 4) dX7_setBlock_4 wd_1757 ?_
  refine g_invS_r (pc := 7) (As := [_, _, _]) dX7_setBlock_7 rfl (r_in_f (fun z => hx ((lim_long (a := 1) (b := 8)).mp z))) rfl rfl lk_X7_67 rfl (nb rfl) ⟨nb rfl, nb rfl⟩ rfl ?_
  refine g_iconst (pc := 10) (v := 1) dX7_setBlock_10 rfl ?_
  refine g_invV_r (pc := 11) (As := [_, _]) dX7_setBlock_11 rfl (r_isThrown_1 hS) rfl rfl (shK hS rfl) rfl rfl lk_X7_209 rfl (nb rfl) ⟨nb rfl, nb rfl⟩ rfl ?_
  refine g_if_eq (pc := 14) (tgt := 19) dX7_setBlock_14 rfl (fun h14 => absurd h14 ((by decide))) (fun _ => ?_)
  refine g_iconst (pc := 17) (v := 0) dX7_setBlock_17 rfl ?_
  refine g_ireturn (pc := 18) dX7_setBlock_18 rfl rfl ?_
  exact ⟨rfl, rfl⟩
theorem n_kept {s w : Nat} (h : Rr M n A) (hs : s < 6) (hw : w < 3) : EvR l jX7_kept 4 160 0 0 [.ref 198, .int (nI s), .int (nI w)] M (.inl (some (.int (if mL M 199 (4 + s) = 0 then -1 else (mL M 199 (10 + 6 * w + s)).toInt32)))) (thr M 0) := by
  have hS := h.1
  have h' := h.thr (x := 0)
  have i4 : 4 + nI s = nI (4 + s) := nI_add 4 s
  have i10 : 10 + 6 * nI w + nI s = nI (10 + 6 * w + s) := by rw [show (6 : Int32) = nI 6 from rfl, nI_mul, show (10 : Int32) = nI 10 from rfl, nI_add, nI_add]
  have e2 : thr (thr M 0) 0 = thr M 0 := thr_2
  have hl2 : (0 : Int64) ≤ (nI w).toInt64 ∧ (nI w).toInt64 ≤ 2 := (lim_long (a := 0) (b := 2)).mpr ⟨nI_pos (by omega), nI_le (b := 2) (by omega) (by decide)⟩
  refine ev_intro rfl (nb rfl) rfl ?_
  by_cases h1 : mL M 199 (4 + s) = 0
  · rw [if_pos h1]
    refine g_aload_n (pc := 0) dX7_kept_0 rfl trivial ?_
    refine g_iload_n (pc := 1) dX7_kept_1 rfl ?_
    refine g_invS_r (pc := 2) (As := [_]) dX7_kept_2 rfl (r_isSlot_t (in6 hs)) rfl rfl lk_X7_216 rfl (nb rfl) ⟨nb rfl, nb rfl⟩ rfl ?_
    refine g_iconst (pc := 5) (v := 1) dX7_kept_5 rfl ?_
    refine g_invV_r (pc := 6) (As := [_, _]) dX7_kept_6 rfl (r_isThrown_0 hS) rfl rfl (shK hS rfl) rfl rfl lk_X7_209 rfl (nb rfl) ⟨nb rfl, nb rfl⟩ rfl ?_
    refine g_if_ne (pc := 9) (tgt := 29) dX7_kept_9 rfl (fun h9 => absurd h9 ((fun z => z rfl))) (fun _ => ?_)
    refine g_aload_n (pc := 12) dX7_kept_12 rfl trivial ?_
    refine g_iload_n (pc := 13) dX7_kept_13 rfl ?_
    refine g_i2l (pc := 14) dX7_kept_14 rfl ?_
    refine g_lconst (pc := 15) (v := 0) dX7_kept_15 rfl ?_
    refine g_ldc2 (pc := 16) dX7_kept_16 wd_1762 ?_
    refine g_invS_r (pc := 19) (As := [_, _, _]) dX7_kept_19 rfl (r_in_t hl2.1 hl2.2) rfl rfl lk_X7_67 rfl (nb rfl) ⟨nb rfl, nb rfl⟩ rfl ?_
    refine g_iconst (pc := 22) (v := 2) dX7_kept_22 rfl ?_
    refine g_invV_r (pc := 23) (As := [_, _]) dX7_kept_23 rfl (r_isThrown_0 h'.1) rfl rfl (shK hS rfl) rfl rfl lk_X7_209 rfl (nb rfl) ⟨nb rfl, nb rfl⟩ rfl ?_
    refine go_cast e2 ?_
    refine g_if_eq (pc := 26) (tgt := 31) dX7_kept_26 rfl (fun _ => ?_) (fun h26 => absurd (rfl) h26)
    refine g_aload_n (pc := 31) dX7_kept_31 rfl trivial ?_
    refine g_getf (pc := 32) dX7_kept_32 fk_X7_9 (shK h'.1 rfl) (fv_arr (shR h'.1 rfl)) ?_
    refine g_iconst (pc := 35) (v := 4) dX7_kept_35 rfl ?_
    refine g_iload_n (pc := 36) dX7_kept_36 rfl ?_
    refine g_iadd (pc := 37) dX7_kept_37 ?_
    rw [i4]
    refine g_laload (pc := 38) dX7_kept_38 (shK h'.1 rfl) rfl (show 4 + s < 220 by omega) (nl rfl) ?_
    rw [show mL (thr M 0) 199 (4 + s) = 0 from h1]
    refine g_lconst (pc := 39) (v := 0) dX7_kept_39 rfl ?_
    refine g_lcmp (pc := 40) dX7_kept_40 ?_
    refine g_if_ne (pc := 41) (tgt := 48) dX7_kept_41 rfl (fun h41 => absurd h41 ((by decide))) (fun _ => ?_)
    refine g_iconst (pc := 44) (v := (-1)) dX7_kept_44 rfl ?_
    refine g_goto (pc := 45) (tgt := 63) dX7_kept_45 rfl ?_
    refine g_ireturn (pc := 63) dX7_kept_63 rfl rfl ?_
    exact ⟨rfl, rfl⟩
  · rw [if_neg h1]
    refine g_aload_n (pc := 0) dX7_kept_0 rfl trivial ?_
    refine g_iload_n (pc := 1) dX7_kept_1 rfl ?_
    refine g_invS_r (pc := 2) (As := [_]) dX7_kept_2 rfl (r_isSlot_t (in6 hs)) rfl rfl lk_X7_216 rfl (nb rfl) ⟨nb rfl, nb rfl⟩ rfl ?_
    refine g_iconst (pc := 5) (v := 1) dX7_kept_5 rfl ?_
    refine g_invV_r (pc := 6) (As := [_, _]) dX7_kept_6 rfl (r_isThrown_0 hS) rfl rfl (shK hS rfl) rfl rfl lk_X7_209 rfl (nb rfl) ⟨nb rfl, nb rfl⟩ rfl ?_
    refine g_if_ne (pc := 9) (tgt := 29) dX7_kept_9 rfl (fun h9 => absurd h9 ((fun z => z rfl))) (fun _ => ?_)
    refine g_aload_n (pc := 12) dX7_kept_12 rfl trivial ?_
    refine g_iload_n (pc := 13) dX7_kept_13 rfl ?_
    refine g_i2l (pc := 14) dX7_kept_14 rfl ?_
    refine g_lconst (pc := 15) (v := 0) dX7_kept_15 rfl ?_
    refine g_ldc2 (pc := 16) dX7_kept_16 wd_1762 ?_
    refine g_invS_r (pc := 19) (As := [_, _, _]) dX7_kept_19 rfl (r_in_t hl2.1 hl2.2) rfl rfl lk_X7_67 rfl (nb rfl) ⟨nb rfl, nb rfl⟩ rfl ?_
    refine g_iconst (pc := 22) (v := 2) dX7_kept_22 rfl ?_
    refine g_invV_r (pc := 23) (As := [_, _]) dX7_kept_23 rfl (r_isThrown_0 h'.1) rfl rfl (shK hS rfl) rfl rfl lk_X7_209 rfl (nb rfl) ⟨nb rfl, nb rfl⟩ rfl ?_
    refine go_cast e2 ?_
    refine g_if_eq (pc := 26) (tgt := 31) dX7_kept_26 rfl (fun _ => ?_) (fun h26 => absurd (rfl) h26)
    refine g_aload_n (pc := 31) dX7_kept_31 rfl trivial ?_
    refine g_getf (pc := 32) dX7_kept_32 fk_X7_9 (shK h'.1 rfl) (fv_arr (shR h'.1 rfl)) ?_
    refine g_iconst (pc := 35) (v := 4) dX7_kept_35 rfl ?_
    refine g_iload_n (pc := 36) dX7_kept_36 rfl ?_
    refine g_iadd (pc := 37) dX7_kept_37 ?_
    rw [i4]
    refine g_laload (pc := 38) dX7_kept_38 (shK h'.1 rfl) rfl (show 4 + s < 220 by omega) (nl rfl) ?_
    refine g_lconst (pc := 39) (v := 0) dX7_kept_39 rfl ?_
    refine g_lcmp (pc := 40) dX7_kept_40 ?_
    refine g_if_ne (pc := 41) (tgt := 48) dX7_kept_41 rfl (fun _ => ?_) (fun h41 => absurd ((fun z => h1 ((lg_cmp_eq _ _).mp z))) h41)
    refine g_aload_n (pc := 48) dX7_kept_48 rfl trivial ?_
    refine g_getf (pc := 49) dX7_kept_49 fk_X7_9 (shK h'.1 rfl) (fv_arr (shR h'.1 rfl)) ?_
    refine g_bipush (pc := 52) (v := 10) dX7_kept_52 rfl ?_
    refine g_bipush (pc := 54) (v := 6) dX7_kept_54 rfl ?_
    refine g_iload_n (pc := 56) dX7_kept_56 rfl ?_
    refine g_imul (pc := 57) dX7_kept_57 ?_
    refine g_iadd (pc := 58) dX7_kept_58 ?_
    refine g_iload_n (pc := 59) dX7_kept_59 rfl ?_
    refine g_iadd (pc := 60) dX7_kept_60 ?_
    rw [i10]
    refine g_laload (pc := 61) dX7_kept_61 (shK h'.1 rfl) rfl (show 10 + 6 * w + s < 220 by omega) (nl rfl) ?_
    refine g_l2i (pc := 62) dX7_kept_62 rfl ?_
    refine g_ireturn (pc := 63) dX7_kept_63 rfl rfl ?_
    exact ⟨rfl, rfl⟩
theorem t_kept {v w : Int32} (h : Rr M n A) (hx : ¬ inR v 6) : EvR l jX7_kept 4 160 0 0 [.ref 198, .int v, .int w] M (.inl (some (.int 0))) (thr M 1) := by
  have hS := h.1
  refine ev_intro rfl (nb rfl) rfl ?_
  refine g_aload_n (pc := 0) dX7_kept_0 rfl trivial ?_
  refine g_iload_n (pc := 1) dX7_kept_1 rfl ?_
  refine g_invS_r (pc := 2) (As := [_]) dX7_kept_2 rfl (r_isSlot_f hx) rfl rfl lk_X7_216 rfl (nb rfl) ⟨nb rfl, nb rfl⟩ rfl ?_
  refine g_iconst (pc := 5) (v := 1) dX7_kept_5 rfl ?_
  refine g_invV_r (pc := 6) (As := [_, _]) dX7_kept_6 rfl (r_isThrown_1 hS) rfl rfl (shK hS rfl) rfl rfl lk_X7_209 rfl (nb rfl) ⟨nb rfl, nb rfl⟩ rfl ?_
  refine g_if_ne (pc := 9) (tgt := 29) dX7_kept_9 rfl (fun _ => ?_) (fun h9 => absurd ((by decide)) h9)
  refine g_iconst (pc := 29) (v := 0) dX7_kept_29 rfl ?_
  refine g_ireturn (pc := 30) dX7_kept_30 rfl rfl ?_
  exact ⟨rfl, rfl⟩
theorem u_kept' {v w : Int32} (h : Rr M n A) (hv : inR v 6) (hx : ¬ (¬ w < 0 ∧ w ≤ 2)) : EvR l jX7_kept 4 160 0 0 [.ref 198, .int v, .int w] M (.inl (some (.int 0))) (thr M 2) := by
  have hS := h.1
  have h' := h.thr (x := 0)
  refine ev_intro rfl (nb rfl) rfl ?_
  refine g_aload_n (pc := 0) dX7_kept_0 rfl trivial ?_
  refine g_iload_n (pc := 1) dX7_kept_1 rfl ?_
  refine g_invS_r (pc := 2) (As := [_]) dX7_kept_2 rfl (r_isSlot_t hv) rfl rfl lk_X7_216 rfl (nb rfl) ⟨nb rfl, nb rfl⟩ rfl ?_
  refine g_iconst (pc := 5) (v := 1) dX7_kept_5 rfl ?_
  refine g_invV_r (pc := 6) (As := [_, _]) dX7_kept_6 rfl (r_isThrown_0 hS) rfl rfl (shK hS rfl) rfl rfl lk_X7_209 rfl (nb rfl) ⟨nb rfl, nb rfl⟩ rfl ?_
  refine g_if_ne (pc := 9) (tgt := 29) dX7_kept_9 rfl (fun h9 => absurd h9 ((fun z => z rfl))) (fun _ => ?_)
  refine g_aload_n (pc := 12) dX7_kept_12 rfl trivial ?_
  refine g_iload_n (pc := 13) dX7_kept_13 rfl ?_
  refine g_i2l (pc := 14) dX7_kept_14 rfl ?_
  refine g_lconst (pc := 15) (v := 0) dX7_kept_15 rfl ?_
  refine g_ldc2 (pc := 16) dX7_kept_16 wd_1762 ?_
  refine g_invS_r (pc := 19) (As := [_, _, _]) dX7_kept_19 rfl (r_in_f (fun z => hx ((lim_long (a := 0) (b := 2)).mp z))) rfl rfl lk_X7_67 rfl (nb rfl) ⟨nb rfl, nb rfl⟩ rfl ?_
  refine g_iconst (pc := 22) (v := 2) dX7_kept_22 rfl ?_
  refine g_invV_r (pc := 23) (As := [_, _]) dX7_kept_23 rfl (r_isThrown_1 h'.1) rfl rfl (shK hS rfl) rfl rfl lk_X7_209 rfl (nb rfl) ⟨nb rfl, nb rfl⟩ rfl ?_
  refine g_if_eq (pc := 26) (tgt := 31) dX7_kept_26 rfl (fun h26 => absurd h26 ((by decide))) (fun _ => ?_)
  refine g_iconst (pc := 29) (v := 0) dX7_kept_29 rfl ?_
  refine g_ireturn (pc := 30) dX7_kept_30 rfl rfl ?_
  exact ⟨rfl, thr_2⟩
theorem n_work {w : Nat} (h : Rr M n A) (hw : w < 2) : EvR l jX7_work 4 160 0 0 [.ref 198, .int (nI w)] M (.inl (some (.int (mL M 199 (2 + w)).toInt32))) (thr M 0) := by
  have hS := h.1
  have h' := h.thr (x := 0)
  have i2 : 2 + nI w = nI (2 + w) := nI_add 2 w
  have hl2 : (0 : Int64) ≤ (nI w).toInt64 ∧ (nI w).toInt64 ≤ 1 := (lim_long (a := 0) (b := 1)).mpr ⟨nI_pos (by omega), nI_le (b := 1) (by omega) (by decide)⟩
  refine ev_intro rfl (nb rfl) rfl ?_
  refine g_aload_n (pc := 0) dX7_work_0 rfl trivial ?_
  refine g_iload_n (pc := 1) dX7_work_1 rfl ?_
  refine g_i2l (pc := 2) dX7_work_2 rfl ?_
  refine g_lconst (pc := 3) (v := 0) dX7_work_3 rfl ?_
  refine g_lconst (pc := 4) (v := 1) dX7_work_4 rfl ?_
  refine g_invS_r (pc := 5) (As := [_, _, _]) dX7_work_5 rfl (r_in_t hl2.1 hl2.2) rfl rfl lk_X7_67 rfl (nb rfl) ⟨nb rfl, nb rfl⟩ rfl ?_
  refine g_iconst (pc := 8) (v := 1) dX7_work_8 rfl ?_
  refine g_invV_r (pc := 9) (As := [_, _]) dX7_work_9 rfl (r_isThrown_0 hS) rfl rfl (shK hS rfl) rfl rfl lk_X7_209 rfl (nb rfl) ⟨nb rfl, nb rfl⟩ rfl ?_
  refine g_if_eq (pc := 12) (tgt := 19) dX7_work_12 rfl (fun _ => ?_) (fun h12 => absurd (rfl) h12)
  refine g_aload_n (pc := 19) dX7_work_19 rfl trivial ?_
  refine g_getf (pc := 20) dX7_work_20 fk_X7_9 (shK h'.1 rfl) (fv_arr (shR h'.1 rfl)) ?_
  refine g_iconst (pc := 23) (v := 2) dX7_work_23 rfl ?_
  refine g_iload_n (pc := 24) dX7_work_24 rfl ?_
  refine g_iadd (pc := 25) dX7_work_25 ?_
  rw [i2]
  refine g_laload (pc := 26) dX7_work_26 (shK h'.1 rfl) rfl (show 2 + w < 220 by omega) (nl rfl) ?_
  refine g_l2i (pc := 27) dX7_work_27 rfl ?_
  refine g_ireturn (pc := 28) dX7_work_28 rfl rfl ?_
  exact ⟨rfl, rfl⟩
theorem t_work {w : Int32} (hS : Shp M) (hx : ¬ (¬ w < 0 ∧ w ≤ 1)) : EvR l jX7_work 4 160 0 0 [.ref 198, .int w] M (.inl (some (.int 0))) (thr M 1) := by
  refine ev_intro rfl (nb rfl) rfl ?_
  refine g_aload_n (pc := 0) dX7_work_0 rfl trivial ?_
  refine g_iload_n (pc := 1) dX7_work_1 rfl ?_
  refine g_i2l (pc := 2) dX7_work_2 rfl ?_
  refine g_lconst (pc := 3) (v := 0) dX7_work_3 rfl ?_
  refine g_lconst (pc := 4) (v := 1) dX7_work_4 rfl ?_
  refine g_invS_r (pc := 5) (As := [_, _, _]) dX7_work_5 rfl (r_in_f (fun z => hx ((lim_long (a := 0) (b := 1)).mp z))) rfl rfl lk_X7_67 rfl (nb rfl) ⟨nb rfl, nb rfl⟩ rfl ?_
  refine g_iconst (pc := 8) (v := 1) dX7_work_8 rfl ?_
  refine g_invV_r (pc := 9) (As := [_, _]) dX7_work_9 rfl (r_isThrown_1 hS) rfl rfl (shK hS rfl) rfl rfl lk_X7_209 rfl (nb rfl) ⟨nb rfl, nb rfl⟩ rfl ?_
  refine g_if_eq (pc := 12) (tgt := 19) dX7_work_12 rfl (fun h12 => absurd h12 ((by decide))) (fun _ => ?_)
  refine g_iconst (pc := 15) (v := 0) dX7_work_15 rfl ?_
  refine g_goto (pc := 16) (tgt := 28) dX7_work_16 rfl ?_
  refine g_ireturn (pc := 28) dX7_work_28 rfl rfl ?_
  exact ⟨rfl, rfl⟩
theorem n_count {w : Nat} (h : Rr M n A) (hw : w < 4) : EvR l jX7_count 4 160 0 0 [.ref 198, .int (nI w)] M (.inl (some (.int (if w < 2 then (mL M 199 w).toInt32 else if w = 2 then kmI (mL M 199) 6 else mI M 198 5)))) (thr M 0) := by
  have hS := h.1
  have h' := h.thr (x := 0)
  have e5 : mI (thr M 0) 198 5 = mI M 198 5 := pI_k (by decide)
  have hl2 : (0 : Int64) ≤ (nI w).toInt64 ∧ (nI w).toInt64 ≤ 3 := (lim_long (a := 0) (b := 3)).mpr ⟨nI_pos (by omega), nI_le (b := 3) (by omega) (by decide)⟩
  refine ev_intro rfl (nb rfl) rfl ?_
  by_cases h1 : w < 2
  · rw [if_pos h1]
    refine g_aload_n (pc := 0) dX7_count_0 rfl trivial ?_
    refine g_iload_n (pc := 1) dX7_count_1 rfl ?_
    refine g_i2l (pc := 2) dX7_count_2 rfl ?_
    refine g_lconst (pc := 3) (v := 0) dX7_count_3 rfl ?_
    refine g_ldc2 (pc := 4) dX7_count_4 wd_1424 ?_
    refine g_invS_r (pc := 7) (As := [_, _, _]) dX7_count_7 rfl (r_in_t hl2.1 hl2.2) rfl rfl lk_X7_67 rfl (nb rfl) ⟨nb rfl, nb rfl⟩ rfl ?_
    refine g_iconst (pc := 10) (v := 1) dX7_count_10 rfl ?_
    refine g_invV_r (pc := 11) (As := [_, _]) dX7_count_11 rfl (r_isThrown_0 hS) rfl rfl (shK hS rfl) rfl rfl lk_X7_209 rfl (nb rfl) ⟨nb rfl, nb rfl⟩ rfl ?_
    refine g_if_eq (pc := 14) (tgt := 19) dX7_count_14 rfl (fun _ => ?_) (fun h14 => absurd (rfl) h14)
    refine g_iload_n (pc := 19) dX7_count_19 rfl ?_
    refine g_iconst (pc := 20) (v := 2) dX7_count_20 rfl ?_
    refine g_icmp_ge (pc := 21) (tgt := 34) dX7_count_21 rfl (fun h21 => absurd h21 (nI_ge (b := 2) h1 (by decide))) (fun _ => ?_)
    refine g_aload_n (pc := 24) dX7_count_24 rfl trivial ?_
    refine g_getf (pc := 25) dX7_count_25 fk_X7_9 (shK h'.1 rfl) (fv_arr (shR h'.1 rfl)) ?_
    refine g_iload_n (pc := 28) dX7_count_28 rfl ?_
    refine g_laload (pc := 29) dX7_count_29 (shK h'.1 rfl) rfl (show w < 220 by omega) (nl rfl) ?_
    refine g_l2i (pc := 30) dX7_count_30 rfl ?_
    refine g_goto (pc := 31) (tgt := 50) dX7_count_31 rfl ?_
    refine g_ireturn (pc := 50) dX7_count_50 rfl rfl ?_
    exact ⟨rfl, rfl⟩
  · rw [if_neg h1]
    by_cases h2 : w = 2
    · rw [if_pos h2]
      refine g_aload_n (pc := 0) dX7_count_0 rfl trivial ?_
      refine g_iload_n (pc := 1) dX7_count_1 rfl ?_
      refine g_i2l (pc := 2) dX7_count_2 rfl ?_
      refine g_lconst (pc := 3) (v := 0) dX7_count_3 rfl ?_
      refine g_ldc2 (pc := 4) dX7_count_4 wd_1424 ?_
      refine g_invS_r (pc := 7) (As := [_, _, _]) dX7_count_7 rfl (r_in_t hl2.1 hl2.2) rfl rfl lk_X7_67 rfl (nb rfl) ⟨nb rfl, nb rfl⟩ rfl ?_
      refine g_iconst (pc := 10) (v := 1) dX7_count_10 rfl ?_
      refine g_invV_r (pc := 11) (As := [_, _]) dX7_count_11 rfl (r_isThrown_0 hS) rfl rfl (shK hS rfl) rfl rfl lk_X7_209 rfl (nb rfl) ⟨nb rfl, nb rfl⟩ rfl ?_
      refine g_if_eq (pc := 14) (tgt := 19) dX7_count_14 rfl (fun _ => ?_) (fun h14 => absurd (rfl) h14)
      refine g_iload_n (pc := 19) dX7_count_19 rfl ?_
      refine g_iconst (pc := 20) (v := 2) dX7_count_20 rfl ?_
      refine g_icmp_ge (pc := 21) (tgt := 34) dX7_count_21 rfl (fun _ => ?_) (fun h21 => absurd (nI_le (a := 2) (by omega) (by omega)) h21)
      refine g_iload_n (pc := 34) dX7_count_34 rfl ?_
      refine g_iconst (pc := 35) (v := 2) dX7_count_35 rfl ?_
      refine g_icmp_ne (pc := 36) (tgt := 46) dX7_count_36 rfl (fun h36 => absurd h36 ((fun z => z (by rw [h2]; rfl)))) (fun _ => ?_)
      refine g_aload_n (pc := 39) dX7_count_39 rfl trivial ?_
      refine g_invV_r (pc := 40) (As := []) dX7_count_40 rfl (r_keptMany h'.1) rfl rfl (shK hS rfl) rfl rfl lk_X7_213 rfl (nb rfl) ⟨nb rfl, nb rfl⟩ rfl ?_
      refine g_goto (pc := 43) (tgt := 50) dX7_count_43 rfl ?_
      refine g_ireturn (pc := 50) dX7_count_50 rfl rfl ?_
      exact ⟨rfl, rfl⟩
    · rw [if_neg h2]
      refine g_aload_n (pc := 0) dX7_count_0 rfl trivial ?_
      refine g_iload_n (pc := 1) dX7_count_1 rfl ?_
      refine g_i2l (pc := 2) dX7_count_2 rfl ?_
      refine g_lconst (pc := 3) (v := 0) dX7_count_3 rfl ?_
      refine g_ldc2 (pc := 4) dX7_count_4 wd_1424 ?_
      refine g_invS_r (pc := 7) (As := [_, _, _]) dX7_count_7 rfl (r_in_t hl2.1 hl2.2) rfl rfl lk_X7_67 rfl (nb rfl) ⟨nb rfl, nb rfl⟩ rfl ?_
      refine g_iconst (pc := 10) (v := 1) dX7_count_10 rfl ?_
      refine g_invV_r (pc := 11) (As := [_, _]) dX7_count_11 rfl (r_isThrown_0 hS) rfl rfl (shK hS rfl) rfl rfl lk_X7_209 rfl (nb rfl) ⟨nb rfl, nb rfl⟩ rfl ?_
      refine g_if_eq (pc := 14) (tgt := 19) dX7_count_14 rfl (fun _ => ?_) (fun h14 => absurd (rfl) h14)
      refine g_iload_n (pc := 19) dX7_count_19 rfl ?_
      refine g_iconst (pc := 20) (v := 2) dX7_count_20 rfl ?_
      refine g_icmp_ge (pc := 21) (tgt := 34) dX7_count_21 rfl (fun _ => ?_) (fun h21 => absurd (nI_le (a := 2) (by omega) (by omega)) h21)
      refine g_iload_n (pc := 34) dX7_count_34 rfl ?_
      refine g_iconst (pc := 35) (v := 2) dX7_count_35 rfl ?_
      refine g_icmp_ne (pc := 36) (tgt := 46) dX7_count_36 rfl (fun _ => ?_) (fun h36 => absurd ((fun z => h2 ((nI_eq (b := 2) (by omega) (by decide)).mp z))) h36)
      refine g_aload_n (pc := 46) dX7_count_46 rfl trivial ?_
      refine g_getf (pc := 47) (v := .int _) dX7_count_47 fk_X7_201 (shK h'.1 rfl) (fun _ => congrArg Value.int (e5)) ?_
      refine g_ireturn (pc := 50) dX7_count_50 rfl rfl ?_
      exact ⟨rfl, rfl⟩
theorem t_count {w : Int32} (hS : Shp M) (hx : ¬ (¬ w < 0 ∧ w ≤ 3)) : EvR l jX7_count 4 160 0 0 [.ref 198, .int w] M (.inl (some (.int 0))) (thr M 1) := by
  refine ev_intro rfl (nb rfl) rfl ?_
  refine g_aload_n (pc := 0) dX7_count_0 rfl trivial ?_
  refine g_iload_n (pc := 1) dX7_count_1 rfl ?_
  refine g_i2l (pc := 2) dX7_count_2 rfl ?_
  refine g_lconst (pc := 3) (v := 0) dX7_count_3 rfl ?_
  refine g_ldc2 (pc := 4) dX7_count_4 wd_1424 ?_
  refine g_invS_r (pc := 7) (As := [_, _, _]) dX7_count_7 rfl (r_in_f (fun z => hx ((lim_long (a := 0) (b := 3)).mp z))) rfl rfl lk_X7_67 rfl (nb rfl) ⟨nb rfl, nb rfl⟩ rfl ?_
  refine g_iconst (pc := 10) (v := 1) dX7_count_10 rfl ?_
  refine g_invV_r (pc := 11) (As := [_, _]) dX7_count_11 rfl (r_isThrown_1 hS) rfl rfl (shK hS rfl) rfl rfl lk_X7_209 rfl (nb rfl) ⟨nb rfl, nb rfl⟩ rfl ?_
  refine g_if_eq (pc := 14) (tgt := 19) dX7_count_14 rfl (fun h14 => absurd h14 ((by decide))) (fun _ => ?_)
  refine g_iconst (pc := 17) (v := 0) dX7_count_17 rfl ?_
  refine g_ireturn (pc := 18) dX7_count_18 rfl rfl ?_
  exact ⟨rfl, rfl⟩
/-- an action taken back -/
def und (M : Mem) (c : Nat) : Mem := sL (pI (thr M 0) 198 5 (nI (c - 1))) 199 (cpF (mL M 199) 0 (mL M 201) (c - 1) 220)
theorem n_undo (hS : Shp M) (hc : mI M 198 5 = nI c) (hc8 : c ≤ 8) (h0 : 1 ≤ c) : EvR l jX7_undo 4 160 0 0 [.ref 198] M (.inl (some (.int (nI (c - 1))))) (und M c) := by
  have e5 : mI (thr M 0) 198 5 = nI c := (pI_k (by decide)).trans hc
  have e6 : mI (pI (thr M 0) 198 5 (nI (c - 1))) 198 5 = nI (c - 1) := pI_self (thr M 0) 198 5 _
  have hS1 : Shp (thr M 0) := hS
  have hS2 : Shp (pI (thr M 0) 198 5 (nI (c - 1))) := hS
  have q1 := r_copies (l := l) (M := pI (thr M 0) 198 5 (nI (c - 1))) (x := 201) (y := 199) (h := c - 1) (t := 0) (shK hS2 rfl) (shK hS2 rfl) (by decide) (by omega) (by decide) (by decide) (by decide)
  have hS3 : Shp (und M c) := hS
  have e7 : mI (und M c) 198 5 = nI (c - 1) := e6
  have q1 : EvR l jX7_copies 0 0 0 0 [.ref 201, .int (nI (c - 1)), .ref 199, .int (nI 0)] (pI (thr M 0) 198 5 (nI (c - 1))) (.inl none) (und M c) := q1
  generalize und M c = M3 at *
  have e1 : pI (thr M 0) 198 5 (nI c - 1) = pI (thr M 0) 198 5 (nI (c - 1)) := by rw [nI_m1 h0]
  have e0 : pI M 198 6 0 = thr M 0 := rfl
  generalize pI (thr M 0) 198 5 (nI (c - 1)) = M2 at *
  refine ev_intro rfl (nb rfl) rfl ?_
  refine g_aload_n (pc := 0) dX7_undo_0 rfl trivial ?_
  refine g_iconst (pc := 1) (v := 0) dX7_undo_1 rfl ?_
  refine g_putI (pc := 2) dX7_undo_2 fp_X7_60 (shK hS rfl) ⟨rfl, rfl⟩ (fun _ _ _ _ => rfl) ?_
  refine go_cast e0 ?_
  refine g_aload_n (pc := 5) dX7_undo_5 rfl trivial ?_
  refine g_getf (pc := 6) (v := .int _) dX7_undo_6 fk_X7_201 (shK hS1 rfl) (fun _ => congrArg Value.int (e5)) ?_
  refine g_if_ne (pc := 9) (tgt := 14) dX7_undo_9 rfl (fun _ => ?_) (fun h9 => absurd (nI_ne0 h0 (by omega)) h9)
  refine g_aload_n (pc := 14) dX7_undo_14 rfl trivial ?_
  refine g_dup (pc := 15) dX7_undo_15 rfl ?_
  refine g_getf (pc := 16) (v := .int _) dX7_undo_16 fk_X7_201 (shK hS1 rfl) (fun _ => congrArg Value.int (e5)) ?_
  refine g_iconst (pc := 19) (v := 1) dX7_undo_19 rfl ?_
  refine g_isub (pc := 20) dX7_undo_20 ?_
  refine g_putI (pc := 21) dX7_undo_21 fp_X7_201 (shK hS1 rfl) ⟨rfl, rfl⟩ (fun _ _ _ _ => rfl) ?_
  refine go_cast e1 ?_
  refine g_aload_n (pc := 24) dX7_undo_24 rfl trivial ?_
  refine g_getf (pc := 25) dX7_undo_25 fk_X7_16 (shK hS2 rfl) (fv_arr (shR hS2 rfl)) ?_
  refine g_aload_n (pc := 28) dX7_undo_28 rfl trivial ?_
  refine g_getf (pc := 29) (v := .int _) dX7_undo_29 fk_X7_201 (shK hS2 rfl) (fun _ => congrArg Value.int (e6)) ?_
  refine g_aload_n (pc := 32) dX7_undo_32 rfl trivial ?_
  refine g_getf (pc := 33) dX7_undo_33 fk_X7_9 (shK hS2 rfl) (fv_arr (shR hS2 rfl)) ?_
  refine g_iconst (pc := 36) (v := 0) dX7_undo_36 rfl ?_
  refine g_invS_r (pc := 37) (As := [_, _, _, _]) dX7_undo_37 rfl (q1) rfl rfl lk_X7_198 rfl (nb rfl) ⟨nb rfl, nb rfl⟩ rfl ?_
  refine g_aload_n (pc := 40) dX7_undo_40 rfl trivial ?_
  refine g_getf (pc := 41) (v := .int _) dX7_undo_41 fk_X7_201 (shK hS3 rfl) (fun _ => congrArg Value.int (e7)) ?_
  refine g_ireturn (pc := 44) dX7_undo_44 rfl rfl ?_
  exact ⟨rfl, rfl⟩
theorem t_undo (hS : Shp M) (hc : mI M 198 5 = 0) : EvR l jX7_undo 4 160 0 0 [.ref 198] M (.inl (some (.int (-1)))) (thr M 0) := by
  have e5 : mI (thr M 0) 198 5 = 0 := (pI_k (by decide)).trans hc
  have hS1 : Shp (thr M 0) := hS
  have e0 : pI M 198 6 0 = thr M 0 := rfl
  generalize thr M 0 = M1 at *
  refine ev_intro rfl (nb rfl) rfl ?_
  refine g_aload_n (pc := 0) dX7_undo_0 rfl trivial ?_
  refine g_iconst (pc := 1) (v := 0) dX7_undo_1 rfl ?_
  refine g_putI (pc := 2) dX7_undo_2 fp_X7_60 (shK hS rfl) ⟨rfl, rfl⟩ (fun _ _ _ _ => rfl) ?_
  refine go_cast e0 ?_
  refine g_aload_n (pc := 5) dX7_undo_5 rfl trivial ?_
  refine g_getf (pc := 6) (v := .int _) dX7_undo_6 fk_X7_201 (shK hS1 rfl) (fun _ => congrArg Value.int (e5)) ?_
  refine g_if_ne (pc := 9) (tgt := 14) dX7_undo_9 rfl (fun h9 => absurd h9 ((fun z => z rfl))) (fun _ => ?_)
  refine g_iconst (pc := 12) (v := (-1)) dX7_undo_12 rfl ?_
  refine g_ireturn (pc := 13) dX7_undo_13 rfl rfl ?_
  exact ⟨rfl, rfl⟩
end

