/-! the desk beside the state -/
section
variable {l : Launch} {M : Mem} {n d : Nat} {q : DQ} {u : Nat → Int64}
theorem lN_any (a : Nat) : (lN a).toInt32 = nI a := by
  apply Int32.toBitVec_inj.mp
  show (BitVec.ofNat 64 a).signExtend 32 = BitVec.ofNat 32 a
  rw [BitVec.signExtend_eq_setWidth_of_le _ (by decide)]
  exact BitVec.setWidth_ofNat_of_le (by decide) a
theorem b1L_inj {a b : Bool} (h : b1L a = b1L b) : a = b := by cases a <;> cases b <;> first | rfl | (exact absurd h (by decide))
theorem lg_same {x y : Int64} (h : x = y) : lg_cmp x y = 0 := by
  subst h
  unfold lg_cmp
  rw [if_neg (show ¬ (x > x) from Int64.lt_irrefl), if_pos rfl]
theorem rowL_N (f : Nat → Bool) : ∀ k, k ≤ 9 → rowL f k = oL (nbN f k)
  | 0, _ => rfl
  | k + 1, hk => by
    rw [rowL, rowL_N f k (by omega), nbN]
    cases h : f k
    · rw [if_neg (by decide), Nat.or_zero]
      exact Int64.add_zero _
    · rw [if_pos rfl]
      show oL (nbN f k) + (1 : Int64) <<< ((nI k).toInt64 &&& 63) = _
      rw [oL_s k (by omega)]
      have h1 := Nat.two_pow_add_eq_or_of_lt (nb_lt (g := f) k) 1
      rw [Nat.mul_one] at h1
      rw [Nat.or_comm, ← h1, Nat.add_comm]
      exact (Int64.ofNat_add _ _).symm
theorem rowL_uL {x : Int32} (hn : n ≤ 9) (hx : ∀ c, n ≤ c → hb x c = false) : rowL (hb x) n = uL x := by
  rw [rowL_N _ n hn]
  refine hl_ext fun i hi => ?_
  rw [oL_b hi, nb_b, hl_uL]
  by_cases e : i < n
  · rw [decide_eq_true e, decide_eq_true (show i < 32 by omega)]
  · rw [hx i (by omega), Bool.and_false, Bool.and_false]
theorem SR.rw {s r : Nat} (h : SR M 3 u n) (hs : s < 6) (hr : r < n) : rI u s r = mI M (6 + 2 * s) r := by
  unfold rI
  rw [(h.2.2.2.2 s hs).2.2.2.2.1 r hr, uL_32, show 3 + 3 + 2 * s = 6 + 2 * s by omega]
theorem k_isSame (hS : Shp M) (h : SR M 3 u n) (hD : DK M d n q u) (hn : n ≤ 9) : EvR l jL_isSame 9 170 149 894 [.ref 0, .ref d] M (.inl (some (.int 1))) M := by
  obtain ⟨⟨a1, a2, a3, a4⟩, ⟨z0, z1, z2, z3⟩, ⟨c1, c2, c3⟩, hQ⟩ := hD
  obtain ⟨⟨s1, s2, s3, s4⟩, ⟨bl, s5, s6, s7, s8⟩, ⟨x2, s9, s10⟩, ⟨x3, s11, s12⟩, hSS⟩ := h
  have h : SR M 3 u n := ⟨⟨s1, s2, s3, s4⟩, ⟨bl, s5, s6, s7, s8⟩, ⟨x2, s9, s10⟩, ⟨x3, s11, s12⟩, hSS⟩
  refine ev_intro rfl (nb rfl) rfl ?_
  refine g_iconst (pc := 0) (v := 0) dL_isSame_0 rfl ?_
  refine g_istore_n (pc := 1) (lv' := [(0, _), (1, _), (2, _)]) dL_isSame_1 (nl rfl) rfl ?_
  refine g_iconst (pc := 2) (v := 0) dL_isSame_2 rfl ?_
  refine g_istore_n (pc := 3) (lv' := [(0, _), (1, _), (2, _), (3, _)]) dL_isSame_3 (nl rfl) rfl ?_
  refine g_wk (pc := 4) (k := 5 + (6 - 0) * 24) (n := 30 + (6 - 0) * 144) (by omega) (by omega) ?_
  refine go_forS (pc := 4) 6 (fun i (_ : Unit) => [(0, .ref 0), (1, .ref d), (2, .int (nI (keptC M i))), (3, .int (nI i))]) (fun _ => M) (fun _ _ => True) (fun i => 5 + (6 - i) * 24) (fun i => 30 + (6 - i) * 144) () ⟨rfl, rfl, congrArg (fun z => some (Value.int (nI z))) (by rw [keptC]), rfl, trivial⟩ rfl rfl rfl trivial ?_ ?_
  · intro i _ hi _ ih0
    have ih := ih0 () trivial
    refine g_wk (k := 5 + (6 - (i + 1)) * 24 + 24) (n := 30 + (6 - (i + 1)) * 144 + 144) (by omega) (by omega) ?_
    generalize 5 + (6 - (i + 1)) * 24 = kb at *
    generalize 30 + (6 - (i + 1)) * 144 = nb9 at *
    obtain ⟨⟨g1, g2⟩, ⟨k, g3, g4⟩, g5, g6, g7, g8, g9⟩ := hQ i hi
    obtain ⟨⟨k', e1, e2⟩, e3, e4, e5, e6, e7⟩ := hSS i hi
    have hkk : k = k' := b1L_inj (g4.symm.trans e2)
    subst hkk
    rw [show 3 + 2 + 2 * i = 5 + 2 * i by omega] at e1 e3 e4 e5
    have ek : keptC M (i + 1) = if mI M (5 + 2 * i) 1 = 0 then keptC M i else keptC M i + 1 := by rw [keptC]
    have rows : ∀ {lv9 : List (Nat × Value)}, lvSub lv9 [(0, .ref 0), (1, .ref d), (2, .int (nI (keptC M (i + 1)))), (3, .int (nI i)), (4, .int 0)] → Go l jL_isSame 9 170 149 894 (fun r' M9 => r' = .inl (some (.int 1)) ∧ M9 = M) 79 lv9 [] (kb + 18) (nb9 + 108) M := fun {lv9} hlv => by
      refine g_sub hlv ?_
      refine g_wk (k := kb + (9 - 0) * 2) (n := nb9 + (9 - 0) * 12) (by omega) (by omega) ?_
      refine go_forS (pc := 79) n (fun r (_ : Unit) => [(0, .ref 0), (1, .ref d), (2, .int (nI (keptC M (i + 1)))), (3, .int (nI i)), (4, .int (nI r))]) (fun _ => M) (fun _ _ => True) (fun r => kb + (9 - r) * 2) (fun r => nb9 + (9 - r) * 12) () ⟨rfl, rfl, rfl, rfl, rfl, trivial⟩ rfl rfl rfl trivial ?_ ?_
      · intro r _ hr _ ih3
        have ih2 := ih3 () trivial
        refine g_wk (k := kb + (9 - (r + 1)) * 2 + 2) (n := nb9 + (9 - (r + 1)) * 12 + 12) (by omega) (by omega) ?_
        generalize kb + (9 - (r + 1)) * 2 = kc at *
        generalize nb9 + (9 - (r + 1)) * 12 = nc at *
        have hrow : (mI M (6 + 2 * i) r).toInt64 &&& 4294967295 = rowL (fB (rI u i) r) n := by
          rw [show fB (rI u i) r = hb (mI M (6 + 2 * i) r) by funext c; show hb (rI u i r) c = _; rw [h.rw hi hr]]
          refine (rowL_uL hn (fun c hc => ?_)).symm
          have e8 := e7 r hr c hc
          rw [show 3 + 3 + 2 * i = 6 + 2 * i by omega] at e8
          exact e8
        refine g_iload (pc := 79) dL_isSame_79 rfl ?_
        refine g_aload_n (pc := 81) dL_isSame_81 rfl trivial ?_
        refine g_getf (pc := 82) (v := .int _) dL_isSame_82 fk_L_45 a1 (fun _ => congrArg Value.int (z0)) ?_
        refine g_icmp_ge (pc := 85) (tgt := 119) dL_isSame_85 rfl (fun h85 => absurd h85 (nI_ge hr (by omega))) (fun _ => ?_)
        refine g_aload_n (pc := 88) dL_isSame_88 rfl trivial ?_
        refine g_iload_n (pc := 89) dL_isSame_89 rfl ?_
        refine g_iload (pc := 90) dL_isSame_90 rfl ?_
        refine g_invV_r (pc := 92) (As := [_, _]) dL_isSame_92 rfl (q_row hS s3 s2 hi hr) rfl rfl (shK hS rfl) rfl rfl lk_L_95 rfl (nb rfl) ⟨nb rfl, nb rfl⟩ rfl ?_
        refine g_aload_n (pc := 95) dL_isSame_95 rfl trivial ?_
        refine g_aload_n (pc := 96) dL_isSame_96 rfl trivial ?_
        refine g_getf (pc := 97) dL_isSame_97 fk_L_52 a1 (fv_arr a2) ?_
        refine g_iload_n (pc := 100) dL_isSame_100 rfl ?_
        refine g_aaload_Z2 (pc := 101) dL_isSame_101 c1 rfl hi (by omega) g1 ?_
        refine g_iload (pc := 102) dL_isSame_102 rfl ?_
        refine g_invV_r (pc := 104) (As := [_, _]) dL_isSame_104 rfl (k_row a1 z0 g2 hr hn) (Nat.add_zero _).symm (Nat.add_zero _).symm a1 rfl rfl lk_L_99 rfl (nb rfl) ⟨nb rfl, nb rfl⟩ rfl ?_
        refine g_lcmp (pc := 107) dL_isSame_107 ?_
        refine g_if_eq (pc := 108) (tgt := 113) dL_isSame_108 rfl (fun _ => ?_) (fun h108 => absurd ((lg_same hrow)) h108)
        refine g_iinc (pc := 113) (lv' := [(0, _), (1, _), (2, _), (3, _), (4, _)]) dL_isSame_113 rfl (nI_1 _) (nl rfl) rfl ?_
        refine g_goto (pc := 116) (tgt := 79) dL_isSame_116 rfl ?_
        exact g_subk ih2 ⟨rfl, rfl, rfl, rfl, rfl, trivial⟩
      · intro _ _
        refine g_wk (k := kb) (n := nb9) (by omega) (by omega) ?_
        refine g_iload (pc := 79) dL_isSame_79 rfl ?_
        refine g_aload_n (pc := 81) dL_isSame_81 rfl trivial ?_
        refine g_getf (pc := 82) (v := .int _) dL_isSame_82 fk_L_45 a1 (fun _ => congrArg Value.int (z0)) ?_
        refine g_icmp_ge (pc := 85) (tgt := 119) dL_isSame_85 rfl (fun _ => ?_) (fun h85 => absurd (nI_le (Nat.le_refl _) (by omega)) h85)
        refine g_iinc (pc := 119) (lv' := [(0, _), (1, _), (2, _), (3, _), (4, _)]) dL_isSame_119 rfl (nI_1 _) (nl rfl) rfl ?_
        refine g_goto (pc := 122) (tgt := 4) dL_isSame_122 rfl ?_
        exact g_subk ih ⟨rfl, rfl, rfl, rfl, trivial⟩
    cases k
    · have e10 : mI M (5 + 2 * i) 1 = 0 := e1
      rw [if_pos e10] at ek
      refine g_iload_n (pc := 4) dL_isSame_4 rfl ?_
      refine g_bipush (pc := 5) (v := 6) dL_isSame_5 rfl ?_
      refine g_icmp_ge (pc := 7) (tgt := 125) dL_isSame_7 rfl (fun h7 => absurd h7 (nI_ge hi (by decide))) (fun _ => ?_)
      refine g_iload_n (pc := 10) dL_isSame_10 rfl ?_
      refine g_aload_n (pc := 11) dL_isSame_11 rfl trivial ?_
      refine g_getf (pc := 12) dL_isSame_12 fk_L_74 a1 (fv_arr a3) ?_
      refine g_iload_n (pc := 15) dL_isSame_15 rfl ?_
      refine g_zaload (pc := 16) dL_isSame_16 c2 rfl hi (by decide) ?_
      rw [g3]
      refine g_if_eq (pc := 17) (tgt := 24) dL_isSame_17 rfl (fun _ => ?_) (fun h17 => absurd (rfl) h17)
      refine g_iconst (pc := 24) (v := 0) dL_isSame_24 rfl ?_
      refine g_iadd (pc := 25) dL_isSame_25 ?_
      rw [show nI (keptC M i) + 0 = nI (keptC M (i + 1)) by rw [ek]; exact nI_add _ 0]
      refine g_istore_n (pc := 26) (lv' := [(0, _), (1, _), (2, _), (3, _)]) dL_isSame_26 (nl rfl) rfl ?_
      refine g_iconst (pc := 27) (v := 0) dL_isSame_27 rfl ?_
      refine g_istore (pc := 28) (lv' := [(0, _), (1, _), (2, _), (3, _), (4, _)]) dL_isSame_28 (nl rfl) rfl ?_
      skip
      refine g_iload (pc := 30) dL_isSame_30 rfl ?_
      refine g_iconst (pc := 32) (v := 3) dL_isSame_32 rfl ?_
      refine g_icmp_ge (pc := 33) (tgt := 76) dL_isSame_33 rfl (fun h33 => absurd h33 ((by decide))) (fun _ => ?_)
      refine g_aload_n (pc := 36) dL_isSame_36 rfl trivial ?_
      refine g_iload_n (pc := 37) dL_isSame_37 rfl ?_
      refine g_iload (pc := 38) dL_isSame_38 rfl ?_
      refine g_invV_r (pc := 40) (As := [_, _]) dL_isSame_40 rfl (q_kept0 hS hi) rfl rfl (shK hS rfl) rfl rfl lk_L_88 rfl (nb rfl) ⟨nb rfl, nb rfl⟩ rfl ?_
      rw [if_pos e10]
      refine g_aload_n (pc := 43) dL_isSame_43 rfl trivial ?_
      refine g_getf (pc := 44) dL_isSame_44 fk_L_74 a1 (fv_arr a3) ?_
      refine g_iload_n (pc := 47) dL_isSame_47 rfl ?_
      refine g_zaload (pc := 48) dL_isSame_48 c2 rfl hi (by decide) ?_
      rw [g3]
      refine g_if_eq (pc := 49) (tgt := 64) dL_isSame_49 rfl (fun _ => ?_) (fun h49 => absurd (rfl) h49)
      refine g_iconst (pc := 64) (v := (-1)) dL_isSame_64 rfl ?_
      refine g_icmp_eq (pc := 65) (tgt := 70) dL_isSame_65 rfl (fun _ => ?_) (fun h65 => absurd (rfl) h65)
      refine g_iinc (pc := 70) (lv' := [(0, _), (1, _), (2, _), (3, _), (4, _)]) dL_isSame_70 rfl (by decide : (0 : Int32) + 1 = 1) (nl rfl) rfl ?_
      refine g_goto (pc := 73) (tgt := 30) dL_isSame_73 rfl ?_
      skip
      refine g_iload (pc := 30) dL_isSame_30 rfl ?_
      refine g_iconst (pc := 32) (v := 3) dL_isSame_32 rfl ?_
      refine g_icmp_ge (pc := 33) (tgt := 76) dL_isSame_33 rfl (fun h33 => absurd h33 ((by decide))) (fun _ => ?_)
      refine g_aload_n (pc := 36) dL_isSame_36 rfl trivial ?_
      refine g_iload_n (pc := 37) dL_isSame_37 rfl ?_
      refine g_iload (pc := 38) dL_isSame_38 rfl ?_
      refine g_invV_r (pc := 40) (As := [_, _]) dL_isSame_40 rfl (q_kept1 hS hi) rfl rfl (shK hS rfl) rfl rfl lk_L_88 rfl (nb rfl) ⟨nb rfl, nb rfl⟩ rfl ?_
      rw [if_pos e10]
      refine g_aload_n (pc := 43) dL_isSame_43 rfl trivial ?_
      refine g_getf (pc := 44) dL_isSame_44 fk_L_74 a1 (fv_arr a3) ?_
      refine g_iload_n (pc := 47) dL_isSame_47 rfl ?_
      refine g_zaload (pc := 48) dL_isSame_48 c2 rfl hi (by decide) ?_
      rw [g3]
      refine g_if_eq (pc := 49) (tgt := 64) dL_isSame_49 rfl (fun _ => ?_) (fun h49 => absurd (rfl) h49)
      refine g_iconst (pc := 64) (v := (-1)) dL_isSame_64 rfl ?_
      refine g_icmp_eq (pc := 65) (tgt := 70) dL_isSame_65 rfl (fun _ => ?_) (fun h65 => absurd (rfl) h65)
      refine g_iinc (pc := 70) (lv' := [(0, _), (1, _), (2, _), (3, _), (4, _)]) dL_isSame_70 rfl (by decide : (1 : Int32) + 1 = 2) (nl rfl) rfl ?_
      refine g_goto (pc := 73) (tgt := 30) dL_isSame_73 rfl ?_
      skip
      refine g_iload (pc := 30) dL_isSame_30 rfl ?_
      refine g_iconst (pc := 32) (v := 3) dL_isSame_32 rfl ?_
      refine g_icmp_ge (pc := 33) (tgt := 76) dL_isSame_33 rfl (fun h33 => absurd h33 ((by decide))) (fun _ => ?_)
      refine g_aload_n (pc := 36) dL_isSame_36 rfl trivial ?_
      refine g_iload_n (pc := 37) dL_isSame_37 rfl ?_
      refine g_iload (pc := 38) dL_isSame_38 rfl ?_
      refine g_invV_r (pc := 40) (As := [_, _]) dL_isSame_40 rfl (q_kept2 hS hi) rfl rfl (shK hS rfl) rfl rfl lk_L_88 rfl (nb rfl) ⟨nb rfl, nb rfl⟩ rfl ?_
      rw [if_pos e10]
      refine g_aload_n (pc := 43) dL_isSame_43 rfl trivial ?_
      refine g_getf (pc := 44) dL_isSame_44 fk_L_74 a1 (fv_arr a3) ?_
      refine g_iload_n (pc := 47) dL_isSame_47 rfl ?_
      refine g_zaload (pc := 48) dL_isSame_48 c2 rfl hi (by decide) ?_
      rw [g3]
      refine g_if_eq (pc := 49) (tgt := 64) dL_isSame_49 rfl (fun _ => ?_) (fun h49 => absurd (rfl) h49)
      refine g_iconst (pc := 64) (v := (-1)) dL_isSame_64 rfl ?_
      refine g_icmp_eq (pc := 65) (tgt := 70) dL_isSame_65 rfl (fun _ => ?_) (fun h65 => absurd (rfl) h65)
      refine g_iinc (pc := 70) (lv' := [(0, _), (1, _), (2, _), (3, _), (4, _)]) dL_isSame_70 rfl (by decide : (2 : Int32) + 1 = 3) (nl rfl) rfl ?_
      refine g_goto (pc := 73) (tgt := 30) dL_isSame_73 rfl ?_
      skip
      refine g_iload (pc := 30) dL_isSame_30 rfl ?_
      refine g_iconst (pc := 32) (v := 3) dL_isSame_32 rfl ?_
      refine g_icmp_ge (pc := 33) (tgt := 76) dL_isSame_33 rfl (fun _ => ?_) (fun h33 => absurd ((by decide)) h33)
      refine g_iconst (pc := 76) (v := 0) dL_isSame_76 rfl ?_
      refine g_istore (pc := 77) (lv' := [(0, _), (1, _), (2, _), (3, _), (4, _)]) dL_isSame_77 (nl rfl) rfl ?_
      exact rows ⟨rfl, rfl, rfl, rfl, rfl, trivial⟩
    · have e10 : ¬ mI M (5 + 2 * i) 1 = 0 := by rw [e1]; decide
      rw [if_neg e10] at ek
      refine g_iload_n (pc := 4) dL_isSame_4 rfl ?_
      refine g_bipush (pc := 5) (v := 6) dL_isSame_5 rfl ?_
      refine g_icmp_ge (pc := 7) (tgt := 125) dL_isSame_7 rfl (fun h7 => absurd h7 (nI_ge hi (by decide))) (fun _ => ?_)
      refine g_iload_n (pc := 10) dL_isSame_10 rfl ?_
      refine g_aload_n (pc := 11) dL_isSame_11 rfl trivial ?_
      refine g_getf (pc := 12) dL_isSame_12 fk_L_74 a1 (fv_arr a3) ?_
      refine g_iload_n (pc := 15) dL_isSame_15 rfl ?_
      refine g_zaload (pc := 16) dL_isSame_16 c2 rfl hi (by decide) ?_
      rw [g3]
      refine g_if_eq (pc := 17) (tgt := 24) dL_isSame_17 rfl (fun h17 => absurd h17 ((by decide))) (fun _ => ?_)
      refine g_iconst (pc := 20) (v := 1) dL_isSame_20 rfl ?_
      refine g_goto (pc := 21) (tgt := 25) dL_isSame_21 rfl ?_
      refine g_iadd (pc := 25) dL_isSame_25 ?_
      rw [show nI (keptC M i) + 1 = nI (keptC M (i + 1)) by rw [ek]; exact nI_add _ 1]
      refine g_istore_n (pc := 26) (lv' := [(0, _), (1, _), (2, _), (3, _)]) dL_isSame_26 (nl rfl) rfl ?_
      refine g_iconst (pc := 27) (v := 0) dL_isSame_27 rfl ?_
      refine g_istore (pc := 28) (lv' := [(0, _), (1, _), (2, _), (3, _), (4, _)]) dL_isSame_28 (nl rfl) rfl ?_
      skip
      refine g_iload (pc := 30) dL_isSame_30 rfl ?_
      refine g_iconst (pc := 32) (v := 3) dL_isSame_32 rfl ?_
      refine g_icmp_ge (pc := 33) (tgt := 76) dL_isSame_33 rfl (fun h33 => absurd h33 ((by decide))) (fun _ => ?_)
      refine g_aload_n (pc := 36) dL_isSame_36 rfl trivial ?_
      refine g_iload_n (pc := 37) dL_isSame_37 rfl ?_
      refine g_iload (pc := 38) dL_isSame_38 rfl ?_
      refine g_invV_r (pc := 40) (As := [_, _]) dL_isSame_40 rfl (q_kept0 hS hi) rfl rfl (shK hS rfl) rfl rfl lk_L_88 rfl (nb rfl) ⟨nb rfl, nb rfl⟩ rfl ?_
      rw [if_neg e10, e3]
      refine g_aload_n (pc := 43) dL_isSame_43 rfl trivial ?_
      refine g_getf (pc := 44) dL_isSame_44 fk_L_74 a1 (fv_arr a3) ?_
      refine g_iload_n (pc := 47) dL_isSame_47 rfl ?_
      refine g_zaload (pc := 48) dL_isSame_48 c2 rfl hi (by decide) ?_
      rw [g3]
      refine g_if_eq (pc := 49) (tgt := 64) dL_isSame_49 rfl (fun h49 => absurd h49 ((by decide))) (fun _ => ?_)
      refine g_aload_n (pc := 52) dL_isSame_52 rfl trivial ?_
      refine g_getf (pc := 53) dL_isSame_53 fk_L_91 a1 (fv_arr a4) ?_
      refine g_iload_n (pc := 56) dL_isSame_56 rfl ?_
      refine g_aaload_I1 (pc := 57) dL_isSame_57 c3 rfl hi (by omega) g5 ?_
      refine g_iload (pc := 58) dL_isSame_58 rfl ?_
      refine g_iaload (pc := 60) dL_isSame_60 g6 rfl (by decide : 0 < 3) (by decide) ?_
      rw [g7]
      refine g_goto (pc := 61) (tgt := 65) dL_isSame_61 rfl ?_
      refine g_icmp_eq (pc := 65) (tgt := 70) dL_isSame_65 rfl (fun _ => ?_) (fun h65 => absurd (rfl) h65)
      refine g_iinc (pc := 70) (lv' := [(0, _), (1, _), (2, _), (3, _), (4, _)]) dL_isSame_70 rfl (by decide : (0 : Int32) + 1 = 1) (nl rfl) rfl ?_
      refine g_goto (pc := 73) (tgt := 30) dL_isSame_73 rfl ?_
      skip
      refine g_iload (pc := 30) dL_isSame_30 rfl ?_
      refine g_iconst (pc := 32) (v := 3) dL_isSame_32 rfl ?_
      refine g_icmp_ge (pc := 33) (tgt := 76) dL_isSame_33 rfl (fun h33 => absurd h33 ((by decide))) (fun _ => ?_)
      refine g_aload_n (pc := 36) dL_isSame_36 rfl trivial ?_
      refine g_iload_n (pc := 37) dL_isSame_37 rfl ?_
      refine g_iload (pc := 38) dL_isSame_38 rfl ?_
      refine g_invV_r (pc := 40) (As := [_, _]) dL_isSame_40 rfl (q_kept1 hS hi) rfl rfl (shK hS rfl) rfl rfl lk_L_88 rfl (nb rfl) ⟨nb rfl, nb rfl⟩ rfl ?_
      rw [if_neg e10, e4]
      refine g_aload_n (pc := 43) dL_isSame_43 rfl trivial ?_
      refine g_getf (pc := 44) dL_isSame_44 fk_L_74 a1 (fv_arr a3) ?_
      refine g_iload_n (pc := 47) dL_isSame_47 rfl ?_
      refine g_zaload (pc := 48) dL_isSame_48 c2 rfl hi (by decide) ?_
      rw [g3]
      refine g_if_eq (pc := 49) (tgt := 64) dL_isSame_49 rfl (fun h49 => absurd h49 ((by decide))) (fun _ => ?_)
      refine g_aload_n (pc := 52) dL_isSame_52 rfl trivial ?_
      refine g_getf (pc := 53) dL_isSame_53 fk_L_91 a1 (fv_arr a4) ?_
      refine g_iload_n (pc := 56) dL_isSame_56 rfl ?_
      refine g_aaload_I1 (pc := 57) dL_isSame_57 c3 rfl hi (by omega) g5 ?_
      refine g_iload (pc := 58) dL_isSame_58 rfl ?_
      refine g_iaload (pc := 60) dL_isSame_60 g6 rfl (by decide : 1 < 3) (by decide) ?_
      rw [g8]
      refine g_goto (pc := 61) (tgt := 65) dL_isSame_61 rfl ?_
      refine g_icmp_eq (pc := 65) (tgt := 70) dL_isSame_65 rfl (fun _ => ?_) (fun h65 => absurd (rfl) h65)
      refine g_iinc (pc := 70) (lv' := [(0, _), (1, _), (2, _), (3, _), (4, _)]) dL_isSame_70 rfl (by decide : (1 : Int32) + 1 = 2) (nl rfl) rfl ?_
      refine g_goto (pc := 73) (tgt := 30) dL_isSame_73 rfl ?_
      skip
      refine g_iload (pc := 30) dL_isSame_30 rfl ?_
      refine g_iconst (pc := 32) (v := 3) dL_isSame_32 rfl ?_
      refine g_icmp_ge (pc := 33) (tgt := 76) dL_isSame_33 rfl (fun h33 => absurd h33 ((by decide))) (fun _ => ?_)
      refine g_aload_n (pc := 36) dL_isSame_36 rfl trivial ?_
      refine g_iload_n (pc := 37) dL_isSame_37 rfl ?_
      refine g_iload (pc := 38) dL_isSame_38 rfl ?_
      refine g_invV_r (pc := 40) (As := [_, _]) dL_isSame_40 rfl (q_kept2 hS hi) rfl rfl (shK hS rfl) rfl rfl lk_L_88 rfl (nb rfl) ⟨nb rfl, nb rfl⟩ rfl ?_
      rw [if_neg e10, e5]
      refine g_aload_n (pc := 43) dL_isSame_43 rfl trivial ?_
      refine g_getf (pc := 44) dL_isSame_44 fk_L_74 a1 (fv_arr a3) ?_
      refine g_iload_n (pc := 47) dL_isSame_47 rfl ?_
      refine g_zaload (pc := 48) dL_isSame_48 c2 rfl hi (by decide) ?_
      rw [g3]
      refine g_if_eq (pc := 49) (tgt := 64) dL_isSame_49 rfl (fun h49 => absurd h49 ((by decide))) (fun _ => ?_)
      refine g_aload_n (pc := 52) dL_isSame_52 rfl trivial ?_
      refine g_getf (pc := 53) dL_isSame_53 fk_L_91 a1 (fv_arr a4) ?_
      refine g_iload_n (pc := 56) dL_isSame_56 rfl ?_
      refine g_aaload_I1 (pc := 57) dL_isSame_57 c3 rfl hi (by omega) g5 ?_
      refine g_iload (pc := 58) dL_isSame_58 rfl ?_
      refine g_iaload (pc := 60) dL_isSame_60 g6 rfl (by decide : 2 < 3) (by decide) ?_
      rw [g9]
      refine g_goto (pc := 61) (tgt := 65) dL_isSame_61 rfl ?_
      refine g_icmp_eq (pc := 65) (tgt := 70) dL_isSame_65 rfl (fun _ => ?_) (fun h65 => absurd (rfl) h65)
      refine g_iinc (pc := 70) (lv' := [(0, _), (1, _), (2, _), (3, _), (4, _)]) dL_isSame_70 rfl (by decide : (2 : Int32) + 1 = 3) (nl rfl) rfl ?_
      refine g_goto (pc := 73) (tgt := 30) dL_isSame_73 rfl ?_
      skip
      refine g_iload (pc := 30) dL_isSame_30 rfl ?_
      refine g_iconst (pc := 32) (v := 3) dL_isSame_32 rfl ?_
      refine g_icmp_ge (pc := 33) (tgt := 76) dL_isSame_33 rfl (fun _ => ?_) (fun h33 => absurd ((by decide)) h33)
      refine g_iconst (pc := 76) (v := 0) dL_isSame_76 rfl ?_
      refine g_istore (pc := 77) (lv' := [(0, _), (1, _), (2, _), (3, _), (4, _)]) dL_isSame_77 (nl rfl) rfl ?_
      exact rows ⟨rfl, rfl, rfl, rfl, rfl, trivial⟩
  · intro _ _
    refine g_wk (k := 5) (n := 30) (by omega) (by omega) ?_
    refine g_iload_n (pc := 4) dL_isSame_4 rfl ?_
    refine g_bipush (pc := 5) (v := 6) dL_isSame_5 rfl ?_
    refine g_icmp_ge (pc := 7) (tgt := 125) dL_isSame_7 rfl (fun _ => ?_) (fun h7 => absurd (nI_le (Nat.le_refl _) (by decide)) h7)
    refine g_aload_n (pc := 125) dL_isSame_125 rfl trivial ?_
    refine g_iconst (pc := 126) (v := 0) dL_isSame_126 rfl ?_
    refine g_invV_r (pc := 127) (As := [_]) dL_isSame_127 rfl (q_count0 hS) rfl rfl (shK hS rfl) rfl rfl lk_L_102 rfl (nb rfl) ⟨nb rfl, nb rfl⟩ rfl ?_
    refine g_aload_n (pc := 130) dL_isSame_130 rfl trivial ?_
    refine g_getf (pc := 131) (v := .int _) dL_isSame_131 fk_L_45 a1 (fun _ => congrArg Value.int (z0)) ?_
    refine g_icmp_ne (pc := 134) (tgt := 186) dL_isSame_134 rfl (fun h134 => absurd h134 ((fun z => z s3))) (fun _ => ?_)
    refine g_aload_n (pc := 137) dL_isSame_137 rfl trivial ?_
    refine g_iconst (pc := 138) (v := 1) dL_isSame_138 rfl ?_
    refine g_invV_r (pc := 139) (As := [_]) dL_isSame_139 rfl (q_count1 hS) rfl rfl (shK hS rfl) rfl rfl lk_L_102 rfl (nb rfl) ⟨nb rfl, nb rfl⟩ rfl ?_
    refine g_aload_n (pc := 142) dL_isSame_142 rfl trivial ?_
    refine g_getf (pc := 143) (v := .int _) dL_isSame_143 fk_L_80 a1 (fun _ => congrArg Value.int (z1)) ?_
    refine g_icmp_ne (pc := 146) (tgt := 186) dL_isSame_146 rfl (fun h146 => absurd h146 ((fun z => z (s7.trans (by rw [s8, lN_any]))))) (fun _ => ?_)
    refine g_aload_n (pc := 149) dL_isSame_149 rfl trivial ?_
    refine g_iconst (pc := 150) (v := 2) dL_isSame_150 rfl ?_
    refine g_invV_r (pc := 151) (As := [_]) dL_isSame_151 rfl (q_count2 hS) rfl rfl (shK hS rfl) rfl rfl lk_L_102 rfl (nb rfl) ⟨nb rfl, nb rfl⟩ rfl ?_
    refine g_iload_n (pc := 154) dL_isSame_154 rfl ?_
    refine g_icmp_ne (pc := 155) (tgt := 186) dL_isSame_155 rfl (fun h155 => absurd h155 ((fun z => z rfl))) (fun _ => ?_)
    refine g_aload_n (pc := 158) dL_isSame_158 rfl trivial ?_
    refine g_iconst (pc := 159) (v := 0) dL_isSame_159 rfl ?_
    refine g_invV_r (pc := 160) (As := [_]) dL_isSame_160 rfl (q_work0 hS) rfl rfl (shK hS rfl) rfl rfl lk_L_106 rfl (nb rfl) ⟨nb rfl, nb rfl⟩ rfl ?_
    refine g_aload_n (pc := 163) dL_isSame_163 rfl trivial ?_
    refine g_getf (pc := 164) (v := .int _) dL_isSame_164 fk_L_109 a1 (fun _ => congrArg Value.int (z2)) ?_
    refine g_icmp_ne (pc := 167) (tgt := 186) dL_isSame_167 rfl (fun h167 => absurd h167 ((fun z => z (s9.trans (by rw [s10, lN_any]))))) (fun _ => ?_)
    refine g_aload_n (pc := 170) dL_isSame_170 rfl trivial ?_
    refine g_iconst (pc := 171) (v := 1) dL_isSame_171 rfl ?_
    refine g_invV_r (pc := 172) (As := [_]) dL_isSame_172 rfl (q_work1 hS) rfl rfl (shK hS rfl) rfl rfl lk_L_106 rfl (nb rfl) ⟨nb rfl, nb rfl⟩ rfl ?_
    refine g_aload_n (pc := 175) dL_isSame_175 rfl trivial ?_
    refine g_getf (pc := 176) (v := .int _) dL_isSame_176 fk_L_112 a1 (fun _ => congrArg Value.int (z3)) ?_
    refine g_icmp_ne (pc := 179) (tgt := 186) dL_isSame_179 rfl (fun h179 => absurd h179 ((fun z => z (s11.trans (by rw [s12, lN_any]))))) (fun _ => ?_)
    refine g_iconst (pc := 182) (v := 1) dL_isSame_182 rfl ?_
    refine g_goto (pc := 183) (tgt := 187) dL_isSame_183 rfl ?_
    refine g_ireturn (pc := 187) dL_isSame_187 rfl rfl ?_
    exact ⟨rfl, rfl⟩
end

