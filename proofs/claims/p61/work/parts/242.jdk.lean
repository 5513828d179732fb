/-! the builder: letters, digits, its making, its text as a String -/
section
variable {l : Launch} {M : Mem} {s v b cap : Nat} {tx : List Int32}
theorem sI_sw {M : Mem} {a b : Nat} (h : a ≠ b) (f g : Nat → Int32) : sI (sI M a f) b g = sI (sI M b g) a f := by
  simp only [sI]
  rw [fs_comm _ _ _ h]
/-- one letter put behind the text, its length first -/
theorem SB.put1 (h : SB M b v cap tx) {c : Nat} (hc : c < 128) (hl : tx.length + 1 ≤ cap) : SB (sI (sI M b (fun_set (mI M b) 3 (nI (tx.length + 1)))) v (fun_set (mI (sI M b (fun_set (mI M b) 3 (nI (tx.length + 1)))) v) tx.length (nI c))) b v cap (tx ++ [nI c]) := by
  have hne := h.ne
  have h9 := h.put (sx := [nI c]) (g := fun_set (mI M v) tx.length (nI c)) (fun j hj => fs_ne _ _ (by omega)) (fun i hi => by
    have hi0 : i = 0 := by
      have : i < 1 := hi
      omega
    subst hi0
    rw [Nat.add_zero, fs_self]
    rfl) (fun j hj => by
    by_cases e : j = tx.length
    · rw [e, fs_self]
      exact (asc_ok c hc).2.2.1
    · rw [fs_ne _ _ e]
      exact h.2.2.2.1 j hj) hl
  rw [sI_ne hne, sI_sw (Ne.symm hne)]
  rw [sI_ne (Ne.symm hne)] at h9
  exact h9
theorem SB.put2 (h : SB M b v cap tx) {c : Nat} (hc : c < 128) (hl : tx.length + 1 ≤ cap) : SB (sI (sI M v (fun_set (mI M v) tx.length (nI c))) b (fun_set (mI (sI M v (fun_set (mI M v) tx.length (nI c))) b) 3 (nI (tx.length + 1)))) b v cap (tx ++ [nI c]) := by
  have hne := h.ne
  exact h.put (sx := [nI c]) (g := fun_set (mI M v) tx.length (nI c)) (fun j hj => fs_ne _ _ (by omega)) (fun i hi => by
    have hi0 : i = 0 := by
      have : i < 1 := hi
      omega
    subst hi0
    rw [Nat.add_zero, fs_self]
    rfl) (fun j hj => by
    by_cases e : j = tx.length
    · rw [e, fs_self]
      exact (asc_ok c hc).2.2.1
    · rw [fs_ne _ _ e]
      exact h.2.2.2.1 j hj) hl
theorem k_canEncode {c : Nat} (hc : c < 128) : EvR l jJ1_canEncode_fc78d 0 0 0 0 [.int (nI c)] M (.inl (some (.int 1))) M := by
  refine ev_intro rfl (nb rfl) rfl ?_
  refine g_iload_n (pc := 0) dJ1_canEncode_fc78d_0 rfl ?_
  refine g_sipush (pc := 1) (v := 255) dJ1_canEncode_fc78d_1 rfl ?_
  refine g_icmp_gt (pc := 4) (tgt := 11) dJ1_canEncode_fc78d_4 rfl (fun h4 => absurd h4 ((asc_ok c hc).2.2.2.2.2)) (fun _ => ?_)
  refine g_iconst (pc := 7) (v := 1) dJ1_canEncode_fc78d_7 rfl ?_
  refine g_goto (pc := 8) (tgt := 12) dJ1_canEncode_fc78d_8 rfl ?_
  refine g_ireturn (pc := 12) dJ1_canEncode_fc78d_12 rfl rfl ?_
  exact ⟨rfl, rfl⟩
theorem k_asbC (h : SB M b v cap tx) {c : Nat} (hc : c < 128) (hn : tx.length + 1 ≤ 340) : EvO l jJ5_append_3fe6f 5 200 1 700 [.ref b, .int (nI c)] M (fun r M' => r = some (.ref b) ∧ SBx M b v (tx ++ [nI c]) M') := by
  refine ev_intro rfl (nb rfl) rfl ?_
  refine g_aload_n (pc := 0) dJ5_append_3fe6f_0 rfl trivial ?_
  refine g_aload_n (pc := 1) dJ5_append_3fe6f_1 rfl trivial ?_
  refine g_getf (pc := 2) (v := .int _) dJ5_append_3fe6f_2 fk_J5_79 h.1.1 (fun _ => congrArg Value.int (h.2.1.2.2.2)) ?_
  refine g_iconst (pc := 5) (v := 1) dJ5_append_3fe6f_5 rfl ?_
  refine g_iadd (pc := 6) dJ5_append_3fe6f_6 ?_
  rw [nI_1]
  refine g_invP_o (pc := 7) (As := [_]) dJ5_append_3fe6f_7 rfl (k_ensure h hn) rfl rfl h.1.1 rfl rfl lk_J5_100 rfl (nb rfl) ⟨nb rfl, nb rfl⟩ rfl (fun v1 M1 hq => ?_)
  obtain ⟨rfl, v', cap', h1, hc1, hx1, hv1⟩ := hq
  show Go l _ _ _ _ _ _ _ _ ([] : List Value) _ _ _
  refine g_aload_n (pc := 10) dJ5_append_3fe6f_10 rfl trivial ?_
  refine g_invP_r (pc := 11) (As := []) dJ5_append_3fe6f_11 rfl (k_sbLatin1 h1) rfl rfl h1.1.1 rfl rfl lk_J5_83 rfl (nb rfl) ⟨nb rfl, nb rfl⟩ rfl ?_
  refine g_if_eq (pc := 14) (tgt := 45) dJ5_append_3fe6f_14 rfl (fun h14 => absurd h14 ((by decide))) (fun _ => ?_)
  refine g_iload_n (pc := 17) dJ5_append_3fe6f_17 rfl ?_
  refine g_invS_r (pc := 18) (As := [_]) dJ5_append_3fe6f_18 rfl (k_canEncode hc) rfl rfl lk_J5_191 rfl (nb rfl) ⟨nb rfl, nb rfl⟩ rfl ?_
  refine g_if_eq (pc := 21) (tgt := 45) dJ5_append_3fe6f_21 rfl (fun h21 => absurd h21 ((by decide))) (fun _ => ?_)
  refine g_aload_n (pc := 24) dJ5_append_3fe6f_24 rfl trivial ?_
  refine g_getf (pc := 25) dJ5_append_3fe6f_25 fk_J5_15 h1.1.1 (fv_arr h1.1.2.1) ?_
  refine g_aload_n (pc := 28) dJ5_append_3fe6f_28 rfl trivial ?_
  refine g_dup (pc := 29) dJ5_append_3fe6f_29 rfl ?_
  refine g_getf (pc := 30) (v := .int _) dJ5_append_3fe6f_30 fk_J5_79 h1.1.1 (fun _ => congrArg Value.int (h1.2.1.2.2.2)) ?_
  refine g_dup_x1 (pc := 33) dJ5_append_3fe6f_33 rfl rfl ?_
  refine g_iconst (pc := 34) (v := 1) dJ5_append_3fe6f_34 rfl ?_
  refine g_iadd (pc := 35) dJ5_append_3fe6f_35 ?_
  rw [nI_1]
  refine g_putI (pc := 36) dJ5_append_3fe6f_36 fp_J5_79 h1.1.1 ⟨rfl, rfl⟩ (fun _ _ _ _ => rfl) ?_
  refine g_iload_n (pc := 39) dJ5_append_3fe6f_39 rfl ?_
  refine g_i2b (pc := 40) dJ5_append_3fe6f_40 (asc_ok c hc).2.2.2.2.1 ?_
  refine g_bastore (pc := 41) dJ5_append_3fe6f_41 h1.1.2.2 rfl (by omega) (by have := h1.2.1.2.1; omega) ?_
  rw [(asc_ok c hc).2.2.2.1]
  refine g_goto (pc := 42) (tgt := 75) dJ5_append_3fe6f_42 rfl ?_
  refine g_aload_n (pc := 75) dJ5_append_3fe6f_75 rfl trivial ?_
  refine g_areturn (pc := 76) dJ5_append_3fe6f_76 rfl (Or.inl ⟨_, rfl⟩) ?_
  refine ⟨_, rfl, rfl, v', cap', h1.put1 hc hc1, ?_, hv1⟩
  exact (hx1.sI (fun _ => Or.inl rfl)).sI (fun h9 => by rcases hv1 with e | e; exact Or.inr e; omega)
theorem k_sbC (h : SB M b v cap tx) {c : Nat} (hc : c < 128) (hn : tx.length + 1 ≤ 340) : EvO l jJ4_append_cf468 6 230 1 700 [.ref b, .int (nI c)] M (fun r M' => r = some (.ref b) ∧ SBx M b v (tx ++ [nI c]) M') := by
  refine ev_intro rfl (nb rfl) rfl ?_
  refine g_aload_n (pc := 0) dJ4_append_cf468_0 rfl trivial ?_
  refine g_iload_n (pc := 1) dJ4_append_cf468_1 rfl ?_
  refine g_invSU_o (pc := 2) (As := [_]) dJ4_append_cf468_2 rfl (k_asbC h hc hn) rfl rfl h.1.1 rfl rfl lk_J4_50 rfl (nb rfl) ⟨nb rfl, nb rfl⟩ rfl (fun v1 M1 hq => ?_)
  obtain ⟨rfl, hq⟩ := hq
  show Go l _ _ _ _ _ _ _ _ ([.ref b] : List Value) _ _ _
  refine g_pop (pc := 5) dJ4_append_cf468_5 rfl ?_
  refine g_aload_n (pc := 6) dJ4_append_cf468_6 rfl trivial ?_
  refine g_areturn (pc := 7) dJ4_append_cf468_7 rfl (Or.inl ⟨_, rfl⟩) ?_
  exact ⟨_, rfl, rfl, hq⟩
/-- digits -/
theorem dig_ok : ∀ d, d < 10 → ¬ (-nI d ≤ (-10 : Int32)) ∧ (-100 : Int32) < -nI d ∧ (-9 : Int32) ≤ -nI d ∧ - -nI d = nI d := by decide +kernel
theorem k_stringSize {d : Nat} (hd : d < 10) : EvR l jJ6_stringSize_0f7a4 0 0 0 0 [.int (nI d)] M (.inl (some (.int 1))) M := by
  refine ev_intro rfl (nb rfl) rfl ?_
  refine g_iconst (pc := 0) (v := 1) dJ6_stringSize_0f7a4_0 rfl ?_
  refine g_istore_n (pc := 1) (lv' := [(0, _), (1, _)]) dJ6_stringSize_0f7a4_1 (nl rfl) rfl ?_
  refine g_iload_n (pc := 2) dJ6_stringSize_0f7a4_2 rfl ?_
  refine g_if_lt (pc := 3) (tgt := 11) dJ6_stringSize_0f7a4_3 rfl (fun h3 => absurd h3 (nI_pos (by omega))) (fun _ => ?_)
  refine g_iconst (pc := 6) (v := 0) dJ6_stringSize_0f7a4_6 rfl ?_
  refine g_istore_n (pc := 7) (lv' := [(0, _), (1, _)]) dJ6_stringSize_0f7a4_7 (nl rfl) rfl ?_
  refine g_iload_n (pc := 8) dJ6_stringSize_0f7a4_8 rfl ?_
  refine g_ineg (pc := 9) dJ6_stringSize_0f7a4_9 ?_
  refine g_istore_n (pc := 10) (lv' := [(0, _), (1, _)]) dJ6_stringSize_0f7a4_10 (nl rfl) rfl ?_
  refine g_bipush (pc := 11) (v := (-10)) dJ6_stringSize_0f7a4_11 rfl ?_
  refine g_istore_n (pc := 13) (lv' := [(0, _), (1, _), (2, _)]) dJ6_stringSize_0f7a4_13 (nl rfl) rfl ?_
  refine g_iconst (pc := 14) (v := 1) dJ6_stringSize_0f7a4_14 rfl ?_
  refine g_istore_n (pc := 15) (lv' := [(0, _), (1, _), (2, _), (3, _)]) dJ6_stringSize_0f7a4_15 (nl rfl) rfl ?_
  refine g_iload_n (pc := 16) dJ6_stringSize_0f7a4_16 rfl ?_
  refine g_bipush (pc := 17) (v := 10) dJ6_stringSize_0f7a4_17 rfl ?_
  refine g_icmp_ge (pc := 19) (tgt := 42) dJ6_stringSize_0f7a4_19 rfl (fun h19 => absurd h19 ((by decide))) (fun _ => ?_)
  refine g_iload_n (pc := 22) dJ6_stringSize_0f7a4_22 rfl ?_
  refine g_iload_n (pc := 23) dJ6_stringSize_0f7a4_23 rfl ?_
  refine g_icmp_le (pc := 24) (tgt := 31) dJ6_stringSize_0f7a4_24 rfl (fun h24 => absurd h24 ((dig_ok d hd).1)) (fun _ => ?_)
  refine g_iload_n (pc := 27) dJ6_stringSize_0f7a4_27 rfl ?_
  refine g_iload_n (pc := 28) dJ6_stringSize_0f7a4_28 rfl ?_
  refine g_iadd (pc := 29) dJ6_stringSize_0f7a4_29 ?_
  rw [show (1 : Int32) + 0 = 1 by decide]
  refine g_ireturn (pc := 30) dJ6_stringSize_0f7a4_30 rfl rfl ?_
  exact ⟨rfl, rfl⟩
theorem m1_nI (n : Nat) : nI (n + 1) + Int32.ofInt (-1) = nI n := by
  rw [show Int32.ofInt (-1) = -1 by decide]
  exact pk_m1 n
theorem k_getChars {d n : Nat} (hd : d < 10) (hk : (mK M)[v]? = some (.inl (.byte, cap))) (hn : n < cap) (hcap : cap ≤ 700) : EvR l jJ6_getChars_ba4f3 0 0 0 0 [.int (nI d), .int (nI (n + 1)), .ref v] M (.inl (some (.int (nI n)))) (sI M v (fun_set (mI M v) n (nI (48 + d)))) := by
  refine ev_intro rfl (nb rfl) rfl ?_
  refine g_iload_n (pc := 0) dJ6_getChars_ba4f3_0 rfl ?_
  refine g_istore (pc := 1) (lv' := [(0, _), (1, _), (2, _), (5, _)]) dJ6_getChars_ba4f3_1 (nl rfl) rfl ?_
  refine g_iload_n (pc := 3) dJ6_getChars_ba4f3_3 rfl ?_
  refine g_if_ge (pc := 4) (tgt := 11) dJ6_getChars_ba4f3_4 rfl (fun _ => ?_) (fun h4 => absurd (nI_pos' (by omega)) h4)
  refine g_iconst (pc := 11) (v := 0) dJ6_getChars_ba4f3_11 rfl ?_
  refine g_istore (pc := 12) (lv' := [(0, _), (1, _), (2, _), (5, _), (6, _)]) dJ6_getChars_ba4f3_12 (nl rfl) rfl ?_
  refine g_iload (pc := 14) dJ6_getChars_ba4f3_14 rfl ?_
  refine g_if_ne (pc := 16) (tgt := 22) dJ6_getChars_ba4f3_16 rfl (fun h16 => absurd h16 ((by decide))) (fun _ => ?_)
  refine g_iload_n (pc := 19) dJ6_getChars_ba4f3_19 rfl ?_
  refine g_ineg (pc := 20) dJ6_getChars_ba4f3_20 ?_
  refine g_istore_n (pc := 21) (lv' := [(0, _), (1, _), (2, _), (5, _), (6, _)]) dJ6_getChars_ba4f3_21 (nl rfl) rfl ?_
  refine g_iload_n (pc := 22) dJ6_getChars_ba4f3_22 rfl ?_
  refine g_bipush (pc := 23) (v := (-100)) dJ6_getChars_ba4f3_23 rfl ?_
  refine g_icmp_gt (pc := 25) (tgt := 72) dJ6_getChars_ba4f3_25 rfl (fun _ => ?_) (fun h25 => absurd ((dig_ok d hd).2.1) h25)
  refine g_aload_n (pc := 72) dJ6_getChars_ba4f3_72 rfl trivial ?_
  refine g_iinc (pc := 73) (lv' := [(0, _), (1, _), (2, _), (5, _), (6, _)]) dJ6_getChars_ba4f3_73 rfl (m1_nI n) (nl rfl) rfl ?_
  refine g_iload (pc := 76) dJ6_getChars_ba4f3_76 rfl ?_
  refine g_digits (pc := 78) dJ6_getChars_ba4f3_78 wd_x733 ?_
  refine g_iload_n (pc := 81) dJ6_getChars_ba4f3_81 rfl ?_
  refine g_ineg (pc := 82) dJ6_getChars_ba4f3_82 ?_
  rw [(dig_ok d hd).2.2.2]
  refine g_digit (pc := 83) dJ6_getChars_ba4f3_83 rfl hd ?_
  refine g_bastore (pc := 84) dJ6_getChars_ba4f3_84 hk rfl hn (by omega) ?_
  rw [(asc_ok (48 + d) (by omega)).2.2.2.1]
  refine g_iload_n (pc := 85) dJ6_getChars_ba4f3_85 rfl ?_
  refine g_bipush (pc := 86) (v := (-9)) dJ6_getChars_ba4f3_86 rfl ?_
  refine g_icmp_ge (pc := 88) (tgt := 104) dJ6_getChars_ba4f3_88 rfl (fun _ => ?_) (fun h88 => absurd ((dig_ok d hd).2.2.1) h88)
  refine g_iload (pc := 104) dJ6_getChars_ba4f3_104 rfl ?_
  refine g_if_eq (pc := 106) (tgt := 118) dJ6_getChars_ba4f3_106 rfl (fun _ => ?_) (fun h106 => absurd (rfl) h106)
  refine g_iload (pc := 118) dJ6_getChars_ba4f3_118 rfl ?_
  refine g_ireturn (pc := 120) dJ6_getChars_ba4f3_120 rfl rfl ?_
  exact ⟨rfl, rfl⟩
theorem k_asbI (h : SB M b v cap tx) {d : Nat} (hd : d < 10) (hn : tx.length + 1 ≤ 340) : EvO l jJ5_append_c97b9 5 200 1 700 [.ref b, .int (nI d)] M (fun r M' => r = some (.ref b) ∧ SBx M b v (tx ++ [nI (48 + d)]) M') := by
  refine ev_intro rfl (nb rfl) rfl ?_
  refine g_aload_n (pc := 0) dJ5_append_c97b9_0 rfl trivial ?_
  refine g_getf (pc := 1) (v := .int _) dJ5_append_c97b9_1 fk_J5_79 h.1.1 (fun _ => congrArg Value.int (h.2.1.2.2.2)) ?_
  refine g_istore_n (pc := 4) (lv' := [(0, _), (1, _), (2, _)]) dJ5_append_c97b9_4 (nl rfl) rfl ?_
  refine g_iload_n (pc := 5) dJ5_append_c97b9_5 rfl ?_
  refine g_iload_n (pc := 6) dJ5_append_c97b9_6 rfl ?_
  refine g_invS_r (pc := 7) (As := [_]) dJ5_append_c97b9_7 rfl (k_stringSize hd) rfl rfl lk_J5_245 rfl (nb rfl) ⟨nb rfl, nb rfl⟩ rfl ?_
  refine g_iadd (pc := 10) dJ5_append_c97b9_10 ?_
  rw [nI_1]
  refine g_istore_n (pc := 11) (lv' := [(0, _), (1, _), (2, _), (3, _)]) dJ5_append_c97b9_11 (nl rfl) rfl ?_
  refine g_aload_n (pc := 12) dJ5_append_c97b9_12 rfl trivial ?_
  refine g_iload_n (pc := 13) dJ5_append_c97b9_13 rfl ?_
  refine g_invP_o (pc := 14) (As := [_]) dJ5_append_c97b9_14 rfl (k_ensure h hn) rfl rfl h.1.1 rfl rfl lk_J5_100 rfl (nb rfl) ⟨nb rfl, nb rfl⟩ rfl (fun v1 M1 hq => ?_)
  obtain ⟨rfl, v', cap', h1, hc1, hx1, hv1⟩ := hq
  show Go l _ _ _ _ _ _ _ _ ([] : List Value) _ _ _
  refine g_aload_n (pc := 17) dJ5_append_c97b9_17 rfl trivial ?_
  refine g_invP_r (pc := 18) (As := []) dJ5_append_c97b9_18 rfl (k_sbLatin1 h1) rfl rfl h1.1.1 rfl rfl lk_J5_83 rfl (nb rfl) ⟨nb rfl, nb rfl⟩ rfl ?_
  refine g_if_eq (pc := 21) (tgt := 37) dJ5_append_c97b9_21 rfl (fun h21 => absurd h21 ((by decide))) (fun _ => ?_)
  refine g_iload_n (pc := 24) dJ5_append_c97b9_24 rfl ?_
  refine g_iload_n (pc := 25) dJ5_append_c97b9_25 rfl ?_
  refine g_aload_n (pc := 26) dJ5_append_c97b9_26 rfl trivial ?_
  refine g_getf (pc := 27) dJ5_append_c97b9_27 fk_J5_15 h1.1.1 (fv_arr h1.1.2.1) ?_
  refine g_invS_r (pc := 30) (As := [_, _, _]) dJ5_append_c97b9_30 rfl (k_getChars hd h1.1.2.2 hc1 h1.2.1.2.1) rfl rfl lk_J5_248 rfl (nb rfl) ⟨nb rfl, nb rfl⟩ rfl ?_
  refine g_pop (pc := 33) dJ5_append_c97b9_33 rfl ?_
  refine g_goto (pc := 34) (tgt := 48) dJ5_append_c97b9_34 rfl ?_
  refine g_aload_n (pc := 48) dJ5_append_c97b9_48 rfl trivial ?_
  refine g_iload_n (pc := 49) dJ5_append_c97b9_49 rfl ?_
  refine g_putI (pc := 50) dJ5_append_c97b9_50 fp_J5_79 h1.1.1 ⟨rfl, rfl⟩ (fun _ _ _ _ => rfl) ?_
  refine g_aload_n (pc := 53) dJ5_append_c97b9_53 rfl trivial ?_
  refine g_areturn (pc := 54) dJ5_append_c97b9_54 rfl (Or.inl ⟨_, rfl⟩) ?_
  refine ⟨_, rfl, rfl, v', cap', h1.put2 (by omega) hc1, ?_, hv1⟩
  exact (hx1.sI (fun h9 => by rcases hv1 with e | e; exact Or.inr e; omega)).sI (fun _ => Or.inl rfl)
theorem k_sbI (h : SB M b v cap tx) {d : Nat} (hd : d < 10) (hn : tx.length + 1 ≤ 340) : EvO l jJ4_append_bf812 6 230 1 700 [.ref b, .int (nI d)] M (fun r M' => r = some (.ref b) ∧ SBx M b v (tx ++ [nI (48 + d)]) M') := by
  refine ev_intro rfl (nb rfl) rfl ?_
  refine g_aload_n (pc := 0) dJ4_append_bf812_0 rfl trivial ?_
  refine g_iload_n (pc := 1) dJ4_append_bf812_1 rfl ?_
  refine g_invSU_o (pc := 2) (As := [_]) dJ4_append_bf812_2 rfl (k_asbI h hd hn) rfl rfl h.1.1 rfl rfl lk_J4_53 rfl (nb rfl) ⟨nb rfl, nb rfl⟩ rfl (fun v1 M1 hq => ?_)
  obtain ⟨rfl, hq⟩ := hq
  show Go l _ _ _ _ _ _ _ _ ([.ref b] : List Value) _ _ _
  refine g_pop (pc := 5) dJ4_append_bf812_5 rfl ?_
  refine g_aload_n (pc := 6) dJ4_append_bf812_6 rfl trivial ?_
  refine g_areturn (pc := 7) dJ4_append_bf812_7 rfl (Or.inl ⟨_, rfl⟩) ?_
  exact ⟨_, rfl, rfl, hq⟩
/-- a new builder -/
theorem k_asbNew (hk : (mK M)[b]? = some (.inr 9)) (h0 : mI M b = fun _ => 0) (hx : mX M = true) : EvO l jJ5_init_d00df 1 40 1 16 [.ref b, .int 16] M (fun r M' => r = none ∧ ∃ v, SB M' b v 16 [] ∧ Xt (fun i => i = b) M M') := by
  have hlb := k_lt hk
  refine ev_intro rfl (nb rfl) rfl ?_
  refine g_less (k' := 0 + 1) (n' := 0 + 16) (by omega) (by omega) ?_
  refine g_aload_n (pc := 0) dJ5_init_d00df_0 rfl trivial ?_
  refine g_objInit (pc := 1) dJ5_init_d00df_1 wd_x1205 wd_121 wd_122 (nb rfl) (nb rfl) ?_
  refine g_compact (pc := 4) dJ5_init_d00df_4 wd_x662 ?_
  refine g_if_eq (pc := 7) (tgt := 25) dJ5_init_d00df_7 rfl (fun h7 => absurd h7 ((by decide))) (fun _ => ?_)
  refine g_aload_n (pc := 10) dJ5_init_d00df_10 rfl trivial ?_
  refine g_iload_n (pc := 11) dJ5_init_d00df_11 rfl ?_
  refine g_newarray_byte (pc := 12) dJ5_init_d00df_12 wd_515 rfl (by omega) hx ?_
  refine g_putR (pc := 14) dJ5_init_d00df_14 fp_J5_15 (fun h => by cases h) (new_o M hk) (fun _ => ⟨rfl, rfl⟩) (fun _ _ _ _ => rfl) ?_
  refine g_aload_n (pc := 17) dJ5_init_d00df_17 rfl trivial ?_
  refine g_iconst (pc := 18) (v := 0) dJ5_init_d00df_18 rfl ?_
  refine g_putI (pc := 19) dJ5_init_d00df_19 fp_J5_22 (new_o M hk) ⟨rfl, rfl⟩ (fun _ _ _ _ => rfl) ?_
  refine g_goto (pc := 22) (tgt := 38) dJ5_init_d00df_22 rfl ?_
  refine g_return (pc := 38) dJ5_init_d00df_38 rfl ?_
  refine ⟨_, rfl, rfl, (mK M).length, ⟨⟨new_o M hk, ?_, new_at M _⟩, ⟨by decide, by decide, ?_, ?_⟩, (fun j hj => absurd hj (Nat.not_lt_zero j)), fun j hj => ?_, hx⟩, ?_⟩
  · rw [mR_sI, sR_self, fs_self]
  · rw [sI_self, fs_self]
  · rw [sI_self, fs_ne _ _ (by decide)]
    show mI (nK M (.inl (.byte, 16))) b 3 = nI 0
    rw [new_Ine M _ hlb, h0]
    rfl
  · rw [sI_ne (by omega)]
    show fits .byte (.int (mI (nK M (.inl (.byte, 16))) (mK M).length j)) = true
    rw [new_I]
    exact fit0
  · exact ((((Xt.rf (fun i => i = b) M).nK _).sR (fun _ => rfl)).sI (fun _ => rfl))
theorem k_sbNew (hk : (mK M)[b]? = some (.inr 9)) (h0 : mI M b = fun _ => 0) (hx : mX M = true) : EvO l jJ4_init_da8c8 2 70 1 16 [.ref b] M (fun r M' => r = none ∧ ∃ v, SB M' b v 16 [] ∧ Xt (fun i => i = b) M M') := by
  refine ev_intro rfl (nb rfl) rfl ?_
  refine g_aload_n (pc := 0) dJ4_init_da8c8_0 rfl trivial ?_
  refine g_bipush (pc := 1) (v := 16) dJ4_init_da8c8_1 rfl ?_
  refine g_invIx_o (pc := 3) (As := [_]) dJ4_init_da8c8_3 rfl (k_asbNew hk h0 hx) rfl rfl lk_J4_1 rfl (nb rfl) ⟨nb rfl, nb rfl⟩ rfl (fun v1 M1 hq => ?_)
  obtain ⟨rfl, hq⟩ := hq
  show Go l _ _ _ _ _ _ _ _ ([] : List Value) _ _ _
  refine g_return (pc := 6) dJ4_init_da8c8_6 rfl ?_
  exact ⟨_, rfl, rfl, hq⟩
/-- bytes taken out of an array -/
theorem new_c (M : Mem) (i : Nat) (x : Knd) : (mK (nC M i x))[(mK M).length]? = some x := (new_k M x).1
theorem k_checkLength {n : Nat} (hn : n < 2147483648) : EvR l jJ7_checkLength_df160 0 0 0 0 [.int 0, .int (nI n)] M (.inl none) M := by
  refine ev_intro rfl (nb rfl) rfl ?_
  refine g_iload_n (pc := 0) dJ7_checkLength_df160_0 rfl ?_
  refine g_iload_n (pc := 1) dJ7_checkLength_df160_1 rfl ?_
  refine g_icmp_ge (pc := 2) (tgt := 37) dJ7_checkLength_df160_2 rfl (fun _ => ?_) (fun h2 => absurd (nI_pos' hn) h2)
  refine g_return (pc := 37) dJ7_checkLength_df160_37 rfl ?_
  exact ⟨rfl, rfl⟩
theorem sub_0 (x : Int32) : x - 0 = x := by simp
theorem k_copyRangeB {n : Nat} (hk : (mK M)[v]? = some (.inl (.byte, cap))) (hf : ∀ j, j < cap → fits .byte (.int (mI M v j)) = true) (hx : mX M = true) (hn : n ≤ cap) (hcap : cap ≤ 700) : EvO l jJ7_copyOfRangeByte_39247 1 120 1 700 [.ref v, .int 0, .int (nI n)] M (fun r M' => r = some (.ref (mK M).length) ∧ (mK M')[(mK M).length]? = some (.inl (.byte, n)) ∧ (∀ j, j < n → mI M' (mK M).length j = mI M v j) ∧ Xn M M' ∧ mX M' = true) := by
  have hl := k_lt hk
  refine ev_intro rfl (nb rfl) rfl ?_
  refine g_less (k' := 0 + 1) (n' := 0 + n) (by omega) (by omega) ?_
  refine g_iload_n (pc := 0) dJ7_copyOfRangeByte_39247_0 rfl ?_
  refine g_iload_n (pc := 1) dJ7_copyOfRangeByte_39247_1 rfl ?_
  refine g_invS_r (pc := 2) (As := [_, _]) dJ7_copyOfRangeByte_39247_2 rfl (k_checkLength (by omega)) rfl rfl lk_J7_343 rfl (nb rfl) ⟨nb rfl, nb rfl⟩ rfl ?_
  refine g_iload_n (pc := 5) dJ7_copyOfRangeByte_39247_5 rfl ?_
  refine g_iload_n (pc := 6) dJ7_copyOfRangeByte_39247_6 rfl ?_
  refine g_isub (pc := 7) dJ7_copyOfRangeByte_39247_7 ?_
  rw [sub_0]
  refine g_istore_n (pc := 8) (lv' := [(0, _), (1, _), (2, _), (3, _)]) dJ7_copyOfRangeByte_39247_8 (nl rfl) rfl ?_
  refine g_iload_n (pc := 9) dJ7_copyOfRangeByte_39247_9 rfl ?_
  refine g_newarray_byte (pc := 10) dJ7_copyOfRangeByte_39247_10 wd_515 rfl (by omega) hx ?_
  refine g_astore (pc := 12) (lv' := [(0, _), (1, _), (2, _), (3, _), (4, _)]) dJ7_copyOfRangeByte_39247_12 trivial (nl rfl) rfl ?_
  refine g_aload_n (pc := 14) dJ7_copyOfRangeByte_39247_14 rfl trivial ?_
  refine g_iload_n (pc := 15) dJ7_copyOfRangeByte_39247_15 rfl ?_
  refine g_aload (pc := 16) dJ7_copyOfRangeByte_39247_16 rfl trivial ?_
  refine g_iconst (pc := 18) (v := 0) dJ7_copyOfRangeByte_39247_18 rfl ?_
  refine g_aload_n (pc := 19) dJ7_copyOfRangeByte_39247_19 rfl trivial ?_
  refine g_alen_B (pc := 20) dJ7_copyOfRangeByte_39247_20 (new_o M hk) ?_
  refine g_iload_n (pc := 21) dJ7_copyOfRangeByte_39247_21 rfl ?_
  refine g_isub (pc := 22) dJ7_copyOfRangeByte_39247_22 ?_
  rw [sub_0]
  refine g_iload_n (pc := 23) dJ7_copyOfRangeByte_39247_23 rfl ?_
  refine g_mmin (pc := 24) dJ7_copyOfRangeByte_39247_24 wd_x655 wd_430 wd_107 wd_431 (nb rfl) (nb rfl) ?_
  rw [min_nI (by omega) (by omega), Nat.min_eq_right hn]
  refine g_copyT (pc := 27) (ty := .byte) (t0 := 2) (sp := 0) (dp := 0) dJ7_copyOfRangeByte_39247_27 wd_x656 wd_510 wd_509 wd_108 rfl (fun _ => rfl) (fun _ _ _ => rfl) (fun i hi => ?_) (new_o M hk) (new_at M _) rfl rfl rfl (by omega) (by omega) (by omega) (nb rfl) (nb rfl) ?_
  · rw [new_Ine M _ hl, Nat.zero_add]
    exact hf i (by omega)
  refine g_aload (pc := 30) dJ7_copyOfRangeByte_39247_30 rfl trivial ?_
  refine g_areturn (pc := 32) dJ7_copyOfRangeByte_39247_32 rfl (Or.inr ⟨_, rfl⟩) ?_
  refine ⟨_, rfl, rfl, new_at M _, fun j hj => ?_, ((Xt.rf _ M).nK _).sI (fun h9 => absurd h9 (Nat.lt_irrefl _)), hx⟩
  rw [sI_self, sb_cpy0 hj, new_Ine M _ hl]
theorem k_copyRange {n : Nat} (hk : (mK M)[v]? = some (.inl (.byte, cap))) (hf : ∀ j, j < cap → fits .byte (.int (mI M v j)) = true) (hx : mX M = true) (hn : n ≤ cap) (hcap : cap ≤ 700) : EvO l jJ7_copyOfRange_39247 2 150 1 700 [.ref v, .int 0, .int (nI n)] M (fun r M' => r = some (.ref (mK M).length) ∧ (mK M')[(mK M).length]? = some (.inl (.byte, n)) ∧ (∀ j, j < n → mI M' (mK M).length j = mI M v j) ∧ Xn M M' ∧ mX M' = true) := by
  refine ev_intro rfl (nb rfl) rfl ?_
  by_cases e : n = cap
  · subst e
    refine g_less (k' := 0 + 1) (n' := 0 + n) (by omega) (by omega) ?_
    refine g_iload_n (pc := 0) dJ7_copyOfRange_39247_0 rfl ?_
    refine g_if_ne (pc := 1) (tgt := 10) dJ7_copyOfRange_39247_1 rfl (fun h1 => absurd h1 ((by decide))) (fun _ => ?_)
    refine g_iload_n (pc := 4) dJ7_copyOfRange_39247_4 rfl ?_
    refine g_aload_n (pc := 5) dJ7_copyOfRange_39247_5 rfl trivial ?_
    refine g_alen_B (pc := 6) dJ7_copyOfRange_39247_6 (hk) ?_
    refine g_icmp_eq (pc := 7) (tgt := 17) dJ7_copyOfRange_39247_7 rfl (fun _ => ?_) (fun h7 => absurd (rfl) h7)
    refine g_aload_n (pc := 17) dJ7_copyOfRange_39247_17 rfl trivial ?_
    refine g_cloneT (pc := 18) (ty := .byte) (t0 := 2) dJ7_copyOfRange_39247_18 wd_x648 wd_x649 wd_x650 wd_x651 wd_x652 (by simp [CX1]) (fun _ => rfl) (fun _ _ _ => rfl) rfl (fun _ _ h => h) hk hf hx (nb rfl) (nb rfl) ?_
    refine g_castA (pc := 21) (t0 := 2) dJ7_copyOfRange_39247_21 wd_x654 (new_c M _ _) (fun _ => rfl) rfl (fun _ _ h => h) ?_
    refine g_areturn (pc := 24) dJ7_copyOfRange_39247_24 rfl (Or.inr ⟨_, rfl⟩) ?_
    exact ⟨_, rfl, rfl, new_c M _ _, (fun j hj => by rw [new_cI]), (Xt.rf _ M).nC _ _, hx⟩
  · refine g_iload_n (pc := 0) dJ7_copyOfRange_39247_0 rfl ?_
    refine g_if_ne (pc := 1) (tgt := 10) dJ7_copyOfRange_39247_1 rfl (fun h1 => absurd h1 ((by decide))) (fun _ => ?_)
    refine g_iload_n (pc := 4) dJ7_copyOfRange_39247_4 rfl ?_
    refine g_aload_n (pc := 5) dJ7_copyOfRange_39247_5 rfl trivial ?_
    refine g_alen_B (pc := 6) dJ7_copyOfRange_39247_6 (hk) ?_
    refine g_icmp_eq (pc := 7) (tgt := 17) dJ7_copyOfRange_39247_7 rfl (fun h7 => absurd h7 ((fun h => e ((nI_eq (by omega) (by omega)).mp h)))) (fun _ => ?_)
    refine g_aload_n (pc := 10) dJ7_copyOfRange_39247_10 rfl trivial ?_
    refine g_iload_n (pc := 11) dJ7_copyOfRange_39247_11 rfl ?_
    refine g_iload_n (pc := 12) dJ7_copyOfRange_39247_12 rfl ?_
    refine g_invS_o (pc := 13) (As := [_, _, _]) dJ7_copyOfRange_39247_13 rfl (k_copyRangeB hk hf hx hn hcap) rfl rfl lk_J7_339 rfl (nb rfl) ⟨nb rfl, nb rfl⟩ rfl (fun v1 M1 hq => ?_)
    obtain ⟨rfl, hq⟩ := hq
    show Go l _ _ _ _ _ _ _ _ ([.ref (mK M).length] : List Value) _ _ _
    refine g_areturn (pc := 16) dJ7_copyOfRange_39247_16 rfl (Or.inr ⟨_, rfl⟩) ?_
    exact ⟨_, rfl, rfl, hq⟩
theorem k_getValue (h : SB M b v cap tx) : EvR l jJ5_getValue_6d5f1 0 0 0 0 [.ref b] M (.inl (some (.ref v))) M := by
  refine ev_intro rfl (nb rfl) rfl ?_
  refine g_aload_n (pc := 0) dJ5_getValue_6d5f1_0 rfl trivial ?_
  refine g_getf (pc := 1) dJ5_getValue_6d5f1_1 fk_J5_15 h.1.1 (fv_arr h.1.2.1) ?_
  refine g_areturn (pc := 4) dJ5_getValue_6d5f1_4 rfl (Or.inr ⟨_, rfl⟩) ?_
  exact ⟨rfl, rfl⟩
theorem k_asbLen (h : SB M b v cap tx) : EvR l jJ5_length_8abf5 0 0 0 0 [.ref b] M (.inl (some (.int (nI tx.length)))) M := by
  refine ev_intro rfl (nb rfl) rfl ?_
  refine g_aload_n (pc := 0) dJ5_length_8abf5_0 rfl trivial ?_
  refine g_getf (pc := 1) (v := .int _) dJ5_length_8abf5_1 fk_J5_79 h.1.1 (fun _ => congrArg Value.int (h.2.1.2.2.2)) ?_
  refine g_ireturn (pc := 4) dJ5_length_8abf5_4 rfl rfl ?_
  exact ⟨rfl, rfl⟩
theorem k_sbLen (h : SB M b v cap tx) : EvR l jJ4_length_8abf5 1 20 0 0 [.ref b] M (.inl (some (.int (nI tx.length)))) M := by
  refine ev_intro rfl (nb rfl) rfl ?_
  refine g_aload_n (pc := 0) dJ4_length_8abf5_0 rfl trivial ?_
  refine g_invSU_r (pc := 1) (As := []) dJ4_length_8abf5_1 rfl (k_asbLen h) rfl rfl h.1.1 rfl rfl lk_J4_343 rfl (nb rfl) ⟨nb rfl, nb rfl⟩ rfl ?_
  refine g_ireturn (pc := 4) dJ4_length_8abf5_4 rfl rfl ?_
  exact ⟨rfl, rfl⟩
theorem k_strNew2 {s : Nat} (h : SB M b v cap tx) (hs : (mK M)[s]? = some (.inr 8)) (h0 : mI M s = fun _ => 0) : EvO l jJ0_init_db425 3 200 1 700 [.ref s, .ref b, .null] M (fun r M' => r = none ∧ (mK M')[s]? = some (.inr 8) ∧ mR M' s 0 = some (mK M).length ∧ mI M' s 1 = 0 ∧ (mK M')[(mK M).length]? = some (.inl (.byte, tx.length)) ∧ (∀ j, j < tx.length → mI M' (mK M).length j = tx.getD j 0) ∧ Xt (fun i => i = s) M M') := by
  have hls := k_lt hs
  have hsv : v ≠ s := fun e => by
    have h9 := h.1.2.2
    rw [e, hs] at h9
    cases h9
  have hsb : b ≠ s := fun e => by
    have h9 := h.1.1
    rw [e, hs] at h9
    cases h9
  refine ev_intro rfl (nb rfl) rfl ?_
  refine g_aload_n (pc := 0) dJ0_init_db425_0 rfl trivial ?_
  refine g_objInit (pc := 1) dJ0_init_db425_1 wd_x1230 wd_121 wd_122 (nb rfl) (nb rfl) ?_
  refine g_aload_n (pc := 4) dJ0_init_db425_4 rfl trivial ?_
  refine g_invP_r (pc := 5) (As := []) dJ0_init_db425_5 rfl (k_getValue h) rfl rfl h.1.1 rfl rfl lk_J0_552 rfl (nb rfl) ⟨nb rfl, nb rfl⟩ rfl ?_
  refine g_astore_n (pc := 8) (lv' := [(0, _), (1, _), (2, _), (3, _)]) dJ0_init_db425_8 trivial (nl rfl) rfl ?_
  refine g_aload_n (pc := 9) dJ0_init_db425_9 rfl trivial ?_
  refine g_invU_r (pc := 10) (As := []) dJ0_init_db425_10 rfl (k_sbLen h) rfl rfl h.1.1 rfl rfl lk_J0_549 rfl (nb rfl) ⟨nb rfl, nb rfl⟩ rfl ?_
  refine g_istore (pc := 13) (lv' := [(0, _), (1, _), (2, _), (3, _), (4, _)]) dJ0_init_db425_13 (nl rfl) rfl ?_
  refine g_aload_n (pc := 15) dJ0_init_db425_15 rfl trivial ?_
  refine g_invP_r (pc := 16) (As := []) dJ0_init_db425_16 rfl (k_sbLatin1 h) rfl rfl h.1.1 rfl rfl lk_J0_1047 rfl (nb rfl) ⟨nb rfl, nb rfl⟩ rfl ?_
  refine g_if_eq (pc := 19) (tgt := 41) dJ0_init_db425_19 rfl (fun h19 => absurd h19 ((by decide))) (fun _ => ?_)
  refine g_aload_n (pc := 22) dJ0_init_db425_22 rfl trivial ?_
  refine g_iconst (pc := 23) (v := 0) dJ0_init_db425_23 rfl ?_
  refine g_putIf (pc := 24) dJ0_init_db425_24 fp_J0_15 ⟨rfl, _, rfl, rfl⟩ hs ⟨rfl, rfl⟩ (fun _ _ _ _ => rfl) ?_
  refine g_aload_n (pc := 27) dJ0_init_db425_27 rfl trivial ?_
  refine g_aload_n (pc := 28) dJ0_init_db425_28 rfl trivial ?_
  refine g_iconst (pc := 29) (v := 0) dJ0_init_db425_29 rfl ?_
  refine g_iload (pc := 30) dJ0_init_db425_30 rfl ?_
  refine g_invS_o (pc := 32) (As := [_, _, _]) dJ0_init_db425_32 rfl (k_copyRange (M := sI M s (fun_set (mI M s) 1 0)) h.1.2.2 (fun j hj => by rw [sI_ne hsv]; exact h.2.2.2.1 j hj) h.2.2.2.2 h.2.1.1 h.2.1.2.1) rfl rfl lk_J0_54 rfl (nb rfl) ⟨nb rfl, nb rfl⟩ rfl (fun v1 M1 hq => ?_)
  obtain ⟨rfl, hk1, hv1, hx1, hX1⟩ := hq
  show Go l _ _ _ _ _ _ _ _ ([.ref (mK M).length, .ref s] : List Value) _ _ _
  have hs1 : (mK M1)[s]? = some (.inr 8) := hx1.k hs
  refine g_putR (pc := 35) dJ0_init_db425_35 fp_J0_9 (fun _ => ⟨rfl, _, rfl, rfl⟩) hs1 (fun _ => ⟨rfl, rfl⟩) (fun _ _ _ _ => rfl) ?_
  refine g_goto (pc := 38) (tgt := 97) dJ0_init_db425_38 rfl ?_
  refine g_return (pc := 97) dJ0_init_db425_97 rfl ?_
  refine ⟨_, rfl, rfl, hs1, ?_, ?_, hk1, fun j hj => ?_, ?_⟩
  · rw [sR_self, fs_self]
  · show mI M1 s 1 = 0
    rw [hx1.I hls id, sI_self, fs_self]
  · show mI M1 (mK M).length j = _
    rw [hv1 j hj, sI_ne hsv]
    exact h.2.2.1 j hj
  · exact (((Xt.rf (fun i => i = s) M).sI (fun _ => rfl)).tr' hx1 (fun i _ h => h.elim)).sR (fun _ => rfl)
theorem k_strNew1 {s : Nat} (h : SB M b v cap tx) (hs : (mK M)[s]? = some (.inr 8)) (h0 : mI M s = fun _ => 0) : EvO l jJ0_init_81219 4 240 1 700 [.ref s, .ref b] M (fun r M' => r = none ∧ (mK M')[s]? = some (.inr 8) ∧ mR M' s 0 = some (mK M).length ∧ mI M' s 1 = 0 ∧ (mK M')[(mK M).length]? = some (.inl (.byte, tx.length)) ∧ (∀ j, j < tx.length → mI M' (mK M).length j = tx.getD j 0) ∧ Xt (fun i => i = s) M M') := by
  refine ev_intro rfl (nb rfl) rfl ?_
  refine g_aload_n (pc := 0) dJ0_init_81219_0 rfl trivial ?_
  refine g_aload_n (pc := 1) dJ0_init_81219_1 rfl trivial ?_
  refine g_aconst_null (pc := 2) dJ0_init_81219_2 ?_
  refine g_invI_o (pc := 3) (As := [_, _]) dJ0_init_81219_3 rfl (k_strNew2 h hs h0) rfl rfl hs rfl rfl lk_J0_489 rfl (nb rfl) ⟨nb rfl, nb rfl⟩ rfl (fun v1 M1 hq => ?_)
  obtain ⟨rfl, hq⟩ := hq
  show Go l _ _ _ _ _ _ _ _ ([] : List Value) _ _ _
  refine g_return (pc := 6) dJ0_init_81219_6 rfl ?_
  exact ⟨_, rfl, rfl, hq⟩
theorem SB.new (h : SB M b v cap tx) (x : Knd) : SB (nK M x) b v cap tx := by
  have h1 := k_lt h.1.1
  have h2 := k_lt h.1.2.2
  refine ⟨⟨new_o M h.1.1, ?_, new_o M h.1.2.2⟩, ⟨h.2.1.1, h.2.1.2.1, ?_, ?_⟩, fun j hj => ?_, fun j hj => ?_, h.2.2.2.2⟩
  · rw [new_Rne M _ h1]
    exact h.1.2.1
  · rw [new_Ine M _ h1]
    exact h.2.1.2.2.1
  · rw [new_Ine M _ h1]
    exact h.2.1.2.2.2
  · rw [new_Ine M _ h2]
    exact h.2.2.1 j hj
  · rw [new_Ine M _ h2]
    exact h.2.2.2.1 j hj
theorem k_toString (h : SB M b v cap tx) (ha : ∀ x ∈ tx, asc x) : EvO l jJ4_toString_0e30d 6 300 2 704 [.ref b] M (fun r M' => ∃ s' v', r = some (.ref s') ∧ ST M' s' v' tx ∧ Xn M M' ∧ mX M' = true) := by
  have hx := h.2.2.2.2
  have hlen : tx.length < 100000 := by have := h.2.1.1; have := h.2.1.2.1; omega
  refine ev_intro rfl (nb rfl) rfl ?_
  refine g_new (pc := 0) (nf := 4) (n := 700) (k := 1) (ci := 8) (ty0 := tyJ0) dJ4_toString_0e30d_0 rfl wd_x1222 wd_x1223 wd_103 inW8 tyJ0_ok (new_df8 _) rfl hx ?_
  refine g_dup (pc := 3) dJ4_toString_0e30d_3 rfl ?_
  refine g_aload_n (pc := 4) dJ4_toString_0e30d_4 rfl trivial ?_
  refine g_invI_o (pc := 5) (As := [_]) dJ4_toString_0e30d_5 rfl (k_strNew1 (h.new (.inr 8)) (new_at M _) (new_I M _)) rfl rfl (new_at M _) rfl rfl lk_J4_137 rfl (nb rfl) ⟨nb rfl, nb rfl⟩ rfl (fun v1 M1 hq => ?_)
  obtain ⟨rfl, h1, h2, h3, h4, h5, h6⟩ := hq
  show Go l _ _ _ _ _ _ _ _ ([.ref (mK M).length] : List Value) _ _ _
  refine g_areturn (pc := 8) dJ4_toString_0e30d_8 rfl (Or.inl ⟨_, rfl⟩) ?_
  exact ⟨_, rfl, _, _, rfl, ⟨h1, h2, h3, h4, h5, hlen, ha⟩, ((Xt.rf _ M).nK _).tr' h6 (fun i hi e => absurd e (Nat.ne_of_lt hi)), h6.2.1.trans hx⟩
end

