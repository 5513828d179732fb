/-! String constants: a call on one -/
section
variable {l : Launch} {J : Jm} {F L MC MS : Nat} {Q : Res → Mem → Prop} {pc : Nat} {lv : List (Nat × Value)} {st : List Value} {k n : Nat} {M : Mem}
theorem g_invVT {ix nA F' L' mc' ms' : Nat} {J' : Jm} {As rest : List Value} {Q' : Res → Mem → Prop} {kS : Nat} {q0 : String × Nat × String × List Int32} (hd : decode J.2.1 pc = .ok (.invokevirtual ix, 3)) (hlk : LkV J.1.cls ix J' nA) (hn : As.length = nA) (hcat : (rest.map fun v => v.category).sum ≤ 8) (hF : F' + 1 ≤ F ∧ 8 + (J'.2.2.1 + 11) + L' ≤ L) (hE : Ev l J' F' L' mc' ms' (.retAddr (2 * kS + 2) :: As) M Q') (hst : st = As.reverse ++ .retAddr (2 * kS + 2) :: rest) (hk : strT[kS]? = some q0) (hq0 : "java/lang/String" = J'.1.cls) (hh : J.2.2.2.2 = [])
    (kk : ∀ v M', Q' (.inl v) M' → Go l J F L MC MS Q (pc + 3) lv (v.toList ++ rest) k n M') (kx : ∀ E M', Q' (.inr E) M' → Q (.inr E) M') : Go l J F L MC MS Q pc lv st (k + mc') (n + ms') M := by
  subst hst
  intro p e s m args below meth c G H locs cells slots ls hX hC hR hS hl hc hs
  have hts := hX.1.2.2.2.2
  have eS : cv G (.retAddr (2 * kS + 2)) = .ref (gSK G kS) := by show (if 2 * kS % 2 = 0 then _ else _) = _; rw [if_pos (by omega), show 2 * kS / 2 = kS by omega]
  have hrun := vx_runV (As := As.map (cv G)) (rest := rest.map (cv G)) (e := e) (below := below) (meth := meth) (g := F0 m pc ls ((As.reverse ++ .retAddr (2 * kS + 2) :: rest).map (cv G))) (locs := locs) (cells := cells) (slots := slots) (H := H) (b := gSK G kS) hX.1 (hE G) ⟨lk_B hlk.1 hts hF, hts _ hlk.2.1, hts _ hlk.2.2⟩
    ⟨blind G _ l M, by have := vk_recv (i := 0) (hC.2.2.2.2.2.1 kS _ hk).2 (by decide) hS; rw [hq0] at this; exact this, fun U hU hW => ⟨by rw [List.map_cons, eS], ctx_call hC hS hU hW, by rw [hU]; exact hR⟩⟩
    rfl (by rw [List.length_map]; exact hn) hl.1 (by show (List.map (cv G) _) = _; rw [List.map_append, List.map_reverse, List.map_cons, eS]) (by show 2 * 0 + _ ≤ 8; rw [cv_cats]; omega) hd ⟨by show cells + mc' ≤ MC; omega, by show slots + ms' ≤ MS; omega⟩
  refine vx_go (hrun) hS (fun v M' H1 locs1 hq hR1 hS1 => ?_) (fun E ce q9 M' H1 locs1 hq hR1 hS1 h5 h6 h7 => ?_)
  · have h1 := kk v M' hq p e s m args below meth c G H1 locs1 (cells + mc') (slots + ms') ls hX hC hR1 hS1 hl (by omega) (by omega)
    rw [List.map_append] at h1
    cases v <;> exact h1
  · exact vx_out (by rw [hX.2.2.2.1, hh]; intro x hx; cases hx) hX.2.2.1 h5 h6 h7 (fun t ht _ => ⟨⟨M', kx E M' hq, by rw [ht]; exact hR1⟩, hS1.F ht⟩) hS1.2.2 (by omega) (by omega)
theorem g_invVT_r {ix nA F' L' mc' ms' : Nat} {J' : Jm} {As rest : List Value} {kS : Nat} {q0 : String × Nat × String × List Int32} {k0 n0 : Nat} {v : Option Value} {M' : Mem} (hd : decode J.2.1 pc = .ok (.invokevirtual ix, 3)) (hst : st = As.reverse ++ .retAddr (2 * kS + 2) :: rest) (hE : EvR l J' F' L' mc' ms' (.retAddr (2 * kS + 2) :: As) M (.inl v) M') (hk9 : k0 = k + mc') (hn9 : n0 = n + ms') (hk : strT[kS]? = some q0) (hlk : LkV J.1.cls ix J' nA) (hn : As.length = nA) (hcat : (rest.map fun v => v.category).sum ≤ 8) (hF : F' + 1 ≤ F ∧ 8 + (J'.2.2.1 + 11) + L' ≤ L) (hh : J.2.2.2.2 = []) (kk : Go l J F L MC MS Q (pc + 3) lv (v.toList ++ rest) k n M') (hq0 : "java/lang/String" = J'.1.cls := by rfl) : Go l J F L MC MS Q pc lv st k0 n0 M := by
  subst hk9; subst hn9
  exact g_invVT hd hlk hn hcat hF hE hst hk hq0 hh (fun v1 M1 h => by obtain ⟨h1, h2⟩ := h; cases h1; subst h2; exact kk) (fun E M1 h => by cases h.1)
end
theorem i_shr0 (x : Int32) : x >>> (0 : Int32) = x := by
  apply Int32.toBitVec_inj.mp
  simp
theorem getD_mem {xs : List Int32} {i : Nat} (h : i < xs.length) : xs.getD i 0 ∈ xs := by
  rw [List.getD_eq_getElem?_getD, List.getElem?_eq_getElem h]; exact List.getElem_mem h
theorem str_ok : ∀ q ∈ strT, q.2.2.2.length < 256 ∧ ∀ x ∈ q.2.2.2, ((x &&& 255).toUInt32 % 65536).toInt32 = x ∧ narrow FieldType.char (.int x) = .int x := by decide +kernel
theorem str_len {kS : Nat} {q0 : String × Nat × String × List Int32} (hq9 : strT[kS]? = some q0) : q0.2.2.2.length < 256 := (str_ok q0 (List.mem_of_getElem? hq9)).1
theorem str_chr {kS i : Nat} {q0 : String × Nat × String × List Int32} (hq9 : strT[kS]? = some q0) (hi : i < q0.2.2.2.length) : ((q0.2.2.2.getD i 0 &&& 255).toUInt32 % 65536).toInt32 = q0.2.2.2.getD i 0 ∧ narrow FieldType.char (.int (q0.2.2.2.getD i 0)) = .int (q0.2.2.2.getD i 0) := (str_ok q0 (List.mem_of_getElem? hq9)).2 _ (getD_mem hi)
theorem isA_s (k : Nat) : isA (.retAddr (2 * k + 2)) := by show _ ≠ 1; omega
theorem isA_v (k : Nat) : isA (.retAddr (2 * k + 3)) := by show _ ≠ 1; omega
section
variable {l : Launch} {M : Mem} {kS : Nat} {q0 : String × Nat × String × List Int32}
theorem t_coder (hq9 : strT[kS]? = some q0) : EvR l jJ0_coder_7d493 0 0 0 0 [.retAddr (2 * kS + 2)] M (.inl (some (.int 0))) M := by
  refine ev_intro rfl (nb rfl) rfl ?_
  refine g_compact (pc := 0) dJ0_coder_7d493_0 wd_377 ?_
  refine g_if_eq (pc := 3) (tgt := 13) dJ0_coder_7d493_3 rfl (fun h3 => absurd h3 ((by decide))) (fun _ => ?_)
  refine g_aload_n (pc := 6) dJ0_coder_7d493_6 rfl (isA_s _) ?_
  refine g_strCoder (pc := 7) dJ0_coder_7d493_7 hq9 wd_1787 ?_
  refine g_goto (pc := 10) (tgt := 14) dJ0_coder_7d493_10 rfl ?_
  refine g_ireturn (pc := 14) dJ0_coder_7d493_14 rfl rfl ?_
  exact ⟨rfl, rfl⟩
theorem t_length (hq9 : strT[kS]? = some q0) : EvR l jJ0_length_8abf5 1 20 0 0 [.retAddr (2 * kS + 2)] M (.inl (some (.int (nI q0.2.2.2.length)))) M := by
  refine ev_intro rfl (nb rfl) rfl ?_
  refine g_aload_n (pc := 0) dJ0_length_8abf5_0 rfl (isA_s _) ?_
  refine g_strValue (pc := 1) dJ0_length_8abf5_1 hq9 wd_1786 ?_
  refine g_strLen (pc := 4) dJ0_length_8abf5_4 (hq9) ?_
  refine g_aload_n (pc := 5) dJ0_length_8abf5_5 rfl (isA_s _) ?_
  refine g_invVT_r (pc := 6) (As := []) dJ0_length_8abf5_6 rfl (t_coder hq9) rfl rfl (hq9) lk_J0_335 rfl (nb rfl) ⟨nb rfl, nb rfl⟩ rfl ?_
  refine g_ishr (pc := 9) dJ0_length_8abf5_9 ?_
  refine g_ireturn (pc := 10) dJ0_length_8abf5_10 rfl rfl ?_
  exact ⟨by rw [show (0 : Int32) &&& 31 = 0 by decide, i_shr0], rfl⟩
theorem t_isLatin1 (hq9 : strT[kS]? = some q0) : EvR l jJ0_isLatin1_aae02 0 0 0 0 [.retAddr (2 * kS + 2)] M (.inl (some (.int 1))) M := by
  refine ev_intro rfl (nb rfl) rfl ?_
  refine g_compact (pc := 0) dJ0_isLatin1_aae02_0 wd_377 ?_
  refine g_if_eq (pc := 3) (tgt := 17) dJ0_isLatin1_aae02_3 rfl (fun h3 => absurd h3 ((by decide))) (fun _ => ?_)
  refine g_aload_n (pc := 6) dJ0_isLatin1_aae02_6 rfl (isA_s _) ?_
  refine g_strCoder (pc := 7) dJ0_isLatin1_aae02_7 hq9 wd_1787 ?_
  refine g_if_ne (pc := 10) (tgt := 17) dJ0_isLatin1_aae02_10 rfl (fun h10 => absurd h10 ((by decide))) (fun _ => ?_)
  refine g_iconst (pc := 13) (v := 1) dJ0_isLatin1_aae02_13 rfl ?_
  refine g_goto (pc := 14) (tgt := 18) dJ0_isLatin1_aae02_14 rfl ?_
  refine g_ireturn (pc := 18) dJ0_isLatin1_aae02_18 rfl rfl ?_
  exact ⟨rfl, rfl⟩
theorem t_check3 {i len : Nat} (h : i < len) (hL : len < 2147483648) : EvR l jJ3_checkIndex_8e157 0 0 0 0 [.int (nI i), .int (nI len), .retAddr 1] M (.inl (some (.int (nI i)))) M := by
  refine ev_intro rfl (nb rfl) rfl ?_
  refine g_iload_n (pc := 0) dJ3_checkIndex_8e157_0 rfl ?_
  refine g_if_lt (pc := 1) (tgt := 9) dJ3_checkIndex_8e157_1 rfl (fun h1 => absurd h1 (nI_pos (by omega))) (fun _ => ?_)
  refine g_iload_n (pc := 4) dJ3_checkIndex_8e157_4 rfl ?_
  refine g_iload_n (pc := 5) dJ3_checkIndex_8e157_5 rfl ?_
  refine g_icmp_lt (pc := 6) (tgt := 16) dJ3_checkIndex_8e157_6 rfl (fun _ => ?_) (fun h6 => absurd (nI_gt h hL) h6)
  refine g_iload_n (pc := 16) dJ3_checkIndex_8e157_16 rfl ?_
  refine g_ireturn (pc := 17) dJ3_checkIndex_8e157_17 rfl rfl ?_
  exact ⟨rfl, rfl⟩
theorem t_check0 {i len : Nat} (h : i < len) (hL : len < 2147483648) : EvR l jJ0_checkIndex_df160 1 22 0 0 [.int (nI i), .int (nI len)] M (.inl none) M := by
  refine ev_intro rfl (nb rfl) rfl ?_
  refine g_iload_n (pc := 0) dJ0_checkIndex_df160_0 rfl ?_
  refine g_iload_n (pc := 1) dJ0_checkIndex_df160_1 rfl ?_
  refine g_formatter (pc := 2) dJ0_checkIndex_df160_2 wd_393 ?_
  refine g_invS_r (pc := 5) (As := [_, _, _]) dJ0_checkIndex_df160_5 rfl (t_check3 h hL) rfl rfl lk_J0_1059 rfl (nb rfl) ⟨nb rfl, nb rfl⟩ rfl ?_
  refine g_pop (pc := 8) dJ0_checkIndex_df160_8 rfl ?_
  refine g_return (pc := 9) dJ0_checkIndex_df160_9 rfl ?_
  exact ⟨rfl, rfl⟩
theorem t_charAt1 {i : Nat} (hq9 : strT[kS]? = some q0) (hi : i < q0.2.2.2.length) : EvR l jJ1_charAt_3b067 2 43 0 0 [.retAddr (2 * kS + 3), .int (nI i)] M (.inl (some (.int (q0.2.2.2.getD i 0)))) M := by
  have hL := str_len hq9
  obtain ⟨c1, c2⟩ := str_chr hq9 hi
  refine ev_intro rfl (nb rfl) rfl ?_
  refine g_iload_n (pc := 0) dJ1_charAt_3b067_0 rfl ?_
  refine g_aload_n (pc := 1) dJ1_charAt_3b067_1 rfl (isA_v _) ?_
  refine g_strLen (pc := 2) dJ1_charAt_3b067_2 (hq9) ?_
  refine g_invS_r (pc := 3) (As := [_, _]) dJ1_charAt_3b067_3 rfl (t_check0 hi (by omega)) rfl rfl lk_J1_9 rfl (nb rfl) ⟨nb rfl, nb rfl⟩ rfl ?_
  refine g_aload_n (pc := 6) dJ1_charAt_3b067_6 rfl (isA_v _) ?_
  refine g_iload_n (pc := 7) dJ1_charAt_3b067_7 rfl ?_
  refine g_strByte (pc := 8) dJ1_charAt_3b067_8 hq9 rfl hi (by omega) ?_
  generalize q0.2.2.2.getD i 0 = x at *
  refine g_sipush (pc := 9) (v := 255) dJ1_charAt_3b067_9 rfl ?_
  refine g_iand (pc := 12) dJ1_charAt_3b067_12 ?_
  refine g_i2c (pc := 13) dJ1_charAt_3b067_13 c1 ?_
  refine g_ireturn (pc := 14) dJ1_charAt_3b067_14 rfl c2 ?_
  exact ⟨rfl, rfl⟩
theorem t_charAt {i : Nat} (hq9 : strT[kS]? = some q0) (hi : i < q0.2.2.2.length) : EvR l jJ0_charAt_5068e 3 70 0 0 [.retAddr (2 * kS + 2), .int (nI i)] M (.inl (some (.int (q0.2.2.2.getD i 0)))) M := by
  obtain ⟨c1, c2⟩ := str_chr hq9 hi
  refine ev_intro rfl (nb rfl) rfl ?_
  refine g_aload_n (pc := 0) dJ0_charAt_5068e_0 rfl (isA_s _) ?_
  refine g_invVT_r (pc := 1) (As := []) dJ0_charAt_5068e_1 rfl (t_isLatin1 hq9) rfl rfl (hq9) lk_J0_492 rfl (nb rfl) ⟨nb rfl, nb rfl⟩ rfl ?_
  refine g_if_eq (pc := 4) (tgt := 16) dJ0_charAt_5068e_4 rfl (fun h4 => absurd h4 ((by decide))) (fun _ => ?_)
  refine g_aload_n (pc := 7) dJ0_charAt_5068e_7 rfl (isA_s _) ?_
  refine g_strValue (pc := 8) dJ0_charAt_5068e_8 hq9 wd_1786 ?_
  refine g_iload_n (pc := 11) dJ0_charAt_5068e_11 rfl ?_
  refine g_invS_r (pc := 12) (As := [_, _]) dJ0_charAt_5068e_12 rfl (t_charAt1 hq9 hi) rfl rfl lk_J0_495 rfl (nb rfl) ⟨nb rfl, nb rfl⟩ rfl ?_
  refine g_ireturn (pc := 15) dJ0_charAt_5068e_15 rfl c2 ?_
  exact ⟨rfl, rfl⟩
end
