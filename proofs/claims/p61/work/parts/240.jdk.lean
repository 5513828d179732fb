/-! the JDK's: a String that was made; the StringBuilder -/
/-- a letter -/
def asc (x : Int32) : Prop := ∃ k, k < 128 ∧ x = nI k
theorem asc_ok : ∀ k, k < 128 → ((nI k &&& 255).toUInt32 % 65536).toInt32 = nI k ∧ narrow FieldType.char (.int (nI k)) = .int (nI k) ∧ fits .byte (.int (nI k)) = true ∧ vp_nar .byte (nI k) = nI k ∧ (nI k).toInt8.toInt32 = nI k ∧ ¬ (255 : Int32) < nI k := by decide +kernel
/-- the text of a String that was made -/
def ST (M : Mem) (s v : Nat) (tx : List Int32) : Prop := (mK M)[s]? = some (.inr 8) ∧ mR M s 0 = some v ∧ mI M s 1 = 0 ∧ (mK M)[v]? = some (.inl (.byte, tx.length)) ∧ (∀ j, j < tx.length → mI M v j = tx.getD j 0) ∧ tx.length < 100000 ∧ ∀ x ∈ tx, asc x
/-- a builder's text -/
def SB (M : Mem) (b v cap : Nat) (tx : List Int32) : Prop := ((mK M)[b]? = some (.inr 9) ∧ mR M b 0 = some v ∧ (mK M)[v]? = some (.inl (.byte, cap))) ∧ (tx.length ≤ cap ∧ cap ≤ 700 ∧ mI M b 1 = 0 ∧ mI M b 3 = nI tx.length) ∧ (∀ j, j < tx.length → mI M v j = tx.getD j 0) ∧ (∀ j, j < cap → fits .byte (.int (mI M v j)) = true) ∧ mX M = true
section
variable {l : Launch} {M : Mem} {s v b cap : Nat} {tx : List Int32}
theorem k_coder (h : ST M s v tx) : EvR l jJ0_coder_7d493 0 0 0 0 [.ref s] M (.inl (some (.int 0))) M := by
  refine ev_intro rfl (nb rfl) rfl ?_
  refine g_compact (pc := 0) dJ0_coder_7d493_0 wd_377 ?_
  refine g_if_eq (pc := 3) (tgt := 13) dJ0_coder_7d493_3 rfl (fun h3 => absurd h3 ((by decide))) (fun _ => ?_)
  refine g_aload_n (pc := 6) dJ0_coder_7d493_6 rfl trivial ?_
  refine g_getf (pc := 7) (v := .int _) dJ0_coder_7d493_7 fk_J0_15 h.1 (fun _ => congrArg Value.int (h.2.2.1)) ?_
  refine g_goto (pc := 10) (tgt := 14) dJ0_coder_7d493_10 rfl ?_
  refine g_ireturn (pc := 14) dJ0_coder_7d493_14 rfl rfl ?_
  exact ⟨rfl, rfl⟩
theorem k_length (h : ST M s v tx) : EvR l jJ0_length_8abf5 1 20 0 0 [.ref s] M (.inl (some (.int (nI tx.length)))) M := by
  refine ev_intro rfl (nb rfl) rfl ?_
  refine g_aload_n (pc := 0) dJ0_length_8abf5_0 rfl trivial ?_
  refine g_getf (pc := 1) dJ0_length_8abf5_1 fk_J0_9 h.1 (fv_arr h.2.1) ?_
  refine g_alen_B (pc := 4) dJ0_length_8abf5_4 (h.2.2.2.1) ?_
  refine g_aload_n (pc := 5) dJ0_length_8abf5_5 rfl trivial ?_
  refine g_invV_r (pc := 6) (As := []) dJ0_length_8abf5_6 rfl (k_coder h) rfl rfl h.1 rfl rfl lk_J0_335 rfl (nb rfl) ⟨nb rfl, nb rfl⟩ rfl ?_
  refine g_ishr (pc := 9) dJ0_length_8abf5_9 ?_
  rw [sb_shr0 (nI tx.length)]
  refine g_ireturn (pc := 10) dJ0_length_8abf5_10 rfl rfl ?_
  exact ⟨rfl, rfl⟩
theorem k_isLatin1 (h : ST M s v tx) : EvR l jJ0_isLatin1_aae02 0 0 0 0 [.ref s] M (.inl (some (.int 1))) M := by
  refine ev_intro rfl (nb rfl) rfl ?_
  refine g_compact (pc := 0) dJ0_isLatin1_aae02_0 wd_377 ?_
  refine g_if_eq (pc := 3) (tgt := 17) dJ0_isLatin1_aae02_3 rfl (fun h3 => absurd h3 ((by decide))) (fun _ => ?_)
  refine g_aload_n (pc := 6) dJ0_isLatin1_aae02_6 rfl trivial ?_
  refine g_getf (pc := 7) (v := .int _) dJ0_isLatin1_aae02_7 fk_J0_15 h.1 (fun _ => congrArg Value.int (h.2.2.1)) ?_
  refine g_if_ne (pc := 10) (tgt := 17) dJ0_isLatin1_aae02_10 rfl (fun h10 => absurd h10 ((by decide))) (fun _ => ?_)
  refine g_iconst (pc := 13) (v := 1) dJ0_isLatin1_aae02_13 rfl ?_
  refine g_goto (pc := 14) (tgt := 18) dJ0_isLatin1_aae02_14 rfl ?_
  refine g_ireturn (pc := 18) dJ0_isLatin1_aae02_18 rfl rfl ?_
  exact ⟨rfl, rfl⟩
theorem k_chr (h : ST M s v tx) {i : Nat} (hi : i < tx.length) : ∃ c, c < 128 ∧ tx.getD i 0 = nI c := by
  have h9 := h.2.2.2.2.2.2 _ (getD_mem hi)
  exact h9
theorem k_charAt1 (h : ST M s v tx) {i : Nat} (hi : i < tx.length) : EvR l jJ1_charAt_3b067 2 43 0 0 [.ref v, .int (nI i)] M (.inl (some (.int (tx.getD i 0)))) M := by
  have hL := h.2.2.2.2.2.1
  obtain ⟨c, hc, ec⟩ := k_chr h hi
  obtain ⟨c1, c2, -⟩ := asc_ok c hc
  have hv := h.2.2.2.1
  refine ev_intro rfl (nb rfl) rfl ?_
  refine g_iload_n (pc := 0) dJ1_charAt_3b067_0 rfl ?_
  refine g_aload_n (pc := 1) dJ1_charAt_3b067_1 rfl trivial ?_
  refine g_alen_B (pc := 2) dJ1_charAt_3b067_2 (hv) ?_
  refine g_invS_r (pc := 3) (As := [_, _]) dJ1_charAt_3b067_3 rfl (t_check0 hi (by omega)) rfl rfl lk_J1_9 rfl (nb rfl) ⟨nb rfl, nb rfl⟩ rfl ?_
  refine g_aload_n (pc := 6) dJ1_charAt_3b067_6 rfl trivial ?_
  refine g_iload_n (pc := 7) dJ1_charAt_3b067_7 rfl ?_
  refine g_baload (pc := 8) dJ1_charAt_3b067_8 hv rfl hi (by omega) ?_
  rw [h.2.2.2.2.1 i hi, ec]
  refine g_sipush (pc := 9) (v := 255) dJ1_charAt_3b067_9 rfl ?_
  refine g_iand (pc := 12) dJ1_charAt_3b067_12 ?_
  refine g_i2c (pc := 13) dJ1_charAt_3b067_13 c1 ?_
  refine g_ireturn (pc := 14) dJ1_charAt_3b067_14 rfl c2 ?_
  exact ⟨rfl, rfl⟩
theorem k_charAt (h : ST M s v tx) {i : Nat} (hi : i < tx.length) : EvR l jJ0_charAt_5068e 3 70 0 0 [.ref s, .int (nI i)] M (.inl (some (.int (tx.getD i 0)))) M := by
  obtain ⟨c, hc, ec⟩ := k_chr h hi
  obtain ⟨c1, c2, -⟩ := asc_ok c hc
  refine ev_intro rfl (nb rfl) rfl ?_
  refine g_aload_n (pc := 0) dJ0_charAt_5068e_0 rfl trivial ?_
  refine g_invV_r (pc := 1) (As := []) dJ0_charAt_5068e_1 rfl (k_isLatin1 h) rfl rfl h.1 rfl rfl lk_J0_492 rfl (nb rfl) ⟨nb rfl, nb rfl⟩ rfl ?_
  refine g_if_eq (pc := 4) (tgt := 16) dJ0_charAt_5068e_4 rfl (fun h4 => absurd h4 ((by decide))) (fun _ => ?_)
  refine g_aload_n (pc := 7) dJ0_charAt_5068e_7 rfl trivial ?_
  refine g_getf (pc := 8) dJ0_charAt_5068e_8 fk_J0_9 h.1 (fv_arr h.2.1) ?_
  refine g_iload_n (pc := 11) dJ0_charAt_5068e_11 rfl ?_
  refine g_invS_r (pc := 12) (As := [_, _]) dJ0_charAt_5068e_12 rfl (k_charAt1 h hi) rfl rfl lk_J0_495 rfl (nb rfl) ⟨nb rfl, nb rfl⟩ rfl ?_
  refine g_ireturn (pc := 15) dJ0_charAt_5068e_15 rfl (by rw [ec]; exact c2) ?_
  exact ⟨rfl, rfl⟩
/-- the builder -/
theorem k_sbLatin1 (h : SB M b v cap tx) : EvR l jJ5_isLatin1_aae02 0 0 0 0 [.ref b] M (.inl (some (.int 1))) M := by
  refine ev_intro rfl (nb rfl) rfl ?_
  refine g_compact (pc := 0) dJ5_isLatin1_aae02_0 wd_x662 ?_
  refine g_if_eq (pc := 3) (tgt := 17) dJ5_isLatin1_aae02_3 rfl (fun h3 => absurd h3 ((by decide))) (fun _ => ?_)
  refine g_aload_n (pc := 6) dJ5_isLatin1_aae02_6 rfl trivial ?_
  refine g_getf (pc := 7) (v := .int _) dJ5_isLatin1_aae02_7 fk_J5_22 h.1.1 (fun _ => congrArg Value.int (h.2.1.2.2.1)) ?_
  refine g_if_ne (pc := 10) (tgt := 17) dJ5_isLatin1_aae02_10 rfl (fun h10 => absurd h10 ((by decide))) (fun _ => ?_)
  refine g_iconst (pc := 13) (v := 1) dJ5_isLatin1_aae02_13 rfl ?_
  refine g_goto (pc := 14) (tgt := 18) dJ5_isLatin1_aae02_14 rfl ?_
  refine g_ireturn (pc := 18) dJ5_isLatin1_aae02_18 rfl rfl ?_
  exact ⟨rfl, rfl⟩
theorem max_nI {a c : Nat} (ha : a < 2147483648) (hc : c < 2147483648) : (if nI a < nI c then nI c else nI a) = nI (max a c) := by
  by_cases h : a < c
  · rw [if_pos (nI_lt h hc), Nat.max_eq_right (by omega)]
  · rw [if_neg (nI_nlt (by omega) ha), Nat.max_eq_left (by omega)]
theorem min_nI {a c : Nat} (ha : a < 2147483648) (hc : c < 2147483648) : (if nI c < nI a then nI c else nI a) = nI (min a c) := by
  by_cases h : c < a
  · rw [if_pos (nI_lt h ha), Nat.min_eq_right (by omega)]
  · rw [if_neg (nI_nlt (by omega) hc), Nat.min_eq_left (by omega)]
theorem k_newLength {a g p : Nat} (h : a + g + p < 100000) (h0 : 0 < a + max g p) : EvR l jJ8_newLength_cabcc 1 20 0 0 [.int (nI a), .int (nI g), .int (nI p)] M (.inl (some (.int (nI (a + max g p))))) M := by
  have hm : a + max g p < 100000 := by have := Nat.max_le.mpr (⟨Nat.le_add_right g p, Nat.le_add_left p g⟩); omega
  refine ev_intro rfl (nb rfl) rfl ?_
  refine g_iload_n (pc := 0) dJ8_newLength_cabcc_0 rfl ?_
  refine g_iload_n (pc := 1) dJ8_newLength_cabcc_1 rfl ?_
  refine g_iload_n (pc := 2) dJ8_newLength_cabcc_2 rfl ?_
  refine g_mmax (pc := 3) dJ8_newLength_cabcc_3 wd_x637 wd_1627 wd_107 wd_1628 (nb rfl) (nb rfl) ?_
  rw [max_nI (by omega) (by omega)]
  refine g_iadd (pc := 6) dJ8_newLength_cabcc_6 ?_
  rw [nI_add a (max g p)]
  refine g_istore_n (pc := 7) (lv' := [(0, _), (1, _), (2, _), (3, _)]) dJ8_newLength_cabcc_7 (nl rfl) rfl ?_
  refine g_iconst (pc := 8) (v := 0) dJ8_newLength_cabcc_8 rfl ?_
  refine g_iload_n (pc := 9) dJ8_newLength_cabcc_9 rfl ?_
  refine g_icmp_ge (pc := 10) (tgt := 21) dJ8_newLength_cabcc_10 rfl (fun h10 => absurd h10 (nI_nle h0 (by omega))) (fun _ => ?_)
  refine g_iload_n (pc := 13) dJ8_newLength_cabcc_13 rfl ?_
  refine g_ldc (pc := 14) dJ8_newLength_cabcc_14 wd_x640 ?_
  refine g_icmp_gt (pc := 16) (tgt := 21) dJ8_newLength_cabcc_16 rfl (fun h16 => absurd h16 (nI_ngt (show a + max g p ≤ 2147483639 by omega) (by decide))) (fun _ => ?_)
  refine g_iload_n (pc := 19) dJ8_newLength_cabcc_19 rfl ?_
  refine g_ireturn (pc := 20) dJ8_newLength_cabcc_20 rfl rfl ?_
  exact ⟨rfl, rfl⟩
theorem k_newCapacity {q : Nat} (h : SB M b v cap tx) (hq : cap < q) (hq2 : q ≤ 340) : EvR l jJ5_newCapacity_0f7a4 2 60 0 0 [.ref b, .int (nI q)] M (.inl (some (.int (nI (max q (2 * cap + 2)))))) M := by
  have hv := h.1.2.2
  have hc := h.2.1.2.2.1
  have hm : max q (2 * cap + 2) < 100000 := by have := Nat.max_le.mpr (⟨Nat.le_add_right q (2 * cap + 2), Nat.le_add_left (2 * cap + 2) q⟩); omega
  refine ev_intro rfl (nb rfl) rfl ?_
  refine g_aload_n (pc := 0) dJ5_newCapacity_0f7a4_0 rfl trivial ?_
  refine g_getf (pc := 1) dJ5_newCapacity_0f7a4_1 fk_J5_15 h.1.1 (fv_arr h.1.2.1) ?_
  refine g_alen_B (pc := 4) dJ5_newCapacity_0f7a4_4 (hv) ?_
  refine g_istore_n (pc := 5) (lv' := [(0, _), (1, _), (2, _)]) dJ5_newCapacity_0f7a4_5 (nl rfl) rfl ?_
  refine g_iload_n (pc := 6) dJ5_newCapacity_0f7a4_6 rfl ?_
  refine g_aload_n (pc := 7) dJ5_newCapacity_0f7a4_7 rfl trivial ?_
  refine g_getf (pc := 8) (v := .int _) dJ5_newCapacity_0f7a4_8 fk_J5_22 h.1.1 (fun _ => congrArg Value.int (hc)) ?_
  refine g_ishl (pc := 11) dJ5_newCapacity_0f7a4_11 ?_
  rw [sb_shl0 (nI q)]
  refine g_istore_n (pc := 12) (lv' := [(0, _), (1, _), (2, _), (3, _)]) dJ5_newCapacity_0f7a4_12 (nl rfl) rfl ?_
  refine g_iload_n (pc := 13) dJ5_newCapacity_0f7a4_13 rfl ?_
  refine g_iload_n (pc := 14) dJ5_newCapacity_0f7a4_14 rfl ?_
  refine g_isub (pc := 15) dJ5_newCapacity_0f7a4_15 ?_
  rw [pk_sub (show cap ≤ q by omega)]
  refine g_istore (pc := 16) (lv' := [(0, _), (1, _), (2, _), (3, _), (4, _)]) dJ5_newCapacity_0f7a4_16 (nl rfl) rfl ?_
  refine g_iload_n (pc := 18) dJ5_newCapacity_0f7a4_18 rfl ?_
  refine g_iload (pc := 19) dJ5_newCapacity_0f7a4_19 rfl ?_
  refine g_iload_n (pc := 21) dJ5_newCapacity_0f7a4_21 rfl ?_
  refine g_iconst (pc := 22) (v := 2) dJ5_newCapacity_0f7a4_22 rfl ?_
  refine g_aload_n (pc := 23) dJ5_newCapacity_0f7a4_23 rfl trivial ?_
  refine g_getf (pc := 24) (v := .int _) dJ5_newCapacity_0f7a4_24 fk_J5_22 h.1.1 (fun _ => congrArg Value.int (hc)) ?_
  refine g_ishl (pc := 27) dJ5_newCapacity_0f7a4_27 ?_
  rw [show (2 : Int32) <<< ((0 : Int32) &&& 31) = nI 2 by decide]
  refine g_iadd (pc := 28) dJ5_newCapacity_0f7a4_28 ?_
  rw [nI_add cap 2]
  refine g_invS_r (pc := 29) (As := [_, _, _]) dJ5_newCapacity_0f7a4_29 rfl (k_newLength (by omega) (by omega)) rfl rfl lk_J5_114 rfl (nb rfl) ⟨nb rfl, nb rfl⟩ rfl ?_
  rw [show cap + max (q - cap) (cap + 2) = max q (2 * cap + 2) by omega]
  refine g_istore (pc := 32) (lv' := [(0, _), (1, _), (2, _), (3, _), (4, _), (5, _)]) dJ5_newCapacity_0f7a4_32 (nl rfl) rfl ?_
  refine g_iload (pc := 34) dJ5_newCapacity_0f7a4_34 rfl ?_
  refine g_ldc (pc := 36) dJ5_newCapacity_0f7a4_36 wd_x644 ?_
  refine g_icmp_ne (pc := 38) (tgt := 51) dJ5_newCapacity_0f7a4_38 rfl (fun _ => ?_) (fun h38 => absurd ((fun e => by have := (nI_eq (by omega) (by decide)).mp (show nI (max q (2 * cap + 2)) = nI 2147483647 from e); omega)) h38)
  refine g_iload (pc := 51) dJ5_newCapacity_0f7a4_51 rfl ?_
  refine g_aload_n (pc := 53) dJ5_newCapacity_0f7a4_53 rfl trivial ?_
  refine g_getf (pc := 54) (v := .int _) dJ5_newCapacity_0f7a4_54 fk_J5_22 h.1.1 (fun _ => congrArg Value.int (hc)) ?_
  refine g_ishr (pc := 57) dJ5_newCapacity_0f7a4_57 ?_
  rw [sb_shr0 (nI (max q (2 * cap + 2)))]
  refine g_ireturn (pc := 58) dJ5_newCapacity_0f7a4_58 rfl rfl ?_
  exact ⟨rfl, rfl⟩
theorem k_copyOf {q : Nat} (hk : (mK M)[v]? = some (.inl (.byte, cap))) (hf : ∀ j, j < cap → fits .byte (.int (mI M v j)) = true) (hx : mX M = true) (hq : cap < q) (hq2 : q ≤ 700) : EvR l jJ7_copyOf_9075b 1 120 1 700 [.ref v, .int (nI q)] M (.inl (some (.ref (mK M).length))) (sI (nK M (.inl (.byte, q))) (mK M).length (va_cpy (mI M v) (fun _ => 0) 0 0 cap)) := by
  have hl := k_lt hk
  refine ev_intro rfl (nb rfl) rfl ?_
  refine g_less (k' := 0 + 1) (n' := 0 + q) (by omega) (by omega) ?_
  refine g_iload_n (pc := 0) dJ7_copyOf_9075b_0 rfl ?_
  refine g_aload_n (pc := 1) dJ7_copyOf_9075b_1 rfl trivial ?_
  refine g_alen_B (pc := 2) dJ7_copyOf_9075b_2 (hk) ?_
  refine g_icmp_ne (pc := 3) (tgt := 14) dJ7_copyOf_9075b_3 rfl (fun _ => ?_) (fun h3 => absurd ((fun e => by have := (nI_eq (by omega) (by omega)).mp e; omega)) h3)
  refine g_iload_n (pc := 14) dJ7_copyOf_9075b_14 rfl ?_
  refine g_newarray_byte (pc := 15) dJ7_copyOf_9075b_15 wd_515 rfl (by omega) hx ?_
  refine g_astore_n (pc := 17) (lv' := [(0, _), (1, _), (2, _)]) dJ7_copyOf_9075b_17 trivial (nl rfl) rfl ?_
  refine g_aload_n (pc := 18) dJ7_copyOf_9075b_18 rfl trivial ?_
  refine g_iconst (pc := 19) (v := 0) dJ7_copyOf_9075b_19 rfl ?_
  refine g_aload_n (pc := 20) dJ7_copyOf_9075b_20 rfl trivial ?_
  refine g_iconst (pc := 21) (v := 0) dJ7_copyOf_9075b_21 rfl ?_
  refine g_aload_n (pc := 22) dJ7_copyOf_9075b_22 rfl trivial ?_
  refine g_alen_B (pc := 23) dJ7_copyOf_9075b_23 (new_o M hk) ?_
  refine g_iload_n (pc := 24) dJ7_copyOf_9075b_24 rfl ?_
  refine g_mmin (pc := 25) dJ7_copyOf_9075b_25 wd_x655 wd_430 wd_107 wd_431 (nb rfl) (nb rfl) ?_
  rw [min_nI (by omega) (by omega), Nat.min_eq_left (by omega)]
  refine g_copyT (pc := 28) (ty := .byte) (t0 := 2) (sp := 0) (dp := 0) dJ7_copyOf_9075b_28 wd_x656 wd_510 wd_509 wd_108 rfl (fun _ => rfl) (fun _ _ _ => rfl) (fun i hi => ?_) (new_o M hk) (new_at M _) rfl rfl rfl (by omega) (by omega) (by omega) (nb rfl) (nb rfl) ?_
  · rw [new_Ine M _ hl, Nat.zero_add]
    exact hf i hi
  rw [new_I, new_Ine M _ hl]
  refine g_aload_n (pc := 31) dJ7_copyOf_9075b_31 rfl trivial ?_
  refine g_areturn (pc := 32) dJ7_copyOf_9075b_32 rfl (Or.inr ⟨_, rfl⟩) ?_
  exact ⟨rfl, rfl⟩
end

