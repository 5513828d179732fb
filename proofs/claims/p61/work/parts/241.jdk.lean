/-! the builder: what append does -/
section
variable {l : Launch} {M : Mem} {s v b cap : Nat} {tx : List Int32}
theorem fit0 : fits .byte (.int (0 : Int32)) = true := by decide
theorem SB.ne (h : SB M b v cap tx) : v ≠ b := fun e => by
  have h1 := h.1.1
  have h2 := h.1.2.2
  rw [e, h1] at h2
  cases h2
theorem SB.grow (h : SB M b v cap tx) {q : Nat} (hq : cap < q) (hq2 : q ≤ 700) : SB (sR (sI (nK M (.inl (.byte, q))) (mK M).length (va_cpy (mI M v) (fun _ => 0) 0 0 cap)) b (fun_set (mR (sI (nK M (.inl (.byte, q))) (mK M).length (va_cpy (mI M v) (fun _ => 0) 0 0 cap)) b) 0 (some (mK M).length))) b (mK M).length q tx := by
  obtain ⟨⟨a1, a2, a3⟩, ⟨b1, b2, b3, b4⟩, c1, d1, e1⟩ := h
  have hlb : b < (mK M).length := k_lt a1
  have hI : ∀ j, mI (sI (nK M (.inl (.byte, q))) (mK M).length (va_cpy (mI M v) (fun _ => 0) 0 0 cap)) b j = mI M b j := fun j => by rw [sI_ne (by omega), new_Ine M _ hlb]
  have hN : mI (sI (nK M (.inl (.byte, q))) (mK M).length (va_cpy (mI M v) (fun _ => 0) 0 0 cap)) (mK M).length = va_cpy (mI M v) (fun _ => 0) 0 0 cap := sI_self _ _ _
  refine ⟨⟨new_o M a1, ?_, new_at M _⟩, ⟨by omega, hq2, (hI 1).trans b3, (hI 3).trans b4⟩, fun j hj => ?_, fun j hj => ?_, e1⟩
  · rw [sR_self, fs_self]
  · show mI (sI (nK M (.inl (.byte, q))) (mK M).length (va_cpy (mI M v) (fun _ => 0) 0 0 cap)) (mK M).length j = _
    rw [hN, sb_cpy0 (by omega)]
    exact c1 j hj
  · show fits .byte (.int (mI (sI (nK M (.inl (.byte, q))) (mK M).length (va_cpy (mI M v) (fun _ => 0) 0 0 cap)) (mK M).length j)) = true
    rw [hN]
    by_cases hc : j < cap
    · rw [sb_cpy0 hc]
      exact d1 j hc
    · rw [pk_cpy_out (by omega)]
      exact fit0
/-- letters written behind the text, and its length -/
theorem SB.put (h : SB M b v cap tx) {sx : List Int32} {g : Nat → Int32} (hg : ∀ j, j < tx.length → g j = mI M v j) (hs : ∀ i, i < sx.length → g (tx.length + i) = sx.getD i 0) (hf : ∀ j, j < cap → fits .byte (.int (g j)) = true) (hl : tx.length + sx.length ≤ cap) : SB (sI (sI M v g) b (fun_set (mI (sI M v g) b) 3 (nI (tx.length + sx.length)))) b v cap (tx ++ sx) := by
  have hne := h.ne
  obtain ⟨⟨a1, a2, a3⟩, ⟨b1, b2, b3, b4⟩, c1, d1, e1⟩ := h
  have hV : mI (sI (sI M v g) b (fun_set (mI (sI M v g) b) 3 (nI (tx.length + sx.length)))) v = g := by rw [sI_ne hne, sI_self]
  have hB : mI (sI (sI M v g) b (fun_set (mI (sI M v g) b) 3 (nI (tx.length + sx.length)))) b = fun_set (mI M b) 3 (nI (tx.length + sx.length)) := by rw [sI_self, sI_ne (Ne.symm hne)]
  refine ⟨⟨a1, a2, a3⟩, ⟨by rw [List.length_append]; exact hl, b2, ?_, ?_⟩, fun j hj => ?_, fun j hj => ?_, e1⟩
  · rw [hB, fs_ne _ _ (by decide)]
    exact b3
  · rw [hB, fs_self, List.length_append]
  · rw [hV]
    rw [List.length_append] at hj
    by_cases h9 : j < tx.length
    · rw [hg j h9, c1 j h9, List.getD_eq_getElem?_getD, List.getD_eq_getElem?_getD, List.getElem?_append_left h9]
    · obtain ⟨i, rfl⟩ : ∃ i, j = tx.length + i := ⟨j - tx.length, by omega⟩
      rw [hs i (by omega), List.getD_eq_getElem?_getD, List.getD_eq_getElem?_getD, List.getElem?_append_right (by omega), Nat.add_sub_cancel_left]
  · rw [hV]
    exact hf j hj
/-- what a builder's call leaves: the builder with a text, all else as it was -/
def SBx (M : Mem) (b v : Nat) (tx : List Int32) (M' : Mem) : Prop := ∃ v' cap', SB M' b v' cap' tx ∧ Xt (fun i => i = b ∨ i = v) M M' ∧ (v' = v ∨ (mK M).length ≤ v')
theorem SBx.tr {M1 M2 : Mem} {v1 : Nat} {t1 t2 : List Int32} (h1 : Xt (fun i => i = b ∨ i = v) M M1) (hv : v1 = v ∨ (mK M).length ≤ v1) (h2 : SBx M1 b v1 t2 M2) : SBx M b v t2 M2 := by
  obtain ⟨v', cap', a, c, d⟩ := h2
  have hl := h1.len
  refine ⟨v', cap', a, h1.tr' c (fun i hi h => ?_), ?_⟩
  · rcases h with h | h
    · exact Or.inl h
    · rcases hv with e | e
      · exact Or.inr (h.trans e)
      · omega
  · rcases d with d | d
    · rcases hv with e | e
      · exact Or.inl (d.trans e)
      · exact Or.inr (by omega)
    · exact Or.inr (by omega)
theorem k_ensure {q : Nat} (h : SB M b v cap tx) (hq2 : q ≤ 340) : EvO l jJ5_ensureCapacityInternal_d00df 3 150 1 700 [.ref b, .int (nI q)] M (fun r M' => r = none ∧ ∃ v' cap', SB M' b v' cap' tx ∧ q ≤ cap' ∧ Xt (fun i => i = b ∨ i = v) M M' ∧ (v' = v ∨ (mK M).length ≤ v')) := by
  have hv := h.1.2.2
  have hc := h.2.1.2.2.1
  have hcap := h.2.1.2.1
  refine ev_intro rfl (nb rfl) rfl ?_
  refine g_aload_n (pc := 0) dJ5_ensureCapacityInternal_d00df_0 rfl trivial ?_
  refine g_getf (pc := 1) dJ5_ensureCapacityInternal_d00df_1 fk_J5_15 h.1.1 (fv_arr h.1.2.1) ?_
  refine g_alen_B (pc := 4) dJ5_ensureCapacityInternal_d00df_4 (hv) ?_
  refine g_aload_n (pc := 5) dJ5_ensureCapacityInternal_d00df_5 rfl trivial ?_
  refine g_getf (pc := 6) (v := .int _) dJ5_ensureCapacityInternal_d00df_6 fk_J5_22 h.1.1 (fun _ => congrArg Value.int (hc)) ?_
  refine g_ishr (pc := 9) dJ5_ensureCapacityInternal_d00df_9 ?_
  rw [sb_shr0 (nI cap)]
  refine g_istore_n (pc := 10) (lv' := [(0, _), (1, _), (2, _)]) dJ5_ensureCapacityInternal_d00df_10 (nl rfl) rfl ?_
  refine g_iload_n (pc := 11) dJ5_ensureCapacityInternal_d00df_11 rfl ?_
  refine g_iload_n (pc := 12) dJ5_ensureCapacityInternal_d00df_12 rfl ?_
  refine g_isub (pc := 13) dJ5_ensureCapacityInternal_d00df_13 ?_
  by_cases hq : cap < q
  · have hmx : max q (2 * cap + 2) ≤ 700 := Nat.max_le.mpr ⟨by omega, by omega⟩
    have hmq : cap < max q (2 * cap + 2) := Nat.lt_of_lt_of_le hq (Nat.le_max_left _ _)
    refine g_if_le (pc := 14) (tgt := 38) dJ5_ensureCapacityInternal_d00df_14 rfl (fun h14 => absurd h14 ((fun h9 => by rw [Int32.le_iff_toInt_le, pk_sub_toInt (by omega) (by omega), Int32.toInt_zero] at h9; omega))) (fun _ => ?_)
    refine g_aload_n (pc := 17) dJ5_ensureCapacityInternal_d00df_17 rfl trivial ?_
    refine g_aload_n (pc := 18) dJ5_ensureCapacityInternal_d00df_18 rfl trivial ?_
    refine g_getf (pc := 19) dJ5_ensureCapacityInternal_d00df_19 fk_J5_15 h.1.1 (fv_arr h.1.2.1) ?_
    refine g_aload_n (pc := 22) dJ5_ensureCapacityInternal_d00df_22 rfl trivial ?_
    refine g_iload_n (pc := 23) dJ5_ensureCapacityInternal_d00df_23 rfl ?_
    refine g_invP_r (pc := 24) (As := [_]) dJ5_ensureCapacityInternal_d00df_24 rfl (k_newCapacity h hq hq2) rfl rfl h.1.1 rfl rfl lk_J5_104 rfl (nb rfl) ⟨nb rfl, nb rfl⟩ rfl ?_
    refine g_aload_n (pc := 27) dJ5_ensureCapacityInternal_d00df_27 rfl trivial ?_
    refine g_getf (pc := 28) (v := .int _) dJ5_ensureCapacityInternal_d00df_28 fk_J5_22 h.1.1 (fun _ => congrArg Value.int (hc)) ?_
    refine g_ishl (pc := 31) dJ5_ensureCapacityInternal_d00df_31 ?_
    rw [sb_shl0 (nI (max q (2 * cap + 2)))]
    refine g_invS_r (pc := 32) (As := [_, _]) dJ5_ensureCapacityInternal_d00df_32 rfl (k_copyOf hv h.2.2.2.1 h.2.2.2.2 hmq hmx) rfl rfl lk_J5_108 rfl (nb rfl) ⟨nb rfl, nb rfl⟩ rfl ?_
    refine g_putR (pc := 35) dJ5_ensureCapacityInternal_d00df_35 fp_J5_15 (fun h => by cases h) (new_o M h.1.1) (fun _ => ⟨rfl, rfl⟩) (fun _ _ _ _ => rfl) ?_
    refine g_return (pc := 38) dJ5_ensureCapacityInternal_d00df_38 rfl ?_
    exact ⟨none, rfl, rfl, _, _, h.grow hmq hmx, Nat.le_max_left _ _, ((Xt.rf _ M).nK _ |>.sI (fun h9 => absurd h9 (Nat.lt_irrefl _)) |>.sR (fun _ => Or.inl rfl)), Or.inr (Nat.le_refl _)⟩
  · refine g_if_le (pc := 14) (tgt := 38) dJ5_ensureCapacityInternal_d00df_14 rfl (fun _ => ?_) (fun h14 => absurd ((by rw [Int32.le_iff_toInt_le, pk_sub_toInt (by omega) (by omega), Int32.toInt_zero]; omega)) h14)
    refine g_return (pc := 38) dJ5_ensureCapacityInternal_d00df_38 rfl ?_
    exact ⟨none, rfl, rfl, _, _, h, by omega, Xt.rf _ M, Or.inl rfl⟩
variable {kS : Nat} {q0 : String × Nat × String × List Int32}
theorem k_inflateIf (h : SB M b v cap tx) (hq9 : strT[kS]? = some q0) : EvR l jJ5_inflateIfNeededFor_a7421 1 60 0 0 [.ref b, .retAddr (2 * kS + 2)] M (.inl none) M := by
  refine ev_intro rfl (nb rfl) rfl ?_
  refine g_compact (pc := 0) dJ5_inflateIfNeededFor_a7421_0 wd_x662 ?_
  refine g_if_eq (pc := 3) (tgt := 21) dJ5_inflateIfNeededFor_a7421_3 rfl (fun h3 => absurd h3 ((by decide))) (fun _ => ?_)
  refine g_aload_n (pc := 6) dJ5_inflateIfNeededFor_a7421_6 rfl trivial ?_
  refine g_getf (pc := 7) (v := .int _) dJ5_inflateIfNeededFor_a7421_7 fk_J5_22 h.1.1 (fun _ => congrArg Value.int (h.2.1.2.2.1)) ?_
  refine g_aload_n (pc := 10) dJ5_inflateIfNeededFor_a7421_10 rfl (isA_s _) ?_
  refine g_invVT_r (pc := 11) (As := []) dJ5_inflateIfNeededFor_a7421_11 rfl (t_coder hq9) rfl rfl (hq9) lk_J5_40 rfl (nb rfl) ⟨nb rfl, nb rfl⟩ rfl ?_
  refine g_icmp_eq (pc := 14) (tgt := 21) dJ5_inflateIfNeededFor_a7421_14 rfl (fun _ => ?_) (fun h14 => absurd (rfl) h14)
  refine g_return (pc := 21) dJ5_inflateIfNeededFor_a7421_21 rfl ?_
  exact ⟨rfl, rfl⟩
theorem str_fit : ∀ q ∈ strT, ∀ x ∈ q.2.2.2, fits .byte (.int x) = true ∧ ∃ k, k < 128 ∧ x = nI k := by
  have h : ∀ q ∈ strT, ∀ x ∈ q.2.2.2, x ∈ (List.range 128).map nI := by decide +kernel
  intro q hq x hx
  obtain ⟨k, hk, rfl⟩ := List.mem_map.mp (h q hq x hx)
  have hk' := List.mem_range.mp hk
  exact ⟨(asc_ok k hk').2.2.1, k, hk', rfl⟩
theorem str_asc (hq9 : strT[kS]? = some q0) : ∀ x ∈ q0.2.2.2, asc x := fun x hx => (str_fit q0 (List.mem_of_getElem? hq9) x hx).2
theorem k_getBytes {n nb9 : Nat} (hq9 : strT[kS]? = some q0) (hk : (mK M)[v]? = some (.inl (.byte, nb9))) (hn : n + q0.2.2.2.length ≤ nb9) (hL : nb9 ≤ 700) : EvR l jJ0_getBytes_840e7 1 60 0 0 [.retAddr (2 * kS + 2), .ref v, .int (nI n), .int 0] M (.inl none) (sI M v (va_cpy (fun j => q0.2.2.2.getD j 0) (mI M v) 0 n q0.2.2.2.length)) := by
  refine ev_intro rfl (nb rfl) rfl ?_
  refine g_aload_n (pc := 0) dJ0_getBytes_840e7_0 rfl (isA_s _) ?_
  refine g_invVT_r (pc := 1) (As := []) dJ0_getBytes_840e7_1 rfl (t_coder hq9) rfl rfl (hq9) lk_J0_335 rfl (nb rfl) ⟨nb rfl, nb rfl⟩ rfl ?_
  refine g_iload_n (pc := 4) dJ0_getBytes_840e7_4 rfl ?_
  refine g_icmp_ne (pc := 5) (tgt := 28) dJ0_getBytes_840e7_5 rfl (fun h5 => absurd h5 ((by decide))) (fun _ => ?_)
  refine g_aload_n (pc := 8) dJ0_getBytes_840e7_8 rfl (isA_s _) ?_
  refine g_strValue (pc := 9) dJ0_getBytes_840e7_9 hq9 wd_1786 ?_
  refine g_iconst (pc := 12) (v := 0) dJ0_getBytes_840e7_12 rfl ?_
  refine g_aload_n (pc := 13) dJ0_getBytes_840e7_13 rfl trivial ?_
  refine g_iload_n (pc := 14) dJ0_getBytes_840e7_14 rfl ?_
  refine g_iload_n (pc := 15) dJ0_getBytes_840e7_15 rfl ?_
  refine g_ishl (pc := 16) dJ0_getBytes_840e7_16 ?_
  rw [sb_shl0 (nI n)]
  refine g_aload_n (pc := 17) dJ0_getBytes_840e7_17 rfl (isA_s _) ?_
  refine g_strValue (pc := 18) dJ0_getBytes_840e7_18 hq9 wd_1786 ?_
  refine g_strLen (pc := 21) dJ0_getBytes_840e7_21 (hq9) ?_
  refine g_copyC (pc := 22) dJ0_getBytes_840e7_22 wd_x718 wd_510 wd_509 wd_108 hq9 (fun j hj => (str_fit q0 (List.mem_of_getElem? hq9) _ (getD_mem hj)).1) hk rfl rfl hn (by omega) (nb rfl) (nb rfl) ?_
  refine g_goto (pc := 25) (tgt := 43) dJ0_getBytes_840e7_25 rfl ?_
  refine g_return (pc := 43) dJ0_getBytes_840e7_43 rfl ?_
  exact ⟨rfl, rfl⟩
theorem k_putStringAt (h : SB M b v cap tx) (hq9 : strT[kS]? = some q0) (hn : tx.length + q0.2.2.2.length ≤ cap) : EvR l jJ5_putStringAt_47b60 2 120 0 0 [.ref b, .int (nI tx.length), .retAddr (2 * kS + 2)] M (.inl none) (sI M v (va_cpy (fun j => q0.2.2.2.getD j 0) (mI M v) 0 tx.length q0.2.2.2.length)) := by
  refine ev_intro rfl (nb rfl) rfl ?_
  refine g_aload_n (pc := 0) dJ5_putStringAt_47b60_0 rfl trivial ?_
  refine g_aload_n (pc := 1) dJ5_putStringAt_47b60_1 rfl (isA_s _) ?_
  refine g_invP_r (pc := 2) (As := [_]) dJ5_putStringAt_47b60_2 rfl (k_inflateIf h hq9) rfl rfl h.1.1 rfl rfl lk_J5_397 rfl (nb rfl) ⟨nb rfl, nb rfl⟩ rfl ?_
  refine g_aload_n (pc := 5) dJ5_putStringAt_47b60_5 rfl (isA_s _) ?_
  refine g_aload_n (pc := 6) dJ5_putStringAt_47b60_6 rfl trivial ?_
  refine g_getf (pc := 7) dJ5_putStringAt_47b60_7 fk_J5_15 h.1.1 (fv_arr h.1.2.1) ?_
  refine g_iload_n (pc := 10) dJ5_putStringAt_47b60_10 rfl ?_
  refine g_aload_n (pc := 11) dJ5_putStringAt_47b60_11 rfl trivial ?_
  refine g_getf (pc := 12) (v := .int _) dJ5_putStringAt_47b60_12 fk_J5_22 h.1.1 (fun _ => congrArg Value.int (h.2.1.2.2.1)) ?_
  refine g_invVT_r (pc := 15) (As := [_, _, _]) dJ5_putStringAt_47b60_15 rfl (k_getBytes hq9 h.1.2.2 hn h.2.1.2.1) rfl rfl (hq9) lk_J5_399 rfl (nb rfl) ⟨nb rfl, nb rfl⟩ rfl ?_
  refine g_return (pc := 18) dJ5_putStringAt_47b60_18 rfl ?_
  exact ⟨rfl, rfl⟩
theorem k_asbS (h : SB M b v cap tx) (hq9 : strT[kS]? = some q0) (hn : tx.length + q0.2.2.2.length ≤ 340) : EvO l jJ5_append_cf1ce 5 200 1 700 [.ref b, .retAddr (2 * kS + 2)] M (fun r M' => r = some (.ref b) ∧ SBx M b v (tx ++ q0.2.2.2) M') := by
  refine ev_intro rfl (nb rfl) rfl ?_
  refine g_aload_n (pc := 0) dJ5_append_cf1ce_0 rfl (isA_s _) ?_
  refine g_ifnonnull (pc := 1) (tgt := 9) dJ5_append_cf1ce_1 rfl (isA_s _) ?_
  refine g_aload_n (pc := 9) dJ5_append_cf1ce_9 rfl (isA_s _) ?_
  refine g_invVT_r (pc := 10) (As := []) dJ5_append_cf1ce_10 rfl (t_length hq9) rfl rfl (hq9) lk_J5_32 rfl (nb rfl) ⟨nb rfl, nb rfl⟩ rfl ?_
  refine g_istore_n (pc := 13) (lv' := [(0, _), (1, _), (2, _)]) dJ5_append_cf1ce_13 (nl rfl) rfl ?_
  refine g_aload_n (pc := 14) dJ5_append_cf1ce_14 rfl trivial ?_
  refine g_aload_n (pc := 15) dJ5_append_cf1ce_15 rfl trivial ?_
  refine g_getf (pc := 16) (v := .int _) dJ5_append_cf1ce_16 fk_J5_79 h.1.1 (fun _ => congrArg Value.int (h.2.1.2.2.2)) ?_
  refine g_iload_n (pc := 19) dJ5_append_cf1ce_19 rfl ?_
  refine g_iadd (pc := 20) dJ5_append_cf1ce_20 ?_
  rw [nI_add]
  refine g_invP_o (pc := 21) (As := [_]) dJ5_append_cf1ce_21 rfl (k_ensure h hn) rfl rfl h.1.1 rfl rfl lk_J5_100 rfl (nb rfl) ⟨nb rfl, nb rfl⟩ rfl (fun v1 M1 hq => ?_)
  obtain ⟨rfl, v', cap', h1, hc1, hx1, hv1⟩ := hq
  have hne := h1.ne
  have hB : mI (sI M1 v' (va_cpy (fun j => q0.2.2.2.getD j 0) (mI M1 v') 0 tx.length q0.2.2.2.length)) b 3 = nI tx.length := by rw [sI_ne (Ne.symm hne)]; exact h1.2.1.2.2.2
  show Go l _ _ _ _ _ _ _ _ ([] : List Value) _ _ _
  refine g_aload_n (pc := 24) dJ5_append_cf1ce_24 rfl trivial ?_
  refine g_aload_n (pc := 25) dJ5_append_cf1ce_25 rfl trivial ?_
  refine g_getf (pc := 26) (v := .int _) dJ5_append_cf1ce_26 fk_J5_79 h1.1.1 (fun _ => congrArg Value.int (h1.2.1.2.2.2)) ?_
  refine g_aload_n (pc := 29) dJ5_append_cf1ce_29 rfl (isA_s _) ?_
  refine g_invP_r (pc := 30) (As := [_, _]) dJ5_append_cf1ce_30 rfl (k_putStringAt h1 hq9 hc1) rfl rfl h1.1.1 rfl rfl lk_J5_208 rfl (nb rfl) ⟨nb rfl, nb rfl⟩ rfl ?_
  refine g_aload_n (pc := 33) dJ5_append_cf1ce_33 rfl trivial ?_
  refine g_dup (pc := 34) dJ5_append_cf1ce_34 rfl ?_
  refine g_getf (pc := 35) (v := .int _) dJ5_append_cf1ce_35 fk_J5_79 h1.1.1 (fun _ => congrArg Value.int (hB)) ?_
  refine g_iload_n (pc := 38) dJ5_append_cf1ce_38 rfl ?_
  refine g_iadd (pc := 39) dJ5_append_cf1ce_39 ?_
  rw [nI_add]
  refine g_putI (pc := 40) dJ5_append_cf1ce_40 fp_J5_79 h1.1.1 ⟨rfl, rfl⟩ (fun _ _ _ _ => rfl) ?_
  refine g_aload_n (pc := 43) dJ5_append_cf1ce_43 rfl trivial ?_
  refine g_areturn (pc := 44) dJ5_append_cf1ce_44 rfl (Or.inl ⟨_, rfl⟩) ?_
  refine ⟨_, rfl, rfl, v', cap', ?_, ?_, hv1⟩
  · exact h1.put (fun j hj => pk_cpy_out (Or.inl hj)) (fun i hi => by rw [pk_cpy_in (by omega) (by omega), Nat.zero_add, Nat.add_sub_cancel_left]) (fun j hj => by
      by_cases h9 : tx.length ≤ j ∧ j < tx.length + q0.2.2.2.length
      · rw [pk_cpy_in h9.1 h9.2]
        exact (str_fit q0 (List.mem_of_getElem? hq9) _ (getD_mem (by omega))).1
      · rw [pk_cpy_out (by omega)]
        exact h1.2.2.2.1 j hj) (by omega)
  · exact (hx1.sI (fun h9 => by rcases hv1 with e | e; exact Or.inr e; omega)).sI (fun _ => Or.inl rfl)
theorem k_sbS (h : SB M b v cap tx) (hq9 : strT[kS]? = some q0) (hn : tx.length + q0.2.2.2.length ≤ 340) : EvO l jJ4_append_15ec4 6 230 1 700 [.ref b, .retAddr (2 * kS + 2)] M (fun r M' => r = some (.ref b) ∧ SBx M b v (tx ++ q0.2.2.2) M') := by
  refine ev_intro rfl (nb rfl) rfl ?_
  refine g_aload_n (pc := 0) dJ4_append_15ec4_0 rfl trivial ?_
  refine g_aload_n (pc := 1) dJ4_append_15ec4_1 rfl (isA_s _) ?_
  refine g_invSU_o (pc := 2) (As := [_]) dJ4_append_15ec4_2 rfl (k_asbS h hq9 hn) rfl rfl h.1.1 rfl rfl lk_J4_29 rfl (nb rfl) ⟨nb rfl, nb rfl⟩ rfl (fun v1 M1 hq => ?_)
  obtain ⟨rfl, hq⟩ := hq
  show Go l _ _ _ _ _ _ _ _ ([.ref b] : List Value) _ _ _
  refine g_pop (pc := 5) dJ4_append_15ec4_5 rfl ?_
  refine g_aload_n (pc := 6) dJ4_append_15ec4_6 rfl trivial ?_
  refine g_areturn (pc := 7) dJ4_append_15ec4_7 rfl (Or.inl ⟨_, rfl⟩) ?_
  exact ⟨_, rfl, rfl, hq⟩
end

