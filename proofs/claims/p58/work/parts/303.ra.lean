/-! the reference: bytes put, output, snapshots -/
section
variable {l : Launch} {M : Mem} {n c : Nat} {A : Nat → Nat → Int32}
theorem shI_n : ∀ k, k < 8 → shI k = nI (56 - 8 * k) ∧ 8 * (7 - nI k) = nI (56 - 8 * k) := by decide +kernel
theorem ush64 : ∀ c, c < 64 → ((((nI c).toInt64.toUInt64 &&& Int64.toUInt64 63)).mod 64).toBitVec.toNat = c := by decide +kernel
theorem m255 : ∀ i, i < 64 → hl 255 i = decide (i < 8) := by decide +kernel
theorem byt_eq (x : Int64) {k : Nat} (hk : k < 8) : x >>> ((nI (56 - 8 * k)).toInt64 &&& 63) &&& 255 = btX x k := hl_ext fun i hi => by
  unfold btX
  rw [(shI_n k hk).1, hl_and, hl_and, hl_shr _ (by omega) i hi, m255 i hi]
  by_cases h : i < 8
  · have e : hl (x.toUInt64 >>> ((nI (56 - 8 * k)).toInt64.toUInt64 &&& Int64.toUInt64 63)).toInt64 i = hl x (56 - 8 * k + i) := by
      unfold hl
      show (x.toBitVec >>> ((((nI (56 - 8 * k)).toInt64.toUInt64 &&& Int64.toUInt64 63)).mod 64).toBitVec.toNat).getLsbD i = _
      rw [ush64 _ (by omega), BitVec.getLsbD_ushiftRight]
    rw [e, if_pos (by omega)]
  · simp [h]
theorem btX_lt (x : Int64) (k : Nat) : (btX x k).toBitVec.toNat < 256 := by
  unfold btX
  rw [Int64.toBitVec_and, BitVec.toNat_and]
  exact Nat.lt_of_le_of_lt Nat.and_le_right (by decide)
theorem bI_n (x : Int64) (k : Nat) : ∃ j, j < 256 ∧ bI x k = nI j ∧ btX x k = lN j := by
  have h := btX_lt x k
  have e : btX x k = lN (btX x k).toBitVec.toNat := Int64.toInt_inj.mp (by
    rw [lN_toInt (by omega)]
    show (btX x k).toBitVec.toInt = _
    rw [BitVec.toInt_eq_toNat_of_lt (by omega)])
  refine ⟨(btX x k).toBitVec.toNat, h, ?_, e⟩
  unfold bI
  generalize (btX x k).toBitVec.toNat = j at *
  rw [e, lN_32 (by omega)]
theorem b_zero : ∀ j, j < 256 → ((nI j = 0 ↔ j = 0) ∧ (lN j = 0 ↔ j = 0)) := by decide +kernel
theorem cmp_bI (x : Int64) (k : Nat) : lg_cmp (btX x k) 0 = 0 ↔ bI x k = 0 := by
  obtain ⟨j, h1, h2, h3⟩ := bI_n x k
  rw [lg_cmp_eq, h2, h3, (b_zero j h1).1, (b_zero j h1).2]
def sx (v : Int32) : Int32 := v.toInt8.toInt32
theorem sx_nar : ∀ j, j < 256 → vp_nar .byte (sx (nI j)) = sx (nI j) ∧ sx (nI j) &&& 255 = nI j := by decide +kernel
def mrB (x : Int64) : Nat → Nat
  | 0 => 0
  | k + 1 => if bI x k = 0 then mrB x k else mrB x k + 1
theorem mrB_n (x : Int64) : ∀ k, mrN x k = mrB x k
  | 0 => rfl
  | k + 1 => by
    rw [mrN, mrB, mrB_n x k]
    by_cases h : bI x k = 0
    · rw [if_pos h, if_pos ((cmp_bI x k).mpr h)]
    · rw [if_neg h, if_neg (fun q => h ((cmp_bI x k).mp q))]
theorem mrB_le (x : Int64) (k : Nat) : mrB x k ≤ k := by rw [← mrB_n]; exact mrN_le x k
def apB (len : Nat) (T : Nat → Int32) (x : Int64) : Nat → Nat × (Nat → Int32)
  | 0 => (len, T)
  | k + 1 => if bI x k = 0 then apB len T x k else ((apB len T x k).1 + 1, fun_set (apB len T x k).2 (apB len T x k).1 (sx (bI x k)))
theorem apB_1 (len : Nat) (T : Nat → Int32) (x : Int64) : ∀ k, (apB len T x k).1 = len + mrB x k
  | 0 => rfl
  | k + 1 => by
    rw [apB, mrB]
    by_cases h : bI x k = 0
    · rw [if_pos h, if_pos h]; exact apB_1 len T x k
    · rw [if_neg h, if_neg h]; simp only; rw [apB_1 len T x k]; omega
def agM (M : Mem) (q : Nat × (Nat → Int32)) : Mem := pI (sI M 204 q.2) 198 8 (nI q.1)
theorem agM_8 (q : Nat × (Nat → Int32)) : mI (agM M q) 198 8 = nI q.1 := pI_self (sI M 204 q.2) 198 8 _
theorem agM_t (q : Nat × (Nat → Int32)) : mI (agM M q) 204 = q.2 := (pI_i (M := sI M 204 q.2) (by decide)).trans (sI_self M 204 _)
theorem agM_id {len : Nat} (h : mI M 198 8 = nI len) : M = agM M (len, mI M 204) := by
  refine mem_extI rfl rfl rfl rfl rfl rfl (fun i => ?_)
  simp only [agM, sI, mI, pI]
  by_cases i1 : i = 198
  · subst i1; funext j
    by_cases j1 : j = 8
    · subst j1; simp only [fun_set]; exact h
    · simp [fun_set, j1]
  · by_cases i2 : i = 204
    · subst i2; simp [fun_set]
    · simp [fun_set, i1, i2]
theorem agM_st {q : Nat × (Nat → Int32)} {x : Int32} : pI (sI (agM M q) 204 (fun_set (mI (agM M q) 204) q.1 x)) 198 8 (nI (q.1 + 1)) = agM M (q.1 + 1, fun_set q.2 q.1 x) := by
  rw [agM_t]
  refine mem_extI rfl rfl rfl rfl rfl rfl (fun i => ?_)
  simp only [agM, sI, mI, pI]
  by_cases i1 : i = 198
  · subst i1; funext j
    by_cases j1 : j = 8
    · subst j1; simp [fun_set]
    · simp [fun_set, j1]
  · by_cases i2 : i = 204
    · subst i2; simp [fun_set]
    · simp [fun_set, i1, i2]
theorem r_byteOf {x : Int64} {k : Nat} (hk : k < 8) : EvR l jX7_byteOf 0 0 0 0 [.long x, .int (nI k)] M (.inl (some (.int (bI x k)))) M := by
  refine ev_intro rfl (nb rfl) rfl ?_
  refine g_lload_n (pc := 0) dX7_byteOf_0 rfl ?_
  refine g_bipush (pc := 1) (v := 8) dX7_byteOf_1 rfl ?_
  refine g_bipush (pc := 3) (v := 7) dX7_byteOf_3 rfl ?_
  refine g_iload_n (pc := 5) dX7_byteOf_5 rfl ?_
  refine g_isub (pc := 6) dX7_byteOf_6 ?_
  refine g_imul (pc := 7) dX7_byteOf_7 ?_
  rw [(shI_n k hk).2]
  refine g_lshr (pc := 8) dX7_byteOf_8 rfl ?_
  refine g_ldc2 (pc := 9) dX7_byteOf_9 wd_1304 ?_
  refine g_land (pc := 12) dX7_byteOf_12 ?_
  rw [byt_eq x hk]
  refine g_l2i (pc := 13) dX7_byteOf_13 rfl ?_
  refine g_ireturn (pc := 14) dX7_byteOf_14 rfl rfl ?_
  exact ⟨rfl, rfl⟩
def agV (len : Nat) (x : Int64) : Int32 := if 600 < len + mrB x 8 then -2 else nI (len + mrB x 8)
def agE (M : Mem) (len : Nat) (x : Int64) : Mem := if 600 < len + mrB x 8 then thr M 0 else agM (thr M 0) (apB len (mI M 204) x 8)
theorem n_append {x : Int64} {len : Nat} (hS : Shp M) (hl : mI M 198 8 = nI len) (hL : len ≤ 600) : EvR l jX7_append 4 160 0 0 [.ref 198, .long x] M (.inl (some (.int (agV len x)))) (agE M len x) := by
  have hm := mrB_le x 8
  have hS1 : Shp (thr M 0) := hS
  have e0 : pI M 198 6 0 = thr M 0 := rfl
  have hl1 : mI (thr M 0) 198 8 = nI len := (pI_k (by decide)).trans hl
  have hT : mI (thr M 0) 204 = mI M 204 := pI_i (by decide)
  unfold agE
  rw [← hT]
  generalize thr M 0 = M1 at *
  have hB : len + mrB x 8 ≤ 600 → Go l jX7_append 4 160 0 0 (fun r' M9 => r' = .inl (some (.int (nI (len + mrB x 8)))) ∧ M9 = agM M1 (apB len (mI M1 204) x 8)) 55 [(0, .ref 198), (1, .long x)] [] 0 0 M1 := by
    intro hlt
    refine g_iconst (pc := 55) (v := 0) dX7_append_55 rfl ?_
    refine g_istore (pc := 56) (lv' := [(0, _), (1, _), (4, _)]) dX7_append_56 (nl rfl) rfl ?_
    refine go_loop (pc := 58) 8 (fun i => [(0, .ref 198), (1, .long x), (4, .int (nI i))]) (fun i => agM M1 (apB len (mI M1 204) x i)) ⟨rfl, rfl, rfl, trivial⟩ (agM_id hl1) ?_ ?_
    · intro i hi ih
      have a1 := apB_1 len (mI M1 204) x i
      have a2 := apB_1 len (mI M1 204) x (i + 1)
      have a3 : mrB x (i + 1) ≤ mrB x 8 := by
        have key : ∀ d j, j + d = 8 → mrB x j ≤ mrB x 8 := by
          intro d
          induction d with
          | zero => intro j hj; rw [show j = 8 by omega]; exact Nat.le_refl _
          | succ d ihd =>
            intro j hj
            have h1 := ihd (j + 1) (by omega)
            rw [mrB] at h1
            split at h1 <;> omega
        exact key (8 - (i + 1)) (i + 1) (by omega)
      generalize apB len (mI M1 204) x 8 = q9 at *
      rw [apB] at ih a2
      generalize apB len (mI M1 204) x i = q at *
      have hS2 : Shp (agM M1 q) := hS1
      have e8 := agM_8 (M := M1) q
      have est := agM_st (M := M1) (q := q) (x := sx (bI x i))
      obtain ⟨j, j1, j2, -⟩ := bI_n x i
      have hsx : vp_nar .byte (sx (bI x i)) = sx (bI x i) := by rw [j2]; exact (sx_nar j j1).1
      by_cases h0 : bI x i = 0
      · rw [if_pos h0] at ih
        generalize agM M1 q = M2 at *
        refine g_iload (pc := 58) dX7_append_58 rfl ?_
        refine g_bipush (pc := 60) (v := 8) dX7_append_60 rfl ?_
        refine g_icmp_ge (pc := 62) (tgt := 106) dX7_append_62 rfl (fun h62 => absurd h62 (nI_ge (b := 8) hi (by decide))) (fun _ => ?_)
        refine g_lload_n (pc := 65) dX7_append_65 rfl ?_
        refine g_iload (pc := 66) dX7_append_66 rfl ?_
        refine g_invS_r (pc := 68) (As := [_, _]) dX7_append_68 rfl (r_byteOf hi) rfl rfl lk_X7_77 rfl (nb rfl) ⟨nb rfl, nb rfl⟩ rfl ?_
        refine g_if_eq (pc := 71) (tgt := 100) dX7_append_71 rfl (fun _ => ?_) (fun h71 => absurd (h0) h71)
        refine g_iinc (pc := 100) (lv' := [(0, _), (1, _), (4, _)]) dX7_append_100 rfl (nI_1 _) (nl rfl) rfl ?_
        refine g_goto (pc := 103) (tgt := 58) dX7_append_103 rfl ?_
        exact ih
      · rw [if_neg h0] at ih a2
        simp only at a2
        have hS3 : Shp (sI (agM M1 q) 204 (fun_set (mI (agM M1 q) 204) q.1 (sx (bI x i)))) := hS1
        have e83 : mI (sI (agM M1 q) 204 (fun_set (mI (agM M1 q) 204) q.1 (sx (bI x i)))) 198 8 = nI q.1 := (congrFun (sI_ne (by decide)) 8).trans e8
        rw [← est] at ih
        have eM3 : pI (agM M1 q) 204 q.1 (sx (bI x i)) = sI (agM M1 q) 204 (fun_set (mI (agM M1 q) 204) q.1 (sx (bI x i))) := rfl
        generalize sI (agM M1 q) 204 (fun_set (mI (agM M1 q) 204) q.1 (sx (bI x i))) = M3 at *
        generalize agM M1 q = M2 at *
        refine g_iload (pc := 58) dX7_append_58 rfl ?_
        refine g_bipush (pc := 60) (v := 8) dX7_append_60 rfl ?_
        refine g_icmp_ge (pc := 62) (tgt := 106) dX7_append_62 rfl (fun h62 => absurd h62 (nI_ge (b := 8) hi (by decide))) (fun _ => ?_)
        refine g_lload_n (pc := 65) dX7_append_65 rfl ?_
        refine g_iload (pc := 66) dX7_append_66 rfl ?_
        refine g_invS_r (pc := 68) (As := [_, _]) dX7_append_68 rfl (r_byteOf hi) rfl rfl lk_X7_77 rfl (nb rfl) ⟨nb rfl, nb rfl⟩ rfl ?_
        refine g_if_eq (pc := 71) (tgt := 100) dX7_append_71 rfl (fun h71 => absurd h71 (h0)) (fun _ => ?_)
        refine g_aload_n (pc := 74) dX7_append_74 rfl trivial ?_
        refine g_getf (pc := 75) dX7_append_75 fk_X7_26 (shK hS2 rfl) (fv_arr (shR hS2 rfl)) ?_
        refine g_aload_n (pc := 78) dX7_append_78 rfl trivial ?_
        refine g_getf (pc := 79) (v := .int _) dX7_append_79 fk_X7_81 (shK hS2 rfl) (fun _ => congrArg Value.int (e8)) ?_
        refine g_lload_n (pc := 82) dX7_append_82 rfl ?_
        refine g_iload (pc := 83) dX7_append_83 rfl ?_
        refine g_invS_r (pc := 85) (As := [_, _]) dX7_append_85 rfl (r_byteOf hi) rfl rfl lk_X7_77 rfl (nb rfl) ⟨nb rfl, nb rfl⟩ rfl ?_
        refine g_i2b (pc := 88) dX7_append_88 (show _ = sx (bI x i) from rfl) ?_
        refine g_bastore (pc := 89) dX7_append_89 (shK hS2 rfl) rfl (show q.1 < 600 by omega) (nl rfl) ?_
        rw [hsx]
        refine go_cast eM3 ?_
        refine g_aload_n (pc := 90) dX7_append_90 rfl trivial ?_
        refine g_dup (pc := 91) dX7_append_91 rfl ?_
        refine g_getf (pc := 92) (v := .int _) dX7_append_92 fk_X7_81 (shK hS3 rfl) (fun _ => congrArg Value.int (e83)) ?_
        refine g_iconst (pc := 95) (v := 1) dX7_append_95 rfl ?_
        refine g_iadd (pc := 96) dX7_append_96 ?_
        rw [nI_1]
        refine g_putI (pc := 97) dX7_append_97 fp_X7_81 (shK hS3 rfl) ⟨rfl, rfl⟩ (fun _ _ _ _ => rfl) ?_
        refine g_iinc (pc := 100) (lv' := [(0, _), (1, _), (4, _)]) dX7_append_100 rfl (nI_1 _) (nl rfl) rfl ?_
        refine g_goto (pc := 103) (tgt := 58) dX7_append_103 rfl ?_
        exact ih
    · have hS2 : Shp (agM M1 (apB len (mI M1 204) x 8)) := hS1
      have e8 := agM_8 (M := M1) (apB len (mI M1 204) x 8)
      rw [apB_1] at e8
      generalize agM M1 (apB len (mI M1 204) x 8) = M2 at *
      refine g_iload (pc := 58) dX7_append_58 rfl ?_
      refine g_bipush (pc := 60) (v := 8) dX7_append_60 rfl ?_
      refine g_icmp_ge (pc := 62) (tgt := 106) dX7_append_62 rfl (fun _ => ?_) (fun h62 => absurd (nI_le (Nat.le_refl 8) (by decide)) h62)
      refine g_aload_n (pc := 106) dX7_append_106 rfl trivial ?_
      refine g_getf (pc := 107) (v := .int _) dX7_append_107 fk_X7_81 (shK hS2 rfl) (fun _ => congrArg Value.int (e8)) ?_
      refine g_ireturn (pc := 110) dX7_append_110 rfl rfl ?_
      exact ⟨rfl, rfl⟩
  refine ev_intro rfl (nb rfl) rfl ?_
  refine g_aload_n (pc := 0) dX7_append_0 rfl trivial ?_
  refine g_iconst (pc := 1) (v := 0) dX7_append_1 rfl ?_
  refine g_putI (pc := 2) dX7_append_2 fp_X7_60 (shK hS rfl) ⟨rfl, rfl⟩ (fun _ _ _ _ => rfl) ?_
  refine go_cast e0 ?_
  refine g_iconst (pc := 5) (v := 0) dX7_append_5 rfl ?_
  refine g_istore_n (pc := 6) (lv' := [(0, _), (1, _), (3, _)]) dX7_append_6 (nl rfl) rfl ?_
  refine g_iconst (pc := 7) (v := 0) dX7_append_7 rfl ?_
  refine g_istore (pc := 8) (lv' := [(0, _), (1, _), (3, _), (4, _)]) dX7_append_8 (nl rfl) rfl ?_
  refine go_loop (pc := 10) 8 (fun i => [(0, .ref 198), (1, .long x), (3, .int (nI (mrB x i))), (4, .int (nI i))]) (fun i => M1) ⟨rfl, rfl, rfl, rfl, trivial⟩ rfl ?_ ?_
  · intro i hi ih
    generalize mrB x 8 = m8 at *
    rw [mrB] at ih
    by_cases h0 : bI x i = 0
    · rw [if_pos h0] at ih
      refine g_iload (pc := 10) dX7_append_10 rfl ?_
      refine g_bipush (pc := 12) (v := 8) dX7_append_12 rfl ?_
      refine g_icmp_ge (pc := 14) (tgt := 40) dX7_append_14 rfl (fun h14 => absurd h14 (nI_ge (b := 8) hi (by decide))) (fun _ => ?_)
      refine g_iload_n (pc := 17) dX7_append_17 rfl ?_
      refine g_lload_n (pc := 18) dX7_append_18 rfl ?_
      refine g_iload (pc := 19) dX7_append_19 rfl ?_
      refine g_invS_r (pc := 21) (As := [_, _]) dX7_append_21 rfl (r_byteOf hi) rfl rfl lk_X7_77 rfl (nb rfl) ⟨nb rfl, nb rfl⟩ rfl ?_
      refine g_if_ne (pc := 24) (tgt := 31) dX7_append_24 rfl (fun h24 => absurd h24 ((fun z => z h0))) (fun _ => ?_)
      refine g_iconst (pc := 27) (v := 0) dX7_append_27 rfl ?_
      refine g_goto (pc := 28) (tgt := 32) dX7_append_28 rfl ?_
      refine g_iadd (pc := 32) dX7_append_32 ?_
      rw [Int32.add_zero]
      refine g_istore_n (pc := 33) (lv' := [(0, _), (1, _), (3, _), (4, _)]) dX7_append_33 (nl rfl) rfl ?_
      refine g_iinc (pc := 34) (lv' := [(0, _), (1, _), (3, _), (4, _)]) dX7_append_34 rfl (nI_1 _) (nl rfl) rfl ?_
      refine g_goto (pc := 37) (tgt := 10) dX7_append_37 rfl ?_
      exact ih
    · rw [if_neg h0] at ih
      refine g_iload (pc := 10) dX7_append_10 rfl ?_
      refine g_bipush (pc := 12) (v := 8) dX7_append_12 rfl ?_
      refine g_icmp_ge (pc := 14) (tgt := 40) dX7_append_14 rfl (fun h14 => absurd h14 (nI_ge (b := 8) hi (by decide))) (fun _ => ?_)
      refine g_iload_n (pc := 17) dX7_append_17 rfl ?_
      refine g_lload_n (pc := 18) dX7_append_18 rfl ?_
      refine g_iload (pc := 19) dX7_append_19 rfl ?_
      refine g_invS_r (pc := 21) (As := [_, _]) dX7_append_21 rfl (r_byteOf hi) rfl rfl lk_X7_77 rfl (nb rfl) ⟨nb rfl, nb rfl⟩ rfl ?_
      refine g_if_ne (pc := 24) (tgt := 31) dX7_append_24 rfl (fun _ => ?_) (fun h24 => absurd (h0) h24)
      refine g_iconst (pc := 31) (v := 1) dX7_append_31 rfl ?_
      refine g_iadd (pc := 32) dX7_append_32 ?_
      rw [nI_1]
      refine g_istore_n (pc := 33) (lv' := [(0, _), (1, _), (3, _), (4, _)]) dX7_append_33 (nl rfl) rfl ?_
      refine g_iinc (pc := 34) (lv' := [(0, _), (1, _), (3, _), (4, _)]) dX7_append_34 rfl (nI_1 _) (nl rfl) rfl ?_
      refine g_goto (pc := 37) (tgt := 10) dX7_append_37 rfl ?_
      exact ih
  · unfold agV
    by_cases h6 : 600 < len + mrB x 8
    · rw [if_pos h6, if_pos h6]
      refine g_iload (pc := 10) dX7_append_10 rfl ?_
      refine g_bipush (pc := 12) (v := 8) dX7_append_12 rfl ?_
      refine g_icmp_ge (pc := 14) (tgt := 40) dX7_append_14 rfl (fun _ => ?_) (fun h14 => absurd (nI_le (Nat.le_refl 8) (by decide)) h14)
      refine g_aload_n (pc := 40) dX7_append_40 rfl trivial ?_
      refine g_getf (pc := 41) (v := .int _) dX7_append_41 fk_X7_81 (shK hS1 rfl) (fun _ => congrArg Value.int (hl1)) ?_
      refine g_iload_n (pc := 44) dX7_append_44 rfl ?_
      refine g_iadd (pc := 45) dX7_append_45 ?_
      rw [nI_add]
      refine g_sipush (pc := 46) (v := 600) dX7_append_46 rfl ?_
      refine g_icmp_le (pc := 49) (tgt := 55) dX7_append_49 rfl (fun h49 => absurd h49 ((fun z => by have := (nI_leI (a := len + mrB x 8) (b := 600) (by omega) (by decide)).mp z; omega))) (fun _ => ?_)
      refine g_bipush (pc := 52) (v := (-2)) dX7_append_52 rfl ?_
      refine g_ireturn (pc := 54) dX7_append_54 rfl rfl ?_
      exact ⟨rfl, rfl⟩
    · rw [if_neg h6, if_neg h6]
      refine g_iload (pc := 10) dX7_append_10 rfl ?_
      refine g_bipush (pc := 12) (v := 8) dX7_append_12 rfl ?_
      refine g_icmp_ge (pc := 14) (tgt := 40) dX7_append_14 rfl (fun _ => ?_) (fun h14 => absurd (nI_le (Nat.le_refl 8) (by decide)) h14)
      refine g_aload_n (pc := 40) dX7_append_40 rfl trivial ?_
      refine g_getf (pc := 41) (v := .int _) dX7_append_41 fk_X7_81 (shK hS1 rfl) (fun _ => congrArg Value.int (hl1)) ?_
      refine g_iload_n (pc := 44) dX7_append_44 rfl ?_
      refine g_iadd (pc := 45) dX7_append_45 ?_
      rw [nI_add]
      refine g_sipush (pc := 46) (v := 600) dX7_append_46 rfl ?_
      refine g_icmp_le (pc := 49) (tgt := 55) dX7_append_49 rfl (fun _ => ?_) (fun h49 => absurd (nI_le (b := 600) (by omega) (by decide)) h49)
      exact g_sub (lv' := [(0, _), (1, _)]) ⟨rfl, rfl, trivial⟩ (hB (by omega))
theorem n_loadErr (hS : Shp M) : EvR l jX7_loadError 4 160 0 0 [.ref 198] M (.inl (some (.int (mI M 198 14)))) (thr M 0) := by
  have e1 : mI (thr M 0) 198 14 = mI M 198 14 := pI_k (by decide)
  have hS1 : Shp (thr M 0) := hS
  refine ev_intro rfl (nb rfl) rfl ?_
  refine g_aload_n (pc := 0) dX7_loadError_0 rfl trivial ?_
  refine g_iconst (pc := 1) (v := 0) dX7_loadError_1 rfl ?_
  refine g_putI (pc := 2) dX7_loadError_2 fp_X7_60 (shK hS rfl) ⟨rfl, rfl⟩ (fun _ _ _ _ => rfl) ?_
  refine g_aload_n (pc := 5) dX7_loadError_5 rfl trivial ?_
  refine g_getf (pc := 6) (v := .int _) dX7_loadError_6 fk_X7_195 (shK hS1 rfl) (fun _ => congrArg Value.int (e1)) ?_
  refine g_ireturn (pc := 9) dX7_loadError_9 rfl rfl ?_
  exact ⟨rfl, rfl⟩
theorem n_loadStatement (hS : Shp M) : EvR l jX7_loadStatement 4 160 0 0 [.ref 198] M (.inl (some (.int (mI M 198 15)))) (thr M 0) := by
  have e1 : mI (thr M 0) 198 15 = mI M 198 15 := pI_k (by decide)
  have hS1 : Shp (thr M 0) := hS
  refine ev_intro rfl (nb rfl) rfl ?_
  refine g_aload_n (pc := 0) dX7_loadStatement_0 rfl trivial ?_
  refine g_iconst (pc := 1) (v := 0) dX7_loadStatement_1 rfl ?_
  refine g_putI (pc := 2) dX7_loadStatement_2 fp_X7_60 (shK hS rfl) ⟨rfl, rfl⟩ (fun _ _ _ _ => rfl) ?_
  refine g_aload_n (pc := 5) dX7_loadStatement_5 rfl trivial ?_
  refine g_getf (pc := 6) (v := .int _) dX7_loadStatement_6 fk_X7_30 (shK hS1 rfl) (fun _ => congrArg Value.int (e1)) ?_
  refine g_ireturn (pc := 9) dX7_loadStatement_9 rfl rfl ?_
  exact ⟨rfl, rfl⟩
theorem n_thrown (hS : Shp M) : EvR l jX7_thrown 0 0 0 0 [.ref 198] M (.inl (some (.int (mI M 198 6)))) M := by
  refine ev_intro rfl (nb rfl) rfl ?_
  refine g_aload_n (pc := 0) dX7_thrown_0 rfl trivial ?_
  refine g_getf (pc := 1) (v := .int _) dX7_thrown_1 fk_X7_60 (shK hS rfl) (fun _ => congrArg Value.int (rfl)) ?_
  refine g_ireturn (pc := 4) dX7_thrown_4 rfl rfl ?_
  exact ⟨rfl, rfl⟩
/-- a row written out -/
def wrtM (M : Mem) (n : Nat) (x : Int32) : Mem := sI (pI (thr M 0) 198 24 (nI n)) 211 (wr (mI M 211) (fun i => 48 + b1 (hb x i)) n)
theorem wo_nar : ∀ b, (48 + b1 b).toInt8.toInt32 = 48 + b1 b ∧ vp_nar .byte (48 + b1 b) = 48 + b1 b := by decide +kernel
theorem n_writeRow {s r : Nat} (h : Rr M n A) (hs : s < 6) (hr : r < n) : EvR l jX7_writeRow 4 160 0 0 [.ref 198, .int (nI s), .int (nI r)] M (.inl (some (.int (nI n)))) (wrtM M n (A s r)) := by
  have hn := h.2.2.2.1
  have hS := h.1
  have h' := h.thr (x := 0)
  have h1 : Rr (pI (thr M 0) 198 24 (nI n)) n A := h
  have e1 : mI (pI (thr M 0) 198 24 (nI n)) 198 24 = nI n := pI_self (thr M 0) 198 24 _
  have e2 : mI (pI (thr M 0) 198 24 (nI n)) 211 = mI M 211 := (pI_i (by decide)).trans (pI_i (by decide))
  unfold wrtM
  have hrow : ∀ (M' : Mem) (h' : Rr M' n A), EvR l jX7_rowOf 0 0 0 0 [.ref 198, .int (nI s), .int (nI r)] M' (.inl (some (.long (uL (A s r))))) M' := fun M' h' => r_rowOf h' hs hr
  generalize A s r = x at *
  rw [← e2]
  generalize hM1 : pI (thr M 0) 198 24 (nI n) = M1 at *
  refine ev_intro rfl (nb rfl) rfl ?_
  refine g_aload_n (pc := 0) dX7_writeRow_0 rfl trivial ?_
  refine g_aload_n (pc := 1) dX7_writeRow_1 rfl trivial ?_
  refine g_iload_n (pc := 2) dX7_writeRow_2 rfl ?_
  refine g_iload_n (pc := 3) dX7_writeRow_3 rfl ?_
  refine g_invV_r (pc := 4) (As := [_, _]) dX7_writeRow_4 rfl (r_areIn_t h (in6 hs) (inR_nI hr (by omega))) rfl rfl (shK hS rfl) rfl rfl lk_X7_223 rfl (nb rfl) ⟨nb rfl, nb rfl⟩ rfl ?_
  refine g_iconst (pc := 7) (v := 1) dX7_writeRow_7 rfl ?_
  refine g_invV_r (pc := 8) (As := [_, _]) dX7_writeRow_8 rfl (r_isThrown_0 hS) rfl rfl (shK hS rfl) rfl rfl lk_X7_209 rfl (nb rfl) ⟨nb rfl, nb rfl⟩ rfl ?_
  refine g_if_eq (pc := 11) (tgt := 16) dX7_writeRow_11 rfl (fun _ => ?_) (fun h11 => absurd (rfl) h11)
  refine g_aload_n (pc := 16) dX7_writeRow_16 rfl trivial ?_
  refine g_aload_n (pc := 17) dX7_writeRow_17 rfl trivial ?_
  refine g_invV_r (pc := 18) (As := []) dX7_writeRow_18 rfl (r_size h') rfl rfl (shK h'.1 rfl) rfl rfl lk_X7_71 rfl (nb rfl) ⟨nb rfl, nb rfl⟩ rfl ?_
  refine g_putI (pc := 21) dX7_writeRow_21 fp_X7_355 (shK h'.1 rfl) ⟨rfl, rfl⟩ (fun _ _ _ _ => rfl) ?_
  refine go_cast hM1 ?_
  refine g_iconst (pc := 24) (v := 0) dX7_writeRow_24 rfl ?_
  refine g_istore_n (pc := 25) (lv' := [(0, _), (1, _), (2, _), (3, _)]) dX7_writeRow_25 (nl rfl) rfl ?_
  refine go_loop (pc := 26) n (fun i => [(0, .ref 198), (1, .int (nI s)), (2, .int (nI r)), (3, .int (nI i))]) (fun i => sI M1 211 (wr (mI M1 211) (fun i => 48 + b1 (hb x i)) i)) ⟨rfl, rfl, rfl, rfl, trivial⟩ (sI_eq (wr_0 _ _)) ?_ ?_
  · intro i hi ih
    have h2 : Rr (sI M1 211 (wr (mI M1 211) (fun i => 48 + b1 (hb x i)) i)) n A := h1
    have e3 : mI (sI M1 211 (wr (mI M1 211) (fun i => 48 + b1 (hb x i)) i)) 198 24 = nI n := (congrFun (sI_ne (by decide)) 24).trans e1
    have est : pI (sI M1 211 (wr (mI M1 211) (fun i => 48 + b1 (hb x i)) i)) 211 i (48 + b1 (hb x i)) = sI M1 211 (wr (mI M1 211) (fun i => 48 + b1 (hb x i)) (i + 1)) := sI_st (wr_s _ (fun i => 48 + b1 (hb x i)) i)
    rw [← est] at ih
    generalize sI M1 211 (wr (mI M1 211) (fun i => 48 + b1 (hb x i)) i) = M2 at *
    refine g_iload_n (pc := 26) dX7_writeRow_26 rfl ?_
    refine g_aload_n (pc := 27) dX7_writeRow_27 rfl trivial ?_
    refine g_getf (pc := 28) (v := .int _) dX7_writeRow_28 fk_X7_355 (shK h2.1 rfl) (fun _ => congrArg Value.int (e3)) ?_
    refine g_icmp_ge (pc := 31) (tgt := 60) dX7_writeRow_31 rfl (fun h31 => absurd h31 (nI_ge hi (by omega))) (fun _ => ?_)
    refine g_aload_n (pc := 34) dX7_writeRow_34 rfl trivial ?_
    refine g_getf (pc := 35) dX7_writeRow_35 fk_X7_53 (shK h2.1 rfl) (fv_arr (shR h2.1 rfl)) ?_
    refine g_iload_n (pc := 38) dX7_writeRow_38 rfl ?_
    refine g_bipush (pc := 39) (v := 48) dX7_writeRow_39 rfl ?_
    refine g_aload_n (pc := 41) dX7_writeRow_41 rfl trivial ?_
    refine g_iload_n (pc := 42) dX7_writeRow_42 rfl ?_
    refine g_iload_n (pc := 43) dX7_writeRow_43 rfl ?_
    refine g_invV_r (pc := 44) (As := [_, _]) dX7_writeRow_44 rfl ((hrow _ h2)) rfl rfl (shK h2.1 rfl) rfl rfl lk_X7_227 rfl (nb rfl) ⟨nb rfl, nb rfl⟩ rfl ?_
    refine g_iload_n (pc := 47) dX7_writeRow_47 rfl ?_
    refine g_invS_r (pc := 48) (As := [_, _]) dX7_writeRow_48 rfl (r_one (by omega)) rfl rfl lk_X7_231 rfl (nb rfl) ⟨nb rfl, nb rfl⟩ rfl ?_
    refine g_iadd (pc := 51) dX7_writeRow_51 ?_
    refine g_i2b (pc := 52) dX7_writeRow_52 (wo_nar _).1 ?_
    refine g_bastore (pc := 53) dX7_writeRow_53 (shK h2.1 rfl) rfl (by omega) (nl rfl) ?_
    rw [(wo_nar _).2]
    refine g_iinc (pc := 54) (lv' := [(0, _), (1, _), (2, _), (3, _)]) dX7_writeRow_54 rfl (nI_1 _) (nl rfl) rfl ?_
    refine g_goto (pc := 57) (tgt := 26) dX7_writeRow_57 rfl ?_
    exact ih
  · have h2 : Rr (sI M1 211 (wr (mI M1 211) (fun i => 48 + b1 (hb x i)) n)) n A := h1
    have e3 : mI (sI M1 211 (wr (mI M1 211) (fun i => 48 + b1 (hb x i)) n)) 198 24 = nI n := (congrFun (sI_ne (by decide)) 24).trans e1
    generalize sI M1 211 (wr (mI M1 211) (fun i => 48 + b1 (hb x i)) n) = M2 at *
    refine g_iload_n (pc := 26) dX7_writeRow_26 rfl ?_
    refine g_aload_n (pc := 27) dX7_writeRow_27 rfl trivial ?_
    refine g_getf (pc := 28) (v := .int _) dX7_writeRow_28 fk_X7_355 (shK h2.1 rfl) (fun _ => congrArg Value.int (e3)) ?_
    refine g_icmp_ge (pc := 31) (tgt := 60) dX7_writeRow_31 rfl (fun _ => ?_) (fun h31 => absurd (nI_le (Nat.le_refl _) (by omega)) h31)
    refine g_aload_n (pc := 60) dX7_writeRow_60 rfl trivial ?_
    refine g_getf (pc := 61) (v := .int _) dX7_writeRow_61 fk_X7_355 (shK h2.1 rfl) (fun _ => congrArg Value.int (e3)) ?_
    refine g_ireturn (pc := 64) dX7_writeRow_64 rfl rfl ?_
    exact ⟨rfl, rfl⟩
theorem t_writeRow {v w : Int32} (h : Rr M n A) (hx : ¬ (inR v 6 ∧ inR w n)) : EvR l jX7_writeRow 4 160 0 0 [.ref 198, .int v, .int w] M (.inl (some (.int 0))) (thr M 1) := by
  have hS := h.1
  refine ev_intro rfl (nb rfl) rfl ?_
  refine g_aload_n (pc := 0) dX7_writeRow_0 rfl trivial ?_
  refine g_aload_n (pc := 1) dX7_writeRow_1 rfl trivial ?_
  refine g_iload_n (pc := 2) dX7_writeRow_2 rfl ?_
  refine g_iload_n (pc := 3) dX7_writeRow_3 rfl ?_
  refine g_invV_r (pc := 4) (As := [_, _]) dX7_writeRow_4 rfl (r_areIn_f h hx) rfl rfl (shK hS rfl) rfl rfl lk_X7_223 rfl (nb rfl) ⟨nb rfl, nb rfl⟩ rfl ?_
  refine g_iconst (pc := 7) (v := 1) dX7_writeRow_7 rfl ?_
  refine g_invV_r (pc := 8) (As := [_, _]) dX7_writeRow_8 rfl (r_isThrown_1 hS) rfl rfl (shK hS rfl) rfl rfl lk_X7_209 rfl (nb rfl) ⟨nb rfl, nb rfl⟩ rfl ?_
  refine g_if_eq (pc := 11) (tgt := 16) dX7_writeRow_11 rfl (fun h11 => absurd h11 ((by decide))) (fun _ => ?_)
  refine g_iconst (pc := 14) (v := 0) dX7_writeRow_14 rfl ?_
  refine g_ireturn (pc := 15) dX7_writeRow_15 rfl rfl ?_
  exact ⟨rfl, rfl⟩
theorem lim_m1 {x : Int32} {k : Nat} (hk : k < 2147483648) : (¬ x < 0 ∧ x < nI k) ↔ ((0 : Int64) ≤ x.toInt64 ∧ x.toInt64 ≤ (nI k - 1).toInt64) := by
  rw [show (0 : Int64) = (0 : Int32).toInt64 from rfl, le_long, le_long, Int32.not_lt]
  refine and_congr Iff.rfl ?_
  cases k with
  | zero => rw [show nI 0 - 1 = -1 from rfl, show nI 0 = 0 from rfl, Int32.lt_iff_toInt_lt, Int32.le_iff_toInt_le, show (0 : Int32).toInt = 0 from rfl, show (-1 : Int32).toInt = -1 from rfl]; omega
  | succ c => rw [nI_pred, Int32.lt_iff_toInt_lt, Int32.le_iff_toInt_le, nI_toInt (by omega), nI_toInt (by omega)]; omega
theorem n_outputByte {w : Nat} {x : Int32} (hS : Shp M) (hw : mI M 198 24 = nI w) (hw2 : w ≤ 32) : EvR l jX7_outputByte 4 160 0 0 [.ref 198, .int x] M (.inl (some (.int (if ¬ x < 0 ∧ x < nI w then mI M 211 x.toNatClampNeg else -1)))) (thr M 0) := by
  have e1 : mI (thr M 0) 198 24 = nI w := (pI_k (by decide)).trans hw
  have e2 : mI (thr M 0) 211 = mI M 211 := pI_i (by decide)
  have hS1 : Shp (thr M 0) := hS
  have e0 : pI M 198 6 0 = thr M 0 := rfl
  rw [← e2]
  generalize thr M 0 = M1 at *
  refine ev_intro rfl (nb rfl) rfl ?_
  by_cases hx : ¬ x < 0 ∧ x < nI w
  · rw [if_pos hx]
    have h9 := (lim_m1 (by omega)).mp hx
    obtain ⟨i, hi, rfl⟩ := inR_of hx (by omega)
    rw [nI_clamp (by omega)]
    refine g_aload_n (pc := 0) dX7_outputByte_0 rfl trivial ?_
    refine g_iconst (pc := 1) (v := 0) dX7_outputByte_1 rfl ?_
    refine g_putI (pc := 2) dX7_outputByte_2 fp_X7_60 (shK hS rfl) ⟨rfl, rfl⟩ (fun _ _ _ _ => rfl) ?_
    refine go_cast e0 ?_
    refine g_iload_n (pc := 5) dX7_outputByte_5 rfl ?_
    refine g_i2l (pc := 6) dX7_outputByte_6 rfl ?_
    refine g_lconst (pc := 7) (v := 0) dX7_outputByte_7 rfl ?_
    refine g_aload_n (pc := 8) dX7_outputByte_8 rfl trivial ?_
    refine g_getf (pc := 9) (v := .int _) dX7_outputByte_9 fk_X7_355 (shK hS1 rfl) (fun _ => congrArg Value.int (e1)) ?_
    refine g_iconst (pc := 12) (v := 1) dX7_outputByte_12 rfl ?_
    refine g_isub (pc := 13) dX7_outputByte_13 ?_
    refine g_i2l (pc := 14) dX7_outputByte_14 rfl ?_
    refine g_invS_r (pc := 15) (As := [_, _, _]) dX7_outputByte_15 rfl (r_in_t h9.1 h9.2) rfl rfl lk_X7_67 rfl (nb rfl) ⟨nb rfl, nb rfl⟩ rfl ?_
    refine g_if_eq (pc := 18) (tgt := 30) dX7_outputByte_18 rfl (fun h18 => absurd h18 ((by decide))) (fun _ => ?_)
    refine g_aload_n (pc := 21) dX7_outputByte_21 rfl trivial ?_
    refine g_getf (pc := 22) dX7_outputByte_22 fk_X7_53 (shK hS1 rfl) (fv_arr (shR hS1 rfl)) ?_
    refine g_iload_n (pc := 25) dX7_outputByte_25 rfl ?_
    refine g_baload (pc := 26) dX7_outputByte_26 (shK hS1 rfl) rfl (by omega) (nl rfl) ?_
    refine g_goto (pc := 27) (tgt := 31) dX7_outputByte_27 rfl ?_
    refine g_ireturn (pc := 31) dX7_outputByte_31 rfl rfl ?_
    exact ⟨rfl, rfl⟩
  · rw [if_neg hx]
    refine g_aload_n (pc := 0) dX7_outputByte_0 rfl trivial ?_
    refine g_iconst (pc := 1) (v := 0) dX7_outputByte_1 rfl ?_
    refine g_putI (pc := 2) dX7_outputByte_2 fp_X7_60 (shK hS rfl) ⟨rfl, rfl⟩ (fun _ _ _ _ => rfl) ?_
    refine go_cast e0 ?_
    refine g_iload_n (pc := 5) dX7_outputByte_5 rfl ?_
    refine g_i2l (pc := 6) dX7_outputByte_6 rfl ?_
    refine g_lconst (pc := 7) (v := 0) dX7_outputByte_7 rfl ?_
    refine g_aload_n (pc := 8) dX7_outputByte_8 rfl trivial ?_
    refine g_getf (pc := 9) (v := .int _) dX7_outputByte_9 fk_X7_355 (shK hS1 rfl) (fun _ => congrArg Value.int (e1)) ?_
    refine g_iconst (pc := 12) (v := 1) dX7_outputByte_12 rfl ?_
    refine g_isub (pc := 13) dX7_outputByte_13 ?_
    refine g_i2l (pc := 14) dX7_outputByte_14 rfl ?_
    refine g_invS_r (pc := 15) (As := [_, _, _]) dX7_outputByte_15 rfl (r_in_f (fun z => hx ((lim_m1 (by omega)).mpr z))) rfl rfl lk_X7_67 rfl (nb rfl) ⟨nb rfl, nb rfl⟩ rfl ?_
    refine g_if_eq (pc := 18) (tgt := 30) dX7_outputByte_18 rfl (fun _ => ?_) (fun h18 => absurd (rfl) h18)
    refine g_iconst (pc := 30) (v := (-1)) dX7_outputByte_30 rfl ?_
    refine g_ireturn (pc := 31) dX7_outputByte_31 rfl rfl ?_
    exact ⟨rfl, rfl⟩
def saM (M : Mem) (q : Nat) : Mem := pI (sL (thr M 0) 202 (cpF (mL M 202) q (mL M 199) 0 220)) 203 q 1
theorem n_saveSnapshot {q : Nat} (h : Rr M n A) (hq : q < 2) : EvR l jX7_saveSnapshot 4 160 0 0 [.ref 198, .int (nI q)] M (.inl (some (.int (nI n)))) (saM M q) := by
  have hS := h.1
  have h' := h.thr (x := 0)
  have hl2 : (0 : Int64) ≤ (nI q).toInt64 ∧ (nI q).toInt64 ≤ 1 := (lim_long (a := 0) (b := 1)).mpr ⟨nI_pos (by omega), nI_le (b := 1) (by omega) (by decide)⟩
  have q1 := r_copies (l := l) (M := thr M 0) (x := 199) (y := 202) (h := 0) (t := q) (shK h'.1 rfl) (shK h'.1 rfl) (by decide) (by decide) (by omega) (by decide) (by decide)
  have q1 : EvR l jX7_copies 0 0 0 0 [.ref 199, .int (nI 0), .ref 202, .int (nI q)] (thr M 0) (.inl none) (sL (thr M 0) 202 (cpF (mL M 202) q (mL M 199) 0 220)) := q1
  have h2 : Rr (sL (thr M 0) 202 (cpF (mL M 202) q (mL M 199) 0 220)) n A := h'.sL (by decide)
  have h3 : Rr (saM M q) n A := h2
  have e3 : pI (sL (thr M 0) 202 (cpF (mL M 202) q (mL M 199) 0 220)) 203 q (vp_nar .boolean 1) = saM M q := rfl
  generalize saM M q = M3 at *
  generalize sL (thr M 0) 202 (cpF (mL M 202) q (mL M 199) 0 220) = M2 at *
  refine ev_intro rfl (nb rfl) rfl ?_
  refine g_aload_n (pc := 0) dX7_saveSnapshot_0 rfl trivial ?_
  refine g_iload_n (pc := 1) dX7_saveSnapshot_1 rfl ?_
  refine g_i2l (pc := 2) dX7_saveSnapshot_2 rfl ?_
  refine g_lconst (pc := 3) (v := 0) dX7_saveSnapshot_3 rfl ?_
  refine g_lconst (pc := 4) (v := 1) dX7_saveSnapshot_4 rfl ?_
  refine g_invS_r (pc := 5) (As := [_, _, _]) dX7_saveSnapshot_5 rfl (r_in_t hl2.1 hl2.2) rfl rfl lk_X7_67 rfl (nb rfl) ⟨nb rfl, nb rfl⟩ rfl ?_
  refine g_iconst (pc := 8) (v := 1) dX7_saveSnapshot_8 rfl ?_
  refine g_invV_r (pc := 9) (As := [_, _]) dX7_saveSnapshot_9 rfl (r_isThrown_0 hS) rfl rfl (shK hS rfl) rfl rfl lk_X7_209 rfl (nb rfl) ⟨nb rfl, nb rfl⟩ rfl ?_
  refine g_if_eq (pc := 12) (tgt := 17) dX7_saveSnapshot_12 rfl (fun _ => ?_) (fun h12 => absurd (rfl) h12)
  refine g_aload_n (pc := 17) dX7_saveSnapshot_17 rfl trivial ?_
  refine g_getf (pc := 18) dX7_saveSnapshot_18 fk_X7_9 (shK h'.1 rfl) (fv_arr (shR h'.1 rfl)) ?_
  refine g_iconst (pc := 21) (v := 0) dX7_saveSnapshot_21 rfl ?_
  refine g_aload_n (pc := 22) dX7_saveSnapshot_22 rfl trivial ?_
  refine g_getf (pc := 23) dX7_saveSnapshot_23 fk_X7_19 (shK h'.1 rfl) (fv_arr (shR h'.1 rfl)) ?_
  refine g_iload_n (pc := 26) dX7_saveSnapshot_26 rfl ?_
  refine g_invS_r (pc := 27) (As := [_, _, _, _]) dX7_saveSnapshot_27 rfl (q1) rfl rfl lk_X7_198 rfl (nb rfl) ⟨nb rfl, nb rfl⟩ rfl ?_
  refine g_aload_n (pc := 30) dX7_saveSnapshot_30 rfl trivial ?_
  refine g_getf (pc := 31) dX7_saveSnapshot_31 fk_X7_22 (shK h2.1 rfl) (fv_arr (shR h2.1 rfl)) ?_
  refine g_iload_n (pc := 34) dX7_saveSnapshot_34 rfl ?_
  refine g_iconst (pc := 35) (v := 1) dX7_saveSnapshot_35 rfl ?_
  refine g_zastore (pc := 36) dX7_saveSnapshot_36 (shK h2.1 rfl) rfl (by omega) (nl rfl) ?_
  refine go_cast e3 ?_
  refine g_aload_n (pc := 37) dX7_saveSnapshot_37 rfl trivial ?_
  refine g_invV_r (pc := 38) (As := []) dX7_saveSnapshot_38 rfl (r_size h3) rfl rfl (shK h3.1 rfl) rfl rfl lk_X7_71 rfl (nb rfl) ⟨nb rfl, nb rfl⟩ rfl ?_
  refine g_ireturn (pc := 41) dX7_saveSnapshot_41 rfl rfl ?_
  exact ⟨rfl, rfl⟩
theorem t_saveSnapshot {w : Int32} (hS : Shp M) (hx : ¬ (¬ w < 0 ∧ w ≤ 1)) : EvR l jX7_saveSnapshot 4 160 0 0 [.ref 198, .int w] M (.inl (some (.int 0))) (thr M 1) := by
  refine ev_intro rfl (nb rfl) rfl ?_
  refine g_aload_n (pc := 0) dX7_saveSnapshot_0 rfl trivial ?_
  refine g_iload_n (pc := 1) dX7_saveSnapshot_1 rfl ?_
  refine g_i2l (pc := 2) dX7_saveSnapshot_2 rfl ?_
  refine g_lconst (pc := 3) (v := 0) dX7_saveSnapshot_3 rfl ?_
  refine g_lconst (pc := 4) (v := 1) dX7_saveSnapshot_4 rfl ?_
  refine g_invS_r (pc := 5) (As := [_, _, _]) dX7_saveSnapshot_5 rfl (r_in_f (fun z => hx ((lim_long (a := 0) (b := 1)).mp z))) rfl rfl lk_X7_67 rfl (nb rfl) ⟨nb rfl, nb rfl⟩ rfl ?_
  refine g_iconst (pc := 8) (v := 1) dX7_saveSnapshot_8 rfl ?_
  refine g_invV_r (pc := 9) (As := [_, _]) dX7_saveSnapshot_9 rfl (r_isThrown_1 hS) rfl rfl (shK hS rfl) rfl rfl lk_X7_209 rfl (nb rfl) ⟨nb rfl, nb rfl⟩ rfl ?_
  refine g_if_eq (pc := 12) (tgt := 17) dX7_saveSnapshot_12 rfl (fun h12 => absurd h12 ((by decide))) (fun _ => ?_)
  refine g_iconst (pc := 15) (v := 0) dX7_saveSnapshot_15 rfl ?_
  refine g_ireturn (pc := 16) dX7_saveSnapshot_16 rfl rfl ?_
  exact ⟨rfl, rfl⟩
def reM (M : Mem) (q : Nat) : Mem := pI (sL (thr M 0) 199 (cpF (mL M 199) 0 (mL M 202) q 220)) 198 5 0
theorem n_restoreSnapshot {q : Nat} (hS : Shp M) (h3 : Rr (reM M q) n A) (hq : q < 2) (h0 : mI M 203 q ≠ 0) : EvR l jX7_restoreSnapshot 4 160 0 0 [.ref 198, .int (nI q)] M (.inl (some (.int (nI n)))) (reM M q) := by
  have hS1 : Shp (thr M 0) := hS
  have hl2 : (0 : Int64) ≤ (nI q).toInt64 ∧ (nI q).toInt64 ≤ 1 := (lim_long (a := 0) (b := 1)).mpr ⟨nI_pos (by omega), nI_le (b := 1) (by omega) (by decide)⟩
  have q1 := r_copies (l := l) (M := thr M 0) (x := 202) (y := 199) (h := q) (t := 0) (shK hS1 rfl) (shK hS1 rfl) (by decide) (by omega) (by decide) (by decide) (by decide)
  have q1 : EvR l jX7_copies 0 0 0 0 [.ref 202, .int (nI q), .ref 199, .int (nI 0)] (thr M 0) (.inl none) (sL (thr M 0) 199 (cpF (mL M 199) 0 (mL M 202) q 220)) := q1
  have hS2 : Shp (sL (thr M 0) 199 (cpF (mL M 199) 0 (mL M 202) q 220)) := hS
  have e3 : pI (sL (thr M 0) 199 (cpF (mL M 199) 0 (mL M 202) q 220)) 198 5 0 = reM M q := rfl
  have e4 : mI (thr M 0) 203 = mI M 203 := pI_i (by decide)
  generalize reM M q = M3 at *
  generalize sL (thr M 0) 199 (cpF (mL M 199) 0 (mL M 202) q 220) = M2 at *
  refine ev_intro rfl (nb rfl) rfl ?_
  refine g_aload_n (pc := 0) dX7_restoreSnapshot_0 rfl trivial ?_
  refine g_iload_n (pc := 1) dX7_restoreSnapshot_1 rfl ?_
  refine g_i2l (pc := 2) dX7_restoreSnapshot_2 rfl ?_
  refine g_lconst (pc := 3) (v := 0) dX7_restoreSnapshot_3 rfl ?_
  refine g_lconst (pc := 4) (v := 1) dX7_restoreSnapshot_4 rfl ?_
  refine g_invS_r (pc := 5) (As := [_, _, _]) dX7_restoreSnapshot_5 rfl (r_in_t hl2.1 hl2.2) rfl rfl lk_X7_67 rfl (nb rfl) ⟨nb rfl, nb rfl⟩ rfl ?_
  refine g_iconst (pc := 8) (v := 1) dX7_restoreSnapshot_8 rfl ?_
  refine g_invV_r (pc := 9) (As := [_, _]) dX7_restoreSnapshot_9 rfl (r_isThrown_0 hS) rfl rfl (shK hS rfl) rfl rfl lk_X7_209 rfl (nb rfl) ⟨nb rfl, nb rfl⟩ rfl ?_
  refine g_if_eq (pc := 12) (tgt := 17) dX7_restoreSnapshot_12 rfl (fun _ => ?_) (fun h12 => absurd (rfl) h12)
  refine g_aload_n (pc := 17) dX7_restoreSnapshot_17 rfl trivial ?_
  refine g_getf (pc := 18) dX7_restoreSnapshot_18 fk_X7_22 (shK hS1 rfl) (fv_arr (shR hS1 rfl)) ?_
  refine g_iload_n (pc := 21) dX7_restoreSnapshot_21 rfl ?_
  refine g_zaload (pc := 22) dX7_restoreSnapshot_22 (shK hS1 rfl) rfl (by omega) (nl rfl) ?_
  rw [e4]
  refine g_if_ne (pc := 23) (tgt := 28) dX7_restoreSnapshot_23 rfl (fun _ => ?_) (fun h23 => absurd (h0) h23)
  refine g_aload_n (pc := 28) dX7_restoreSnapshot_28 rfl trivial ?_
  refine g_getf (pc := 29) dX7_restoreSnapshot_29 fk_X7_19 (shK hS1 rfl) (fv_arr (shR hS1 rfl)) ?_
  refine g_iload_n (pc := 32) dX7_restoreSnapshot_32 rfl ?_
  refine g_aload_n (pc := 33) dX7_restoreSnapshot_33 rfl trivial ?_
  refine g_getf (pc := 34) dX7_restoreSnapshot_34 fk_X7_9 (shK hS1 rfl) (fv_arr (shR hS1 rfl)) ?_
  refine g_iconst (pc := 37) (v := 0) dX7_restoreSnapshot_37 rfl ?_
  refine g_invS_r (pc := 38) (As := [_, _, _, _]) dX7_restoreSnapshot_38 rfl (q1) rfl rfl lk_X7_198 rfl (nb rfl) ⟨nb rfl, nb rfl⟩ rfl ?_
  refine g_aload_n (pc := 41) dX7_restoreSnapshot_41 rfl trivial ?_
  refine g_iconst (pc := 42) (v := 0) dX7_restoreSnapshot_42 rfl ?_
  refine g_putI (pc := 43) dX7_restoreSnapshot_43 fp_X7_201 (shK hS2 rfl) ⟨rfl, rfl⟩ (fun _ _ _ _ => rfl) ?_
  refine go_cast e3 ?_
  refine g_aload_n (pc := 46) dX7_restoreSnapshot_46 rfl trivial ?_
  refine g_invV_r (pc := 47) (As := []) dX7_restoreSnapshot_47 rfl (r_size h3) rfl rfl (shK h3.1 rfl) rfl rfl lk_X7_71 rfl (nb rfl) ⟨nb rfl, nb rfl⟩ rfl ?_
  refine g_ireturn (pc := 50) dX7_restoreSnapshot_50 rfl rfl ?_
  exact ⟨rfl, rfl⟩
theorem o_restoreSnapshot {q : Nat} (hS : Shp M) (hq : q < 2) (h0 : mI M 203 q = 0) : EvR l jX7_restoreSnapshot 4 160 0 0 [.ref 198, .int (nI q)] M (.inl (some (.int (-1)))) (thr M 0) := by
  have hS1 : Shp (thr M 0) := hS
  have hl2 : (0 : Int64) ≤ (nI q).toInt64 ∧ (nI q).toInt64 ≤ 1 := (lim_long (a := 0) (b := 1)).mpr ⟨nI_pos (by omega), nI_le (b := 1) (by omega) (by decide)⟩
  have e4 : mI (thr M 0) 203 = mI M 203 := pI_i (by decide)
  refine ev_intro rfl (nb rfl) rfl ?_
  refine g_aload_n (pc := 0) dX7_restoreSnapshot_0 rfl trivial ?_
  refine g_iload_n (pc := 1) dX7_restoreSnapshot_1 rfl ?_
  refine g_i2l (pc := 2) dX7_restoreSnapshot_2 rfl ?_
  refine g_lconst (pc := 3) (v := 0) dX7_restoreSnapshot_3 rfl ?_
  refine g_lconst (pc := 4) (v := 1) dX7_restoreSnapshot_4 rfl ?_
  refine g_invS_r (pc := 5) (As := [_, _, _]) dX7_restoreSnapshot_5 rfl (r_in_t hl2.1 hl2.2) rfl rfl lk_X7_67 rfl (nb rfl) ⟨nb rfl, nb rfl⟩ rfl ?_
  refine g_iconst (pc := 8) (v := 1) dX7_restoreSnapshot_8 rfl ?_
  refine g_invV_r (pc := 9) (As := [_, _]) dX7_restoreSnapshot_9 rfl (r_isThrown_0 hS) rfl rfl (shK hS rfl) rfl rfl lk_X7_209 rfl (nb rfl) ⟨nb rfl, nb rfl⟩ rfl ?_
  refine g_if_eq (pc := 12) (tgt := 17) dX7_restoreSnapshot_12 rfl (fun _ => ?_) (fun h12 => absurd (rfl) h12)
  refine g_aload_n (pc := 17) dX7_restoreSnapshot_17 rfl trivial ?_
  refine g_getf (pc := 18) dX7_restoreSnapshot_18 fk_X7_22 (shK hS1 rfl) (fv_arr (shR hS1 rfl)) ?_
  refine g_iload_n (pc := 21) dX7_restoreSnapshot_21 rfl ?_
  refine g_zaload (pc := 22) dX7_restoreSnapshot_22 (shK hS1 rfl) rfl (by omega) (nl rfl) ?_
  rw [e4, h0]
  refine g_if_ne (pc := 23) (tgt := 28) dX7_restoreSnapshot_23 rfl (fun h23 => absurd h23 ((fun z => z rfl))) (fun _ => ?_)
  refine g_iconst (pc := 26) (v := (-1)) dX7_restoreSnapshot_26 rfl ?_
  refine g_ireturn (pc := 27) dX7_restoreSnapshot_27 rfl rfl ?_
  exact ⟨rfl, rfl⟩
theorem t_restoreSnapshot {w : Int32} (hS : Shp M) (hx : ¬ (¬ w < 0 ∧ w ≤ 1)) : EvR l jX7_restoreSnapshot 4 160 0 0 [.ref 198, .int w] M (.inl (some (.int 0))) (thr M 1) := by
  refine ev_intro rfl (nb rfl) rfl ?_
  refine g_aload_n (pc := 0) dX7_restoreSnapshot_0 rfl trivial ?_
  refine g_iload_n (pc := 1) dX7_restoreSnapshot_1 rfl ?_
  refine g_i2l (pc := 2) dX7_restoreSnapshot_2 rfl ?_
  refine g_lconst (pc := 3) (v := 0) dX7_restoreSnapshot_3 rfl ?_
  refine g_lconst (pc := 4) (v := 1) dX7_restoreSnapshot_4 rfl ?_
  refine g_invS_r (pc := 5) (As := [_, _, _]) dX7_restoreSnapshot_5 rfl (r_in_f (fun z => hx ((lim_long (a := 0) (b := 1)).mp z))) rfl rfl lk_X7_67 rfl (nb rfl) ⟨nb rfl, nb rfl⟩ rfl ?_
  refine g_iconst (pc := 8) (v := 1) dX7_restoreSnapshot_8 rfl ?_
  refine g_invV_r (pc := 9) (As := [_, _]) dX7_restoreSnapshot_9 rfl (r_isThrown_1 hS) rfl rfl (shK hS rfl) rfl rfl lk_X7_209 rfl (nb rfl) ⟨nb rfl, nb rfl⟩ rfl ?_
  refine g_if_eq (pc := 12) (tgt := 17) dX7_restoreSnapshot_12 rfl (fun h12 => absurd h12 ((by decide))) (fun _ => ?_)
  refine g_iconst (pc := 15) (v := 0) dX7_restoreSnapshot_15 rfl ?_
  refine g_ireturn (pc := 16) dX7_restoreSnapshot_16 rfl rfl ?_
  exact ⟨rfl, rfl⟩
end

