-- 303.ra
section
/-! the reference: bytes put, output, snapshots -/
section
variable {l : Launch} {M : Mem} {n c : Nat} {A : Nat → Nat → Int32}
theorem shI_n : ∀ k, k < 8 → shI k = nI (56 - 8 * k) ∧ 8 * (7 - nI k) = nI (56 - 8 * k) := by decide +kernel
theorem ush64 : ∀ c, c < 64 → ((((nI c).toInt64.toUInt64 &&& Int64.toUInt64 63)).mod 64).toBitVec.toNat = c := by decide +kernel
theorem m255 : ∀ i, i < 64 → hl 255 i = decide (i < 8) := by decide +kernel
theorem byt_eq (x : Int64) {k : Nat} (hk : k < 8) : x >>> ((nI (56 - 8 * k)).toInt64 &&& 63) &&& 255 = btX x k := hl_ext fun i hi => by
  unfold btX
  rw [(shI_n k hk).1, hl_and, hl_and, hl_shr _ (by omega) i hi, m255 i hi]
  by_cases h : i < 8
  · have e : hl (x.toUInt64 >>> ((nI (56 - 8 * k)).toInt64.toUInt64 &&& Int64.toUInt64 63)).toInt64 i = hl x (56 - 8 * k + i) := by
      unfold hl
      show (x.toBitVec >>> ((((nI (56 - 8 * k)).toInt64.toUInt64 &&& Int64.toUInt64 63)).mod 64).toBitVec.toNat).getLsbD i = _
      rw [ush64 _ (by omega), BitVec.getLsbD_ushiftRight]
    rw [e, if_pos (by omega)]
  · simp [h]
theorem btX_lt (x : Int64) (k : Nat) : (btX x k).toBitVec.toNat < 256 := by
  unfold btX
  rw [Int64.toBitVec_and, BitVec.toNat_and]
  exact Nat.lt_of_le_of_lt Nat.and_le_right (by decide)
theorem bI_n (x : Int64) (k : Nat) : ∃ j, j < 256 ∧ bI x k = nI j ∧ btX x k = lN j := by
  have h := btX_lt x k
  have e : btX x k = lN (btX x k).toBitVec.toNat := Int64.toInt_inj.mp (by
    rw [lN_toInt (by omega)]
    show (btX x k).toBitVec.toInt = _
    rw [BitVec.toInt_eq_toNat_of_lt (by omega)])
  refine ⟨(btX x k).toBitVec.toNat, h, ?_, e⟩
  unfold bI
  generalize (btX x k).toBitVec.toNat = j at *
  rw [e, lN_32 (by omega)]
theorem b_zero : ∀ j, j < 256 → ((nI j = 0 ↔ j = 0) ∧ (lN j = 0 ↔ j = 0)) := by decide +kernel
theorem cmp_bI (x : Int64) (k : Nat) : lg_cmp (btX x k) 0 = 0 ↔ bI x k = 0 := by
  obtain ⟨j, h1, h2, h3⟩ := bI_n x k
  rw [lg_cmp_eq, h2, h3, (b_zero j h1).1, (b_zero j h1).2]
def sx (v : Int32) : Int32 := v.toInt8.toInt32
theorem sx_nar : ∀ j, j < 256 → vp_nar .byte (sx (nI j)) = sx (nI j) ∧ sx (nI j) &&& 255 = nI j := by decide +kernel
def mrB (x : Int64) : Nat → Nat
  | 0 => 0
  | k + 1 => if bI x k = 0 then mrB x k else mrB x k + 1
theorem mrB_n (x : Int64) : ∀ k, mrN x k = mrB x k
  | 0 => rfl
  | k + 1 => by
    rw [mrN, mrB, mrB_n x k]
    by_cases h : bI x k = 0
    · rw [if_pos h, if_pos ((cmp_bI x k).mpr h)]
    · rw [if_neg h, if_neg (fun q => h ((cmp_bI x k).mp q))]
theorem mrB_le (x : Int64) (k : Nat) : mrB x k ≤ k := by rw [← mrB_n]; exact mrN_le x k
def apB (len : Nat) (T : Nat → Int32) (x : Int64) : Nat → Nat × (Nat → Int32)
  | 0 => (len, T)
  | k + 1 => if bI x k = 0 then apB len T x k else ((apB len T x k).1 + 1, fun_set (apB len T x k).2 (apB len T x k).1 (sx (bI x k)))
theorem apB_1 (len : Nat) (T : Nat → Int32) (x : Int64) : ∀ k, (apB len T x k).1 = len + mrB x k
  | 0 => rfl
  | k + 1 => by
    rw [apB, mrB]
    by_cases h : bI x k = 0
    · rw [if_pos h, if_pos h]; exact apB_1 len T x k
    · rw [if_neg h, if_neg h]; simp only; rw [apB_1 len T x k]; omega
def agM (M : Mem) (q : Nat × (Nat → Int32)) : Mem := pI (sI M 204 q.2) 198 8 (nI q.1)
theorem agM_8 (q : Nat × (Nat → Int32)) : mI (agM M q) 198 8 = nI q.1 := pI_self (sI M 204 q.2) 198 8 _
theorem agM_t (q : Nat × (Nat → Int32)) : mI (agM M q) 204 = q.2 := (pI_i (M := sI M 204 q.2) (by decide)).trans (sI_self M 204 _)
theorem agM_id {len : Nat} (h : mI M 198 8 = nI len) : M = agM M (len, mI M 204) := by
  refine mem_extI rfl rfl rfl rfl rfl rfl (fun i => ?_)
  simp only [agM, sI, mI, pI]
  by_cases i1 : i = 198
  · subst i1; funext j
    by_cases j1 : j = 8
    · subst j1; simp only [fun_set]; exact h
    · simp [fun_set, j1]
  · by_cases i2 : i = 204
    · subst i2; simp [fun_set]
    · simp [fun_set, i1, i2]
theorem agM_st {q : Nat × (Nat → Int32)} {x : Int32} : pI (sI (agM M q) 204 (fun_set (mI (agM M q) 204) q.1 x)) 198 8 (nI (q.1 + 1)) = agM M (q.1 + 1, fun_set q.2 q.1 x) := by
  rw [agM_t]
  refine mem_extI rfl rfl rfl rfl rfl rfl (fun i => ?_)
  simp only [agM, sI, mI, pI]
  by_cases i1 : i = 198
  · subst i1; funext j
    by_cases j1 : j = 8
    · subst j1; simp [fun_set]
    · simp [fun_set, j1]
  · by_cases i2 : i = 204
    · subst i2; simp [fun_set]
    · simp [fun_set, i1, i2]
theorem r_byteOf {x : Int64} {k : Nat} (hk : k < 8) : EvR l jX7_byteOf 0 0 0 0 [.long x, .int (nI k)] M (.inl (some (.int (bI x k)))) M := by
  refine ev_intro rfl (nb rfl) rfl ?_
  refine g_lload_n (pc := 0) dX7_byteOf_0 rfl ?_
  refine g_bipush (pc := 1) (v := 8) dX7_byteOf_1 rfl ?_
  refine g_bipush (pc := 3) (v := 7) dX7_byteOf_3 rfl ?_
  refine g_iload_n (pc := 5) dX7_byteOf_5 rfl ?_
  refine g_isub (pc := 6) dX7_byteOf_6 ?_
  refine g_imul (pc := 7) dX7_byteOf_7 ?_
  rw [(shI_n k hk).2]
  refine g_lshr (pc := 8) dX7_byteOf_8 rfl ?_
  refine g_ldc2 (pc := 9) dX7_byteOf_9 wd_1304 ?_
  refine g_land (pc := 12) dX7_byteOf_12 ?_
  rw [byt_eq x hk]
  refine g_l2i (pc := 13) dX7_byteOf_13 rfl ?_
  refine g_ireturn (pc := 14) dX7_byteOf_14 rfl rfl ?_
  exact ⟨rfl, rfl⟩
def agV (len : Nat) (x : Int64) : Int32 := if 600 < len + mrB x 8 then -2 else nI (len + mrB x 8)
def agE (M : Mem) (len : Nat) (x : Int64) : Mem := if 600 < len + mrB x 8 then thr M 0 else agM (thr M 0) (apB len (mI M 204) x 8)
theorem n_append {x : Int64} {len : Nat} (hS : Shp M) (hl : mI M 198 8 = nI len) (hL : len ≤ 600) : EvR l jX7_append 4 160 0 0 [.ref 198, .long x] M (.inl (some (.int (agV len x)))) (agE M len x) := by
  have hm := mrB_le x 8
  have hS1 : Shp (thr M 0) := hS
  have e0 : pI M 198 6 0 = thr M 0 := rfl
  have hl1 : mI (thr M 0) 198 8 = nI len := (pI_k (by decide)).trans hl
  have hT : mI (thr M 0) 204 = mI M 204 := pI_i (by decide)
  unfold agE
  rw [← hT]
  generalize thr M 0 = M1 at *
  have hB : len + mrB x 8 ≤ 600 → Go l jX7_append 4 160 0 0 (fun r' M9 => r' = .inl (some (.int (nI (len + mrB x 8)))) ∧ M9 = agM M1 (apB len (mI M1 204) x 8)) 55 [(0, .ref 198), (1, .long x)] [] 0 0 M1 := by
    intro hlt
    refine g_iconst (pc := 55) (v := 0) dX7_append_55 rfl ?_
    refine g_istore (pc := 56) (lv' := [(0, _), (1, _), (4, _)]) dX7_append_56 (nl rfl) rfl ?_
    refine go_loop (pc := 58) 8 (fun i => [(0, .ref 198), (1, .long x), (4, .int (nI i))]) (fun i => agM M1 (apB len (mI M1 204) x i)) ⟨rfl, rfl, rfl, trivial⟩ (agM_id hl1) ?_ ?_
    · intro i hi ih
      have a1 := apB_1 len (mI M1 204) x i
      have a2 := apB_1 len (mI M1 204) x (i + 1)
      have a3 : mrB x (i + 1) ≤ mrB x 8 := by
        have key : ∀ d j, j + d = 8 → mrB x j ≤ mrB x 8 := by
          intro d
          induction d with
          | zero => intro j hj; rw [show j = 8 by omega]; exact Nat.le_refl _
          | succ d ihd =>
            intro j hj
            have h1 := ihd (j + 1) (by omega)
            rw [mrB] at h1
            split at h1 <;> omega
        exact key (8 - (i + 1)) (i + 1) (by omega)
      generalize apB len (mI M1 204) x 8 = q9 at *
      rw [apB] at ih a2
      generalize apB len (mI M1 204) x i = q at *
      have hS2 : Shp (agM M1 q) := hS1
      have e8 := agM_8 (M := M1) q
      have est := agM_st (M := M1) (q := q) (x := sx (bI x i))
      obtain ⟨j, j1, j2, -⟩ := bI_n x i
      have hsx : vp_nar .byte (sx (bI x i)) = sx (bI x i) := by rw [j2]; exact (sx_nar j j1).1
      by_cases h0 : bI x i = 0
      · rw [if_pos h0] at ih
        generalize agM M1 q = M2 at *
        refine g_iload (pc := 58) dX7_append_58 rfl ?_
        refine g_bipush (pc := 60) (v := 8) dX7_append_60 rfl ?_
        refine g_icmp_ge (pc := 62) (tgt := 106) dX7_append_62 rfl (fun h62 => absurd h62 (nI_ge (b := 8) hi (by decide))) (fun _ => ?_)
        refine g_lload_n (pc := 65) dX7_append_65 rfl ?_
        refine g_iload (pc := 66) dX7_append_66 rfl ?_
        refine g_invS_r (pc := 68) (As := [_, _]) dX7_append_68 rfl (r_byteOf hi) rfl rfl lk_X7_77 rfl (nb rfl) ⟨nb rfl, nb rfl⟩ rfl ?_
        refine g_if_eq (pc := 71) (tgt := 100) dX7_append_71 rfl (fun _ => ?_) (fun h71 => absurd (h0) h71)
        refine g_iinc (pc := 100) (lv' := [(0, _), (1, _), (4, _)]) dX7_append_100 rfl (nI_1 _) (nl rfl) rfl ?_
        refine g_goto (pc := 103) (tgt := 58) dX7_append_103 rfl ?_
        exact ih
      · rw [if_neg h0] at ih a2
        simp only at a2
        have hS3 : Shp (sI (agM M1 q) 204 (fun_set (mI (agM M1 q) 204) q.1 (sx (bI x i)))) := hS1
        have e83 : mI (sI (agM M1 q) 204 (fun_set (mI (agM M1 q) 204) q.1 (sx (bI x i)))) 198 8 = nI q.1 := (congrFun (sI_ne (by decide)) 8).trans e8
        rw [← est] at ih
        have eM3 : pI (agM M1 q) 204 q.1 (sx (bI x i)) = sI (agM M1 q) 204 (fun_set (mI (agM M1 q) 204) q.1 (sx (bI x i))) := rfl
        generalize sI (agM M1 q) 204 (fun_set (mI (agM M1 q) 204) q.1 (sx (bI x i))) = M3 at *
        generalize agM M1 q = M2 at *
        refine g_iload (pc := 58) dX7_append_58 rfl ?_
        refine g_bipush (pc := 60) (v := 8) dX7_append_60 rfl ?_
        refine g_icmp_ge (pc := 62) (tgt := 106) dX7_append_62 rfl (fun h62 => absurd h62 (nI_ge (b := 8) hi (by decide))) (fun _ => ?_)
        refine g_lload_n (pc := 65) dX7_append_65 rfl ?_
        refine g_iload (pc := 66) dX7_append_66 rfl ?_
        refine g_invS_r (pc := 68) (As := [_, _]) dX7_append_68 rfl (r_byteOf hi) rfl rfl lk_X7_77 rfl (nb rfl) ⟨nb rfl, nb rfl⟩ rfl ?_
        refine g_if_eq (pc := 71) (tgt := 100) dX7_append_71 rfl (fun h71 => absurd h71 (h0)) (fun _ => ?_)
        refine g_aload_n (pc := 74) dX7_append_74 rfl trivial ?_
        refine g_getf (pc := 75) dX7_append_75 fk_X7_26 (shK hS2 rfl) (fv_arr (shR hS2 rfl)) ?_
        refine g_aload_n (pc := 78) dX7_append_78 rfl trivial ?_
        refine g_getf (pc := 79) (v := .int _) dX7_append_79 fk_X7_81 (shK hS2 rfl) (fun _ => congrArg Value.int (e8)) ?_
        refine g_lload_n (pc := 82) dX7_append_82 rfl ?_
        refine g_iload (pc := 83) dX7_append_83 rfl ?_
        refine g_invS_r (pc := 85) (As := [_, _]) dX7_append_85 rfl (r_byteOf hi) rfl rfl lk_X7_77 rfl (nb rfl) ⟨nb rfl, nb rfl⟩ rfl ?_
        refine g_i2b (pc := 88) dX7_append_88 (show _ = sx (bI x i) from rfl) ?_
        refine g_bastore (pc := 89) dX7_append_89 (shK hS2 rfl) rfl (show q.1 < 600 by omega) (nl rfl) ?_
        rw [hsx]
        refine go_cast eM3 ?_
        refine g_aload_n (pc := 90) dX7_append_90 rfl trivial ?_
        refine g_dup (pc := 91) dX7_append_91 rfl ?_
        refine g_getf (pc := 92) (v := .int _) dX7_append_92 fk_X7_81 (shK hS3 rfl) (fun _ => congrArg Value.int (e83)) ?_
        refine g_iconst (pc := 95) (v := 1) dX7_append_95 rfl ?_
        refine g_iadd (pc := 96) dX7_append_96 ?_
        rw [nI_1]
        refine g_putI (pc := 97) dX7_append_97 fp_X7_81 (shK hS3 rfl) ⟨rfl, rfl⟩ (fun _ _ _ _ => rfl) ?_
        refine g_iinc (pc := 100) (lv' := [(0, _), (1, _), (4, _)]) dX7_append_100 rfl (nI_1 _) (nl rfl) rfl ?_
        refine g_goto (pc := 103) (tgt := 58) dX7_append_103 rfl ?_
        exact ih
    · have hS2 : Shp (agM M1 (apB len (mI M1 204) x 8)) := hS1
      have e8 := agM_8 (M := M1) (apB len (mI M1 204) x 8)
      rw [apB_1] at e8
      generalize agM M1 (apB len (mI M1 204) x 8) = M2 at *
      refine g_iload (pc := 58) dX7_append_58 rfl ?_
      refine g_bipush (pc := 60) (v := 8) dX7_append_60 rfl ?_
      refine g_icmp_ge (pc := 62) (tgt := 106) dX7_append_62 rfl (fun _ => ?_) (fun h62 => absurd (nI_le (Nat.le_refl 8) (by decide)) h62)
      refine g_aload_n (pc := 106) dX7_append_106 rfl trivial ?_
      refine g_getf (pc := 107) (v := .int _) dX7_append_107 fk_X7_81 (shK hS2 rfl) (fun _ => congrArg Value.int (e8)) ?_
      refine g_ireturn (pc := 110) dX7_append_110 rfl rfl ?_
      exact ⟨rfl, rfl⟩
  refine ev_intro rfl (nb rfl) rfl ?_
  refine g_aload_n (pc := 0) dX7_append_0 rfl trivial ?_
  refine g_iconst (pc := 1) (v := 0) dX7_append_1 rfl ?_
  refine g_putI (pc := 2) dX7_append_2 fp_X7_60 (shK hS rfl) ⟨rfl, rfl⟩ (fun _ _ _ _ => rfl) ?_
  refine go_cast e0 ?_
  refine g_iconst (pc := 5) (v := 0) dX7_append_5 rfl ?_
  refine g_istore_n (pc := 6) (lv' := [(0, _), (1, _), (3, _)]) dX7_append_6 (nl rfl) rfl ?_
  refine g_iconst (pc := 7) (v := 0) dX7_append_7 rfl ?_
  refine g_istore (pc := 8) (lv' := [(0, _), (1, _), (3, _), (4, _)]) dX7_append_8 (nl rfl) rfl ?_
  refine go_loop (pc := 10) 8 (fun i => [(0, .ref 198), (1, .long x), (3, .int (nI (mrB x i))), (4, .int (nI i))]) (fun i => M1) ⟨rfl, rfl, rfl, rfl, trivial⟩ rfl ?_ ?_
  · intro i hi ih
    generalize mrB x 8 = m8 at *
    rw [mrB] at ih
    by_cases h0 : bI x i = 0
    · rw [if_pos h0] at ih
      refine g_iload (pc := 10) dX7_append_10 rfl ?_
      refine g_bipush (pc := 12) (v := 8) dX7_append_12 rfl ?_
      refine g_icmp_ge (pc := 14) (tgt := 40) dX7_append_14 rfl (fun h14 => absurd h14 (nI_ge (b := 8) hi (by decide))) (fun _ => ?_)
      refine g_iload_n (pc := 17) dX7_append_17 rfl ?_
      refine g_lload_n (pc := 18) dX7_append_18 rfl ?_
      refine g_iload (pc := 19) dX7_append_19 rfl ?_
      refine g_invS_r (pc := 21) (As := [_, _]) dX7_append_21 rfl (r_byteOf hi) rfl rfl lk_X7_77 rfl (nb rfl) ⟨nb rfl, nb rfl⟩ rfl ?_
      refine g_if_ne (pc := 24) (tgt := 31) dX7_append_24 rfl (fun h24 => absurd h24 ((fun z => z h0))) (fun _ => ?_)
      refine g_iconst (pc := 27) (v := 0) dX7_append_27 rfl ?_
      refine g_goto (pc := 28) (tgt := 32) dX7_append_28 rfl ?_
      refine g_iadd (pc := 32) dX7_append_32 ?_
      rw [Int32.add_zero]
      refine g_istore_n (pc := 33) (lv' := [(0, _), (1, _), (3, _), (4, _)]) dX7_append_33 (nl rfl) rfl ?_
      refine g_iinc (pc := 34) (lv' := [(0, _), (1, _), (3, _), (4, _)]) dX7_append_34 rfl (nI_1 _) (nl rfl) rfl ?_
      refine g_goto (pc := 37) (tgt := 10) dX7_append_37 rfl ?_
      exact ih
    · rw [if_neg h0] at ih
      refine g_iload (pc := 10) dX7_append_10 rfl ?_
      refine g_bipush (pc := 12) (v := 8) dX7_append_12 rfl ?_
      refine g_icmp_ge (pc := 14) (tgt := 40) dX7_append_14 rfl (fun h14 => absurd h14 (nI_ge (b := 8) hi (by decide))) (fun _ => ?_)
      refine g_iload_n (pc := 17) dX7_append_17 rfl ?_
      refine g_lload_n (pc := 18) dX7_append_18 rfl ?_
      refine g_iload (pc := 19) dX7_append_19 rfl ?_
      refine g_invS_r (pc := 21) (As := [_, _]) dX7_append_21 rfl (r_byteOf hi) rfl rfl lk_X7_77 rfl (nb rfl) ⟨nb rfl, nb rfl⟩ rfl ?_
      refine g_if_ne (pc := 24) (tgt := 31) dX7_append_24 rfl (fun _ => ?_) (fun h24 => absurd (h0) h24)
      refine g_iconst (pc := 31) (v := 1) dX7_append_31 rfl ?_
      refine g_iadd (pc := 32) dX7_append_32 ?_
      rw [nI_1]
      refine g_istore_n (pc := 33) (lv' := [(0, _), (1, _), (3, _), (4, _)]) dX7_append_33 (nl rfl) rfl ?_
      refine g_iinc (pc := 34) (lv' := [(0, _), (1, _), (3, _), (4, _)]) dX7_append_34 rfl (nI_1 _) (nl rfl) rfl ?_
      refine g_goto (pc := 37) (tgt := 10) dX7_append_37 rfl ?_
      exact ih
  · unfold agV
    by_cases h6 : 600 < len + mrB x 8
    · rw [if_pos h6, if_pos h6]
      refine g_iload (pc := 10) dX7_append_10 rfl ?_
      refine g_bipush (pc := 12) (v := 8) dX7_append_12 rfl ?_
      refine g_icmp_ge (pc := 14) (tgt := 40) dX7_append_14 rfl (fun _ => ?_) (fun h14 => absurd (nI_le (Nat.le_refl 8) (by decide)) h14)
      refine g_aload_n (pc := 40) dX7_append_40 rfl trivial ?_
      refine g_getf (pc := 41) (v := .int _) dX7_append_41 fk_X7_81 (shK hS1 rfl) (fun _ => congrArg Value.int (hl1)) ?_
      refine g_iload_n (pc := 44) dX7_append_44 rfl ?_
      refine g_iadd (pc := 45) dX7_append_45 ?_
      rw [nI_add]
      refine g_sipush (pc := 46) (v := 600) dX7_append_46 rfl ?_
      refine g_icmp_le (pc := 49) (tgt := 55) dX7_append_49 rfl (fun h49 => absurd h49 ((fun z => by have := (nI_leI (a := len + mrB x 8) (b := 600) (by omega) (by decide)).mp z; omega))) (fun _ => ?_)
      refine g_bipush (pc := 52) (v := (-2)) dX7_append_52 rfl ?_
      refine g_ireturn (pc := 54) dX7_append_54 rfl rfl ?_
      exact ⟨rfl, rfl⟩
    · rw [if_neg h6, if_neg h6]
      refine g_iload (pc := 10) dX7_append_10 rfl ?_
      refine g_bipush (pc := 12) (v := 8) dX7_append_12 rfl ?_
      refine g_icmp_ge (pc := 14) (tgt := 40) dX7_append_14 rfl (fun _ => ?_) (fun h14 => absurd (nI_le (Nat.le_refl 8) (by decide)) h14)
      refine g_aload_n (pc := 40) dX7_append_40 rfl trivial ?_
      refine g_getf (pc := 41) (v := .int _) dX7_append_41 fk_X7_81 (shK hS1 rfl) (fun _ => congrArg Value.int (hl1)) ?_
      refine g_iload_n (pc := 44) dX7_append_44 rfl ?_
      refine g_iadd (pc := 45) dX7_append_45 ?_
      rw [nI_add]
      refine g_sipush (pc := 46) (v := 600) dX7_append_46 rfl ?_
      refine g_icmp_le (pc := 49) (tgt := 55) dX7_append_49 rfl (fun _ => ?_) (fun h49 => absurd (nI_le (b := 600) (by omega) (by decide)) h49)
      exact g_sub (lv' := [(0, _), (1, _)]) ⟨rfl, rfl, trivial⟩ (hB (by omega))
theorem n_loadErr (hS : Shp M) : EvR l jX7_loadError 4 160 0 0 [.ref 198] M (.inl (some (.int (mI M 198 14)))) (thr M 0) := by
  have e1 : mI (thr M 0) 198 14 = mI M 198 14 := pI_k (by decide)
  have hS1 : Shp (thr M 0) := hS
  refine ev_intro rfl (nb rfl) rfl ?_
  refine g_aload_n (pc := 0) dX7_loadError_0 rfl trivial ?_
  refine g_iconst (pc := 1) (v := 0) dX7_loadError_1 rfl ?_
  refine g_putI (pc := 2) dX7_loadError_2 fp_X7_60 (shK hS rfl) ⟨rfl, rfl⟩ (fun _ _ _ _ => rfl) ?_
  refine g_aload_n (pc := 5) dX7_loadError_5 rfl trivial ?_
  refine g_getf (pc := 6) (v := .int _) dX7_loadError_6 fk_X7_195 (shK hS1 rfl) (fun _ => congrArg Value.int (e1)) ?_
  refine g_ireturn (pc := 9) dX7_loadError_9 rfl rfl ?_
  exact ⟨rfl, rfl⟩
theorem n_loadStatement (hS : Shp M) : EvR l jX7_loadStatement 4 160 0 0 [.ref 198] M (.inl (some (.int (mI M 198 15)))) (thr M 0) := by
  have e1 : mI (thr M 0) 198 15 = mI M 198 15 := pI_k (by decide)
  have hS1 : Shp (thr M 0) := hS
  refine ev_intro rfl (nb rfl) rfl ?_
  refine g_aload_n (pc := 0) dX7_loadStatement_0 rfl trivial ?_
  refine g_iconst (pc := 1) (v := 0) dX7_loadStatement_1 rfl ?_
  refine g_putI (pc := 2) dX7_loadStatement_2 fp_X7_60 (shK hS rfl) ⟨rfl, rfl⟩ (fun _ _ _ _ => rfl) ?_
  refine g_aload_n (pc := 5) dX7_loadStatement_5 rfl trivial ?_
  refine g_getf (pc := 6) (v := .int _) dX7_loadStatement_6 fk_X7_30 (shK hS1 rfl) (fun _ => congrArg Value.int (e1)) ?_
  refine g_ireturn (pc := 9) dX7_loadStatement_9 rfl rfl ?_
  exact ⟨rfl, rfl⟩
/-- a row written out -/
def wrtM (M : Mem) (n : Nat) (x : Int32) : Mem := sI (pI (thr M 0) 198 24 (nI n)) 211 (wr (mI M 211) (fun i => 48 + b1 (hb x i)) n)
theorem wo_nar : ∀ b, (48 + b1 b).toInt8.toInt32 = 48 + b1 b ∧ vp_nar .byte (48 + b1 b) = 48 + b1 b := by decide +kernel
theorem n_writeRow {s r : Nat} (h : Rr M n A) (hs : s < 6) (hr : r < n) : EvR l jX7_writeRow 4 160 0 0 [.ref 198, .int (nI s), .int (nI r)] M (.inl (some (.int (nI n)))) (wrtM M n (A s r)) := by
  have hn := h.2.2.2.1
  have hS := h.1
  have h' := h.thr (x := 0)
  have h1 : Rr (pI (thr M 0) 198 24 (nI n)) n A := h
  have e1 : mI (pI (thr M 0) 198 24 (nI n)) 198 24 = nI n := pI_self (thr M 0) 198 24 _
  have e2 : mI (pI (thr M 0) 198 24 (nI n)) 211 = mI M 211 := (pI_i (by decide)).trans (pI_i (by decide))
  unfold wrtM
  have hrow : ∀ (M' : Mem) (h' : Rr M' n A), EvR l jX7_rowOf 0 0 0 0 [.ref 198, .int (nI s), .int (nI r)] M' (.inl (some (.long (uL (A s r))))) M' := fun M' h' => r_rowOf h' hs hr
  generalize A s r = x at *
  rw [← e2]
  generalize hM1 : pI (thr M 0) 198 24 (nI n) = M1 at *
  refine ev_intro rfl (nb rfl) rfl ?_
  refine g_aload_n (pc := 0) dX7_writeRow_0 rfl trivial ?_
  refine g_aload_n (pc := 1) dX7_writeRow_1 rfl trivial ?_
  refine g_iload_n (pc := 2) dX7_writeRow_2 rfl ?_
  refine g_iload_n (pc := 3) dX7_writeRow_3 rfl ?_
  refine g_invV_r (pc := 4) (As := [_, _]) dX7_writeRow_4 rfl (r_areIn_t h (in6 hs) (inR_nI hr (by omega))) rfl rfl (shK hS rfl) rfl rfl lk_X7_223 rfl (nb rfl) ⟨nb rfl, nb rfl⟩ rfl ?_
  refine g_iconst (pc := 7) (v := 1) dX7_writeRow_7 rfl ?_
  refine g_invV_r (pc := 8) (As := [_, _]) dX7_writeRow_8 rfl (r_isThrown_0 hS) rfl rfl (shK hS rfl) rfl rfl lk_X7_209 rfl (nb rfl) ⟨nb rfl, nb rfl⟩ rfl ?_
  refine g_if_eq (pc := 11) (tgt := 16) dX7_writeRow_11 rfl (fun _ => ?_) (fun h11 => absurd (rfl) h11)
  refine g_aload_n (pc := 16) dX7_writeRow_16 rfl trivial ?_
  refine g_aload_n (pc := 17) dX7_writeRow_17 rfl trivial ?_
  refine g_invV_r (pc := 18) (As := []) dX7_writeRow_18 rfl (r_size h') rfl rfl (shK h'.1 rfl) rfl rfl lk_X7_71 rfl (nb rfl) ⟨nb rfl, nb rfl⟩ rfl ?_
  refine g_putI (pc := 21) dX7_writeRow_21 fp_X7_355 (shK h'.1 rfl) ⟨rfl, rfl⟩ (fun _ _ _ _ => rfl) ?_
  refine go_cast hM1 ?_
  refine g_iconst (pc := 24) (v := 0) dX7_writeRow_24 rfl ?_
  refine g_istore_n (pc := 25) (lv' := [(0, _), (1, _), (2, _), (3, _)]) dX7_writeRow_25 (nl rfl) rfl ?_
  refine go_loop (pc := 26) n (fun i => [(0, .ref 198), (1, .int (nI s)), (2, .int (nI r)), (3, .int (nI i))]) (fun i => sI M1 211 (wr (mI M1 211) (fun i => 48 + b1 (hb x i)) i)) ⟨rfl, rfl, rfl, rfl, trivial⟩ (sI_eq (wr_0 _ _)) ?_ ?_
  · intro i hi ih
    have h2 : Rr (sI M1 211 (wr (mI M1 211) (fun i => 48 + b1 (hb x i)) i)) n A := h1
    have e3 : mI (sI M1 211 (wr (mI M1 211) (fun i => 48 + b1 (hb x i)) i)) 198 24 = nI n := (congrFun (sI_ne (by decide)) 24).trans e1
    have est : pI (sI M1 211 (wr (mI M1 211) (fun i => 48 + b1 (hb x i)) i)) 211 i (48 + b1 (hb x i)) = sI M1 211 (wr (mI M1 211) (fun i => 48 + b1 (hb x i)) (i + 1)) := sI_st (wr_s _ (fun i => 48 + b1 (hb x i)) i)
    rw [← est] at ih
    generalize sI M1 211 (wr (mI M1 211) (fun i => 48 + b1 (hb x i)) i) = M2 at *
    refine g_iload_n (pc := 26) dX7_writeRow_26 rfl ?_
    refine g_aload_n (pc := 27) dX7_writeRow_27 rfl trivial ?_
    refine g_getf (pc := 28) (v := .int _) dX7_writeRow_28 fk_X7_355 (shK h2.1 rfl) (fun _ => congrArg Value.int (e3)) ?_
    refine g_icmp_ge (pc := 31) (tgt := 60) dX7_writeRow_31 rfl (fun h31 => absurd h31 (nI_ge hi (by omega))) (fun _ => ?_)
    refine g_aload_n (pc := 34) dX7_writeRow_34 rfl trivial ?_
    refine g_getf (pc := 35) dX7_writeRow_35 fk_X7_53 (shK h2.1 rfl) (fv_arr (shR h2.1 rfl)) ?_
    refine g_iload_n (pc := 38) dX7_writeRow_38 rfl ?_
    refine g_bipush (pc := 39) (v := 48) dX7_writeRow_39 rfl ?_
    refine g_aload_n (pc := 41) dX7_writeRow_41 rfl trivial ?_
    refine g_iload_n (pc := 42) dX7_writeRow_42 rfl ?_
    refine g_iload_n (pc := 43) dX7_writeRow_43 rfl ?_
    refine g_invV_r (pc := 44) (As := [_, _]) dX7_writeRow_44 rfl ((hrow _ h2)) rfl rfl (shK h2.1 rfl) rfl rfl lk_X7_227 rfl (nb rfl) ⟨nb rfl, nb rfl⟩ rfl ?_
    refine g_iload_n (pc := 47) dX7_writeRow_47 rfl ?_
    refine g_invS_r (pc := 48) (As := [_, _]) dX7_writeRow_48 rfl (r_one (by omega)) rfl rfl lk_X7_231 rfl (nb rfl) ⟨nb rfl, nb rfl⟩ rfl ?_
    refine g_iadd (pc := 51) dX7_writeRow_51 ?_
    refine g_i2b (pc := 52) dX7_writeRow_52 (wo_nar _).1 ?_
    refine g_bastore (pc := 53) dX7_writeRow_53 (shK h2.1 rfl) rfl (by omega) (nl rfl) ?_
    rw [(wo_nar _).2]
    refine g_iinc (pc := 54) (lv' := [(0, _), (1, _), (2, _), (3, _)]) dX7_writeRow_54 rfl (nI_1 _) (nl rfl) rfl ?_
    refine g_goto (pc := 57) (tgt := 26) dX7_writeRow_57 rfl ?_
    exact ih
  · have h2 : Rr (sI M1 211 (wr (mI M1 211) (fun i => 48 + b1 (hb x i)) n)) n A := h1
    have e3 : mI (sI M1 211 (wr (mI M1 211) (fun i => 48 + b1 (hb x i)) n)) 198 24 = nI n := (congrFun (sI_ne (by decide)) 24).trans e1
    generalize sI M1 211 (wr (mI M1 211) (fun i => 48 + b1 (hb x i)) n) = M2 at *
    refine g_iload_n (pc := 26) dX7_writeRow_26 rfl ?_
    refine g_aload_n (pc := 27) dX7_writeRow_27 rfl trivial ?_
    refine g_getf (pc := 28) (v := .int _) dX7_writeRow_28 fk_X7_355 (shK h2.1 rfl) (fun _ => congrArg Value.int (e3)) ?_
    refine g_icmp_ge (pc := 31) (tgt := 60) dX7_writeRow_31 rfl (fun _ => ?_) (fun h31 => absurd (nI_le (Nat.le_refl _) (by omega)) h31)
    refine g_aload_n (pc := 60) dX7_writeRow_60 rfl trivial ?_
    refine g_getf (pc := 61) (v := .int _) dX7_writeRow_61 fk_X7_355 (shK h2.1 rfl) (fun _ => congrArg Value.int (e3)) ?_
    refine g_ireturn (pc := 64) dX7_writeRow_64 rfl rfl ?_
    exact ⟨rfl, rfl⟩
theorem t_writeRow {v w : Int32} (h : Rr M n A) (hx : ¬ (inR v 6 ∧ inR w n)) : EvR l jX7_writeRow 4 160 0 0 [.ref 198, .int v, .int w] M (.inl (some (.int 0))) (thr M 1) := by
  have hS := h.1
  refine ev_intro rfl (nb rfl) rfl ?_
  refine g_aload_n (pc := 0) dX7_writeRow_0 rfl trivial ?_
  refine g_aload_n (pc := 1) dX7_writeRow_1 rfl trivial ?_
  refine g_iload_n (pc := 2) dX7_writeRow_2 rfl ?_
  refine g_iload_n (pc := 3) dX7_writeRow_3 rfl ?_
  refine g_invV_r (pc := 4) (As := [_, _]) dX7_writeRow_4 rfl (r_areIn_f h hx) rfl rfl (shK hS rfl) rfl rfl lk_X7_223 rfl (nb rfl) ⟨nb rfl, nb rfl⟩ rfl ?_
  refine g_iconst (pc := 7) (v := 1) dX7_writeRow_7 rfl ?_
  refine g_invV_r (pc := 8) (As := [_, _]) dX7_writeRow_8 rfl (r_isThrown_1 hS) rfl rfl (shK hS rfl) rfl rfl lk_X7_209 rfl (nb rfl) ⟨nb rfl, nb rfl⟩ rfl ?_
  refine g_if_eq (pc := 11) (tgt := 16) dX7_writeRow_11 rfl (fun h11 => absurd h11 ((by decide))) (fun _ => ?_)
  refine g_iconst (pc := 14) (v := 0) dX7_writeRow_14 rfl ?_
  refine g_ireturn (pc := 15) dX7_writeRow_15 rfl rfl ?_
  exact ⟨rfl, rfl⟩
theorem lim_m1 {x : Int32} {k : Nat} (hk : k < 2147483648) : (¬ x < 0 ∧ x < nI k) ↔ ((0 : Int64) ≤ x.toInt64 ∧ x.toInt64 ≤ (nI k - 1).toInt64) := by
  rw [show (0 : Int64) = (0 : Int32).toInt64 from rfl, le_long, le_long, Int32.not_lt]
  refine and_congr Iff.rfl ?_
  cases k with
  | zero => rw [show nI 0 - 1 = -1 from rfl, show nI 0 = 0 from rfl, Int32.lt_iff_toInt_lt, Int32.le_iff_toInt_le, show (0 : Int32).toInt = 0 from rfl, show (-1 : Int32).toInt = -1 from rfl]; omega
  | succ c => rw [nI_pred, Int32.lt_iff_toInt_lt, Int32.le_iff_toInt_le, nI_toInt (by omega), nI_toInt (by omega)]; omega
theorem n_outputByte {w : Nat} {x : Int32} (hS : Shp M) (hw : mI M 198 24 = nI w) (hw2 : w ≤ 32) : EvR l jX7_outputByte 4 160 0 0 [.ref 198, .int x] M (.inl (some (.int (if ¬ x < 0 ∧ x < nI w then mI M 211 x.toNatClampNeg else -1)))) (thr M 0) := by
  have e1 : mI (thr M 0) 198 24 = nI w := (pI_k (by decide)).trans hw
  have e2 : mI (thr M 0) 211 = mI M 211 := pI_i (by decide)
  have hS1 : Shp (thr M 0) := hS
  have e0 : pI M 198 6 0 = thr M 0 := rfl
  rw [← e2]
  generalize thr M 0 = M1 at *
  refine ev_intro rfl (nb rfl) rfl ?_
  by_cases hx : ¬ x < 0 ∧ x < nI w
  · rw [if_pos hx]
    have h9 := (lim_m1 (by omega)).mp hx
    obtain ⟨i, hi, rfl⟩ := inR_of hx (by omega)
    rw [nI_clamp (by omega)]
    refine g_aload_n (pc := 0) dX7_outputByte_0 rfl trivial ?_
    refine g_iconst (pc := 1) (v := 0) dX7_outputByte_1 rfl ?_
    refine g_putI (pc := 2) dX7_outputByte_2 fp_X7_60 (shK hS rfl) ⟨rfl, rfl⟩ (fun _ _ _ _ => rfl) ?_
    refine go_cast e0 ?_
    refine g_iload_n (pc := 5) dX7_outputByte_5 rfl ?_
    refine g_i2l (pc := 6) dX7_outputByte_6 rfl ?_
    refine g_lconst (pc := 7) (v := 0) dX7_outputByte_7 rfl ?_
    refine g_aload_n (pc := 8) dX7_outputByte_8 rfl trivial ?_
    refine g_getf (pc := 9) (v := .int _) dX7_outputByte_9 fk_X7_355 (shK hS1 rfl) (fun _ => congrArg Value.int (e1)) ?_
    refine g_iconst (pc := 12) (v := 1) dX7_outputByte_12 rfl ?_
    refine g_isub (pc := 13) dX7_outputByte_13 ?_
    refine g_i2l (pc := 14) dX7_outputByte_14 rfl ?_
    refine g_invS_r (pc := 15) (As := [_, _, _]) dX7_outputByte_15 rfl (r_in_t h9.1 h9.2) rfl rfl lk_X7_67 rfl (nb rfl) ⟨nb rfl, nb rfl⟩ rfl ?_
    refine g_if_eq (pc := 18) (tgt := 30) dX7_outputByte_18 rfl (fun h18 => absurd h18 ((by decide))) (fun _ => ?_)
    refine g_aload_n (pc := 21) dX7_outputByte_21 rfl trivial ?_
    refine g_getf (pc := 22) dX7_outputByte_22 fk_X7_53 (shK hS1 rfl) (fv_arr (shR hS1 rfl)) ?_
    refine g_iload_n (pc := 25) dX7_outputByte_25 rfl ?_
    refine g_baload (pc := 26) dX7_outputByte_26 (shK hS1 rfl) rfl (by omega) (nl rfl) ?_
    refine g_goto (pc := 27) (tgt := 31) dX7_outputByte_27 rfl ?_
    refine g_ireturn (pc := 31) dX7_outputByte_31 rfl rfl ?_
    exact ⟨rfl, rfl⟩
  · rw [if_neg hx]
    refine g_aload_n (pc := 0) dX7_outputByte_0 rfl trivial ?_
    refine g_iconst (pc := 1) (v := 0) dX7_outputByte_1 rfl ?_
    refine g_putI (pc := 2) dX7_outputByte_2 fp_X7_60 (shK hS rfl) ⟨rfl, rfl⟩ (fun _ _ _ _ => rfl) ?_
    refine go_cast e0 ?_
    refine g_iload_n (pc := 5) dX7_outputByte_5 rfl ?_
    refine g_i2l (pc := 6) dX7_outputByte_6 rfl ?_
    refine g_lconst (pc := 7) (v := 0) dX7_outputByte_7 rfl ?_
    refine g_aload_n (pc := 8) dX7_outputByte_8 rfl trivial ?_
    refine g_getf (pc := 9) (v := .int _) dX7_outputByte_9 fk_X7_355 (shK hS1 rfl) (fun _ => congrArg Value.int (e1)) ?_
    refine g_iconst (pc := 12) (v := 1) dX7_outputByte_12 rfl ?_
    refine g_isub (pc := 13) dX7_outputByte_13 ?_
    refine g_i2l (pc := 14) dX7_outputByte_14 rfl ?_
    refine g_invS_r (pc := 15) (As := [_, _, _]) dX7_outputByte_15 rfl (r_in_f (fun z => hx ((lim_m1 (by omega)).mpr z))) rfl rfl lk_X7_67 rfl (nb rfl) ⟨nb rfl, nb rfl⟩ rfl ?_
    refine g_if_eq (pc := 18) (tgt := 30) dX7_outputByte_18 rfl (fun _ => ?_) (fun h18 => absurd (rfl) h18)
    refine g_iconst (pc := 30) (v := (-1)) dX7_outputByte_30 rfl ?_
    refine g_ireturn (pc := 31) dX7_outputByte_31 rfl rfl ?_
    exact ⟨rfl, rfl⟩
def saM (M : Mem) (q : Nat) : Mem := pI (sL (thr M 0) 202 (cpF (mL M 202) q (mL M 199) 0 220)) 203 q 1
theorem n_saveSnapshot {q : Nat} (h : Rr M n A) (hq : q < 2) : EvR l jX7_saveSnapshot 4 160 0 0 [.ref 198, .int (nI q)] M (.inl (some (.int (nI n)))) (saM M q) := by
  have hS := h.1
  have h' := h.thr (x := 0)
  have hl2 : (0 : Int64) ≤ (nI q).toInt64 ∧ (nI q).toInt64 ≤ 1 := (lim_long (a := 0) (b := 1)).mpr ⟨nI_pos (by omega), nI_le (b := 1) (by omega) (by decide)⟩
  have q1 := r_copies (l := l) (M := thr M 0) (x := 199) (y := 202) (h := 0) (t := q) (shK h'.1 rfl) (shK h'.1 rfl) (by decide) (by decide) (by omega) (by decide) (by decide)
  have q1 : EvR l jX7_copies 0 0 0 0 [.ref 199, .int (nI 0), .ref 202, .int (nI q)] (thr M 0) (.inl none) (sL (thr M 0) 202 (cpF (mL M 202) q (mL M 199) 0 220)) := q1
  have h2 : Rr (sL (thr M 0) 202 (cpF (mL M 202) q (mL M 199) 0 220)) n A := h'.sL (by decide)
  have h3 : Rr (saM M q) n A := h2
  have e3 : pI (sL (thr M 0) 202 (cpF (mL M 202) q (mL M 199) 0 220)) 203 q (vp_nar .boolean 1) = saM M q := rfl
  generalize saM M q = M3 at *
  generalize sL (thr M 0) 202 (cpF (mL M 202) q (mL M 199) 0 220) = M2 at *
  refine ev_intro rfl (nb rfl) rfl ?_
  refine g_aload_n (pc := 0) dX7_saveSnapshot_0 rfl trivial ?_
  refine g_iload_n (pc := 1) dX7_saveSnapshot_1 rfl ?_
  refine g_i2l (pc := 2) dX7_saveSnapshot_2 rfl ?_
  refine g_lconst (pc := 3) (v := 0) dX7_saveSnapshot_3 rfl ?_
  refine g_lconst (pc := 4) (v := 1) dX7_saveSnapshot_4 rfl ?_
  refine g_invS_r (pc := 5) (As := [_, _, _]) dX7_saveSnapshot_5 rfl (r_in_t hl2.1 hl2.2) rfl rfl lk_X7_67 rfl (nb rfl) ⟨nb rfl, nb rfl⟩ rfl ?_
  refine g_iconst (pc := 8) (v := 1) dX7_saveSnapshot_8 rfl ?_
  refine g_invV_r (pc := 9) (As := [_, _]) dX7_saveSnapshot_9 rfl (r_isThrown_0 hS) rfl rfl (shK hS rfl) rfl rfl lk_X7_209 rfl (nb rfl) ⟨nb rfl, nb rfl⟩ rfl ?_
  refine g_if_eq (pc := 12) (tgt := 17) dX7_saveSnapshot_12 rfl (fun _ => ?_) (fun h12 => absurd (rfl) h12)
  refine g_aload_n (pc := 17) dX7_saveSnapshot_17 rfl trivial ?_
  refine g_getf (pc := 18) dX7_saveSnapshot_18 fk_X7_9 (shK h'.1 rfl) (fv_arr (shR h'.1 rfl)) ?_
  refine g_iconst (pc := 21) (v := 0) dX7_saveSnapshot_21 rfl ?_
  refine g_aload_n (pc := 22) dX7_saveSnapshot_22 rfl trivial ?_
  refine g_getf (pc := 23) dX7_saveSnapshot_23 fk_X7_19 (shK h'.1 rfl) (fv_arr (shR h'.1 rfl)) ?_
  refine g_iload_n (pc := 26) dX7_saveSnapshot_26 rfl ?_
  refine g_invS_r (pc := 27) (As := [_, _, _, _]) dX7_saveSnapshot_27 rfl (q1) rfl rfl lk_X7_198 rfl (nb rfl) ⟨nb rfl, nb rfl⟩ rfl ?_
  refine g_aload_n (pc := 30) dX7_saveSnapshot_30 rfl trivial ?_
  refine g_getf (pc := 31) dX7_saveSnapshot_31 fk_X7_22 (shK h2.1 rfl) (fv_arr (shR h2.1 rfl)) ?_
  refine g_iload_n (pc := 34) dX7_saveSnapshot_34 rfl ?_
  refine g_iconst (pc := 35) (v := 1) dX7_saveSnapshot_35 rfl ?_
  refine g_zastore (pc := 36) dX7_saveSnapshot_36 (shK h2.1 rfl) rfl (by omega) (nl rfl) ?_
  refine go_cast e3 ?_
  refine g_aload_n (pc := 37) dX7_saveSnapshot_37 rfl trivial ?_
  refine g_invV_r (pc := 38) (As := []) dX7_saveSnapshot_38 rfl (r_size h3) rfl rfl (shK h3.1 rfl) rfl rfl lk_X7_71 rfl (nb rfl) ⟨nb rfl, nb rfl⟩ rfl ?_
  refine g_ireturn (pc := 41) dX7_saveSnapshot_41 rfl rfl ?_
  exact ⟨rfl, rfl⟩
theorem t_saveSnapshot {w : Int32} (hS : Shp M) (hx : ¬ (¬ w < 0 ∧ w ≤ 1)) : EvR l jX7_saveSnapshot 4 160 0 0 [.ref 198, .int w] M (.inl (some (.int 0))) (thr M 1) := by
  refine ev_intro rfl (nb rfl) rfl ?_
  refine g_aload_n (pc := 0) dX7_saveSnapshot_0 rfl trivial ?_
  refine g_iload_n (pc := 1) dX7_saveSnapshot_1 rfl ?_
  refine g_i2l (pc := 2) dX7_saveSnapshot_2 rfl ?_
  refine g_lconst (pc := 3) (v := 0) dX7_saveSnapshot_3 rfl ?_
  refine g_lconst (pc := 4) (v := 1) dX7_saveSnapshot_4 rfl ?_
  refine g_invS_r (pc := 5) (As := [_, _, _]) dX7_saveSnapshot_5 rfl (r_in_f (fun z => hx ((lim_long (a := 0) (b := 1)).mp z))) rfl rfl lk_X7_67 rfl (nb rfl) ⟨nb rfl, nb rfl⟩ rfl ?_
  refine g_iconst (pc := 8) (v := 1) dX7_saveSnapshot_8 rfl ?_
  refine g_invV_r (pc := 9) (As := [_, _]) dX7_saveSnapshot_9 rfl (r_isThrown_1 hS) rfl rfl (shK hS rfl) rfl rfl lk_X7_209 rfl (nb rfl) ⟨nb rfl, nb rfl⟩ rfl ?_
  refine g_if_eq (pc := 12) (tgt := 17) dX7_saveSnapshot_12 rfl (fun h12 => absurd h12 ((by decide))) (fun _ => ?_)
  refine g_iconst (pc := 15) (v := 0) dX7_saveSnapshot_15 rfl ?_
  refine g_ireturn (pc := 16) dX7_saveSnapshot_16 rfl rfl ?_
  exact ⟨rfl, rfl⟩
def reM (M : Mem) (q : Nat) : Mem := pI (sL (thr M 0) 199 (cpF (mL M 199) 0 (mL M 202) q 220)) 198 5 0
theorem n_restoreSnapshot {q : Nat} (hS : Shp M) (h3 : Rr (reM M q) n A) (hq : q < 2) (h0 : mI M 203 q ≠ 0) : EvR l jX7_restoreSnapshot 4 160 0 0 [.ref 198, .int (nI q)] M (.inl (some (.int (nI n)))) (reM M q) := by
  have hS1 : Shp (thr M 0) := hS
  have hl2 : (0 : Int64) ≤ (nI q).toInt64 ∧ (nI q).toInt64 ≤ 1 := (lim_long (a := 0) (b := 1)).mpr ⟨nI_pos (by omega), nI_le (b := 1) (by omega) (by decide)⟩
  have q1 := r_copies (l := l) (M := thr M 0) (x := 202) (y := 199) (h := q) (t := 0) (shK hS1 rfl) (shK hS1 rfl) (by decide) (by omega) (by decide) (by decide) (by decide)
  have q1 : EvR l jX7_copies 0 0 0 0 [.ref 202, .int (nI q), .ref 199, .int (nI 0)] (thr M 0) (.inl none) (sL (thr M 0) 199 (cpF (mL M 199) 0 (mL M 202) q 220)) := q1
  have hS2 : Shp (sL (thr M 0) 199 (cpF (mL M 199) 0 (mL M 202) q 220)) := hS
  have e3 : pI (sL (thr M 0) 199 (cpF (mL M 199) 0 (mL M 202) q 220)) 198 5 0 = reM M q := rfl
  have e4 : mI (thr M 0) 203 = mI M 203 := pI_i (by decide)
  generalize reM M q = M3 at *
  generalize sL (thr M 0) 199 (cpF (mL M 199) 0 (mL M 202) q 220) = M2 at *
  refine ev_intro rfl (nb rfl) rfl ?_
  refine g_aload_n (pc := 0) dX7_restoreSnapshot_0 rfl trivial ?_
  refine g_iload_n (pc := 1) dX7_restoreSnapshot_1 rfl ?_
  refine g_i2l (pc := 2) dX7_restoreSnapshot_2 rfl ?_
  refine g_lconst (pc := 3) (v := 0) dX7_restoreSnapshot_3 rfl ?_
  refine g_lconst (pc := 4) (v := 1) dX7_restoreSnapshot_4 rfl ?_
  refine g_invS_r (pc := 5) (As := [_, _, _]) dX7_restoreSnapshot_5 rfl (r_in_t hl2.1 hl2.2) rfl rfl lk_X7_67 rfl (nb rfl) ⟨nb rfl, nb rfl⟩ rfl ?_
  refine g_iconst (pc := 8) (v := 1) dX7_restoreSnapshot_8 rfl ?_
  refine g_invV_r (pc := 9) (As := [_, _]) dX7_restoreSnapshot_9 rfl (r_isThrown_0 hS) rfl rfl (shK hS rfl) rfl rfl lk_X7_209 rfl (nb rfl) ⟨nb rfl, nb rfl⟩ rfl ?_
  refine g_if_eq (pc := 12) (tgt := 17) dX7_restoreSnapshot_12 rfl (fun _ => ?_) (fun h12 => absurd (rfl) h12)
  refine g_aload_n (pc := 17) dX7_restoreSnapshot_17 rfl trivial ?_
  refine g_getf (pc := 18) dX7_restoreSnapshot_18 fk_X7_22 (shK hS1 rfl) (fv_arr (shR hS1 rfl)) ?_
  refine g_iload_n (pc := 21) dX7_restoreSnapshot_21 rfl ?_
  refine g_zaload (pc := 22) dX7_restoreSnapshot_22 (shK hS1 rfl) rfl (by omega) (nl rfl) ?_
  rw [e4]
  refine g_if_ne (pc := 23) (tgt := 28) dX7_restoreSnapshot_23 rfl (fun _ => ?_) (fun h23 => absurd (h0) h23)
  refine g_aload_n (pc := 28) dX7_restoreSnapshot_28 rfl trivial ?_
  refine g_getf (pc := 29) dX7_restoreSnapshot_29 fk_X7_19 (shK hS1 rfl) (fv_arr (shR hS1 rfl)) ?_
  refine g_iload_n (pc := 32) dX7_restoreSnapshot_32 rfl ?_
  refine g_aload_n (pc := 33) dX7_restoreSnapshot_33 rfl trivial ?_
  refine g_getf (pc := 34) dX7_restoreSnapshot_34 fk_X7_9 (shK hS1 rfl) (fv_arr (shR hS1 rfl)) ?_
  refine g_iconst (pc := 37) (v := 0) dX7_restoreSnapshot_37 rfl ?_
  refine g_invS_r (pc := 38) (As := [_, _, _, _]) dX7_restoreSnapshot_38 rfl (q1) rfl rfl lk_X7_198 rfl (nb rfl) ⟨nb rfl, nb rfl⟩ rfl ?_
  refine g_aload_n (pc := 41) dX7_restoreSnapshot_41 rfl trivial ?_
  refine g_iconst (pc := 42) (v := 0) dX7_restoreSnapshot_42 rfl ?_
  refine g_putI (pc := 43) dX7_restoreSnapshot_43 fp_X7_201 (shK hS2 rfl) ⟨rfl, rfl⟩ (fun _ _ _ _ => rfl) ?_
  refine go_cast e3 ?_
  refine g_aload_n (pc := 46) dX7_restoreSnapshot_46 rfl trivial ?_
  refine g_invV_r (pc := 47) (As := []) dX7_restoreSnapshot_47 rfl (r_size h3) rfl rfl (shK h3.1 rfl) rfl rfl lk_X7_71 rfl (nb rfl) ⟨nb rfl, nb rfl⟩ rfl ?_
  refine g_ireturn (pc := 50) dX7_restoreSnapshot_50 rfl rfl ?_
  exact ⟨rfl, rfl⟩
theorem o_restoreSnapshot {q : Nat} (hS : Shp M) (hq : q < 2) (h0 : mI M 203 q = 0) : EvR l jX7_restoreSnapshot 4 160 0 0 [.ref 198, .int (nI q)] M (.inl (some (.int (-1)))) (thr M 0) := by
  have hS1 : Shp (thr M 0) := hS
  have hl2 : (0 : Int64) ≤ (nI q).toInt64 ∧ (nI q).toInt64 ≤ 1 := (lim_long (a := 0) (b := 1)).mpr ⟨nI_pos (by omega), nI_le (b := 1) (by omega) (by decide)⟩
  have e4 : mI (thr M 0) 203 = mI M 203 := pI_i (by decide)
  refine ev_intro rfl (nb rfl) rfl ?_
  refine g_aload_n (pc := 0) dX7_restoreSnapshot_0 rfl trivial ?_
  refine g_iload_n (pc := 1) dX7_restoreSnapshot_1 rfl ?_
  refine g_i2l (pc := 2) dX7_restoreSnapshot_2 rfl ?_
  refine g_lconst (pc := 3) (v := 0) dX7_restoreSnapshot_3 rfl ?_
  refine g_lconst (pc := 4) (v := 1) dX7_restoreSnapshot_4 rfl ?_
  refine g_invS_r (pc := 5) (As := [_, _, _]) dX7_restoreSnapshot_5 rfl (r_in_t hl2.1 hl2.2) rfl rfl lk_X7_67 rfl (nb rfl) ⟨nb rfl, nb rfl⟩ rfl ?_
  refine g_iconst (pc := 8) (v := 1) dX7_restoreSnapshot_8 rfl ?_
  refine g_invV_r (pc := 9) (As := [_, _]) dX7_restoreSnapshot_9 rfl (r_isThrown_0 hS) rfl rfl (shK hS rfl) rfl rfl lk_X7_209 rfl (nb rfl) ⟨nb rfl, nb rfl⟩ rfl ?_
  refine g_if_eq (pc := 12) (tgt := 17) dX7_restoreSnapshot_12 rfl (fun _ => ?_) (fun h12 => absurd (rfl) h12)
  refine g_aload_n (pc := 17) dX7_restoreSnapshot_17 rfl trivial ?_
  refine g_getf (pc := 18) dX7_restoreSnapshot_18 fk_X7_22 (shK hS1 rfl) (fv_arr (shR hS1 rfl)) ?_
  refine g_iload_n (pc := 21) dX7_restoreSnapshot_21 rfl ?_
  refine g_zaload (pc := 22) dX7_restoreSnapshot_22 (shK hS1 rfl) rfl (by omega) (nl rfl) ?_
  rw [e4, h0]
  refine g_if_ne (pc := 23) (tgt := 28) dX7_restoreSnapshot_23 rfl (fun h23 => absurd h23 ((fun z => z rfl))) (fun _ => ?_)
  refine g_iconst (pc := 26) (v := (-1)) dX7_restoreSnapshot_26 rfl ?_
  refine g_ireturn (pc := 27) dX7_restoreSnapshot_27 rfl rfl ?_
  exact ⟨rfl, rfl⟩
theorem t_restoreSnapshot {w : Int32} (hS : Shp M) (hx : ¬ (¬ w < 0 ∧ w ≤ 1)) : EvR l jX7_restoreSnapshot 4 160 0 0 [.ref 198, .int w] M (.inl (some (.int 0))) (thr M 1) := by
  refine ev_intro rfl (nb rfl) rfl ?_
  refine g_aload_n (pc := 0) dX7_restoreSnapshot_0 rfl trivial ?_
  refine g_iload_n (pc := 1) dX7_restoreSnapshot_1 rfl ?_
  refine g_i2l (pc := 2) dX7_restoreSnapshot_2 rfl ?_
  refine g_lconst (pc := 3) (v := 0) dX7_restoreSnapshot_3 rfl ?_
  refine g_lconst (pc := 4) (v := 1) dX7_restoreSnapshot_4 rfl ?_
  refine g_invS_r (pc := 5) (As := [_, _, _]) dX7_restoreSnapshot_5 rfl (r_in_f (fun z => hx ((lim_long (a := 0) (b := 1)).mp z))) rfl rfl lk_X7_67 rfl (nb rfl) ⟨nb rfl, nb rfl⟩ rfl ?_
  refine g_iconst (pc := 8) (v := 1) dX7_restoreSnapshot_8 rfl ?_
  refine g_invV_r (pc := 9) (As := [_, _]) dX7_restoreSnapshot_9 rfl (r_isThrown_1 hS) rfl rfl (shK hS rfl) rfl rfl lk_X7_209 rfl (nb rfl) ⟨nb rfl, nb rfl⟩ rfl ?_
  refine g_if_eq (pc := 12) (tgt := 17) dX7_restoreSnapshot_12 rfl (fun h12 => absurd h12 ((by decide))) (fun _ => ?_)
  refine g_iconst (pc := 15) (v := 0) dX7_restoreSnapshot_15 rfl ?_
  refine g_ireturn (pc := 16) dX7_restoreSnapshot_16 rfl rfl ?_
  exact ⟨rfl, rfl⟩
end
end
-- 304.rp
section
/-! the reference: put -/
section
variable {l : Launch} {M : Mem} {n c : Nat} {A : Nat → Nat → Int32}
/-- how many rows are looked at -/
def prR (f : Nat → Int32) (a : Nat) : Nat → Int32
  | 0 => 0
  | k + 1 => if k = a ∨ hb (f k) a = true then prR f a k + 1 else prR f a k
def dfF (f g : Nat → Int32) : Nat → Int32
  | 0 => 0
  | k + 1 => dfF f g k + bcJ (f k ^^^ g k)
theorem o_put {s r q : Nat} {b : Bool} (h : Rr M n A) (hc : mI M 198 5 = nI c) (hc8 : c ≤ 8) (hs : s < 6) (hr : r < n) (hq : q < n) (hb9 : hb (A s r) q = b) : EvR l jX7_put 4 160 0 0 [.ref 198, .int (nI s), .int (nI r), .int (nI q), .int (b1 b)] M (.inl (some (.int 0))) (lkM (k0M M c) s 0) := by
  have hn := h.2.2.2.1
  have hS := h.1
  have q1 := r_k0 (l := l) h hc hc8
  have h1 : Rr (k0M M c) n A := k0M_R h
  have q2 := r_looks (l := l) (x := 0) h1 hs
  generalize lkM (k0M M c) s 0 = M2 at *
  generalize k0M M c = M1 at *
  refine ev_intro rfl (nb rfl) rfl ?_
  cases b with
  | true =>
    refine g_aload_n (pc := 0) dX7_put_0 rfl trivial ?_
    refine g_aload_n (pc := 1) dX7_put_1 rfl trivial ?_
    refine g_iload_n (pc := 2) dX7_put_2 rfl ?_
    refine g_iload_n (pc := 3) dX7_put_3 rfl ?_
    refine g_invV_r (pc := 4) (As := [_, _]) dX7_put_4 rfl (r_areIn_t h (in6 hs) (inR_nI hr (by omega))) rfl rfl (shK hS rfl) rfl rfl lk_X7_223 rfl (nb rfl) ⟨nb rfl, nb rfl⟩ rfl ?_
    refine g_if_eq (pc := 7) (tgt := 22) dX7_put_7 rfl (fun h7 => absurd h7 ((by decide))) (fun _ => ?_)
    refine g_aload_n (pc := 10) dX7_put_10 rfl trivial ?_
    refine g_iload_n (pc := 11) dX7_put_11 rfl ?_
    refine g_invV_r (pc := 12) (As := [_]) dX7_put_12 rfl (r_isNode_t h (inR_nI hq (by omega))) rfl rfl (shK hS rfl) rfl rfl lk_X7_220 rfl (nb rfl) ⟨nb rfl, nb rfl⟩ rfl ?_
    refine g_if_eq (pc := 15) (tgt := 22) dX7_put_15 rfl (fun h15 => absurd h15 ((by decide))) (fun _ => ?_)
    refine g_iconst (pc := 18) (v := 1) dX7_put_18 rfl ?_
    refine g_goto (pc := 19) (tgt := 23) dX7_put_19 rfl ?_
    refine g_iconst (pc := 23) (v := 1) dX7_put_23 rfl ?_
    refine g_invV_r (pc := 24) (As := [_, _]) dX7_put_24 rfl (r_isThrown_0 hS) rfl rfl (shK hS rfl) rfl rfl lk_X7_209 rfl (nb rfl) ⟨nb rfl, nb rfl⟩ rfl ?_
    refine g_if_eq (pc := 27) (tgt := 32) dX7_put_27 rfl (fun _ => ?_) (fun h27 => absurd (rfl) h27)
    refine g_aload_n (pc := 32) dX7_put_32 rfl trivial ?_
    refine g_invV_r (pc := 33) (As := []) dX7_put_33 rfl (q1) rfl rfl (shK (h.thr (x := 0)).1 rfl) rfl rfl lk_X7_315 rfl (nb rfl) ⟨nb rfl, nb rfl⟩ rfl ?_
    refine g_aload_n (pc := 36) dX7_put_36 rfl trivial ?_
    refine g_iload_n (pc := 37) dX7_put_37 rfl ?_
    refine g_iload_n (pc := 38) dX7_put_38 rfl ?_
    refine g_invV_r (pc := 39) (As := [_, _]) dX7_put_39 rfl (r_rowOf h1 hs hr) rfl rfl (shK h1.1 rfl) rfl rfl lk_X7_227 rfl (nb rfl) ⟨nb rfl, nb rfl⟩ rfl ?_
    refine g_iload_n (pc := 42) dX7_put_42 rfl ?_
    refine g_invS_r (pc := 43) (As := [_, _]) dX7_put_43 rfl (r_one (show q < 32 by omega)) rfl rfl lk_X7_231 rfl (nb rfl) ⟨nb rfl, nb rfl⟩ rfl ?_
    rw [hb9]
    refine g_iload (pc := 46) dX7_put_46 rfl ?_
    refine g_if_eq (pc := 48) (tgt := 55) dX7_put_48 rfl (fun h48 => absurd h48 ((by decide))) (fun _ => ?_)
    refine g_iconst (pc := 51) (v := 1) dX7_put_51 rfl ?_
    refine g_goto (pc := 52) (tgt := 56) dX7_put_52 rfl ?_
    refine g_icmp_ne (pc := 56) (tgt := 67) dX7_put_56 rfl (fun h56 => absurd h56 ((fun z => z rfl))) (fun _ => ?_)
    refine g_aload_n (pc := 59) dX7_put_59 rfl trivial ?_
    refine g_iload_n (pc := 60) dX7_put_60 rfl ?_
    refine g_iconst (pc := 61) (v := 0) dX7_put_61 rfl ?_
    refine g_invV_r (pc := 62) (As := [_, _]) dX7_put_62 rfl (q2) rfl rfl (shK h1.1 rfl) rfl rfl lk_X7_312 rfl (nb rfl) ⟨nb rfl, nb rfl⟩ rfl ?_
    refine g_iconst (pc := 65) (v := 0) dX7_put_65 rfl ?_
    refine g_ireturn (pc := 66) dX7_put_66 rfl rfl ?_
    exact ⟨rfl, rfl⟩
  | false =>
    refine g_aload_n (pc := 0) dX7_put_0 rfl trivial ?_
    refine g_aload_n (pc := 1) dX7_put_1 rfl trivial ?_
    refine g_iload_n (pc := 2) dX7_put_2 rfl ?_
    refine g_iload_n (pc := 3) dX7_put_3 rfl ?_
    refine g_invV_r (pc := 4) (As := [_, _]) dX7_put_4 rfl (r_areIn_t h (in6 hs) (inR_nI hr (by omega))) rfl rfl (shK hS rfl) rfl rfl lk_X7_223 rfl (nb rfl) ⟨nb rfl, nb rfl⟩ rfl ?_
    refine g_if_eq (pc := 7) (tgt := 22) dX7_put_7 rfl (fun h7 => absurd h7 ((by decide))) (fun _ => ?_)
    refine g_aload_n (pc := 10) dX7_put_10 rfl trivial ?_
    refine g_iload_n (pc := 11) dX7_put_11 rfl ?_
    refine g_invV_r (pc := 12) (As := [_]) dX7_put_12 rfl (r_isNode_t h (inR_nI hq (by omega))) rfl rfl (shK hS rfl) rfl rfl lk_X7_220 rfl (nb rfl) ⟨nb rfl, nb rfl⟩ rfl ?_
    refine g_if_eq (pc := 15) (tgt := 22) dX7_put_15 rfl (fun h15 => absurd h15 ((by decide))) (fun _ => ?_)
    refine g_iconst (pc := 18) (v := 1) dX7_put_18 rfl ?_
    refine g_goto (pc := 19) (tgt := 23) dX7_put_19 rfl ?_
    refine g_iconst (pc := 23) (v := 1) dX7_put_23 rfl ?_
    refine g_invV_r (pc := 24) (As := [_, _]) dX7_put_24 rfl (r_isThrown_0 hS) rfl rfl (shK hS rfl) rfl rfl lk_X7_209 rfl (nb rfl) ⟨nb rfl, nb rfl⟩ rfl ?_
    refine g_if_eq (pc := 27) (tgt := 32) dX7_put_27 rfl (fun _ => ?_) (fun h27 => absurd (rfl) h27)
    refine g_aload_n (pc := 32) dX7_put_32 rfl trivial ?_
    refine g_invV_r (pc := 33) (As := []) dX7_put_33 rfl (q1) rfl rfl (shK (h.thr (x := 0)).1 rfl) rfl rfl lk_X7_315 rfl (nb rfl) ⟨nb rfl, nb rfl⟩ rfl ?_
    refine g_aload_n (pc := 36) dX7_put_36 rfl trivial ?_
    refine g_iload_n (pc := 37) dX7_put_37 rfl ?_
    refine g_iload_n (pc := 38) dX7_put_38 rfl ?_
    refine g_invV_r (pc := 39) (As := [_, _]) dX7_put_39 rfl (r_rowOf h1 hs hr) rfl rfl (shK h1.1 rfl) rfl rfl lk_X7_227 rfl (nb rfl) ⟨nb rfl, nb rfl⟩ rfl ?_
    refine g_iload_n (pc := 42) dX7_put_42 rfl ?_
    refine g_invS_r (pc := 43) (As := [_, _]) dX7_put_43 rfl (r_one (show q < 32 by omega)) rfl rfl lk_X7_231 rfl (nb rfl) ⟨nb rfl, nb rfl⟩ rfl ?_
    rw [hb9]
    refine g_iload (pc := 46) dX7_put_46 rfl ?_
    refine g_if_eq (pc := 48) (tgt := 55) dX7_put_48 rfl (fun _ => ?_) (fun h48 => absurd (rfl) h48)
    refine g_iconst (pc := 55) (v := 0) dX7_put_55 rfl ?_
    refine g_icmp_ne (pc := 56) (tgt := 67) dX7_put_56 rfl (fun h56 => absurd h56 ((fun z => z rfl))) (fun _ => ?_)
    refine g_aload_n (pc := 59) dX7_put_59 rfl trivial ?_
    refine g_iload_n (pc := 60) dX7_put_60 rfl ?_
    refine g_iconst (pc := 61) (v := 0) dX7_put_61 rfl ?_
    refine g_invV_r (pc := 62) (As := [_, _]) dX7_put_62 rfl (q2) rfl rfl (shK h1.1 rfl) rfl rfl lk_X7_312 rfl (nb rfl) ⟨nb rfl, nb rfl⟩ rfl ?_
    refine g_iconst (pc := 65) (v := 0) dX7_put_65 rfl ?_
    refine g_ireturn (pc := 66) dX7_put_66 rfl rfl ?_
    exact ⟨rfl, rfl⟩
/-- the memory behind a put that changes a bit -/
def rpM1 (M : Mem) (n s r : Nat) (f : Nat → Int32) (c : Nat) : Mem := lkM (hdM (hdM (k0M M c) 205 n (wOut f n n)) 206 n (wOut f n n)) s (prR (wOut f n n) r n)
def rpM (M : Mem) (n s r q : Nat) (f : Nat → Int32) (c : Nat) : Mem := hdM (srM (rpM1 M n s r f c) s r (f r ^^^ bitI q)) 205 n (wOut (tnF f r q) n n)
theorem lkM_ne {s x : Nat} {y : Int32} (hx : x ≠ 199) : mL (lkM M s y) x = mL M x := by
  unfold lkM
  split
  · rw [pL_i hx, pL_i hx]
  · rfl
theorem n_put {s r q : Nat} {b : Bool} (h : Rr M n A) (hc : mI M 198 5 = nI c) (hc8 : c ≤ 8) (hs : s < 6) (hr : r < n) (hq : q < n) (hb9 : hb (A s r) q ≠ b) : EvR l jX7_put 4 160 0 0 [.ref 198, .int (nI s), .int (nI r), .int (nI q), .int (b1 b)] M (.inl (some (.int (dfF (wOut (tnF (A s) r q) n n) (wOut (A s) n n) n)))) (rpM M n s r q (A s) c) := by
  have hn := h.2.2.2.1
  have hS := h.1
  have q1 := r_k0 (l := l) h hc hc8
  have h1 : Rr (k0M M c) n A := k0M_R h
  have q2 := r_closure (l := l) h1 hs
  have hAr : A s r = A s r := rfl
  unfold rpM rpM1
  have h2 : Rr (hdM (k0M M c) 205 n (wOut (A s) n n)) n A := h1.hd (Or.inl rfl)
  have h3 : Rr (hdM (hdM (k0M M c) 205 n (wOut (A s) n n)) 206 n (wOut (A s) n n)) n A := h2.hd (Or.inr (Or.inl rfl))
  have q3 := r_looks (l := l) (x := prR (wOut (A s) n n) r n) h3 hs
  have h4 := lkM_R (x := prR (wOut (A s) n n) r n) h3 hs
  have q4 := r_setsRow (l := l) (s := s) (r := r) (x := uL (A s r ^^^ bitI q)) h4.1 hs (by omega)
  have h5 := srM_R (v := A s r ^^^ bitI q) h4 hs hr
  have q5 := r_closure (l := l) h5 hs
  have e5 : fun_set A s (fun_set (A s) r (A s r ^^^ bitI q)) s = tnF (A s) r q := fs_self _ _ _
  rw [e5] at q5
  have h6 : Rr (hdM (srM (lkM (hdM (hdM (k0M M c) 205 n (wOut (A s) n n)) 206 n (wOut (A s) n n)) s (prR (wOut (A s) n n) r n)) s r (A s r ^^^ bitI q)) 205 n (wOut (tnF (A s) r q) n n)) n (fun_set A s (fun_set (A s) r (A s r ^^^ bitI q))) := h5.hd (Or.inl rfl)
  have e6 : ∀ i, i < n → mL (hdM (srM (lkM (hdM (hdM (k0M M c) 205 n (wOut (A s) n n)) 206 n (wOut (A s) n n)) s (prR (wOut (A s) n n) r n)) s r (A s r ^^^ bitI q)) 205 n (wOut (tnF (A s) r q) n n)) 205 i = uL (wOut (tnF (A s) r q) n n i) := fun i hi => hdM_at hi
  have e7 : ∀ i, i < n → mL (hdM (srM (lkM (hdM (hdM (k0M M c) 205 n (wOut (A s) n n)) 206 n (wOut (A s) n n)) s (prR (wOut (A s) n n) r n)) s r (A s r ^^^ bitI q)) 205 n (wOut (tnF (A s) r q) n n)) 206 i = uL (wOut (A s) n n i) := fun i hi => by
    rw [hdM_ne (by decide), show ∀ X : Mem, mL (srM X s r (A s r ^^^ bitI q)) 206 = mL X 206 from fun X => pL_i (by decide), lkM_ne (by decide)]
    exact hdM_at hi
  have e4 : pL (lkM (hdM (hdM (k0M M c) 205 n (wOut (A s) n n)) 206 n (wOut (A s) n n)) s (prR (wOut (A s) n n) r n)) 199 (28 + 32 * s + r) (uL (A s r ^^^ bitI q)) = srM (lkM (hdM (hdM (k0M M c) 205 n (wOut (A s) n n)) 206 n (wOut (A s) n n)) s (prR (wOut (A s) n n) r n)) s r (A s r ^^^ bitI q) := rfl
  rw [e4] at q4
  have hrow := fun (M' : Mem) (h' : Rr M' n A) => r_rowOf (l := l) h' hs hr
  have hu : ∀ i, i < n → mL (hdM (k0M M c) 205 n (wOut (A s) n n)) 205 i = uL (wOut (A s) n n i) := fun i hi => hdM_at hi
  generalize hdM (srM (lkM (hdM (hdM (k0M M c) 205 n (wOut (A s) n n)) 206 n (wOut (A s) n n)) s (prR (wOut (A s) n n) r n)) s r (A s r ^^^ bitI q)) 205 n (wOut (tnF (A s) r q) n n) = M6 at *
  generalize srM (lkM (hdM (hdM (k0M M c) 205 n (wOut (A s) n n)) 206 n (wOut (A s) n n)) s (prR (wOut (A s) n n) r n)) s r (A s r ^^^ bitI q) = M5 at *
  generalize lkM (hdM (hdM (k0M M c) 205 n (wOut (A s) n n)) 206 n (wOut (A s) n n)) s (prR (wOut (A s) n n) r n) = M4 at *
  generalize hdM (k0M M c) 205 n (wOut (A s) n n) = M2 at *
  generalize k0M M c = M1 at *
  generalize wOut (tnF (A s) r q) n n = W2 at *
  generalize wOut (A s) n n = W at *
  generalize hAB : fun_set A s (fun_set (A s) r (A s r ^^^ bitI q)) = A2 at *
  refine ev_intro rfl (nb rfl) rfl ?_
  have hmain : Go l jX7_put 4 160 0 0 (fun r' M' => r' = .inl (some (.int (dfF W2 W n))) ∧ M' = M6) 67 [(0, .ref 198), (1, .int (nI s)), (2, .int (nI r)), (3, .int (nI q))] [] 0 0 M1 := by
    refine g_aload_n (pc := 67) dX7_put_67 rfl trivial ?_
    refine g_iload_n (pc := 68) dX7_put_68 rfl ?_
    refine g_invV_r (pc := 69) (As := [_]) dX7_put_69 rfl (q2) rfl rfl (shK h1.1 rfl) rfl rfl lk_X7_260 rfl (nb rfl) ⟨nb rfl, nb rfl⟩ rfl ?_
    refine g_iconst (pc := 72) (v := 0) dX7_put_72 rfl ?_
    refine g_istore (pc := 73) (lv' := [(0, _), (1, _), (2, _), (3, _), (5, _)]) dX7_put_73 (nl rfl) rfl ?_
    refine g_iconst (pc := 75) (v := 0) dX7_put_75 rfl ?_
    refine g_istore (pc := 76) (lv' := [(0, _), (1, _), (2, _), (3, _), (5, _), (6, _)]) dX7_put_76 (nl rfl) rfl ?_
    refine go_loop (pc := 78) n (fun i => [(0, .ref 198), (1, .int (nI s)), (2, .int (nI r)), (3, .int (nI q)), (5, .int (prR W r i)), (6, .int (nI i))]) (fun i => sL M2 206 (wr (mL M2 206) (uR W) i)) ⟨rfl, rfl, rfl, rfl, rfl, rfl, trivial⟩ (sL_eq (wr_0 _ _)) ?_ ?_
    · intro i hi ih
      have h9 : Rr (sL M2 206 (wr (mL M2 206) (uR W) i)) n A := h2.sL (by decide)
      have e9 : mL (sL M2 206 (wr (mL M2 206) (uR W) i)) 205 i = uL (W i) := by rw [sL_ne (by decide)]; exact hu i hi
      have h10 : Rr (sL M2 206 (wr (mL M2 206) (uR W) (i + 1))) n A := h2.sL (by decide)
      have e10 : mL (sL M2 206 (wr (mL M2 206) (uR W) (i + 1))) 205 i = uL (W i) := by rw [sL_ne (by decide)]; exact hu i hi
      have est : pL (sL M2 206 (wr (mL M2 206) (uR W) i)) 206 i (uL (W i)) = sL M2 206 (wr (mL M2 206) (uR W) (i + 1)) := sL_st (wr_s _ (uR W) i)
      rw [prR] at ih
      generalize sL M2 206 (wr (mL M2 206) (uR W) (i + 1)) = M10 at *
      generalize sL M2 206 (wr (mL M2 206) (uR W) i) = M9 at *
      generalize prR W r i = x at *
      by_cases hir : i = r
      · rw [if_pos (Or.inl hir)] at ih
        refine g_iload (pc := 78) dX7_put_78 rfl ?_
        refine g_aload_n (pc := 80) dX7_put_80 rfl trivial ?_
        refine g_invV_r (pc := 81) (As := []) dX7_put_81 rfl (r_size h9) rfl rfl (shK h9.1 rfl) rfl rfl lk_X7_71 rfl (nb rfl) ⟨nb rfl, nb rfl⟩ rfl ?_
        refine g_icmp_ge (pc := 84) (tgt := 138) dX7_put_84 rfl (fun h84 => absurd h84 (nI_ge hi (by omega))) (fun _ => ?_)
        refine g_aload_n (pc := 87) dX7_put_87 rfl trivial ?_
        refine g_getf (pc := 88) dX7_put_88 fk_X7_37 (shK h9.1 rfl) (fv_arr (shR h9.1 rfl)) ?_
        refine g_iload (pc := 91) dX7_put_91 rfl ?_
        refine g_aload_n (pc := 93) dX7_put_93 rfl trivial ?_
        refine g_getf (pc := 94) dX7_put_94 fk_X7_34 (shK h9.1 rfl) (fv_arr (shR h9.1 rfl)) ?_
        refine g_iload (pc := 97) dX7_put_97 rfl ?_
        refine g_laload (pc := 99) dX7_put_99 (shK h9.1 rfl) rfl (by omega) (nl rfl) ?_
        rw [e9]
        refine g_lastore (pc := 100) dX7_put_100 (shK h9.1 rfl) rfl (by omega) (nl rfl) ?_
        refine go_cast est ?_
        refine g_iload (pc := 101) dX7_put_101 rfl ?_
        refine g_iload (pc := 103) dX7_put_103 rfl ?_
        refine g_iload_n (pc := 105) dX7_put_105 rfl ?_
        refine g_icmp_eq (pc := 106) (tgt := 124) dX7_put_106 rfl (fun _ => ?_) (fun h106 => absurd ((by rw [hir])) h106)
        refine g_iconst (pc := 124) (v := 1) dX7_put_124 rfl ?_
        refine g_goto (pc := 125) (tgt := 129) dX7_put_125 rfl ?_
        refine g_iadd (pc := 129) dX7_put_129 ?_
        refine g_istore (pc := 130) (lv' := [(0, _), (1, _), (2, _), (3, _), (5, _), (6, _)]) dX7_put_130 (nl rfl) rfl ?_
        refine g_iinc (pc := 132) (lv' := [(0, _), (1, _), (2, _), (3, _), (5, _), (6, _)]) dX7_put_132 rfl (nI_1 _) (nl rfl) rfl ?_
        refine g_goto (pc := 135) (tgt := 78) dX7_put_135 rfl ?_
        exact ih
      · have hne : ¬ nI i = nI r := fun z => hir ((nI_eq (by omega) (by omega)).mp z)
        cases h11 : hb (W i) r with
        | true =>
          rw [if_pos (Or.inr h11)] at ih
          refine g_iload (pc := 78) dX7_put_78 rfl ?_
          refine g_aload_n (pc := 80) dX7_put_80 rfl trivial ?_
          refine g_invV_r (pc := 81) (As := []) dX7_put_81 rfl (r_size h9) rfl rfl (shK h9.1 rfl) rfl rfl lk_X7_71 rfl (nb rfl) ⟨nb rfl, nb rfl⟩ rfl ?_
          refine g_icmp_ge (pc := 84) (tgt := 138) dX7_put_84 rfl (fun h84 => absurd h84 (nI_ge hi (by omega))) (fun _ => ?_)
          refine g_aload_n (pc := 87) dX7_put_87 rfl trivial ?_
          refine g_getf (pc := 88) dX7_put_88 fk_X7_37 (shK h9.1 rfl) (fv_arr (shR h9.1 rfl)) ?_
          refine g_iload (pc := 91) dX7_put_91 rfl ?_
          refine g_aload_n (pc := 93) dX7_put_93 rfl trivial ?_
          refine g_getf (pc := 94) dX7_put_94 fk_X7_34 (shK h9.1 rfl) (fv_arr (shR h9.1 rfl)) ?_
          refine g_iload (pc := 97) dX7_put_97 rfl ?_
          refine g_laload (pc := 99) dX7_put_99 (shK h9.1 rfl) rfl (by omega) (nl rfl) ?_
          rw [e9]
          refine g_lastore (pc := 100) dX7_put_100 (shK h9.1 rfl) rfl (by omega) (nl rfl) ?_
          refine go_cast est ?_
          refine g_iload (pc := 101) dX7_put_101 rfl ?_
          refine g_iload (pc := 103) dX7_put_103 rfl ?_
          refine g_iload_n (pc := 105) dX7_put_105 rfl ?_
          refine g_icmp_eq (pc := 106) (tgt := 124) dX7_put_106 rfl (fun h106 => absurd h106 (hne)) (fun _ => ?_)
          refine g_aload_n (pc := 109) dX7_put_109 rfl trivial ?_
          refine g_getf (pc := 110) dX7_put_110 fk_X7_34 (shK h10.1 rfl) (fv_arr (shR h10.1 rfl)) ?_
          refine g_iload (pc := 113) dX7_put_113 rfl ?_
          refine g_laload (pc := 115) dX7_put_115 (shK h10.1 rfl) rfl (by omega) (nl rfl) ?_
          rw [e10]
          refine g_iload_n (pc := 116) dX7_put_116 rfl ?_
          refine g_invS_r (pc := 117) (As := [_, _]) dX7_put_117 rfl (r_one (show r < 32 by omega)) rfl rfl lk_X7_231 rfl (nb rfl) ⟨nb rfl, nb rfl⟩ rfl ?_
          rw [h11]
          refine g_iconst (pc := 120) (v := 1) dX7_put_120 rfl ?_
          refine g_icmp_ne (pc := 121) (tgt := 128) dX7_put_121 rfl (fun h121 => absurd h121 ((fun z => z rfl))) (fun _ => ?_)
          refine g_iconst (pc := 124) (v := 1) dX7_put_124 rfl ?_
          refine g_goto (pc := 125) (tgt := 129) dX7_put_125 rfl ?_
          refine g_iadd (pc := 129) dX7_put_129 ?_
          refine g_istore (pc := 130) (lv' := [(0, _), (1, _), (2, _), (3, _), (5, _), (6, _)]) dX7_put_130 (nl rfl) rfl ?_
          refine g_iinc (pc := 132) (lv' := [(0, _), (1, _), (2, _), (3, _), (5, _), (6, _)]) dX7_put_132 rfl (nI_1 _) (nl rfl) rfl ?_
          refine g_goto (pc := 135) (tgt := 78) dX7_put_135 rfl ?_
          exact ih
        | false =>
          rw [if_neg (fun z => z.elim hir (fun y => by rw [h11] at y; cases y))] at ih
          refine g_iload (pc := 78) dX7_put_78 rfl ?_
          refine g_aload_n (pc := 80) dX7_put_80 rfl trivial ?_
          refine g_invV_r (pc := 81) (As := []) dX7_put_81 rfl (r_size h9) rfl rfl (shK h9.1 rfl) rfl rfl lk_X7_71 rfl (nb rfl) ⟨nb rfl, nb rfl⟩ rfl ?_
          refine g_icmp_ge (pc := 84) (tgt := 138) dX7_put_84 rfl (fun h84 => absurd h84 (nI_ge hi (by omega))) (fun _ => ?_)
          refine g_aload_n (pc := 87) dX7_put_87 rfl trivial ?_
          refine g_getf (pc := 88) dX7_put_88 fk_X7_37 (shK h9.1 rfl) (fv_arr (shR h9.1 rfl)) ?_
          refine g_iload (pc := 91) dX7_put_91 rfl ?_
          refine g_aload_n (pc := 93) dX7_put_93 rfl trivial ?_
          refine g_getf (pc := 94) dX7_put_94 fk_X7_34 (shK h9.1 rfl) (fv_arr (shR h9.1 rfl)) ?_
          refine g_iload (pc := 97) dX7_put_97 rfl ?_
          refine g_laload (pc := 99) dX7_put_99 (shK h9.1 rfl) rfl (by omega) (nl rfl) ?_
          rw [e9]
          refine g_lastore (pc := 100) dX7_put_100 (shK h9.1 rfl) rfl (by omega) (nl rfl) ?_
          refine go_cast est ?_
          refine g_iload (pc := 101) dX7_put_101 rfl ?_
          refine g_iload (pc := 103) dX7_put_103 rfl ?_
          refine g_iload_n (pc := 105) dX7_put_105 rfl ?_
          refine g_icmp_eq (pc := 106) (tgt := 124) dX7_put_106 rfl (fun h106 => absurd h106 (hne)) (fun _ => ?_)
          refine g_aload_n (pc := 109) dX7_put_109 rfl trivial ?_
          refine g_getf (pc := 110) dX7_put_110 fk_X7_34 (shK h10.1 rfl) (fv_arr (shR h10.1 rfl)) ?_
          refine g_iload (pc := 113) dX7_put_113 rfl ?_
          refine g_laload (pc := 115) dX7_put_115 (shK h10.1 rfl) rfl (by omega) (nl rfl) ?_
          rw [e10]
          refine g_iload_n (pc := 116) dX7_put_116 rfl ?_
          refine g_invS_r (pc := 117) (As := [_, _]) dX7_put_117 rfl (r_one (show r < 32 by omega)) rfl rfl lk_X7_231 rfl (nb rfl) ⟨nb rfl, nb rfl⟩ rfl ?_
          rw [h11]
          refine g_iconst (pc := 120) (v := 1) dX7_put_120 rfl ?_
          refine g_icmp_ne (pc := 121) (tgt := 128) dX7_put_121 rfl (fun _ => ?_) (fun h121 => absurd ((by decide)) h121)
          refine g_iconst (pc := 128) (v := 0) dX7_put_128 rfl ?_
          refine g_iadd (pc := 129) dX7_put_129 ?_
          rw [Int32.add_zero]
          refine g_istore (pc := 130) (lv' := [(0, _), (1, _), (2, _), (3, _), (5, _), (6, _)]) dX7_put_130 (nl rfl) rfl ?_
          refine g_iinc (pc := 132) (lv' := [(0, _), (1, _), (2, _), (3, _), (5, _), (6, _)]) dX7_put_132 rfl (nI_1 _) (nl rfl) rfl ?_
          refine g_goto (pc := 135) (tgt := 78) dX7_put_135 rfl ?_
          exact ih
    · have h3 : Rr (sL M2 206 (wr (mL M2 206) (uR W) n)) n A := h3
      have q3 : EvR l jX7_looks 0 0 0 0 [.ref 198, .int (nI s), .int (prR W r n)] (sL M2 206 (wr (mL M2 206) (uR W) n)) (.inl none) M4 := q3
      generalize sL M2 206 (wr (mL M2 206) (uR W) n) = M3 at *
      refine g_iload (pc := 78) dX7_put_78 rfl ?_
      refine g_aload_n (pc := 80) dX7_put_80 rfl trivial ?_
      refine g_invV_r (pc := 81) (As := []) dX7_put_81 rfl (r_size h3) rfl rfl (shK h3.1 rfl) rfl rfl lk_X7_71 rfl (nb rfl) ⟨nb rfl, nb rfl⟩ rfl ?_
      refine g_icmp_ge (pc := 84) (tgt := 138) dX7_put_84 rfl (fun _ => ?_) (fun h84 => absurd (nI_le (Nat.le_refl _) (by omega)) h84)
      refine g_aload_n (pc := 138) dX7_put_138 rfl trivial ?_
      refine g_iload_n (pc := 139) dX7_put_139 rfl ?_
      refine g_iload (pc := 140) dX7_put_140 rfl ?_
      refine g_invV_r (pc := 142) (As := [_, _]) dX7_put_142 rfl (q3) rfl rfl (shK h3.1 rfl) rfl rfl lk_X7_312 rfl (nb rfl) ⟨nb rfl, nb rfl⟩ rfl ?_
      refine g_aload_n (pc := 145) dX7_put_145 rfl trivial ?_
      refine g_iload_n (pc := 146) dX7_put_146 rfl ?_
      refine g_iload_n (pc := 147) dX7_put_147 rfl ?_
      refine g_aload_n (pc := 148) dX7_put_148 rfl trivial ?_
      refine g_iload_n (pc := 149) dX7_put_149 rfl ?_
      refine g_iload_n (pc := 150) dX7_put_150 rfl ?_
      refine g_invV_r (pc := 151) (As := [_, _]) dX7_put_151 rfl ((hrow M4 h4)) rfl rfl (shK h4.1 rfl) rfl rfl lk_X7_227 rfl (nb rfl) ⟨nb rfl, nb rfl⟩ rfl ?_
      refine g_lconst (pc := 154) (v := 1) dX7_put_154 rfl ?_
      refine g_iload_n (pc := 155) dX7_put_155 rfl ?_
      refine g_lshl (pc := 156) dX7_put_156 rfl ?_
      rw [sh_bit q (by omega)]
      refine g_lxor (pc := 157) dX7_put_157 ?_
      rw [uL_xor]
      refine g_invV_r (pc := 158) (As := [_, _, _]) dX7_put_158 rfl (q4) rfl rfl (shK h4.1 rfl) rfl rfl lk_X7_318 rfl (nb rfl) ⟨nb rfl, nb rfl⟩ rfl ?_
      refine g_aload_n (pc := 161) dX7_put_161 rfl trivial ?_
      refine g_iload_n (pc := 162) dX7_put_162 rfl ?_
      refine g_invV_r (pc := 163) (As := [_]) dX7_put_163 rfl (q5) rfl rfl (shK h5.1 rfl) rfl rfl lk_X7_260 rfl (nb rfl) ⟨nb rfl, nb rfl⟩ rfl ?_
      refine g_iconst (pc := 166) (v := 0) dX7_put_166 rfl ?_
      refine g_istore (pc := 167) (lv' := [(0, _), (1, _), (2, _), (3, _), (5, _), (6, _)]) dX7_put_167 (nl rfl) rfl ?_
      refine g_iconst (pc := 169) (v := 0) dX7_put_169 rfl ?_
      refine g_istore (pc := 170) (lv' := [(0, _), (1, _), (2, _), (3, _), (5, _), (6, _), (7, _)]) dX7_put_170 (nl rfl) rfl ?_
      refine go_loop (pc := 172) n (fun i => [(0, .ref 198), (6, .int (dfF W2 W i)), (7, .int (nI i))]) (fun i => M6) ⟨rfl, rfl, rfl, trivial⟩ rfl ?_ ?_
      · intro i hi ih
        refine g_iload (pc := 172) dX7_put_172 rfl ?_
        refine g_aload_n (pc := 174) dX7_put_174 rfl trivial ?_
        refine g_invV_r (pc := 175) (As := []) dX7_put_175 rfl (r_size h6) rfl rfl (shK h6.1 rfl) rfl rfl lk_X7_71 rfl (nb rfl) ⟨nb rfl, nb rfl⟩ rfl ?_
        refine g_icmp_ge (pc := 178) (tgt := 210) dX7_put_178 rfl (fun h178 => absurd h178 (nI_ge hi (by omega))) (fun _ => ?_)
        refine g_iload (pc := 181) dX7_put_181 rfl ?_
        refine g_aload_n (pc := 183) dX7_put_183 rfl trivial ?_
        refine g_getf (pc := 184) dX7_put_184 fk_X7_34 (shK h6.1 rfl) (fv_arr (shR h6.1 rfl)) ?_
        refine g_iload (pc := 187) dX7_put_187 rfl ?_
        refine g_laload (pc := 189) dX7_put_189 (shK h6.1 rfl) rfl (by omega) (nl rfl) ?_
        rw [e6 i hi]
        refine g_aload_n (pc := 190) dX7_put_190 rfl trivial ?_
        refine g_getf (pc := 191) dX7_put_191 fk_X7_37 (shK h6.1 rfl) (fv_arr (shR h6.1 rfl)) ?_
        refine g_iload (pc := 194) dX7_put_194 rfl ?_
        refine g_laload (pc := 196) dX7_put_196 (shK h6.1 rfl) rfl (by omega) (nl rfl) ?_
        rw [e7 i hi]
        refine g_lxor (pc := 197) dX7_put_197 ?_
        rw [uL_xor]
        refine g_invS_r (pc := 198) (As := [_]) dX7_put_198 rfl (r_bitsOf) rfl rfl lk_X7_234 rfl (nb rfl) ⟨nb rfl, nb rfl⟩ rfl ?_
        refine g_iadd (pc := 201) dX7_put_201 ?_
        refine g_istore (pc := 202) (lv' := [(0, _), (6, _), (7, _)]) dX7_put_202 (nl rfl) rfl ?_
        refine g_iinc (pc := 204) (lv' := [(0, _), (6, _), (7, _)]) dX7_put_204 rfl (nI_1 _) (nl rfl) rfl ?_
        refine g_goto (pc := 207) (tgt := 172) dX7_put_207 rfl ?_
        exact ih
      · refine g_iload (pc := 172) dX7_put_172 rfl ?_
        refine g_aload_n (pc := 174) dX7_put_174 rfl trivial ?_
        refine g_invV_r (pc := 175) (As := []) dX7_put_175 rfl (r_size h6) rfl rfl (shK h6.1 rfl) rfl rfl lk_X7_71 rfl (nb rfl) ⟨nb rfl, nb rfl⟩ rfl ?_
        refine g_icmp_ge (pc := 178) (tgt := 210) dX7_put_178 rfl (fun _ => ?_) (fun h178 => absurd (nI_le (Nat.le_refl _) (by omega)) h178)
        refine g_iload (pc := 210) dX7_put_210 rfl ?_
        refine g_ireturn (pc := 212) dX7_put_212 rfl rfl ?_
        exact ⟨rfl, rfl⟩
  cases b with
  | true =>
    have hb0 : hb (A s r) q = false := by cases hz : hb (A s r) q with
      | false => rfl
      | true => exact absurd hz hb9
    refine g_aload_n (pc := 0) dX7_put_0 rfl trivial ?_
    refine g_aload_n (pc := 1) dX7_put_1 rfl trivial ?_
    refine g_iload_n (pc := 2) dX7_put_2 rfl ?_
    refine g_iload_n (pc := 3) dX7_put_3 rfl ?_
    refine g_invV_r (pc := 4) (As := [_, _]) dX7_put_4 rfl (r_areIn_t h (in6 hs) (inR_nI hr (by omega))) rfl rfl (shK hS rfl) rfl rfl lk_X7_223 rfl (nb rfl) ⟨nb rfl, nb rfl⟩ rfl ?_
    refine g_if_eq (pc := 7) (tgt := 22) dX7_put_7 rfl (fun h7 => absurd h7 ((by decide))) (fun _ => ?_)
    refine g_aload_n (pc := 10) dX7_put_10 rfl trivial ?_
    refine g_iload_n (pc := 11) dX7_put_11 rfl ?_
    refine g_invV_r (pc := 12) (As := [_]) dX7_put_12 rfl (r_isNode_t h (inR_nI hq (by omega))) rfl rfl (shK hS rfl) rfl rfl lk_X7_220 rfl (nb rfl) ⟨nb rfl, nb rfl⟩ rfl ?_
    refine g_if_eq (pc := 15) (tgt := 22) dX7_put_15 rfl (fun h15 => absurd h15 ((by decide))) (fun _ => ?_)
    refine g_iconst (pc := 18) (v := 1) dX7_put_18 rfl ?_
    refine g_goto (pc := 19) (tgt := 23) dX7_put_19 rfl ?_
    refine g_iconst (pc := 23) (v := 1) dX7_put_23 rfl ?_
    refine g_invV_r (pc := 24) (As := [_, _]) dX7_put_24 rfl (r_isThrown_0 hS) rfl rfl (shK hS rfl) rfl rfl lk_X7_209 rfl (nb rfl) ⟨nb rfl, nb rfl⟩ rfl ?_
    refine g_if_eq (pc := 27) (tgt := 32) dX7_put_27 rfl (fun _ => ?_) (fun h27 => absurd (rfl) h27)
    refine g_aload_n (pc := 32) dX7_put_32 rfl trivial ?_
    refine g_invV_r (pc := 33) (As := []) dX7_put_33 rfl (q1) rfl rfl (shK (h.thr (x := 0)).1 rfl) rfl rfl lk_X7_315 rfl (nb rfl) ⟨nb rfl, nb rfl⟩ rfl ?_
    refine g_aload_n (pc := 36) dX7_put_36 rfl trivial ?_
    refine g_iload_n (pc := 37) dX7_put_37 rfl ?_
    refine g_iload_n (pc := 38) dX7_put_38 rfl ?_
    refine g_invV_r (pc := 39) (As := [_, _]) dX7_put_39 rfl ((hrow M1 h1)) rfl rfl (shK h1.1 rfl) rfl rfl lk_X7_227 rfl (nb rfl) ⟨nb rfl, nb rfl⟩ rfl ?_
    refine g_iload_n (pc := 42) dX7_put_42 rfl ?_
    refine g_invS_r (pc := 43) (As := [_, _]) dX7_put_43 rfl (r_one (show q < 32 by omega)) rfl rfl lk_X7_231 rfl (nb rfl) ⟨nb rfl, nb rfl⟩ rfl ?_
    rw [hb0]
    refine g_iload (pc := 46) dX7_put_46 rfl ?_
    refine g_if_eq (pc := 48) (tgt := 55) dX7_put_48 rfl (fun h48 => absurd h48 ((by decide))) (fun _ => ?_)
    refine g_iconst (pc := 51) (v := 1) dX7_put_51 rfl ?_
    refine g_goto (pc := 52) (tgt := 56) dX7_put_52 rfl ?_
    refine g_icmp_ne (pc := 56) (tgt := 67) dX7_put_56 rfl (fun _ => ?_) (fun h56 => absurd ((by decide)) h56)
    exact g_sub (lv' := [(0, _), (1, _), (2, _), (3, _)]) ⟨rfl, rfl, rfl, rfl, trivial⟩ hmain
  | false =>
    have hb0 : hb (A s r) q = true := by cases hz : hb (A s r) q with
      | true => rfl
      | false => exact absurd hz hb9
    refine g_aload_n (pc := 0) dX7_put_0 rfl trivial ?_
    refine g_aload_n (pc := 1) dX7_put_1 rfl trivial ?_
    refine g_iload_n (pc := 2) dX7_put_2 rfl ?_
    refine g_iload_n (pc := 3) dX7_put_3 rfl ?_
    refine g_invV_r (pc := 4) (As := [_, _]) dX7_put_4 rfl (r_areIn_t h (in6 hs) (inR_nI hr (by omega))) rfl rfl (shK hS rfl) rfl rfl lk_X7_223 rfl (nb rfl) ⟨nb rfl, nb rfl⟩ rfl ?_
    refine g_if_eq (pc := 7) (tgt := 22) dX7_put_7 rfl (fun h7 => absurd h7 ((by decide))) (fun _ => ?_)
    refine g_aload_n (pc := 10) dX7_put_10 rfl trivial ?_
    refine g_iload_n (pc := 11) dX7_put_11 rfl ?_
    refine g_invV_r (pc := 12) (As := [_]) dX7_put_12 rfl (r_isNode_t h (inR_nI hq (by omega))) rfl rfl (shK hS rfl) rfl rfl lk_X7_220 rfl (nb rfl) ⟨nb rfl, nb rfl⟩ rfl ?_
    refine g_if_eq (pc := 15) (tgt := 22) dX7_put_15 rfl (fun h15 => absurd h15 ((by decide))) (fun _ => ?_)
    refine g_iconst (pc := 18) (v := 1) dX7_put_18 rfl ?_
    refine g_goto (pc := 19) (tgt := 23) dX7_put_19 rfl ?_
    refine g_iconst (pc := 23) (v := 1) dX7_put_23 rfl ?_
    refine g_invV_r (pc := 24) (As := [_, _]) dX7_put_24 rfl (r_isThrown_0 hS) rfl rfl (shK hS rfl) rfl rfl lk_X7_209 rfl (nb rfl) ⟨nb rfl, nb rfl⟩ rfl ?_
    refine g_if_eq (pc := 27) (tgt := 32) dX7_put_27 rfl (fun _ => ?_) (fun h27 => absurd (rfl) h27)
    refine g_aload_n (pc := 32) dX7_put_32 rfl trivial ?_
    refine g_invV_r (pc := 33) (As := []) dX7_put_33 rfl (q1) rfl rfl (shK (h.thr (x := 0)).1 rfl) rfl rfl lk_X7_315 rfl (nb rfl) ⟨nb rfl, nb rfl⟩ rfl ?_
    refine g_aload_n (pc := 36) dX7_put_36 rfl trivial ?_
    refine g_iload_n (pc := 37) dX7_put_37 rfl ?_
    refine g_iload_n (pc := 38) dX7_put_38 rfl ?_
    refine g_invV_r (pc := 39) (As := [_, _]) dX7_put_39 rfl ((hrow M1 h1)) rfl rfl (shK h1.1 rfl) rfl rfl lk_X7_227 rfl (nb rfl) ⟨nb rfl, nb rfl⟩ rfl ?_
    refine g_iload_n (pc := 42) dX7_put_42 rfl ?_
    refine g_invS_r (pc := 43) (As := [_, _]) dX7_put_43 rfl (r_one (show q < 32 by omega)) rfl rfl lk_X7_231 rfl (nb rfl) ⟨nb rfl, nb rfl⟩ rfl ?_
    rw [hb0]
    refine g_iload (pc := 46) dX7_put_46 rfl ?_
    refine g_if_eq (pc := 48) (tgt := 55) dX7_put_48 rfl (fun _ => ?_) (fun h48 => absurd (rfl) h48)
    refine g_iconst (pc := 55) (v := 0) dX7_put_55 rfl ?_
    refine g_icmp_ne (pc := 56) (tgt := 67) dX7_put_56 rfl (fun _ => ?_) (fun h56 => absurd ((by decide)) h56)
    exact g_sub (lv' := [(0, _), (1, _), (2, _), (3, _)]) ⟨rfl, rfl, rfl, rfl, trivial⟩ hmain
theorem t_put {v w u x : Int32} (h : Rr M n A) (hx : ¬ (inR v 6 ∧ inR w n ∧ inR u n)) : EvR l jX7_put 4 160 0 0 [.ref 198, .int v, .int w, .int u, .int x] M (.inl (some (.int 0))) (thr M 1) := by
  have hS := h.1
  refine ev_intro rfl (nb rfl) rfl ?_
  by_cases h1 : inR v 6 ∧ inR w n
  · refine g_aload_n (pc := 0) dX7_put_0 rfl trivial ?_
    refine g_aload_n (pc := 1) dX7_put_1 rfl trivial ?_
    refine g_iload_n (pc := 2) dX7_put_2 rfl ?_
    refine g_iload_n (pc := 3) dX7_put_3 rfl ?_
    refine g_invV_r (pc := 4) (As := [_, _]) dX7_put_4 rfl (r_areIn_t h h1.1 h1.2) rfl rfl (shK hS rfl) rfl rfl lk_X7_223 rfl (nb rfl) ⟨nb rfl, nb rfl⟩ rfl ?_
    refine g_if_eq (pc := 7) (tgt := 22) dX7_put_7 rfl (fun h7 => absurd h7 ((by decide))) (fun _ => ?_)
    refine g_aload_n (pc := 10) dX7_put_10 rfl trivial ?_
    refine g_iload_n (pc := 11) dX7_put_11 rfl ?_
    refine g_invV_r (pc := 12) (As := [_]) dX7_put_12 rfl (r_isNode_f h (fun q => hx ⟨h1.1, h1.2, q⟩)) rfl rfl (shK hS rfl) rfl rfl lk_X7_220 rfl (nb rfl) ⟨nb rfl, nb rfl⟩ rfl ?_
    refine g_if_eq (pc := 15) (tgt := 22) dX7_put_15 rfl (fun _ => ?_) (fun h15 => absurd (rfl) h15)
    refine g_iconst (pc := 22) (v := 0) dX7_put_22 rfl ?_
    refine g_iconst (pc := 23) (v := 1) dX7_put_23 rfl ?_
    refine g_invV_r (pc := 24) (As := [_, _]) dX7_put_24 rfl (r_isThrown_1 hS) rfl rfl (shK hS rfl) rfl rfl lk_X7_209 rfl (nb rfl) ⟨nb rfl, nb rfl⟩ rfl ?_
    refine g_if_eq (pc := 27) (tgt := 32) dX7_put_27 rfl (fun h27 => absurd h27 ((by decide))) (fun _ => ?_)
    refine g_iconst (pc := 30) (v := 0) dX7_put_30 rfl ?_
    refine g_ireturn (pc := 31) dX7_put_31 rfl rfl ?_
    exact ⟨rfl, rfl⟩
  · refine g_aload_n (pc := 0) dX7_put_0 rfl trivial ?_
    refine g_aload_n (pc := 1) dX7_put_1 rfl trivial ?_
    refine g_iload_n (pc := 2) dX7_put_2 rfl ?_
    refine g_iload_n (pc := 3) dX7_put_3 rfl ?_
    refine g_invV_r (pc := 4) (As := [_, _]) dX7_put_4 rfl (r_areIn_f h h1) rfl rfl (shK hS rfl) rfl rfl lk_X7_223 rfl (nb rfl) ⟨nb rfl, nb rfl⟩ rfl ?_
    refine g_if_eq (pc := 7) (tgt := 22) dX7_put_7 rfl (fun _ => ?_) (fun h7 => absurd (rfl) h7)
    refine g_iconst (pc := 22) (v := 0) dX7_put_22 rfl ?_
    refine g_iconst (pc := 23) (v := 1) dX7_put_23 rfl ?_
    refine g_invV_r (pc := 24) (As := [_, _]) dX7_put_24 rfl (r_isThrown_1 hS) rfl rfl (shK hS rfl) rfl rfl lk_X7_209 rfl (nb rfl) ⟨nb rfl, nb rfl⟩ rfl ?_
    refine g_if_eq (pc := 27) (tgt := 32) dX7_put_27 rfl (fun h27 => absurd h27 ((by decide))) (fun _ => ?_)
    refine g_iconst (pc := 30) (v := 0) dX7_put_30 rfl ?_
    refine g_ireturn (pc := 31) dX7_put_31 rfl rfl ?_
    exact ⟨rfl, rfl⟩
end
end
-- 305.rm
section
/-! the reference: products -/
/-- entries made and taken by k blocks -/
def mdN (n bl : Nat) : Nat → Nat
  | 0 => 0
  | k + 1 => mdN n bl k + (2 ^ (min bl (n - k * bl)) - 1)
def tkI (f : Nat → Int32) (st c : Nat) (t : Nat) : Nat → Nat
  | 0 => t
  | i + 1 => if setI (f i) st c = 0 then tkI f st c t i else tkI f st c t i + 1
def tkN (f : Nat → Int32) (n bl : Nat) : Nat → Nat
  | 0 => 0
  | k + 1 => tkI f (k * bl) (min bl (n - k * bl)) (tkN f n bl k) n
theorem uL_shr (x : Int32) {c : Nat} (hc : c < 32) : uL x >>> ((nI c).toInt64 &&& 63) = uL (us x (nI c)) := hl_ext fun i hi => by
  rw [hl_shr _ (by omega) i hi, msb_uL, hl_uL, hl_uL]
  have e : i < 32 → hb (us x (nI c)) i = hb x (c + i) := fun h => by
    unfold hb
    show ((x.toUInt32 >>> ((nI c).toUInt32 &&& Int32.toUInt32 31)).toInt32).toBitVec.getLsbD i = _
    rw [ush32 x hc, BitVec.getLsbD_ushiftRight]
  by_cases h : i < 32
  · rw [e h]
    by_cases h2 : c + i < 32
    · rw [if_pos (by omega)]; simp [h, h2]
    · rw [hb_ge (by omega)]
      split <;> simp [h2]
  · split
    · simp [h]; intro; omega
    · simp [h]
theorem low_lN : ∀ c, c ≤ 8 → uL (lowM c) = lN (2 ^ c - 1) := by decide +kernel
section
variable {l : Launch} {M : Mem} {n bl : Nat} {A : Nat → Nat → Int32}
def ctM (M : Mem) (a b : Nat) : Mem := pL (pL M 199 2 (lN a)) 199 3 (lN b)
theorem ctM_R {a b : Nat} (h : Rr M n A) : Rr (ctM M a b) n A := (h.pL (by decide)).pL (by decide)
theorem ctM_2 {a b : Nat} : mL (ctM M a b) 199 2 = lN a := by unfold ctM; rw [pL_k (by decide), pL_self]
theorem ctM_3 {a b : Nat} : mL (ctM M a b) 199 3 = lN b := pL_self _ 199 3 _
theorem ctM_1 {a b : Nat} : mL (ctM M a b) 199 1 = mL M 199 1 := by unfold ctM; rw [pL_k (by decide), pL_k (by decide)]
theorem ctM_ne {a b x : Nat} (hx : x ≠ 199) : mL (ctM M a b) x = mL M x := by unfold ctM; rw [pL_i hx, pL_i hx]
theorem pL_2 (M : Mem) (i k : Nat) (x y : Int64) : pL (pL M i k x) i k y = pL M i k y := sL_st (fs_twice _ _ _ _)
theorem pL_comm {i k j : Nat} {x y : Int64} (h : k ≠ j) : pL (pL M i k x) i j y = pL (pL M i j y) i k x := by
  show sL (sL M i (fun_set (mL M i) k x)) i (fun_set (mL (sL M i (fun_set (mL M i) k x)) i) j y) = sL (sL M i (fun_set (mL M i) j y)) i (fun_set (mL (sL M i (fun_set (mL M i) j y)) i) k x)
  rw [sL_self, sL_self, sL_2, sL_2, fs_comm _ _ _ h]
theorem ctM_st2 {a b x : Nat} : pL (ctM M a b) 199 2 (lN x) = ctM M x b := by unfold ctM; rw [pL_comm (show 3 ≠ 2 by decide), pL_2]
theorem ctM_st3 {a b x : Nat} : pL (ctM M a b) 199 3 (lN x) = ctM M a x := by unfold ctM; rw [pL_2]
theorem r_counts {x : Nat} {f : Nat → Int32} (h : Rr M n A) (hbl : mL M 199 1 = lN bl) (hb1 : 1 ≤ bl) (hb8 : bl ≤ 8) (hkx : (mK M)[x]? = some (kL 32)) (hx : x ≠ 199) (hf : ∀ i, i < n → mL M x i = uL (f i)) : EvR l jX7_counts 1 30 0 0 [.ref 198, .ref x] M (.inl none) (ctM M (mdN n bl (blocks n bl)) (tkN f n bl (blocks n bl))) := by
  have hn := h.2.2.2.1
  have hS := h.1
  have hg := blocks_ge (n := n) (bl := bl) hb1
  have hS1 : Shp (pL M 199 2 (lN 0)) := hS
  have e00 : pL (pL M 199 2 0) 199 3 0 = ctM M 0 0 := rfl
  have h00 : Rr (ctM M 0 0) n A := ctM_R h
  have e01 : mL (ctM M 0 0) 199 1 = lN bl := ctM_1.trans hbl
  refine ev_intro rfl (nb rfl) rfl ?_
  refine g_aload_n (pc := 0) dX7_counts_0 rfl trivial ?_
  refine g_getf (pc := 1) dX7_counts_1 fk_X7_9 (shK hS rfl) (fv_arr (shR hS rfl)) ?_
  refine g_iconst (pc := 4) (v := 2) dX7_counts_4 rfl ?_
  refine g_lconst (pc := 5) (v := 0) dX7_counts_5 rfl ?_
  refine g_lastore (pc := 6) dX7_counts_6 (shK hS rfl) rfl (by decide) (nl rfl) ?_
  refine g_aload_n (pc := 7) dX7_counts_7 rfl trivial ?_
  refine g_getf (pc := 8) dX7_counts_8 fk_X7_9 (shK hS rfl) (fv_arr (shR hS rfl)) ?_
  refine g_iconst (pc := 11) (v := 3) dX7_counts_11 rfl ?_
  refine g_lconst (pc := 12) (v := 0) dX7_counts_12 rfl ?_
  refine g_lastore (pc := 13) dX7_counts_13 (shK hS rfl) rfl (by decide) (nl rfl) ?_
  refine go_cast e00 ?_
  refine g_aload_n (pc := 14) dX7_counts_14 rfl trivial ?_
  refine g_getf (pc := 15) dX7_counts_15 fk_X7_9 (shK h00.1 rfl) (fv_arr (shR h00.1 rfl)) ?_
  refine g_iconst (pc := 18) (v := 1) dX7_counts_18 rfl ?_
  refine g_laload (pc := 19) dX7_counts_19 (shK h00.1 rfl) rfl (by decide) (nl rfl) ?_
  rw [e01]
  refine g_l2i (pc := 20) dX7_counts_20 (lN_i bl) ?_
  refine g_istore_n (pc := 21) (lv' := [(0, _), (1, _), (2, _)]) dX7_counts_21 (nl rfl) rfl ?_
  refine g_iconst (pc := 22) (v := 0) dX7_counts_22 rfl ?_
  refine g_istore_n (pc := 23) (lv' := [(0, _), (1, _), (2, _), (3, _)]) dX7_counts_23 (nl rfl) rfl ?_
  refine go_loop (pc := 24) (blocks n bl) (fun k => [(0, .ref 198), (1, .ref x), (2, .int (nI bl)), (3, .int (nI (k * bl)))]) (fun k => ctM M (mdN n bl k) (tkN f n bl k)) ⟨rfl, rfl, rfl, by rw [Nat.zero_mul]; rfl, trivial⟩ rfl ?_ ?_
  · intro k hk ih
    have hlt := blocks_lt (n := n) (bl := bl) hb1 hk
    have hcol : min bl (n - k * bl) ≤ 8 := by omega
    rw [mdN, tkN, show (k + 1) * bl = k * bl + bl from Nat.succ_mul k bl] at ih
    have h3 : Rr (ctM M (mdN n bl k) (tkN f n bl k)) n A := ctM_R h
    have e32 := ctM_2 (M := M) (a := mdN n bl k) (b := tkN f n bl k)
    have h4 : Rr (ctM M (mdN n bl k + (2 ^ min bl (n - k * bl) - 1)) (tkN f n bl k)) n A := ctM_R h
    have est := ctM_st2 (M := M) (a := mdN n bl k) (b := tkN f n bl k) (x := mdN n bl k + (2 ^ min bl (n - k * bl) - 1))
    have emin : (if nI (n - k * bl) < nI bl then nI (n - k * bl) else nI bl) = nI (min bl (n - k * bl)) := by
      by_cases hh : n - k * bl < bl
      · rw [if_pos (nI_lt hh (by omega)), Nat.min_eq_right (by omega)]
      · rw [if_neg (nI_nlt (by omega) (by omega)), Nat.min_eq_left (by omega)]
    generalize ctM M (mdN n bl (blocks n bl)) (tkN f n bl (blocks n bl)) = M9 at *
    generalize mdN n bl k = md at *
    generalize tkN f n bl k = tk at *
    generalize min bl (n - k * bl) = col at *
    have elow := low_lN col hcol
    have esub : nI n - nI (k * bl) = nI (n - k * bl) := nI_sub' (by omega)
    generalize k * bl = st at *
    refine g_iload_n (pc := 24) dX7_counts_24 rfl ?_
    refine g_aload_n (pc := 25) dX7_counts_25 rfl trivial ?_
    refine g_invV_r (pc := 26) (As := []) dX7_counts_26 rfl (r_size h3) rfl rfl (shK h3.1 rfl) rfl rfl lk_X7_71 rfl (nb rfl) ⟨nb rfl, nb rfl⟩ rfl ?_
    refine g_icmp_ge (pc := 29) (tgt := 116) dX7_counts_29 rfl (fun h29 => absurd h29 (nI_ge hlt (by omega))) (fun _ => ?_)
    refine g_iload_n (pc := 32) dX7_counts_32 rfl ?_
    refine g_aload_n (pc := 33) dX7_counts_33 rfl trivial ?_
    refine g_invV_r (pc := 34) (As := []) dX7_counts_34 rfl (r_size h3) rfl rfl (shK h3.1 rfl) rfl rfl lk_X7_71 rfl (nb rfl) ⟨nb rfl, nb rfl⟩ rfl ?_
    refine g_iload_n (pc := 37) dX7_counts_37 rfl ?_
    refine g_isub (pc := 38) dX7_counts_38 ?_
    rw [esub]
    refine g_mmin (pc := 39) dX7_counts_39 wd_1348 wd_430 wd_107 wd_431 (nb rfl) (nb rfl) ?_
    rw [emin]
    refine g_istore (pc := 42) (lv' := [(0, _), (1, _), (2, _), (3, _), (4, _)]) dX7_counts_42 (nl rfl) rfl ?_
    refine g_lconst (pc := 44) (v := 1) dX7_counts_44 rfl ?_
    refine g_iload (pc := 45) dX7_counts_45 rfl ?_
    refine g_lshl (pc := 47) dX7_counts_47 rfl ?_
    refine g_lconst (pc := 48) (v := 1) dX7_counts_48 rfl ?_
    refine g_lsub (pc := 49) dX7_counts_49 ?_
    rw [sh_low col (by omega)]
    refine g_lstore (pc := 50) (lv' := [(0, _), (1, _), (2, _), (3, _), (4, _), (5, _)]) dX7_counts_50 (nl rfl) rfl ?_
    refine g_aload_n (pc := 52) dX7_counts_52 rfl trivial ?_
    refine g_getf (pc := 53) dX7_counts_53 fk_X7_9 (shK h3.1 rfl) (fv_arr (shR h3.1 rfl)) ?_
    refine g_iconst (pc := 56) (v := 2) dX7_counts_56 rfl ?_
    refine g_dup2_11 (pc := 57) dX7_counts_57 rfl rfl ?_
    refine g_laload (pc := 58) dX7_counts_58 (shK h3.1 rfl) rfl (by decide) (nl rfl) ?_
    rw [e32]
    refine g_lload (pc := 59) dX7_counts_59 rfl ?_
    refine g_ladd (pc := 61) dX7_counts_61 ?_
    rw [show lN md + uL (lowM col) = lN (md + (2 ^ col - 1)) by rw [elow, lN_add]]
    refine g_lastore (pc := 62) dX7_counts_62 (shK h3.1 rfl) rfl (by decide) (nl rfl) ?_
    refine go_cast est ?_
    refine g_iconst (pc := 63) (v := 0) dX7_counts_63 rfl ?_
    refine g_istore (pc := 64) (lv' := [(0, _), (1, _), (2, _), (3, _), (4, _), (5, _), (7, _)]) dX7_counts_64 (nl rfl) rfl ?_
    refine go_loop (pc := 66) n (fun i => [(0, .ref 198), (1, .ref x), (2, .int (nI bl)), (3, .int (nI st)), (4, .int (nI col)), (5, .long (uL (lowM col))), (7, .int (nI i))]) (fun i => ctM M (md + (2 ^ col - 1)) (tkI f st col tk i)) ⟨rfl, rfl, rfl, rfl, rfl, rfl, rfl, trivial⟩ rfl ?_ ?_
    · intro i hi ih2
      rw [tkI] at ih2
      have h5 : Rr (ctM M (md + (2 ^ col - 1)) (tkI f st col tk i)) n A := ctM_R h
      have e53 := ctM_3 (M := M) (a := md + (2 ^ col - 1)) (b := tkI f st col tk i)
      have e5x : mL (ctM M (md + (2 ^ col - 1)) (tkI f st col tk i)) x i = uL (f i) := by rw [ctM_ne hx]; exact hf i hi
      have hk5 : (mK (ctM M (md + (2 ^ col - 1)) (tkI f st col tk i)))[x]? = some (kL 32) := hkx
      have est0 := ctM_st3 (M := M) (a := md + (2 ^ col - 1)) (b := tkI f st col tk i) (x := tkI f st col tk i)
      have est1 := ctM_st3 (M := M) (a := md + (2 ^ col - 1)) (b := tkI f st col tk i) (x := tkI f st col tk i + 1)
      have eset : us (f i) (nI st) &&& lowM col = setI (f i) st col := rfl
      generalize setI (f i) st col = z at *
      generalize tkI f st col tk i = t at *
      generalize hM5 : ctM M (md + (2 ^ col - 1)) t = M5 at *
      by_cases hz : z = 0
      · rw [if_pos hz, hM5] at ih2
        refine g_iload (pc := 66) dX7_counts_66 rfl ?_
        refine g_aload_n (pc := 68) dX7_counts_68 rfl trivial ?_
        refine g_invV_r (pc := 69) (As := []) dX7_counts_69 rfl (r_size h5) rfl rfl (shK h5.1 rfl) rfl rfl lk_X7_71 rfl (nb rfl) ⟨nb rfl, nb rfl⟩ rfl ?_
        refine g_icmp_ge (pc := 72) (tgt := 109) dX7_counts_72 rfl (fun h72 => absurd h72 (nI_ge hi (by omega))) (fun _ => ?_)
        refine g_aload_n (pc := 75) dX7_counts_75 rfl trivial ?_
        refine g_getf (pc := 76) dX7_counts_76 fk_X7_9 (shK h5.1 rfl) (fv_arr (shR h5.1 rfl)) ?_
        refine g_iconst (pc := 79) (v := 3) dX7_counts_79 rfl ?_
        refine g_dup2_11 (pc := 80) dX7_counts_80 rfl rfl ?_
        refine g_laload (pc := 81) dX7_counts_81 (shK h5.1 rfl) rfl (by decide) (nl rfl) ?_
        rw [e53]
        refine g_aload_n (pc := 82) dX7_counts_82 rfl trivial ?_
        refine g_iload (pc := 83) dX7_counts_83 rfl ?_
        refine g_laload (pc := 85) dX7_counts_85 hk5 rfl (by omega) (nl rfl) ?_
        rw [e5x]
        refine g_iload_n (pc := 86) dX7_counts_86 rfl ?_
        refine g_lshr (pc := 87) dX7_counts_87 rfl ?_
        rw [uL_shr _ (show st < 32 by omega)]
        refine g_lload (pc := 88) dX7_counts_88 rfl ?_
        refine g_land (pc := 90) dX7_counts_90 ?_
        rw [uL_and, eset]
        refine g_lconst (pc := 91) (v := 0) dX7_counts_91 rfl ?_
        refine g_lcmp (pc := 92) dX7_counts_92 ?_
        refine g_if_ne (pc := 93) (tgt := 100) dX7_counts_93 rfl (fun h93 => absurd h93 ((fun y => y ((lg_cmp_eq _ _).mpr (uL_eq0.mpr hz))))) (fun _ => ?_)
        refine g_lconst (pc := 96) (v := 0) dX7_counts_96 rfl ?_
        refine g_goto (pc := 97) (tgt := 101) dX7_counts_97 rfl ?_
        refine g_ladd (pc := 101) dX7_counts_101 ?_
        rw [Int64.add_zero]
        refine g_lastore (pc := 102) dX7_counts_102 (shK h5.1 rfl) rfl (by decide) (nl rfl) ?_
        refine go_cast est0 ?_
        refine g_iinc (pc := 103) (lv' := [(0, _), (1, _), (2, _), (3, _), (4, _), (5, _), (7, _)]) dX7_counts_103 rfl (nI_1 _) (nl rfl) rfl ?_
        refine g_goto (pc := 106) (tgt := 66) dX7_counts_106 rfl ?_
        exact ih2
      · rw [if_neg hz] at ih2
        refine g_iload (pc := 66) dX7_counts_66 rfl ?_
        refine g_aload_n (pc := 68) dX7_counts_68 rfl trivial ?_
        refine g_invV_r (pc := 69) (As := []) dX7_counts_69 rfl (r_size h5) rfl rfl (shK h5.1 rfl) rfl rfl lk_X7_71 rfl (nb rfl) ⟨nb rfl, nb rfl⟩ rfl ?_
        refine g_icmp_ge (pc := 72) (tgt := 109) dX7_counts_72 rfl (fun h72 => absurd h72 (nI_ge hi (by omega))) (fun _ => ?_)
        refine g_aload_n (pc := 75) dX7_counts_75 rfl trivial ?_
        refine g_getf (pc := 76) dX7_counts_76 fk_X7_9 (shK h5.1 rfl) (fv_arr (shR h5.1 rfl)) ?_
        refine g_iconst (pc := 79) (v := 3) dX7_counts_79 rfl ?_
        refine g_dup2_11 (pc := 80) dX7_counts_80 rfl rfl ?_
        refine g_laload (pc := 81) dX7_counts_81 (shK h5.1 rfl) rfl (by decide) (nl rfl) ?_
        rw [e53]
        refine g_aload_n (pc := 82) dX7_counts_82 rfl trivial ?_
        refine g_iload (pc := 83) dX7_counts_83 rfl ?_
        refine g_laload (pc := 85) dX7_counts_85 hk5 rfl (by omega) (nl rfl) ?_
        rw [e5x]
        refine g_iload_n (pc := 86) dX7_counts_86 rfl ?_
        refine g_lshr (pc := 87) dX7_counts_87 rfl ?_
        rw [uL_shr _ (show st < 32 by omega)]
        refine g_lload (pc := 88) dX7_counts_88 rfl ?_
        refine g_land (pc := 90) dX7_counts_90 ?_
        rw [uL_and, eset]
        refine g_lconst (pc := 91) (v := 0) dX7_counts_91 rfl ?_
        refine g_lcmp (pc := 92) dX7_counts_92 ?_
        refine g_if_ne (pc := 93) (tgt := 100) dX7_counts_93 rfl (fun _ => ?_) (fun h93 => absurd ((fun y => hz (uL_eq0.mp ((lg_cmp_eq _ _).mp y)))) h93)
        refine g_lconst (pc := 100) (v := 1) dX7_counts_100 rfl ?_
        refine g_ladd (pc := 101) dX7_counts_101 ?_
        rw [lN_1]
        refine g_lastore (pc := 102) dX7_counts_102 (shK h5.1 rfl) rfl (by decide) (nl rfl) ?_
        refine go_cast est1 ?_
        refine g_iinc (pc := 103) (lv' := [(0, _), (1, _), (2, _), (3, _), (4, _), (5, _), (7, _)]) dX7_counts_103 rfl (nI_1 _) (nl rfl) rfl ?_
        refine g_goto (pc := 106) (tgt := 66) dX7_counts_106 rfl ?_
        exact ih2
    · have h5 : Rr (ctM M (md + (2 ^ col - 1)) (tkI f st col tk n)) n A := ctM_R h
      generalize ctM M (md + (2 ^ col - 1)) (tkI f st col tk n) = M5 at *
      refine g_iload (pc := 66) dX7_counts_66 rfl ?_
      refine g_aload_n (pc := 68) dX7_counts_68 rfl trivial ?_
      refine g_invV_r (pc := 69) (As := []) dX7_counts_69 rfl (r_size h5) rfl rfl (shK h5.1 rfl) rfl rfl lk_X7_71 rfl (nb rfl) ⟨nb rfl, nb rfl⟩ rfl ?_
      refine g_icmp_ge (pc := 72) (tgt := 109) dX7_counts_72 rfl (fun _ => ?_) (fun h72 => absurd (nI_le (Nat.le_refl _) (by omega)) h72)
      refine g_iload_n (pc := 109) dX7_counts_109 rfl ?_
      refine g_iload_n (pc := 110) dX7_counts_110 rfl ?_
      refine g_iadd (pc := 111) dX7_counts_111 ?_
      rw [nI_add]
      refine g_istore_n (pc := 112) (lv' := [(0, _), (1, _), (2, _), (3, _), (4, _), (5, _), (7, _)]) dX7_counts_112 (nl rfl) rfl ?_
      refine g_goto (pc := 113) (tgt := 24) dX7_counts_113 rfl ?_
      exact g_sub (lv' := [(0, _), (1, _), (2, _), (3, _)]) ⟨rfl, rfl, rfl, rfl, trivial⟩ ih
  · have h3 : Rr (ctM M (mdN n bl (blocks n bl)) (tkN f n bl (blocks n bl))) n A := ctM_R h
    generalize ctM M (mdN n bl (blocks n bl)) (tkN f n bl (blocks n bl)) = M9 at *
    refine g_iload_n (pc := 24) dX7_counts_24 rfl ?_
    refine g_aload_n (pc := 25) dX7_counts_25 rfl trivial ?_
    refine g_invV_r (pc := 26) (As := []) dX7_counts_26 rfl (r_size h3) rfl rfl (shK h3.1 rfl) rfl rfl lk_X7_71 rfl (nb rfl) ⟨nb rfl, nb rfl⟩ rfl ?_
    refine g_icmp_ge (pc := 29) (tgt := 116) dX7_counts_29 rfl (fun _ => ?_) (fun h29 => absurd (nI_le hg.1 (by omega)) h29)
    refine g_return (pc := 116) dX7_counts_116 rfl ?_
    exact ⟨rfl, rfl⟩
/-- a row of a product, by one column after the other -/
def mlI (fl : Bool) (g : Nat → Int32) (x : Int32) : Nat → Int32
  | 0 => 0
  | c + 1 => jn (b1 fl) (mlI fl g x c) (if hb x c = true then g c else 0)
def mlF (fl : Bool) (f g : Nat → Int32) (n : Nat) : Nat → Int32 := fun r => mlI fl g (f r) n
theorem uL_jn (fl : Bool) (x y : Int32) : uL (jn (b1 fl) x y) = if fl = true then uL x ^^^ uL y else uL x ||| uL y := by
  cases fl
  · rw [if_neg (by decide), uL_or]; rfl
  · rw [if_pos rfl, uL_xor]; rfl
def muM (M : Mem) (fl : Bool) (f g : Nat → Int32) (n bl : Nat) : Mem := hdM (ctM M (mdN n bl (blocks n bl)) (tkN f n bl (blocks n bl))) 207 n (mlF fl f g n)
theorem r_multiplies {xa xb : Nat} {fl : Bool} {f g : Nat → Int32} (h : Rr M n A) (hbl : mL M 199 1 = lN bl) (hb1 : 1 ≤ bl) (hb8 : bl ≤ 8) (ha : xa = 205 ∨ xa = 206) (hb9 : xb = 205 ∨ xb = 206) (hf : ∀ i, i < n → mL M xa i = uL (f i)) (hg : ∀ i, i < n → mL M xb i = uL (g i)) : EvR l jX7_multiplies 2 60 0 0 [.ref 198, .ref xa, .ref xb, .ref 207, .int (b1 fl)] M (.inl none) (muM M fl f g n bl) := by
  have hn := h.2.2.2.1
  have hS := h.1
  have hka : (mK M)[xa]? = some (kL 32) := shK hS (by rcases ha with rfl | rfl <;> rfl)
  have hkb : (mK M)[xb]? = some (kL 32) := shK hS (by rcases hb9 with rfl | rfl <;> rfl)
  have hna : xa ≠ 199 := by rcases ha with rfl | rfl <;> decide
  have hnb : xb ≠ 199 := by rcases hb9 with rfl | rfl <;> decide
  have hna7 : xa ≠ 207 := by rcases ha with rfl | rfl <;> decide
  have hnb7 : xb ≠ 207 := by rcases hb9 with rfl | rfl <;> decide
  have q1 := r_counts (l := l) h hbl hb1 hb8 hka hna hf
  unfold muM
  have h1 : Rr (ctM M (mdN n bl (blocks n bl)) (tkN f n bl (blocks n bl))) n A := ctM_R h
  have hf1 : ∀ i, i < n → mL (ctM M (mdN n bl (blocks n bl)) (tkN f n bl (blocks n bl))) xa i = uL (f i) := fun i hi => by rw [ctM_ne hna]; exact hf i hi
  have hg1 : ∀ i, i < n → mL (ctM M (mdN n bl (blocks n bl)) (tkN f n bl (blocks n bl))) xb i = uL (g i) := fun i hi => by rw [ctM_ne hnb]; exact hg i hi
  have hka : (mK (ctM M (mdN n bl (blocks n bl)) (tkN f n bl (blocks n bl))))[xa]? = some (kL 32) := hka
  have hkb : (mK (ctM M (mdN n bl (blocks n bl)) (tkN f n bl (blocks n bl))))[xb]? = some (kL 32) := hkb
  generalize ctM M (mdN n bl (blocks n bl)) (tkN f n bl (blocks n bl)) = M1 at *
  unfold hdM
  refine ev_intro rfl (nb rfl) rfl ?_
  refine g_aload_n (pc := 0) dX7_multiplies_0 rfl trivial ?_
  refine g_aload_n (pc := 1) dX7_multiplies_1 rfl trivial ?_
  refine g_invV_r (pc := 2) (As := [_]) dX7_multiplies_2 rfl (q1) rfl rfl (shK hS rfl) rfl rfl lk_X7_330 rfl (nb rfl) ⟨nb rfl, nb rfl⟩ rfl ?_
  refine g_iconst (pc := 5) (v := 0) dX7_multiplies_5 rfl ?_
  refine g_istore (pc := 6) (lv' := [(0, _), (1, _), (2, _), (3, _), (4, _), (5, _)]) dX7_multiplies_6 (nl rfl) rfl ?_
  refine go_loop (pc := 8) n (fun i => [(0, .ref 198), (1, .ref xa), (2, .ref xb), (3, .ref 207), (4, .int (b1 fl)), (5, .int (nI i))]) (fun i => sL M1 207 (wr (mL M1 207) (uR (mlF fl f g n)) i)) ⟨rfl, rfl, rfl, rfl, rfl, rfl, trivial⟩ (sL_eq (wr_0 _ _)) ?_ ?_
  · intro r hr ih
    have h4 : Rr (sL M1 207 (wr (mL M1 207) (uR (mlF fl f g n)) r)) n A := h1.sL (by decide)
    have ew : wr (mL M1 207) (uR (mlF fl f g n)) (r + 1) = fun_set (wr (mL M1 207) (uR (mlF fl f g n)) r) r (uL (mlI fl g (f r) n)) := (wr_s _ _ _).symm
    rw [ew] at ih
    generalize hG9 : wr (mL M1 207) (uR (mlF fl f g n)) n = G9 at *
    generalize wr (mL M1 207) (uR (mlF fl f g n)) r = u at *
    refine g_iload (pc := 8) dX7_multiplies_8 rfl ?_
    refine g_aload_n (pc := 10) dX7_multiplies_10 rfl trivial ?_
    refine g_invV_r (pc := 11) (As := []) dX7_multiplies_11 rfl (r_size h4) rfl rfl (shK h4.1 rfl) rfl rfl lk_X7_71 rfl (nb rfl) ⟨nb rfl, nb rfl⟩ rfl ?_
    refine g_icmp_ge (pc := 14) (tgt := 95) dX7_multiplies_14 rfl (fun h14 => absurd h14 (nI_ge hr (by omega))) (fun _ => ?_)
    refine g_aload_n (pc := 17) dX7_multiplies_17 rfl trivial ?_
    refine g_iload (pc := 18) dX7_multiplies_18 rfl ?_
    refine g_lconst (pc := 20) (v := 0) dX7_multiplies_20 rfl ?_
    refine g_lastore (pc := 21) dX7_multiplies_21 (shK h4.1 rfl) rfl (by omega) (nl rfl) ?_
    refine g_iconst (pc := 22) (v := 0) dX7_multiplies_22 rfl ?_
    refine g_istore (pc := 23) (lv' := [(0, _), (1, _), (2, _), (3, _), (4, _), (5, _), (6, _)]) dX7_multiplies_23 (nl rfl) rfl ?_
    refine go_loop (pc := 25) n (fun i => [(0, .ref 198), (1, .ref xa), (2, .ref xb), (3, .ref 207), (4, .int (b1 fl)), (5, .int (nI r)), (6, .int (nI i))]) (fun i => sL M1 207 (fun_set u r (uL (mlI fl g (f r) i)))) ⟨rfl, rfl, rfl, rfl, rfl, rfl, rfl, trivial⟩ (sL_st (by rw [mlI, uL_0])) ?_ ?_
    · intro i hi ih2
      have h5 : Rr (sL M1 207 (fun_set u r (uL (mlI fl g (f r) i)))) n A := h1.sL (by decide)
      have e5 : mL (sL M1 207 (fun_set u r (uL (mlI fl g (f r) i)))) 207 r = uL (mlI fl g (f r) i) := by rw [sL_self, fs_self]
      have ea : mL (sL M1 207 (fun_set u r (uL (mlI fl g (f r) i)))) xa r = uL (f r) := by rw [sL_ne hna7]; exact hf1 r hr
      have eb : mL (sL M1 207 (fun_set u r (uL (mlI fl g (f r) i)))) xb i = uL (g i) := by rw [sL_ne hnb7]; exact hg1 i hi
      have ka5 : (mK (sL M1 207 (fun_set u r (uL (mlI fl g (f r) i)))))[xa]? = some (kL 32) := hka
      have kb5 : (mK (sL M1 207 (fun_set u r (uL (mlI fl g (f r) i)))))[xb]? = some (kL 32) := hkb
      have est := fun v => sL_st (M := M1) (a := 207) (i := r) (g := fun_set u r (uL (mlI fl g (f r) i))) (x := v) (h := fun_set u r v) (fs_twice _ _ _ _)
      rw [mlI, uL_jn] at ih2
      generalize mlI fl g (f r) i = x at *
      cases hb7 : hb (f r) i with
      | true =>
        rw [hb7, if_pos rfl] at ih2
        cases fl with
        | true =>
          rw [if_pos rfl] at ih2
          refine g_iload (pc := 25) dX7_multiplies_25 rfl ?_
          refine g_aload_n (pc := 27) dX7_multiplies_27 rfl trivial ?_
          refine g_invV_r (pc := 28) (As := []) dX7_multiplies_28 rfl (r_size h5) rfl rfl (shK h5.1 rfl) rfl rfl lk_X7_71 rfl (nb rfl) ⟨nb rfl, nb rfl⟩ rfl ?_
          refine g_icmp_ge (pc := 31) (tgt := 89) dX7_multiplies_31 rfl (fun h31 => absurd h31 (nI_ge hi (by omega))) (fun _ => ?_)
          refine g_aload_n (pc := 34) dX7_multiplies_34 rfl trivial ?_
          refine g_iload (pc := 35) dX7_multiplies_35 rfl ?_
          refine g_laload (pc := 37) dX7_multiplies_37 ka5 rfl (by omega) (nl rfl) ?_
          rw [ea]
          refine g_iload (pc := 38) dX7_multiplies_38 rfl ?_
          refine g_invS_r (pc := 40) (As := [_, _]) dX7_multiplies_40 rfl (r_one (show i < 32 by omega)) rfl rfl lk_X7_231 rfl (nb rfl) ⟨nb rfl, nb rfl⟩ rfl ?_
          rw [hb7]
          refine g_iconst (pc := 43) (v := 1) dX7_multiplies_43 rfl ?_
          refine g_icmp_ne (pc := 44) (tgt := 54) dX7_multiplies_44 rfl (fun h44 => absurd h44 ((fun z => z rfl))) (fun _ => ?_)
          refine g_aload_n (pc := 47) dX7_multiplies_47 rfl trivial ?_
          refine g_iload (pc := 48) dX7_multiplies_48 rfl ?_
          refine g_laload (pc := 50) dX7_multiplies_50 kb5 rfl (by omega) (nl rfl) ?_
          rw [eb]
          refine g_goto (pc := 51) (tgt := 55) dX7_multiplies_51 rfl ?_
          refine g_lstore (pc := 55) (lv' := [(0, _), (1, _), (2, _), (3, _), (4, _), (5, _), (6, _), (7, _)]) dX7_multiplies_55 (nl rfl) rfl ?_
          refine g_aload_n (pc := 57) dX7_multiplies_57 rfl trivial ?_
          refine g_iload (pc := 58) dX7_multiplies_58 rfl ?_
          refine g_iload (pc := 60) dX7_multiplies_60 rfl ?_
          refine g_if_eq (pc := 62) (tgt := 75) dX7_multiplies_62 rfl (fun h62 => absurd h62 ((by decide))) (fun _ => ?_)
          refine g_aload_n (pc := 65) dX7_multiplies_65 rfl trivial ?_
          refine g_iload (pc := 66) dX7_multiplies_66 rfl ?_
          refine g_laload (pc := 68) dX7_multiplies_68 (shK h5.1 rfl) rfl (by omega) (nl rfl) ?_
          rw [e5]
          refine g_lload (pc := 69) dX7_multiplies_69 rfl ?_
          refine g_lxor (pc := 71) dX7_multiplies_71 ?_
          refine g_goto (pc := 72) (tgt := 82) dX7_multiplies_72 rfl ?_
          refine g_lastore (pc := 82) dX7_multiplies_82 (shK h5.1 rfl) rfl (by omega) (nl rfl) ?_
          refine go_cast (est _) ?_
          refine g_iinc (pc := 83) (lv' := [(0, _), (1, _), (2, _), (3, _), (4, _), (5, _), (6, _), (7, _)]) dX7_multiplies_83 rfl (nI_1 _) (nl rfl) rfl ?_
          refine g_goto (pc := 86) (tgt := 25) dX7_multiplies_86 rfl ?_
          exact g_sub (lv' := [(0, _), (1, _), (2, _), (3, _), (4, _), (5, _), (6, _)]) ⟨rfl, rfl, rfl, rfl, rfl, rfl, rfl, trivial⟩ ih2
        | false =>
          rw [if_neg (by decide)] at ih2
          refine g_iload (pc := 25) dX7_multiplies_25 rfl ?_
          refine g_aload_n (pc := 27) dX7_multiplies_27 rfl trivial ?_
          refine g_invV_r (pc := 28) (As := []) dX7_multiplies_28 rfl (r_size h5) rfl rfl (shK h5.1 rfl) rfl rfl lk_X7_71 rfl (nb rfl) ⟨nb rfl, nb rfl⟩ rfl ?_
          refine g_icmp_ge (pc := 31) (tgt := 89) dX7_multiplies_31 rfl (fun h31 => absurd h31 (nI_ge hi (by omega))) (fun _ => ?_)
          refine g_aload_n (pc := 34) dX7_multiplies_34 rfl trivial ?_
          refine g_iload (pc := 35) dX7_multiplies_35 rfl ?_
          refine g_laload (pc := 37) dX7_multiplies_37 ka5 rfl (by omega) (nl rfl) ?_
          rw [ea]
          refine g_iload (pc := 38) dX7_multiplies_38 rfl ?_
          refine g_invS_r (pc := 40) (As := [_, _]) dX7_multiplies_40 rfl (r_one (show i < 32 by omega)) rfl rfl lk_X7_231 rfl (nb rfl) ⟨nb rfl, nb rfl⟩ rfl ?_
          rw [hb7]
          refine g_iconst (pc := 43) (v := 1) dX7_multiplies_43 rfl ?_
          refine g_icmp_ne (pc := 44) (tgt := 54) dX7_multiplies_44 rfl (fun h44 => absurd h44 ((fun z => z rfl))) (fun _ => ?_)
          refine g_aload_n (pc := 47) dX7_multiplies_47 rfl trivial ?_
          refine g_iload (pc := 48) dX7_multiplies_48 rfl ?_
          refine g_laload (pc := 50) dX7_multiplies_50 kb5 rfl (by omega) (nl rfl) ?_
          rw [eb]
          refine g_goto (pc := 51) (tgt := 55) dX7_multiplies_51 rfl ?_
          refine g_lstore (pc := 55) (lv' := [(0, _), (1, _), (2, _), (3, _), (4, _), (5, _), (6, _), (7, _)]) dX7_multiplies_55 (nl rfl) rfl ?_
          refine g_aload_n (pc := 57) dX7_multiplies_57 rfl trivial ?_
          refine g_iload (pc := 58) dX7_multiplies_58 rfl ?_
          refine g_iload (pc := 60) dX7_multiplies_60 rfl ?_
          refine g_if_eq (pc := 62) (tgt := 75) dX7_multiplies_62 rfl (fun _ => ?_) (fun h62 => absurd (rfl) h62)
          refine g_aload_n (pc := 75) dX7_multiplies_75 rfl trivial ?_
          refine g_iload (pc := 76) dX7_multiplies_76 rfl ?_
          refine g_laload (pc := 78) dX7_multiplies_78 (shK h5.1 rfl) rfl (by omega) (nl rfl) ?_
          rw [e5]
          refine g_lload (pc := 79) dX7_multiplies_79 rfl ?_
          refine g_lor (pc := 81) dX7_multiplies_81 ?_
          refine g_lastore (pc := 82) dX7_multiplies_82 (shK h5.1 rfl) rfl (by omega) (nl rfl) ?_
          refine go_cast (est _) ?_
          refine g_iinc (pc := 83) (lv' := [(0, _), (1, _), (2, _), (3, _), (4, _), (5, _), (6, _), (7, _)]) dX7_multiplies_83 rfl (nI_1 _) (nl rfl) rfl ?_
          refine g_goto (pc := 86) (tgt := 25) dX7_multiplies_86 rfl ?_
          exact g_sub (lv' := [(0, _), (1, _), (2, _), (3, _), (4, _), (5, _), (6, _)]) ⟨rfl, rfl, rfl, rfl, rfl, rfl, rfl, trivial⟩ ih2
      | false =>
        rw [hb7, if_neg (show ¬ false = true by decide), uL_0] at ih2
        cases fl with
        | true =>
          rw [if_pos rfl] at ih2
          refine g_iload (pc := 25) dX7_multiplies_25 rfl ?_
          refine g_aload_n (pc := 27) dX7_multiplies_27 rfl trivial ?_
          refine g_invV_r (pc := 28) (As := []) dX7_multiplies_28 rfl (r_size h5) rfl rfl (shK h5.1 rfl) rfl rfl lk_X7_71 rfl (nb rfl) ⟨nb rfl, nb rfl⟩ rfl ?_
          refine g_icmp_ge (pc := 31) (tgt := 89) dX7_multiplies_31 rfl (fun h31 => absurd h31 (nI_ge hi (by omega))) (fun _ => ?_)
          refine g_aload_n (pc := 34) dX7_multiplies_34 rfl trivial ?_
          refine g_iload (pc := 35) dX7_multiplies_35 rfl ?_
          refine g_laload (pc := 37) dX7_multiplies_37 ka5 rfl (by omega) (nl rfl) ?_
          rw [ea]
          refine g_iload (pc := 38) dX7_multiplies_38 rfl ?_
          refine g_invS_r (pc := 40) (As := [_, _]) dX7_multiplies_40 rfl (r_one (show i < 32 by omega)) rfl rfl lk_X7_231 rfl (nb rfl) ⟨nb rfl, nb rfl⟩ rfl ?_
          rw [hb7]
          refine g_iconst (pc := 43) (v := 1) dX7_multiplies_43 rfl ?_
          refine g_icmp_ne (pc := 44) (tgt := 54) dX7_multiplies_44 rfl (fun _ => ?_) (fun h44 => absurd ((by decide)) h44)
          refine g_lconst (pc := 54) (v := 0) dX7_multiplies_54 rfl ?_
          refine g_lstore (pc := 55) (lv' := [(0, _), (1, _), (2, _), (3, _), (4, _), (5, _), (6, _), (7, _)]) dX7_multiplies_55 (nl rfl) rfl ?_
          refine g_aload_n (pc := 57) dX7_multiplies_57 rfl trivial ?_
          refine g_iload (pc := 58) dX7_multiplies_58 rfl ?_
          refine g_iload (pc := 60) dX7_multiplies_60 rfl ?_
          refine g_if_eq (pc := 62) (tgt := 75) dX7_multiplies_62 rfl (fun h62 => absurd h62 ((by decide))) (fun _ => ?_)
          refine g_aload_n (pc := 65) dX7_multiplies_65 rfl trivial ?_
          refine g_iload (pc := 66) dX7_multiplies_66 rfl ?_
          refine g_laload (pc := 68) dX7_multiplies_68 (shK h5.1 rfl) rfl (by omega) (nl rfl) ?_
          rw [e5]
          refine g_lload (pc := 69) dX7_multiplies_69 rfl ?_
          refine g_lxor (pc := 71) dX7_multiplies_71 ?_
          refine g_goto (pc := 72) (tgt := 82) dX7_multiplies_72 rfl ?_
          refine g_lastore (pc := 82) dX7_multiplies_82 (shK h5.1 rfl) rfl (by omega) (nl rfl) ?_
          refine go_cast (est _) ?_
          refine g_iinc (pc := 83) (lv' := [(0, _), (1, _), (2, _), (3, _), (4, _), (5, _), (6, _), (7, _)]) dX7_multiplies_83 rfl (nI_1 _) (nl rfl) rfl ?_
          refine g_goto (pc := 86) (tgt := 25) dX7_multiplies_86 rfl ?_
          exact g_sub (lv' := [(0, _), (1, _), (2, _), (3, _), (4, _), (5, _), (6, _)]) ⟨rfl, rfl, rfl, rfl, rfl, rfl, rfl, trivial⟩ ih2
        | false =>
          rw [if_neg (by decide)] at ih2
          refine g_iload (pc := 25) dX7_multiplies_25 rfl ?_
          refine g_aload_n (pc := 27) dX7_multiplies_27 rfl trivial ?_
          refine g_invV_r (pc := 28) (As := []) dX7_multiplies_28 rfl (r_size h5) rfl rfl (shK h5.1 rfl) rfl rfl lk_X7_71 rfl (nb rfl) ⟨nb rfl, nb rfl⟩ rfl ?_
          refine g_icmp_ge (pc := 31) (tgt := 89) dX7_multiplies_31 rfl (fun h31 => absurd h31 (nI_ge hi (by omega))) (fun _ => ?_)
          refine g_aload_n (pc := 34) dX7_multiplies_34 rfl trivial ?_
          refine g_iload (pc := 35) dX7_multiplies_35 rfl ?_
          refine g_laload (pc := 37) dX7_multiplies_37 ka5 rfl (by omega) (nl rfl) ?_
          rw [ea]
          refine g_iload (pc := 38) dX7_multiplies_38 rfl ?_
          refine g_invS_r (pc := 40) (As := [_, _]) dX7_multiplies_40 rfl (r_one (show i < 32 by omega)) rfl rfl lk_X7_231 rfl (nb rfl) ⟨nb rfl, nb rfl⟩ rfl ?_
          rw [hb7]
          refine g_iconst (pc := 43) (v := 1) dX7_multiplies_43 rfl ?_
          refine g_icmp_ne (pc := 44) (tgt := 54) dX7_multiplies_44 rfl (fun _ => ?_) (fun h44 => absurd ((by decide)) h44)
          refine g_lconst (pc := 54) (v := 0) dX7_multiplies_54 rfl ?_
          refine g_lstore (pc := 55) (lv' := [(0, _), (1, _), (2, _), (3, _), (4, _), (5, _), (6, _), (7, _)]) dX7_multiplies_55 (nl rfl) rfl ?_
          refine g_aload_n (pc := 57) dX7_multiplies_57 rfl trivial ?_
          refine g_iload (pc := 58) dX7_multiplies_58 rfl ?_
          refine g_iload (pc := 60) dX7_multiplies_60 rfl ?_
          refine g_if_eq (pc := 62) (tgt := 75) dX7_multiplies_62 rfl (fun _ => ?_) (fun h62 => absurd (rfl) h62)
          refine g_aload_n (pc := 75) dX7_multiplies_75 rfl trivial ?_
          refine g_iload (pc := 76) dX7_multiplies_76 rfl ?_
          refine g_laload (pc := 78) dX7_multiplies_78 (shK h5.1 rfl) rfl (by omega) (nl rfl) ?_
          rw [e5]
          refine g_lload (pc := 79) dX7_multiplies_79 rfl ?_
          refine g_lor (pc := 81) dX7_multiplies_81 ?_
          refine g_lastore (pc := 82) dX7_multiplies_82 (shK h5.1 rfl) rfl (by omega) (nl rfl) ?_
          refine go_cast (est _) ?_
          refine g_iinc (pc := 83) (lv' := [(0, _), (1, _), (2, _), (3, _), (4, _), (5, _), (6, _), (7, _)]) dX7_multiplies_83 rfl (nI_1 _) (nl rfl) rfl ?_
          refine g_goto (pc := 86) (tgt := 25) dX7_multiplies_86 rfl ?_
          exact g_sub (lv' := [(0, _), (1, _), (2, _), (3, _), (4, _), (5, _), (6, _)]) ⟨rfl, rfl, rfl, rfl, rfl, rfl, rfl, trivial⟩ ih2
    · have h5 : Rr (sL M1 207 (fun_set u r (uL (mlI fl g (f r) n)))) n A := h1.sL (by decide)
      refine g_iload (pc := 25) dX7_multiplies_25 rfl ?_
      refine g_aload_n (pc := 27) dX7_multiplies_27 rfl trivial ?_
      refine g_invV_r (pc := 28) (As := []) dX7_multiplies_28 rfl (r_size h5) rfl rfl (shK h5.1 rfl) rfl rfl lk_X7_71 rfl (nb rfl) ⟨nb rfl, nb rfl⟩ rfl ?_
      refine g_icmp_ge (pc := 31) (tgt := 89) dX7_multiplies_31 rfl (fun _ => ?_) (fun h31 => absurd (nI_le (Nat.le_refl _) (by omega)) h31)
      refine g_iinc (pc := 89) (lv' := [(0, _), (1, _), (2, _), (3, _), (4, _), (5, _), (6, _)]) dX7_multiplies_89 rfl (nI_1 _) (nl rfl) rfl ?_
      refine g_goto (pc := 92) (tgt := 8) dX7_multiplies_92 rfl ?_
      exact g_sub (lv' := [(0, _), (1, _), (2, _), (3, _), (4, _), (5, _)]) ⟨rfl, rfl, rfl, rfl, rfl, rfl, trivial⟩ ih
  · have h4 : Rr (sL M1 207 (wr (mL M1 207) (uR (mlF fl f g n)) n)) n A := h1.sL (by decide)
    refine g_iload (pc := 8) dX7_multiplies_8 rfl ?_
    refine g_aload_n (pc := 10) dX7_multiplies_10 rfl trivial ?_
    refine g_invV_r (pc := 11) (As := []) dX7_multiplies_11 rfl (r_size h4) rfl rfl (shK h4.1 rfl) rfl rfl lk_X7_71 rfl (nb rfl) ⟨nb rfl, nb rfl⟩ rfl ?_
    refine g_icmp_ge (pc := 14) (tgt := 95) dX7_multiplies_14 rfl (fun _ => ?_) (fun h14 => absurd (nI_le (Nat.le_refl _) (by omega)) h14)
    refine g_return (pc := 95) dX7_multiplies_95 rfl ?_
    exact ⟨rfl, rfl⟩
end
end
-- 306.rm
section
/-! the reference: products and powers made -/
section
variable {l : Launch} {M : Mem} {n bl c : Nat} {A : Nat → Nat → Int32}
theorem k0M_ne {x : Nat} (hx : x ≠ 201) : mL (k0M M c) x = mL M x := sL_ne hx
theorem muM_R {fl : Bool} {f g : Nat → Int32} (h : Rr M n A) : Rr (muM M fl f g n bl) n A := (ctM_R h).hd (Or.inr (Or.inr rfl))
theorem muM_at {fl : Bool} {f g : Nat → Int32} {i : Nat} (hi : i < n) : mL (muM M fl f g n bl) 207 i = uL (mlF fl f g n i) := hdM_at hi
theorem muM_ne {fl : Bool} {f g : Nat → Int32} {x : Nat} (h1 : x ≠ 199) (h2 : x ≠ 207) : mL (muM M fl f g n bl) x = mL M x := by unfold muM; rw [hdM_ne h2, ctM_ne h1]
theorem muM_1 {fl : Bool} {f g : Nat → Int32} : mL (muM M fl f g n bl) 199 1 = mL M 199 1 := by unfold muM; rw [hdM_ne (by decide), ctM_1]
/-- the memory behind a product -/
def pdM (M : Mem) (n bl t : Nat) (fl : Bool) (f g : Nat → Int32) (c : Nat) : Mem := lsM (muM (hdM (hdM (k0M M c) 205 n f) 206 n g) fl f g n bl) t n (mlF fl f g n)
theorem n_product {a b t : Nat} {fl : Bool} (h : Rr M n A) (hc : mI M 198 5 = nI c) (hc8 : c ≤ 8) (hbl : mL M 199 1 = lN bl) (hb1 : 1 ≤ bl) (hb8 : bl ≤ 8) (ha : a < 6) (hb9 : b < 6) (ht : t < 6) : EvR l jX7_product 4 160 0 0 [.ref 198, .int (nI a), .int (nI b), .int (nI t), .int (b1 fl)] M (.inl (some (.int (onesF (mlF fl (A a) (A b) n) n)))) (pdM M n bl t fl (A a) (A b) c) := by
  have hn := h.2.2.2.1
  have hS := h.1
  have q1 := r_k0 (l := l) h hc hc8
  have h1 : Rr (k0M M c) n A := k0M_R h
  have q2 := r_takes (l := l) (x := 205) h1 ha (Or.inl rfl)
  have h2 : Rr (hdM (k0M M c) 205 n (A a)) n A := h1.hd (Or.inl rfl)
  have q3 := r_takes (l := l) (x := 206) h2 hb9 (Or.inr (Or.inl rfl))
  have h3 : Rr (hdM (hdM (k0M M c) 205 n (A a)) 206 n (A b)) n A := h2.hd (Or.inr (Or.inl rfl))
  have e3 : mL (hdM (hdM (k0M M c) 205 n (A a)) 206 n (A b)) 199 1 = lN bl := by rw [hdM_ne (by decide), hdM_ne (by decide), k0M_ne (by decide)]; exact hbl
  have q4 := r_multiplies (l := l) (xa := 205) (xb := 206) (fl := fl) (f := A a) (g := A b) h3 e3 hb1 hb8 (Or.inl rfl) (Or.inr rfl) (fun i hi => by rw [hdM_ne (by decide)]; exact hdM_at hi) (fun i hi => hdM_at hi)
  have h4 : Rr (muM (hdM (hdM (k0M M c) 205 n (A a)) 206 n (A b)) fl (A a) (A b) n bl) n A := muM_R h3
  have q5 := r_lays (l := l) (x := 207) (f := mlF fl (A a) (A b) n) h4 ht (shK h4.1 rfl) (by decide) (fun i hi => muM_at hi)
  unfold pdM
  generalize lsM (muM (hdM (hdM (k0M M c) 205 n (A a)) 206 n (A b)) fl (A a) (A b) n bl) t n (mlF fl (A a) (A b) n) = M5 at *
  generalize muM (hdM (hdM (k0M M c) 205 n (A a)) 206 n (A b)) fl (A a) (A b) n bl = M4 at *
  generalize hdM (hdM (k0M M c) 205 n (A a)) 206 n (A b) = M3 at *
  generalize hdM (k0M M c) 205 n (A a) = M2 at *
  generalize k0M M c = M1 at *
  refine ev_intro rfl (nb rfl) rfl ?_
  refine g_aload_n (pc := 0) dX7_product_0 rfl trivial ?_
  refine g_iload_n (pc := 1) dX7_product_1 rfl ?_
  refine g_invS_r (pc := 2) (As := [_]) dX7_product_2 rfl (r_isSlot_t (in6 ha)) rfl rfl lk_X7_216 rfl (nb rfl) ⟨nb rfl, nb rfl⟩ rfl ?_
  refine g_if_eq (pc := 5) (tgt := 26) dX7_product_5 rfl (fun h5 => absurd h5 ((by decide))) (fun _ => ?_)
  refine g_iload_n (pc := 8) dX7_product_8 rfl ?_
  refine g_invS_r (pc := 9) (As := [_]) dX7_product_9 rfl (r_isSlot_t (in6 hb9)) rfl rfl lk_X7_216 rfl (nb rfl) ⟨nb rfl, nb rfl⟩ rfl ?_
  refine g_if_eq (pc := 12) (tgt := 26) dX7_product_12 rfl (fun h12 => absurd h12 ((by decide))) (fun _ => ?_)
  refine g_iload_n (pc := 15) dX7_product_15 rfl ?_
  refine g_invS_r (pc := 16) (As := [_]) dX7_product_16 rfl (r_isSlot_t (in6 ht)) rfl rfl lk_X7_216 rfl (nb rfl) ⟨nb rfl, nb rfl⟩ rfl ?_
  refine g_if_eq (pc := 19) (tgt := 26) dX7_product_19 rfl (fun h19 => absurd h19 ((by decide))) (fun _ => ?_)
  refine g_iconst (pc := 22) (v := 1) dX7_product_22 rfl ?_
  refine g_goto (pc := 23) (tgt := 27) dX7_product_23 rfl ?_
  refine g_iconst (pc := 27) (v := 1) dX7_product_27 rfl ?_
  refine g_invV_r (pc := 28) (As := [_, _]) dX7_product_28 rfl (r_isThrown_0 hS) rfl rfl (shK hS rfl) rfl rfl lk_X7_209 rfl (nb rfl) ⟨nb rfl, nb rfl⟩ rfl ?_
  refine g_if_eq (pc := 31) (tgt := 36) dX7_product_31 rfl (fun _ => ?_) (fun h31 => absurd (rfl) h31)
  refine g_aload_n (pc := 36) dX7_product_36 rfl trivial ?_
  refine g_invV_r (pc := 37) (As := []) dX7_product_37 rfl (q1) rfl rfl (shK (h.thr (x := 0)).1 rfl) rfl rfl lk_X7_315 rfl (nb rfl) ⟨nb rfl, nb rfl⟩ rfl ?_
  refine g_aload_n (pc := 40) dX7_product_40 rfl trivial ?_
  refine g_iload_n (pc := 41) dX7_product_41 rfl ?_
  refine g_aload_n (pc := 42) dX7_product_42 rfl trivial ?_
  refine g_getf (pc := 43) dX7_product_43 fk_X7_34 (shK h1.1 rfl) (fv_arr (shR h1.1 rfl)) ?_
  refine g_invV_r (pc := 46) (As := [_, _]) dX7_product_46 rfl (q2) rfl rfl (shK h1.1 rfl) rfl rfl lk_X7_252 rfl (nb rfl) ⟨nb rfl, nb rfl⟩ rfl ?_
  refine g_aload_n (pc := 49) dX7_product_49 rfl trivial ?_
  refine g_iload_n (pc := 50) dX7_product_50 rfl ?_
  refine g_aload_n (pc := 51) dX7_product_51 rfl trivial ?_
  refine g_getf (pc := 52) dX7_product_52 fk_X7_37 (shK h2.1 rfl) (fv_arr (shR h2.1 rfl)) ?_
  refine g_invV_r (pc := 55) (As := [_, _]) dX7_product_55 rfl (q3) rfl rfl (shK h2.1 rfl) rfl rfl lk_X7_252 rfl (nb rfl) ⟨nb rfl, nb rfl⟩ rfl ?_
  refine g_aload_n (pc := 58) dX7_product_58 rfl trivial ?_
  refine g_aload_n (pc := 59) dX7_product_59 rfl trivial ?_
  refine g_getf (pc := 60) dX7_product_60 fk_X7_34 (shK h3.1 rfl) (fv_arr (shR h3.1 rfl)) ?_
  refine g_aload_n (pc := 63) dX7_product_63 rfl trivial ?_
  refine g_getf (pc := 64) dX7_product_64 fk_X7_37 (shK h3.1 rfl) (fv_arr (shR h3.1 rfl)) ?_
  refine g_aload_n (pc := 67) dX7_product_67 rfl trivial ?_
  refine g_getf (pc := 68) dX7_product_68 fk_X7_40 (shK h3.1 rfl) (fv_arr (shR h3.1 rfl)) ?_
  refine g_iload (pc := 71) dX7_product_71 rfl ?_
  refine g_invV_r (pc := 73) (As := [_, _, _, _]) dX7_product_73 rfl (q4) rfl rfl (shK h3.1 rfl) rfl rfl lk_X7_333 rfl (nb rfl) ⟨nb rfl, nb rfl⟩ rfl ?_
  refine g_aload_n (pc := 76) dX7_product_76 rfl trivial ?_
  refine g_aload_n (pc := 77) dX7_product_77 rfl trivial ?_
  refine g_getf (pc := 78) dX7_product_78 fk_X7_40 (shK h4.1 rfl) (fv_arr (shR h4.1 rfl)) ?_
  refine g_iload_n (pc := 81) dX7_product_81 rfl ?_
  refine g_invV_r (pc := 82) (As := [_, _]) dX7_product_82 rfl (q5) rfl rfl (shK h4.1 rfl) rfl rfl lk_X7_322 rfl (nb rfl) ⟨nb rfl, nb rfl⟩ rfl ?_
  refine g_ireturn (pc := 85) dX7_product_85 rfl rfl ?_
  exact ⟨rfl, rfl⟩
theorem t_product {v w u x : Int32} (h : Rr M n A) (hx : ¬ (inR v 6 ∧ inR w 6 ∧ inR u 6)) : EvR l jX7_product 4 160 0 0 [.ref 198, .int v, .int w, .int u, .int x] M (.inl (some (.int 0))) (thr M 1) := by
  have hS := h.1
  refine ev_intro rfl (nb rfl) rfl ?_
  by_cases h1 : inR v 6
  · by_cases h2 : inR w 6
    · refine g_aload_n (pc := 0) dX7_product_0 rfl trivial ?_
      refine g_iload_n (pc := 1) dX7_product_1 rfl ?_
      refine g_invS_r (pc := 2) (As := [_]) dX7_product_2 rfl (r_isSlot_t h1) rfl rfl lk_X7_216 rfl (nb rfl) ⟨nb rfl, nb rfl⟩ rfl ?_
      refine g_if_eq (pc := 5) (tgt := 26) dX7_product_5 rfl (fun h5 => absurd h5 ((by decide))) (fun _ => ?_)
      refine g_iload_n (pc := 8) dX7_product_8 rfl ?_
      refine g_invS_r (pc := 9) (As := [_]) dX7_product_9 rfl (r_isSlot_t h2) rfl rfl lk_X7_216 rfl (nb rfl) ⟨nb rfl, nb rfl⟩ rfl ?_
      refine g_if_eq (pc := 12) (tgt := 26) dX7_product_12 rfl (fun h12 => absurd h12 ((by decide))) (fun _ => ?_)
      refine g_iload_n (pc := 15) dX7_product_15 rfl ?_
      refine g_invS_r (pc := 16) (As := [_]) dX7_product_16 rfl (r_isSlot_f (fun q => hx ⟨h1, h2, q⟩)) rfl rfl lk_X7_216 rfl (nb rfl) ⟨nb rfl, nb rfl⟩ rfl ?_
      refine g_if_eq (pc := 19) (tgt := 26) dX7_product_19 rfl (fun _ => ?_) (fun h19 => absurd (rfl) h19)
      refine g_iconst (pc := 26) (v := 0) dX7_product_26 rfl ?_
      refine g_iconst (pc := 27) (v := 1) dX7_product_27 rfl ?_
      refine g_invV_r (pc := 28) (As := [_, _]) dX7_product_28 rfl (r_isThrown_1 hS) rfl rfl (shK hS rfl) rfl rfl lk_X7_209 rfl (nb rfl) ⟨nb rfl, nb rfl⟩ rfl ?_
      refine g_if_eq (pc := 31) (tgt := 36) dX7_product_31 rfl (fun h31 => absurd h31 ((by decide))) (fun _ => ?_)
      refine g_iconst (pc := 34) (v := 0) dX7_product_34 rfl ?_
      refine g_ireturn (pc := 35) dX7_product_35 rfl rfl ?_
      exact ⟨rfl, rfl⟩
    · refine g_aload_n (pc := 0) dX7_product_0 rfl trivial ?_
      refine g_iload_n (pc := 1) dX7_product_1 rfl ?_
      refine g_invS_r (pc := 2) (As := [_]) dX7_product_2 rfl (r_isSlot_t h1) rfl rfl lk_X7_216 rfl (nb rfl) ⟨nb rfl, nb rfl⟩ rfl ?_
      refine g_if_eq (pc := 5) (tgt := 26) dX7_product_5 rfl (fun h5 => absurd h5 ((by decide))) (fun _ => ?_)
      refine g_iload_n (pc := 8) dX7_product_8 rfl ?_
      refine g_invS_r (pc := 9) (As := [_]) dX7_product_9 rfl (r_isSlot_f h2) rfl rfl lk_X7_216 rfl (nb rfl) ⟨nb rfl, nb rfl⟩ rfl ?_
      refine g_if_eq (pc := 12) (tgt := 26) dX7_product_12 rfl (fun _ => ?_) (fun h12 => absurd (rfl) h12)
      refine g_iconst (pc := 26) (v := 0) dX7_product_26 rfl ?_
      refine g_iconst (pc := 27) (v := 1) dX7_product_27 rfl ?_
      refine g_invV_r (pc := 28) (As := [_, _]) dX7_product_28 rfl (r_isThrown_1 hS) rfl rfl (shK hS rfl) rfl rfl lk_X7_209 rfl (nb rfl) ⟨nb rfl, nb rfl⟩ rfl ?_
      refine g_if_eq (pc := 31) (tgt := 36) dX7_product_31 rfl (fun h31 => absurd h31 ((by decide))) (fun _ => ?_)
      refine g_iconst (pc := 34) (v := 0) dX7_product_34 rfl ?_
      refine g_ireturn (pc := 35) dX7_product_35 rfl rfl ?_
      exact ⟨rfl, rfl⟩
  · refine g_aload_n (pc := 0) dX7_product_0 rfl trivial ?_
    refine g_iload_n (pc := 1) dX7_product_1 rfl ?_
    refine g_invS_r (pc := 2) (As := [_]) dX7_product_2 rfl (r_isSlot_f h1) rfl rfl lk_X7_216 rfl (nb rfl) ⟨nb rfl, nb rfl⟩ rfl ?_
    refine g_if_eq (pc := 5) (tgt := 26) dX7_product_5 rfl (fun _ => ?_) (fun h5 => absurd (rfl) h5)
    refine g_iconst (pc := 26) (v := 0) dX7_product_26 rfl ?_
    refine g_iconst (pc := 27) (v := 1) dX7_product_27 rfl ?_
    refine g_invV_r (pc := 28) (As := [_, _]) dX7_product_28 rfl (r_isThrown_1 hS) rfl rfl (shK hS rfl) rfl rfl lk_X7_209 rfl (nb rfl) ⟨nb rfl, nb rfl⟩ rfl ?_
    refine g_if_eq (pc := 31) (tgt := 36) dX7_product_31 rfl (fun h31 => absurd h31 ((by decide))) (fun _ => ?_)
    refine g_iconst (pc := 34) (v := 0) dX7_product_34 rfl ?_
    refine g_ireturn (pc := 35) dX7_product_35 rfl rfl ?_
    exact ⟨rfl, rfl⟩
theorem r_moves {x y : Nat} {f : Nat → Int32} (h : Rr M n A) (hx : isH x) (hy : isH y) (hxy : x ≠ y) (hf : ∀ i, i < n → mL M x i = uL (f i)) : EvR l jX7_moves 1 30 0 0 [.ref 198, .ref x, .ref y] M (.inl none) (hdM M y n f) := by
  have hn := h.2.2.2.1
  have hS := h.1
  refine ev_intro rfl (nb rfl) rfl ?_
  refine g_iconst (pc := 0) (v := 0) dX7_moves_0 rfl ?_
  refine g_istore_n (pc := 1) (lv' := [(0, _), (1, _), (2, _), (3, _)]) dX7_moves_1 (nl rfl) rfl ?_
  refine go_loop (pc := 2) n (fun i => [(0, .ref 198), (1, .ref x), (2, .ref y), (3, .int (nI i))]) (fun i => sL M y (wr (mL M y) (uR f) i)) ⟨rfl, rfl, rfl, rfl, trivial⟩ (sL_eq (wr_0 _ _)) ?_ ?_
  · intro i hi ih
    have h' : Rr (sL M y (wr (mL M y) (uR f) i)) n A := h.sL hy.ne
    have e1 : mL (sL M y (wr (mL M y) (uR f) i)) x i = uL (f i) := by rw [sL_ne hxy]; exact hf i hi
    refine g_iload_n (pc := 2) dX7_moves_2 rfl ?_
    refine g_aload_n (pc := 3) dX7_moves_3 rfl trivial ?_
    refine g_invV_r (pc := 4) (As := []) dX7_moves_4 rfl (r_size h') rfl rfl (shK h'.1 rfl) rfl rfl lk_X7_71 rfl (nb rfl) ⟨nb rfl, nb rfl⟩ rfl ?_
    refine g_icmp_ge (pc := 7) (tgt := 22) dX7_moves_7 rfl (fun h7 => absurd h7 (nI_ge hi (by omega))) (fun _ => ?_)
    refine g_aload_n (pc := 10) dX7_moves_10 rfl trivial ?_
    refine g_iload_n (pc := 11) dX7_moves_11 rfl ?_
    refine g_aload_n (pc := 12) dX7_moves_12 rfl trivial ?_
    refine g_iload_n (pc := 13) dX7_moves_13 rfl ?_
    refine g_laload (pc := 14) dX7_moves_14 (shK h'.1 hx.k) rfl (by omega) (nl rfl) ?_
    rw [e1]
    refine g_lastore (pc := 15) dX7_moves_15 (shK h'.1 hy.k) rfl (by omega) (nl rfl) ?_
    refine g_iinc (pc := 16) (lv' := [(0, _), (1, _), (2, _), (3, _)]) dX7_moves_16 rfl (nI_1 _) (nl rfl) rfl ?_
    refine g_goto (pc := 19) (tgt := 2) dX7_moves_19 rfl ?_
    exact go_cast (sL_st (wr_s _ (uR f) i)) ih
  · have h' : Rr (sL M y (wr (mL M y) (uR f) n)) n A := h.sL hy.ne
    refine g_iload_n (pc := 2) dX7_moves_2 rfl ?_
    refine g_aload_n (pc := 3) dX7_moves_3 rfl trivial ?_
    refine g_invV_r (pc := 4) (As := []) dX7_moves_4 rfl (r_size h') rfl rfl (shK h'.1 rfl) rfl rfl lk_X7_71 rfl (nb rfl) ⟨nb rfl, nb rfl⟩ rfl ?_
    refine g_icmp_ge (pc := 7) (tgt := 22) dX7_moves_7 rfl (fun _ => ?_) (fun h7 => absurd (nI_le (Nat.le_refl _) (by omega)) h7)
    refine g_return (pc := 22) dX7_moves_22 rfl ?_
    exact ⟨rfl, rfl⟩
/-- a power in the making: the power so far, what the latest product made and took, the third array -/
abbrev PW : Type := (Nat → Int32) × Int64 × Int64 × (Nat → Int64)
def pqM (M : Mem) (n : Nat) (s : PW) : Mem := hdM (sL (pL (pL M 199 2 s.2.1) 199 3 s.2.2.1) 207 s.2.2.2) 205 n s.1
def pwX (f g : Nat → Int32) (fl : Bool) (n bl : Nat) (T : Nat → Int64) : PW := (mlF fl f g n, lN (mdN n bl (blocks n bl)), lN (tkN f n bl (blocks n bl)), wr T (uR (mlF fl f g n)) n)
theorem pqM_R {s : PW} (h : Rr M n A) : Rr (pqM M n s) n A := Rr.hd (Rr.sL ((h.pL (by decide)).pL (by decide)) (by decide)) (Or.inl rfl)
theorem pqM_1 {s : PW} : mL (pqM M n s) 199 1 = mL M 199 1 := by unfold pqM; rw [hdM_ne (by decide), sL_ne (by decide), pL_k (by decide), pL_k (by decide)]
theorem pqM_5 {s : PW} {i : Nat} (hi : i < n) : mL (pqM M n s) 205 i = uL (s.1 i) := hdM_at hi
theorem pqM_6 {s : PW} : mL (pqM M n s) 206 = mL M 206 := by unfold pqM; rw [hdM_ne (by decide), sL_ne (by decide), pL_i (by decide), pL_i (by decide)]
theorem mem_extL {M M' : Mem} (h1 : mK M = mK M') (h2 : mX M = mX M') (h3 : mI M = mI M') (h4 : mR M = mR M') (h5 : mD M = mD M') (h6 : mS M = mS M') (h : ∀ i, mL M i = mL M' i) : M = M' := by
  obtain ⟨a1, a2, a3, a4, a5, a6, a7⟩ := M
  obtain ⟨b1, b2, b3, b4, b5, b6, b7⟩ := M'
  have h7 : a4 = b4 := funext h
  cases h1; cases h2; cases h3; cases h4; cases h5; cases h6; cases h7
  rfl
theorem pL_0 (M : Mem) (i k : Nat) (x : Int64) : mL (pL M i k x) i = fun_set (mL M i) k x := sL_self M i _
theorem ctM_0 {a b : Nat} : mL (ctM M a b) 199 = fun_set (fun_set (mL M 199) 2 (lN a)) 3 (lN b) := by unfold ctM; rw [pL_0, pL_0]
theorem hdM_0 {x : Nat} {f : Nat → Int32} : mL (hdM M x n f) x = wr (mL M x) (uR f) n := sL_self M x _
theorem pq_5 {s : PW} : mL (pqM M n s) 205 = wr (mL M 205) (uR s.1) n := by unfold pqM; rw [hdM_0, sL_ne (by decide), pL_i (by decide), pL_i (by decide)]
theorem pq_7 {s : PW} : mL (pqM M n s) 207 = s.2.2.2 := by unfold pqM; rw [hdM_ne (by decide), sL_self]
theorem pq_9 {s : PW} : mL (pqM M n s) 199 = fun_set (fun_set (mL M 199) 2 s.2.1) 3 s.2.2.1 := by unfold pqM; rw [hdM_ne (by decide), sL_ne (by decide), pL_0, pL_0]
theorem pq_ne {s : PW} {i : Nat} (h1 : i ≠ 199) (h2 : i ≠ 205) (h3 : i ≠ 207) : mL (pqM M n s) i = mL M i := by unfold pqM; rw [hdM_ne h2, sL_ne h3, pL_i h1, pL_i h1]
theorem mu_7 {fl : Bool} {f g : Nat → Int32} : mL (muM M fl f g n bl) 207 = wr (mL M 207) (uR (mlF fl f g n)) n := by unfold muM; rw [hdM_0, ctM_ne (by decide)]
theorem mu_9 {fl : Bool} {f g : Nat → Int32} : mL (muM M fl f g n bl) 199 = fun_set (fun_set (mL M 199) 2 (lN (mdN n bl (blocks n bl)))) 3 (lN (tkN f n bl (blocks n bl))) := by unfold muM; rw [hdM_ne (by decide), ctM_0]
/-- a product and its moving back -/
theorem pw_mul {s : PW} {f g : Nat → Int32} {fl : Bool} : hdM (muM (pqM M n s) fl f g n bl) 205 n (mlF fl f g n) = pqM M n (pwX f g fl n bl s.2.2.2) := by
  refine mem_extL rfl rfl rfl rfl rfl rfl (fun i => ?_)
  by_cases h5 : i = 205
  · subst h5
    rw [hdM_0, muM_ne (by decide) (by decide), pq_5, pq_5, wr_wr]; rfl
  · rw [hdM_ne h5]
    by_cases h7 : i = 207
    · subst h7
      rw [mu_7, pq_7, pq_7]; rfl
    · by_cases h9 : i = 199
      · subst h9
        rw [mu_9, pq_9, pq_9, fs_comm _ _ _ (show 3 ≠ 2 by decide), fs_twice, fs_twice]; rfl
      · rw [muM_ne h9 h7, pq_ne h9 h5 h7, pq_ne h9 h5 h7]
def pwB (f0 : Nat → Int32) (fl : Bool) (n bl : Nat) (x : Int32) (b : Nat) (s : PW) : PW := if hb x b = true then pwX (pwX s.1 s.1 fl n bl s.2.2.2).1 f0 fl n bl (pwX s.1 s.1 fl n bl s.2.2.2).2.2.2 else pwX s.1 s.1 fl n bl s.2.2.2
/-- the bits below k, from the highest on -/
def pwL (f0 : Nat → Int32) (fl : Bool) (n bl : Nat) (x : Int32) : Nat → PW → PW
  | 0, s => s
  | k + 1, s => pwL f0 fl n bl x k (pwB f0 fl n bl x k s)
/-- one more than the highest bit, of those below k -/
def hiB (x : Int32) : Nat → Nat
  | 0 => 0
  | k + 1 => if hb x k = true then k + 1 else hiB x k
theorem hiB_le (x : Int32) : ∀ k, hiB x k ≤ k
  | 0 => Nat.le_refl 0
  | k + 1 => by have := hiB_le x k; rw [hiB]; split <;> omega
def pwS (M : Mem) : PW := (bitI, mL M 199 2, mL M 199 3, mL M 207)
def pqE (M : Mem) (f0 : Nat → Int32) (fl : Bool) (n bl : Nat) (x : Int32) : PW := pwL f0 fl n bl x (hiB x 21) (pwS M)
def pwZ (M : Mem) (n bl t : Nat) (fl : Bool) (f0 : Nat → Int32) (x : Int32) (c : Nat) : Mem := lsM (pqM (hdM (k0M M c) 206 n f0) n (pqE M f0 fl n bl x)) t n (pqE M f0 fl n bl x).1
theorem ishr_bit : ∀ (x : Int32) (b : Nat), b < 32 → x >>> (nI b &&& 31) &&& 1 = b1 (hb x b) := by
  intro x b hb9
  apply Int32.toBitVec_inj.mp
  apply BitVec.eq_of_getLsbD_eq
  intro i hi
  have e : ((nI b &&& 31).toBitVec.smod 32).toNat = b := (by decide +kernel : ∀ b, b < 32 → ((nI b &&& 31).toBitVec.smod 32).toNat = b) b hb9
  rw [Int32.toBitVec_and, BitVec.getLsbD_and, Int32.toBitVec_shiftRight]
  show ((BitVec.sshiftRight x.toBitVec ((nI b &&& 31).toBitVec.smod 32).toNat).getLsbD i && _) = _
  rw [e, BitVec.getLsbD_sshiftRight]
  have h2 : (b1 (hb x b)).toBitVec.getLsbD i = (hb x b && decide (i = 0)) := hb_b1 _ i
  rw [h2]
  by_cases h0 : i = 0
  · subst h0
    have h3 : (1 : Int32).toBitVec.getLsbD 0 = true := by decide
    rw [h3]
    simp [hb9, hb]
  · have h3 : (1 : Int32).toBitVec.getLsbD i = false := (by decide +kernel : ∀ i, i < 32 → i ≠ 0 → (1 : Int32).toBitVec.getLsbD i = false) i hi h0
    rw [h3]; simp [h0]
theorem n_power {s t : Nat} {x : Int32} {fl : Bool} (h : Rr M n A) (hc : mI M 198 5 = nI c) (hc8 : c ≤ 8) (hbl : mL M 199 1 = lN bl) (hb1 : 1 ≤ bl) (hb8 : bl ≤ 8) (hs : s < 6) (ht : t < 6) (hx : ¬ x < 0 ∧ x ≤ 1000000) : EvR l jX7_power 4 160 0 0 [.ref 198, .int (nI s), .int x, .int (nI t), .int (b1 fl)] M (.inl (some (.int (onesF (pqE M (A s) fl n bl x).1 n)))) (pwZ M n bl t fl (A s) x c) := by
  have hn := h.2.2.2.1
  have hS := h.1
  have h' := h.thr (x := 0)
  have e2 : thr (thr M 0) 0 = thr M 0 := thr_2
  have hl2 : (0 : Int64) ≤ x.toInt64 ∧ x.toInt64 ≤ 1000000 := (lim_long (a := 0) (b := 1000000)).mpr hx
  have q1 := r_k0 (l := l) h hc hc8
  have h1 : Rr (k0M M c) n A := k0M_R h
  have q2 := r_takes (l := l) (x := 206) h1 hs (Or.inr (Or.inl rfl))
  have h2 : Rr (hdM (k0M M c) 206 n (A s)) n A := h1.hd (Or.inr (Or.inl rfl))
  have e21 : mL (hdM (k0M M c) 206 n (A s)) 199 1 = lN bl := by rw [hdM_ne (by decide), k0M_ne (by decide)]; exact hbl
  have e26 : ∀ i, i < n → mL (hdM (k0M M c) 206 n (A s)) 206 i = uL (A s i) := fun i hi => hdM_at hi
  have e27 : pwS M = pwS (hdM (k0M M c) 206 n (A s)) := by unfold pwS; rw [hdM_ne (by decide), hdM_ne (by decide), k0M_ne (by decide), k0M_ne (by decide)]
  unfold pwZ pqE
  rw [e27]
  generalize hdM (k0M M c) 206 n (A s) = M2 at *
  generalize k0M M c = M1 at *
  generalize A s = f0 at *
  have e20 : sL M2 205 (wr (mL M2 205) (uR bitI) n) = pqM M2 n (pwS M2) := by
    unfold pqM pwS
    simp only
    have z2 : pL M2 199 2 (mL M2 199 2) = M2 := by show sL M2 199 (fun_set (mL M2 199) 2 (mL M2 199 2)) = M2; rw [fs_same, sL_id]
    have z3 : pL M2 199 3 (mL M2 199 3) = M2 := by show sL M2 199 (fun_set (mL M2 199) 3 (mL M2 199 3)) = M2; rw [fs_same, sL_id]
    rw [z2, z3, sL_id]; rfl
  refine ev_intro rfl (nb rfl) rfl ?_
  refine g_aload_n (pc := 0) dX7_power_0 rfl trivial ?_
  refine g_iload_n (pc := 1) dX7_power_1 rfl ?_
  refine g_invS_r (pc := 2) (As := [_]) dX7_power_2 rfl (r_isSlot_t (in6 hs)) rfl rfl lk_X7_216 rfl (nb rfl) ⟨nb rfl, nb rfl⟩ rfl ?_
  refine g_if_eq (pc := 5) (tgt := 19) dX7_power_5 rfl (fun h5 => absurd h5 ((by decide))) (fun _ => ?_)
  refine g_iload_n (pc := 8) dX7_power_8 rfl ?_
  refine g_invS_r (pc := 9) (As := [_]) dX7_power_9 rfl (r_isSlot_t (in6 ht)) rfl rfl lk_X7_216 rfl (nb rfl) ⟨nb rfl, nb rfl⟩ rfl ?_
  refine g_if_eq (pc := 12) (tgt := 19) dX7_power_12 rfl (fun h12 => absurd h12 ((by decide))) (fun _ => ?_)
  refine g_iconst (pc := 15) (v := 1) dX7_power_15 rfl ?_
  refine g_goto (pc := 16) (tgt := 20) dX7_power_16 rfl ?_
  refine g_iconst (pc := 20) (v := 1) dX7_power_20 rfl ?_
  refine g_invV_r (pc := 21) (As := [_, _]) dX7_power_21 rfl (r_isThrown_0 hS) rfl rfl (shK hS rfl) rfl rfl lk_X7_209 rfl (nb rfl) ⟨nb rfl, nb rfl⟩ rfl ?_
  refine g_if_ne (pc := 24) (tgt := 44) dX7_power_24 rfl (fun h24 => absurd h24 ((fun z => z rfl))) (fun _ => ?_)
  refine g_aload_n (pc := 27) dX7_power_27 rfl trivial ?_
  refine g_iload_n (pc := 28) dX7_power_28 rfl ?_
  refine g_i2l (pc := 29) dX7_power_29 rfl ?_
  refine g_lconst (pc := 30) (v := 0) dX7_power_30 rfl ?_
  refine g_ldc2 (pc := 31) dX7_power_31 wd_1721 ?_
  refine g_invS_r (pc := 34) (As := [_, _, _]) dX7_power_34 rfl (r_in_t hl2.1 hl2.2) rfl rfl lk_X7_67 rfl (nb rfl) ⟨nb rfl, nb rfl⟩ rfl ?_
  refine g_iconst (pc := 37) (v := 2) dX7_power_37 rfl ?_
  refine g_invV_r (pc := 38) (As := [_, _]) dX7_power_38 rfl (r_isThrown_0 h'.1) rfl rfl (shK hS rfl) rfl rfl lk_X7_209 rfl (nb rfl) ⟨nb rfl, nb rfl⟩ rfl ?_
  refine go_cast e2 ?_
  refine g_if_eq (pc := 41) (tgt := 46) dX7_power_41 rfl (fun _ => ?_) (fun h41 => absurd (rfl) h41)
  refine g_aload_n (pc := 46) dX7_power_46 rfl trivial ?_
  refine g_invV_r (pc := 47) (As := []) dX7_power_47 rfl (q1) rfl rfl (shK h'.1 rfl) rfl rfl lk_X7_315 rfl (nb rfl) ⟨nb rfl, nb rfl⟩ rfl ?_
  refine g_aload_n (pc := 50) dX7_power_50 rfl trivial ?_
  refine g_iload_n (pc := 51) dX7_power_51 rfl ?_
  refine g_aload_n (pc := 52) dX7_power_52 rfl trivial ?_
  refine g_getf (pc := 53) dX7_power_53 fk_X7_37 (shK h1.1 rfl) (fv_arr (shR h1.1 rfl)) ?_
  refine g_invV_r (pc := 56) (As := [_, _]) dX7_power_56 rfl (q2) rfl rfl (shK h1.1 rfl) rfl rfl lk_X7_252 rfl (nb rfl) ⟨nb rfl, nb rfl⟩ rfl ?_
  refine g_iconst (pc := 59) (v := 0) dX7_power_59 rfl ?_
  refine g_istore (pc := 60) (lv' := [(0, _), (1, _), (2, _), (3, _), (4, _), (5, _)]) dX7_power_60 (nl rfl) rfl ?_
  refine go_loop (pc := 62) n (fun i => [(0, .ref 198), (1, .int (nI s)), (2, .int x), (3, .int (nI t)), (4, .int (b1 fl)), (5, .int (nI i))]) (fun i => sL M2 205 (wr (mL M2 205) (uR bitI) i)) ⟨rfl, rfl, rfl, rfl, rfl, rfl, trivial⟩ (sL_eq (wr_0 _ _)) ?_ ?_
  · intro i hi ih
    have h3 : Rr (sL M2 205 (wr (mL M2 205) (uR bitI) i)) n A := h2.sL (by decide)
    refine g_iload (pc := 62) dX7_power_62 rfl ?_
    refine g_aload_n (pc := 64) dX7_power_64 rfl trivial ?_
    refine g_invV_r (pc := 65) (As := []) dX7_power_65 rfl (r_size h3) rfl rfl (shK h3.1 rfl) rfl rfl lk_X7_71 rfl (nb rfl) ⟨nb rfl, nb rfl⟩ rfl ?_
    refine g_icmp_ge (pc := 68) (tgt := 88) dX7_power_68 rfl (fun h68 => absurd h68 (nI_ge hi (by omega))) (fun _ => ?_)
    refine g_aload_n (pc := 71) dX7_power_71 rfl trivial ?_
    refine g_getf (pc := 72) dX7_power_72 fk_X7_34 (shK h3.1 rfl) (fv_arr (shR h3.1 rfl)) ?_
    refine g_iload (pc := 75) dX7_power_75 rfl ?_
    refine g_lconst (pc := 77) (v := 1) dX7_power_77 rfl ?_
    refine g_iload (pc := 78) dX7_power_78 rfl ?_
    refine g_lshl (pc := 80) dX7_power_80 rfl ?_
    rw [sh_bit i (by omega)]
    refine g_lastore (pc := 81) dX7_power_81 (shK h3.1 rfl) rfl (by omega) (nl rfl) ?_
    refine g_iinc (pc := 82) (lv' := [(0, _), (1, _), (2, _), (3, _), (4, _), (5, _)]) dX7_power_82 rfl (nI_1 _) (nl rfl) rfl ?_
    refine g_goto (pc := 85) (tgt := 62) dX7_power_85 rfl ?_
    exact go_cast (sL_st (wr_s _ (uR bitI) i)) ih
  · have h3 : Rr (sL M2 205 (wr (mL M2 205) (uR bitI) n)) n A := h2.sL (by decide)
    have hmain : Go l jX7_power 4 160 0 0 (fun r' M' => r' = .inl (some (.int (onesF (pwL f0 fl n bl x (hiB x 21) (pwS M2)).1 n))) ∧ M' = lsM (pqM M2 n (pwL f0 fl n bl x (hiB x 21) (pwS M2))) t n (pwL f0 fl n bl x (hiB x 21) (pwS M2)).1) 112 [(0, .ref 198), (1, .int (nI s)), (2, .int x), (3, .int (nI t)), (4, .int (b1 fl)), (5, .int (nI (hiB x 21) - 1))] [] 0 0 (pqM M2 n (pwS M2)) := by
      obtain ⟨E, hE⟩ : ∃ E, E = pwL f0 fl n bl x (hiB x 21) (pwS M2) := ⟨_, rfl⟩
      rw [← hE]
      refine go_while (pc := 112) (σ := Nat × PW) (fun q => q.1 ≤ 21 ∧ pwL f0 fl n bl x q.1 q.2 = E) (fun q => q.1) (fun q => [(0, .ref 198), (1, .int (nI s)), (2, .int x), (3, .int (nI t)), (4, .int (b1 fl)), (5, .int (nI q.1 - 1))]) (fun q => pqM M2 n q.2) (hiB x 21, pwS M2) ⟨rfl, rfl, rfl, rfl, rfl, rfl, trivial⟩ rfl ⟨hiB_le x 21, hE.symm⟩ ?_
      rintro ⟨k, z⟩ ⟨k1, k2⟩ ih
      simp only at k1 k2 ih
      have h4 : Rr (pqM M2 n z) n A := pqM_R h2
      cases k with
      | zero =>
        rw [pwL] at k2
        subst k2
        have q5 := r_lays (l := l) (x := 205) (f := z.1) h4 ht (shK h4.1 rfl) (by decide) (fun i hi => pqM_5 hi)
        generalize lsM (pqM M2 n z) t n z.1 = M6 at *
        generalize pqM M2 n z = M5 at *
        refine g_iload (pc := 112) dX7_power_112 rfl ?_
        refine g_if_lt (pc := 114) (tgt := 193) dX7_power_114 rfl (fun _ => ?_) (fun h114 => absurd ((show nI 0 - 1 < 0 by decide)) h114)
        refine g_aload_n (pc := 193) dX7_power_193 rfl trivial ?_
        refine g_aload_n (pc := 194) dX7_power_194 rfl trivial ?_
        refine g_getf (pc := 195) dX7_power_195 fk_X7_34 (shK h4.1 rfl) (fv_arr (shR h4.1 rfl)) ?_
        refine g_iload_n (pc := 198) dX7_power_198 rfl ?_
        refine g_invV_r (pc := 199) (As := [_, _]) dX7_power_199 rfl (q5) rfl rfl (shK h4.1 rfl) rfl rfl lk_X7_322 rfl (nb rfl) ⟨nb rfl, nb rfl⟩ rfl ?_
        refine g_ireturn (pc := 202) dX7_power_202 rfl rfl ?_
        exact ⟨rfl, rfl⟩
      | succ k =>
        rw [pwL] at k2
        have ih2 := ih (k, pwB f0 fl n bl x k z) ⟨by simp only; omega, k2⟩ (by simp only; omega)
        simp only at ih2
        have e41 : mL (pqM M2 n z) 199 1 = lN bl := pqM_1.trans e21
        have q4 := r_multiplies (l := l) (xa := 205) (xb := 205) (fl := fl) (f := z.1) (g := z.1) h4 e41 hb1 hb8 (Or.inl rfl) (Or.inl rfl) (fun i hi => pqM_5 hi) (fun i hi => pqM_5 hi)
        have h5 : Rr (muM (pqM M2 n z) fl z.1 z.1 n bl) n A := muM_R h4
        have q5 := r_moves (l := l) (x := 207) (y := 205) (f := mlF fl z.1 z.1 n) h5 (Or.inr (Or.inr rfl)) (Or.inl rfl) (by decide) (fun i hi => muM_at hi)
        rw [pw_mul] at q5
        have h6 : Rr (pqM M2 n (pwX z.1 z.1 fl n bl z.2.2.2)) n A := pqM_R h2
        have e61 : mL (pqM M2 n (pwX z.1 z.1 fl n bl z.2.2.2)) 199 1 = lN bl := pqM_1.trans e21
        generalize hz2 : pwX z.1 z.1 fl n bl z.2.2.2 = z2 at *
        have q6 := r_multiplies (l := l) (xa := 205) (xb := 206) (fl := fl) (f := z2.1) (g := f0) h6 e61 hb1 hb8 (Or.inl rfl) (Or.inr rfl) (fun i hi => pqM_5 hi) (fun i hi => by rw [pqM_6]; exact e26 i hi)
        have h7 : Rr (muM (pqM M2 n z2) fl z2.1 f0 n bl) n A := muM_R h6
        have q7 := r_moves (l := l) (x := 207) (y := 205) (f := mlF fl z2.1 f0 n) h7 (Or.inr (Or.inr rfl)) (Or.inl rfl) (by decide) (fun i hi => muM_at hi)
        rw [pw_mul] at q7
        have h8 : Rr (pqM M2 n (pwX z2.1 f0 fl n bl z2.2.2.2)) n A := pqM_R h2
        have ebit := ishr_bit x k (by omega)
        unfold pwB at ih2
        rw [hz2] at ih2
        rw [nI_pred]
        generalize hM8 : pqM M2 n (pwX z2.1 f0 fl n bl z2.2.2.2) = M8 at *
        generalize muM (pqM M2 n z2) fl z2.1 f0 n bl = M7 at *
        generalize muM (pqM M2 n z) fl z.1 z.1 n bl = M5 at *
        cases hb7 : hb x k with
        | true =>
          rw [hb7, if_pos rfl, hM8] at ih2
          rw [hb7] at ebit
          generalize pqM M2 n z2 = M6 at *
          generalize pqM M2 n z = M4 at *
          refine g_iload (pc := 112) dX7_power_112 rfl ?_
          refine g_if_lt (pc := 114) (tgt := 193) dX7_power_114 rfl (fun h114 => absurd h114 (nI_pos (by omega))) (fun _ => ?_)
          refine g_aload_n (pc := 117) dX7_power_117 rfl trivial ?_
          refine g_aload_n (pc := 118) dX7_power_118 rfl trivial ?_
          refine g_getf (pc := 119) dX7_power_119 fk_X7_34 (shK h4.1 rfl) (fv_arr (shR h4.1 rfl)) ?_
          refine g_aload_n (pc := 122) dX7_power_122 rfl trivial ?_
          refine g_getf (pc := 123) dX7_power_123 fk_X7_34 (shK h4.1 rfl) (fv_arr (shR h4.1 rfl)) ?_
          refine g_aload_n (pc := 126) dX7_power_126 rfl trivial ?_
          refine g_getf (pc := 127) dX7_power_127 fk_X7_40 (shK h4.1 rfl) (fv_arr (shR h4.1 rfl)) ?_
          refine g_iload (pc := 130) dX7_power_130 rfl ?_
          refine g_invV_r (pc := 132) (As := [_, _, _, _]) dX7_power_132 rfl (q4) rfl rfl (shK h4.1 rfl) rfl rfl lk_X7_333 rfl (nb rfl) ⟨nb rfl, nb rfl⟩ rfl ?_
          refine g_aload_n (pc := 135) dX7_power_135 rfl trivial ?_
          refine g_aload_n (pc := 136) dX7_power_136 rfl trivial ?_
          refine g_getf (pc := 137) dX7_power_137 fk_X7_40 (shK h5.1 rfl) (fv_arr (shR h5.1 rfl)) ?_
          refine g_aload_n (pc := 140) dX7_power_140 rfl trivial ?_
          refine g_getf (pc := 141) dX7_power_141 fk_X7_34 (shK h5.1 rfl) (fv_arr (shR h5.1 rfl)) ?_
          refine g_invV_r (pc := 144) (As := [_, _]) dX7_power_144 rfl (q5) rfl rfl (shK h5.1 rfl) rfl rfl lk_X7_339 rfl (nb rfl) ⟨nb rfl, nb rfl⟩ rfl ?_
          refine g_iload_n (pc := 147) dX7_power_147 rfl ?_
          refine g_iload (pc := 148) dX7_power_148 rfl ?_
          refine g_ishr (pc := 150) dX7_power_150 ?_
          refine g_iconst (pc := 151) (v := 1) dX7_power_151 rfl ?_
          refine g_iand (pc := 152) dX7_power_152 ?_
          rw [ebit]
          refine g_iconst (pc := 153) (v := 1) dX7_power_153 rfl ?_
          refine g_icmp_ne (pc := 154) (tgt := 187) dX7_power_154 rfl (fun h154 => absurd h154 ((fun z => z rfl))) (fun _ => ?_)
          refine g_aload_n (pc := 157) dX7_power_157 rfl trivial ?_
          refine g_aload_n (pc := 158) dX7_power_158 rfl trivial ?_
          refine g_getf (pc := 159) dX7_power_159 fk_X7_34 (shK h6.1 rfl) (fv_arr (shR h6.1 rfl)) ?_
          refine g_aload_n (pc := 162) dX7_power_162 rfl trivial ?_
          refine g_getf (pc := 163) dX7_power_163 fk_X7_37 (shK h6.1 rfl) (fv_arr (shR h6.1 rfl)) ?_
          refine g_aload_n (pc := 166) dX7_power_166 rfl trivial ?_
          refine g_getf (pc := 167) dX7_power_167 fk_X7_40 (shK h6.1 rfl) (fv_arr (shR h6.1 rfl)) ?_
          refine g_iload (pc := 170) dX7_power_170 rfl ?_
          refine g_invV_r (pc := 172) (As := [_, _, _, _]) dX7_power_172 rfl (q6) rfl rfl (shK h6.1 rfl) rfl rfl lk_X7_333 rfl (nb rfl) ⟨nb rfl, nb rfl⟩ rfl ?_
          refine g_aload_n (pc := 175) dX7_power_175 rfl trivial ?_
          refine g_aload_n (pc := 176) dX7_power_176 rfl trivial ?_
          refine g_getf (pc := 177) dX7_power_177 fk_X7_40 (shK h7.1 rfl) (fv_arr (shR h7.1 rfl)) ?_
          refine g_aload_n (pc := 180) dX7_power_180 rfl trivial ?_
          refine g_getf (pc := 181) dX7_power_181 fk_X7_34 (shK h7.1 rfl) (fv_arr (shR h7.1 rfl)) ?_
          refine g_invV_r (pc := 184) (As := [_, _]) dX7_power_184 rfl (q7) rfl rfl (shK h7.1 rfl) rfl rfl lk_X7_339 rfl (nb rfl) ⟨nb rfl, nb rfl⟩ rfl ?_
          refine g_iinc (pc := 187) (lv' := [(0, _), (1, _), (2, _), (3, _), (4, _), (5, _)]) dX7_power_187 rfl (show nI k + -1 = nI k - 1 from (Int32.sub_eq_add_neg _ _).symm) (nl rfl) rfl ?_
          refine g_goto (pc := 190) (tgt := 112) dX7_power_190 rfl ?_
          exact ih2
        | false =>
          rw [hb7, if_neg (by decide)] at ih2
          rw [hb7] at ebit
          generalize pqM M2 n z2 = M6 at *
          generalize pqM M2 n z = M4 at *
          refine g_iload (pc := 112) dX7_power_112 rfl ?_
          refine g_if_lt (pc := 114) (tgt := 193) dX7_power_114 rfl (fun h114 => absurd h114 (nI_pos (by omega))) (fun _ => ?_)
          refine g_aload_n (pc := 117) dX7_power_117 rfl trivial ?_
          refine g_aload_n (pc := 118) dX7_power_118 rfl trivial ?_
          refine g_getf (pc := 119) dX7_power_119 fk_X7_34 (shK h4.1 rfl) (fv_arr (shR h4.1 rfl)) ?_
          refine g_aload_n (pc := 122) dX7_power_122 rfl trivial ?_
          refine g_getf (pc := 123) dX7_power_123 fk_X7_34 (shK h4.1 rfl) (fv_arr (shR h4.1 rfl)) ?_
          refine g_aload_n (pc := 126) dX7_power_126 rfl trivial ?_
          refine g_getf (pc := 127) dX7_power_127 fk_X7_40 (shK h4.1 rfl) (fv_arr (shR h4.1 rfl)) ?_
          refine g_iload (pc := 130) dX7_power_130 rfl ?_
          refine g_invV_r (pc := 132) (As := [_, _, _, _]) dX7_power_132 rfl (q4) rfl rfl (shK h4.1 rfl) rfl rfl lk_X7_333 rfl (nb rfl) ⟨nb rfl, nb rfl⟩ rfl ?_
          refine g_aload_n (pc := 135) dX7_power_135 rfl trivial ?_
          refine g_aload_n (pc := 136) dX7_power_136 rfl trivial ?_
          refine g_getf (pc := 137) dX7_power_137 fk_X7_40 (shK h5.1 rfl) (fv_arr (shR h5.1 rfl)) ?_
          refine g_aload_n (pc := 140) dX7_power_140 rfl trivial ?_
          refine g_getf (pc := 141) dX7_power_141 fk_X7_34 (shK h5.1 rfl) (fv_arr (shR h5.1 rfl)) ?_
          refine g_invV_r (pc := 144) (As := [_, _]) dX7_power_144 rfl (q5) rfl rfl (shK h5.1 rfl) rfl rfl lk_X7_339 rfl (nb rfl) ⟨nb rfl, nb rfl⟩ rfl ?_
          refine g_iload_n (pc := 147) dX7_power_147 rfl ?_
          refine g_iload (pc := 148) dX7_power_148 rfl ?_
          refine g_ishr (pc := 150) dX7_power_150 ?_
          refine g_iconst (pc := 151) (v := 1) dX7_power_151 rfl ?_
          refine g_iand (pc := 152) dX7_power_152 ?_
          rw [ebit]
          refine g_iconst (pc := 153) (v := 1) dX7_power_153 rfl ?_
          refine g_icmp_ne (pc := 154) (tgt := 187) dX7_power_154 rfl (fun _ => ?_) (fun h154 => absurd ((by decide)) h154)
          refine g_iinc (pc := 187) (lv' := [(0, _), (1, _), (2, _), (3, _), (4, _), (5, _)]) dX7_power_187 rfl (show nI k + -1 = nI k - 1 from (Int32.sub_eq_add_neg _ _).symm) (nl rfl) rfl ?_
          refine g_goto (pc := 190) (tgt := 112) dX7_power_190 rfl ?_
          exact ih2
    have h3 : Rr (pqM M2 n (pwS M2)) n A := pqM_R h2
    rw [e20]
    generalize pwL f0 fl n bl x (hiB x 21) (pwS M2) = E at *
    generalize pqM M2 n (pwS M2) = M3 at *
    refine g_iload (pc := 62) dX7_power_62 rfl ?_
    refine g_aload_n (pc := 64) dX7_power_64 rfl trivial ?_
    refine g_invV_r (pc := 65) (As := []) dX7_power_65 rfl (r_size h3) rfl rfl (shK h3.1 rfl) rfl rfl lk_X7_71 rfl (nb rfl) ⟨nb rfl, nb rfl⟩ rfl ?_
    refine g_icmp_ge (pc := 68) (tgt := 88) dX7_power_68 rfl (fun _ => ?_) (fun h68 => absurd (nI_le (Nat.le_refl _) (by omega)) h68)
    refine g_bipush (pc := 88) (v := 20) dX7_power_88 rfl ?_
    refine g_istore (pc := 90) (lv' := [(0, _), (1, _), (2, _), (3, _), (4, _), (5, _)]) dX7_power_90 (nl rfl) rfl ?_
    refine go_while (pc := 92) (σ := Nat) (fun q => q ≤ 21 ∧ hiB x q = hiB x 21) (fun q => q) (fun q => [(0, .ref 198), (1, .int (nI s)), (2, .int x), (3, .int (nI t)), (4, .int (b1 fl)), (5, .int (nI q - 1))]) (fun q => M3) 21 ⟨rfl, rfl, rfl, rfl, rfl, by rw [nI_pred]; rfl, trivial⟩ rfl ⟨Nat.le_refl _, rfl⟩ ?_
    rintro q ⟨a1, a2⟩ ih
    cases q with
    | zero =>
      rw [← a2, hiB] at hmain
      refine g_iload (pc := 92) dX7_power_92 rfl ?_
      refine g_if_lt (pc := 94) (tgt := 112) dX7_power_94 rfl (fun _ => ?_) (fun h94 => absurd ((show nI 0 - 1 < 0 by decide)) h94)
      exact hmain
    | succ q =>
      have ebit := ishr_bit x q (by omega)
      rw [hiB] at a2
      rw [nI_pred]
      cases hb7 : hb x q with
      | true =>
        rw [hb7, if_pos rfl] at a2
        rw [hb7] at ebit
        rw [← a2, nI_pred] at hmain
        refine g_iload (pc := 92) dX7_power_92 rfl ?_
        refine g_if_lt (pc := 94) (tgt := 112) dX7_power_94 rfl (fun h94 => absurd h94 (nI_pos (by omega))) (fun _ => ?_)
        refine g_iload_n (pc := 97) dX7_power_97 rfl ?_
        refine g_iload (pc := 98) dX7_power_98 rfl ?_
        refine g_ishr (pc := 100) dX7_power_100 ?_
        refine g_iconst (pc := 101) (v := 1) dX7_power_101 rfl ?_
        refine g_iand (pc := 102) dX7_power_102 ?_
        rw [ebit]
        refine g_if_ne (pc := 103) (tgt := 112) dX7_power_103 rfl (fun _ => ?_) (fun h103 => absurd ((by decide)) h103)
        exact hmain
      | false =>
        rw [hb7, if_neg (by decide)] at a2
        rw [hb7] at ebit
        have ih2 := ih q ⟨by omega, a2⟩ (by omega)
        refine g_iload (pc := 92) dX7_power_92 rfl ?_
        refine g_if_lt (pc := 94) (tgt := 112) dX7_power_94 rfl (fun h94 => absurd h94 (nI_pos (by omega))) (fun _ => ?_)
        refine g_iload_n (pc := 97) dX7_power_97 rfl ?_
        refine g_iload (pc := 98) dX7_power_98 rfl ?_
        refine g_ishr (pc := 100) dX7_power_100 ?_
        refine g_iconst (pc := 101) (v := 1) dX7_power_101 rfl ?_
        refine g_iand (pc := 102) dX7_power_102 ?_
        rw [ebit]
        refine g_if_ne (pc := 103) (tgt := 112) dX7_power_103 rfl (fun h103 => absurd h103 ((fun z => z rfl))) (fun _ => ?_)
        refine g_iinc (pc := 106) (lv' := [(0, _), (1, _), (2, _), (3, _), (4, _), (5, _)]) dX7_power_106 rfl (show nI q + -1 = nI q - 1 from (Int32.sub_eq_add_neg _ _).symm) (nl rfl) rfl ?_
        refine g_goto (pc := 109) (tgt := 92) dX7_power_109 rfl ?_
        exact ih2
theorem t_power {v w u x : Int32} (h : Rr M n A) (hx : ¬ (inR v 6 ∧ inR u 6)) : EvR l jX7_power 4 160 0 0 [.ref 198, .int v, .int w, .int u, .int x] M (.inl (some (.int 0))) (thr M 1) := by
  have hS := h.1
  refine ev_intro rfl (nb rfl) rfl ?_
  by_cases h1 : inR v 6
  · refine g_aload_n (pc := 0) dX7_power_0 rfl trivial ?_
    refine g_iload_n (pc := 1) dX7_power_1 rfl ?_
    refine g_invS_r (pc := 2) (As := [_]) dX7_power_2 rfl (r_isSlot_t h1) rfl rfl lk_X7_216 rfl (nb rfl) ⟨nb rfl, nb rfl⟩ rfl ?_
    refine g_if_eq (pc := 5) (tgt := 19) dX7_power_5 rfl (fun h5 => absurd h5 ((by decide))) (fun _ => ?_)
    refine g_iload_n (pc := 8) dX7_power_8 rfl ?_
    refine g_invS_r (pc := 9) (As := [_]) dX7_power_9 rfl (r_isSlot_f (fun q => hx ⟨h1, q⟩)) rfl rfl lk_X7_216 rfl (nb rfl) ⟨nb rfl, nb rfl⟩ rfl ?_
    refine g_if_eq (pc := 12) (tgt := 19) dX7_power_12 rfl (fun _ => ?_) (fun h12 => absurd (rfl) h12)
    refine g_iconst (pc := 19) (v := 0) dX7_power_19 rfl ?_
    refine g_iconst (pc := 20) (v := 1) dX7_power_20 rfl ?_
    refine g_invV_r (pc := 21) (As := [_, _]) dX7_power_21 rfl (r_isThrown_1 hS) rfl rfl (shK hS rfl) rfl rfl lk_X7_209 rfl (nb rfl) ⟨nb rfl, nb rfl⟩ rfl ?_
    refine g_if_ne (pc := 24) (tgt := 44) dX7_power_24 rfl (fun _ => ?_) (fun h24 => absurd ((by decide)) h24)
    refine g_iconst (pc := 44) (v := 0) dX7_power_44 rfl ?_
    refine g_ireturn (pc := 45) dX7_power_45 rfl rfl ?_
    exact ⟨rfl, rfl⟩
  · refine g_aload_n (pc := 0) dX7_power_0 rfl trivial ?_
    refine g_iload_n (pc := 1) dX7_power_1 rfl ?_
    refine g_invS_r (pc := 2) (As := [_]) dX7_power_2 rfl (r_isSlot_f h1) rfl rfl lk_X7_216 rfl (nb rfl) ⟨nb rfl, nb rfl⟩ rfl ?_
    refine g_if_eq (pc := 5) (tgt := 19) dX7_power_5 rfl (fun _ => ?_) (fun h5 => absurd (rfl) h5)
    refine g_iconst (pc := 19) (v := 0) dX7_power_19 rfl ?_
    refine g_iconst (pc := 20) (v := 1) dX7_power_20 rfl ?_
    refine g_invV_r (pc := 21) (As := [_, _]) dX7_power_21 rfl (r_isThrown_1 hS) rfl rfl (shK hS rfl) rfl rfl lk_X7_209 rfl (nb rfl) ⟨nb rfl, nb rfl⟩ rfl ?_
    refine g_if_ne (pc := 24) (tgt := 44) dX7_power_24 rfl (fun _ => ?_) (fun h24 => absurd ((by decide)) h24)
    refine g_iconst (pc := 44) (v := 0) dX7_power_44 rfl ?_
    refine g_ireturn (pc := 45) dX7_power_45 rfl rfl ?_
    exact ⟨rfl, rfl⟩
theorem u_power' {v w u x : Int32} (h : Rr M n A) (h1 : inR v 6) (h2 : inR u 6) (hx : ¬ (¬ w < 0 ∧ w ≤ 1000000)) : EvR l jX7_power 4 160 0 0 [.ref 198, .int v, .int w, .int u, .int x] M (.inl (some (.int 0))) (thr M 2) := by
  have hS := h.1
  have h' := h.thr (x := 0)
  refine ev_intro rfl (nb rfl) rfl ?_
  refine g_aload_n (pc := 0) dX7_power_0 rfl trivial ?_
  refine g_iload_n (pc := 1) dX7_power_1 rfl ?_
  refine g_invS_r (pc := 2) (As := [_]) dX7_power_2 rfl (r_isSlot_t h1) rfl rfl lk_X7_216 rfl (nb rfl) ⟨nb rfl, nb rfl⟩ rfl ?_
  refine g_if_eq (pc := 5) (tgt := 19) dX7_power_5 rfl (fun h5 => absurd h5 ((by decide))) (fun _ => ?_)
  refine g_iload_n (pc := 8) dX7_power_8 rfl ?_
  refine g_invS_r (pc := 9) (As := [_]) dX7_power_9 rfl (r_isSlot_t h2) rfl rfl lk_X7_216 rfl (nb rfl) ⟨nb rfl, nb rfl⟩ rfl ?_
  refine g_if_eq (pc := 12) (tgt := 19) dX7_power_12 rfl (fun h12 => absurd h12 ((by decide))) (fun _ => ?_)
  refine g_iconst (pc := 15) (v := 1) dX7_power_15 rfl ?_
  refine g_goto (pc := 16) (tgt := 20) dX7_power_16 rfl ?_
  refine g_iconst (pc := 20) (v := 1) dX7_power_20 rfl ?_
  refine g_invV_r (pc := 21) (As := [_, _]) dX7_power_21 rfl (r_isThrown_0 hS) rfl rfl (shK hS rfl) rfl rfl lk_X7_209 rfl (nb rfl) ⟨nb rfl, nb rfl⟩ rfl ?_
  refine g_if_ne (pc := 24) (tgt := 44) dX7_power_24 rfl (fun h24 => absurd h24 ((fun z => z rfl))) (fun _ => ?_)
  refine g_aload_n (pc := 27) dX7_power_27 rfl trivial ?_
  refine g_iload_n (pc := 28) dX7_power_28 rfl ?_
  refine g_i2l (pc := 29) dX7_power_29 rfl ?_
  refine g_lconst (pc := 30) (v := 0) dX7_power_30 rfl ?_
  refine g_ldc2 (pc := 31) dX7_power_31 wd_1721 ?_
  refine g_invS_r (pc := 34) (As := [_, _, _]) dX7_power_34 rfl (r_in_f (fun z => hx ((lim_long (a := 0) (b := 1000000)).mp z))) rfl rfl lk_X7_67 rfl (nb rfl) ⟨nb rfl, nb rfl⟩ rfl ?_
  refine g_iconst (pc := 37) (v := 2) dX7_power_37 rfl ?_
  refine g_invV_r (pc := 38) (As := [_, _]) dX7_power_38 rfl (r_isThrown_1 h'.1) rfl rfl (shK hS rfl) rfl rfl lk_X7_209 rfl (nb rfl) ⟨nb rfl, nb rfl⟩ rfl ?_
  refine g_if_eq (pc := 41) (tgt := 46) dX7_power_41 rfl (fun h41 => absurd h41 ((by decide))) (fun _ => ?_)
  refine g_iconst (pc := 44) (v := 0) dX7_power_44 rfl ?_
  refine g_ireturn (pc := 45) dX7_power_45 rfl rfl ?_
  exact ⟨rfl, thr_2⟩
end
end
-- 307.ri
section
/-! the reference: inverses; edges that are not needed -/
section
variable {l : Launch} {M : Mem} {n c : Nat} {A : Nat → Nat → Int32}
/-- elimination beside the unit -/
def ivR (M : Mem) (n : Nat) (f : Nat → Int32) : ES := elIt n (f, bitI, mI M 210, 0) n
theorem ivR_c (M : Mem) (n : Nat) (f : Nat → Int32) : (ivR M n f).2.2.2 ≤ n := by
  have := elIt_c n (f, bitI, mI M 210, 0) n
  unfold ivR; simp only at this; omega
theorem r_unitBeside {s t : Nat} {Q : Res → Mem → Prop} (h : Rr M n A) (hs : s < 6) (ht : t < 6) (kk : Go l jX7_invert 4 160 0 0 Q 54 [(0, .ref 198), (1, .int (nI s)), (2, .int (nI t))] [] 0 0 (sL (thr M 0) 209 (wr (mL (thr M 0) 209) (uR bitI) n))) : Go l jX7_invert 4 160 0 0 Q 0 [(0, .ref 198), (1, .int (nI s)), (2, .int (nI t))] [] 0 0 M := by
  have hn := h.2.2.2.1
  have hS := h.1
  have h1 : Rr (thr M 0) n A := h.thr
  have e0 : pI M 198 6 0 = thr M 0 := rfl
  have q0 := r_isThrown_0 (l := l) (x := 1) hS
  generalize thr M 0 = M1 at *
  refine g_aload_n (pc := 0) dX7_invert_0 rfl trivial ?_
  refine g_iload_n (pc := 1) dX7_invert_1 rfl ?_
  refine g_invS_r (pc := 2) (As := [_]) dX7_invert_2 rfl (r_isSlot_t (in6 hs)) rfl rfl lk_X7_216 rfl (nb rfl) ⟨nb rfl, nb rfl⟩ rfl ?_
  refine g_if_eq (pc := 5) (tgt := 19) dX7_invert_5 rfl (fun h5 => absurd h5 ((by decide))) (fun _ => ?_)
  refine g_iload_n (pc := 8) dX7_invert_8 rfl ?_
  refine g_invS_r (pc := 9) (As := [_]) dX7_invert_9 rfl (r_isSlot_t (in6 ht)) rfl rfl lk_X7_216 rfl (nb rfl) ⟨nb rfl, nb rfl⟩ rfl ?_
  refine g_if_eq (pc := 12) (tgt := 19) dX7_invert_12 rfl (fun h12 => absurd h12 ((by decide))) (fun _ => ?_)
  refine g_iconst (pc := 15) (v := 1) dX7_invert_15 rfl ?_
  refine g_goto (pc := 16) (tgt := 20) dX7_invert_16 rfl ?_
  refine g_iconst (pc := 20) (v := 1) dX7_invert_20 rfl ?_
  refine g_invV_r (pc := 21) (As := [_, _]) dX7_invert_21 rfl (q0) rfl rfl (shK hS rfl) rfl rfl lk_X7_209 rfl (nb rfl) ⟨nb rfl, nb rfl⟩ rfl ?_
  refine g_if_eq (pc := 24) (tgt := 29) dX7_invert_24 rfl (fun _ => ?_) (fun h24 => absurd (rfl) h24)
  refine g_iconst (pc := 29) (v := 0) dX7_invert_29 rfl ?_
  refine g_istore_n (pc := 30) (lv' := [(0, _), (1, _), (2, _), (3, _)]) dX7_invert_30 (nl rfl) rfl ?_
  refine go_loop (pc := 31) n (fun i => [(0, .ref 198), (1, .int (nI s)), (2, .int (nI t)), (3, .int (nI i))]) (fun i => sL M1 209 (wr (mL M1 209) (uR bitI) i)) ⟨rfl, rfl, rfl, rfl, trivial⟩ (sL_eq (wr_0 _ _)) ?_ ?_
  · intro i hi ih
    have h3 : Rr (sL M1 209 (wr (mL M1 209) (uR bitI) i)) n A := h1.sL (by decide)
    refine g_iload_n (pc := 31) dX7_invert_31 rfl ?_
    refine g_aload_n (pc := 32) dX7_invert_32 rfl trivial ?_
    refine g_invV_r (pc := 33) (As := []) dX7_invert_33 rfl (r_size h3) rfl rfl (shK h3.1 rfl) rfl rfl lk_X7_71 rfl (nb rfl) ⟨nb rfl, nb rfl⟩ rfl ?_
    refine g_icmp_ge (pc := 36) (tgt := 54) dX7_invert_36 rfl (fun h36 => absurd h36 (nI_ge hi (by omega))) (fun _ => ?_)
    refine g_aload_n (pc := 39) dX7_invert_39 rfl trivial ?_
    refine g_getf (pc := 40) dX7_invert_40 fk_X7_47 (shK h3.1 rfl) (fv_arr (shR h3.1 rfl)) ?_
    refine g_iload_n (pc := 43) dX7_invert_43 rfl ?_
    refine g_lconst (pc := 44) (v := 1) dX7_invert_44 rfl ?_
    refine g_iload_n (pc := 45) dX7_invert_45 rfl ?_
    refine g_lshl (pc := 46) dX7_invert_46 rfl ?_
    rw [sh_bit i (by omega)]
    refine g_lastore (pc := 47) dX7_invert_47 (shK h3.1 rfl) rfl (by omega) (nl rfl) ?_
    refine g_iinc (pc := 48) (lv' := [(0, _), (1, _), (2, _), (3, _)]) dX7_invert_48 rfl (nI_1 _) (nl rfl) rfl ?_
    refine g_goto (pc := 51) (tgt := 31) dX7_invert_51 rfl ?_
    exact go_cast (sL_st (wr_s _ (uR bitI) i)) ih
  · have h3 : Rr (sL M1 209 (wr (mL M1 209) (uR bitI) n)) n A := h1.sL (by decide)
    refine g_iload_n (pc := 31) dX7_invert_31 rfl ?_
    refine g_aload_n (pc := 32) dX7_invert_32 rfl trivial ?_
    refine g_invV_r (pc := 33) (As := []) dX7_invert_33 rfl (r_size h3) rfl rfl (shK h3.1 rfl) rfl rfl lk_X7_71 rfl (nb rfl) ⟨nb rfl, nb rfl⟩ rfl ?_
    refine g_icmp_ge (pc := 36) (tgt := 54) dX7_invert_36 rfl (fun _ => ?_) (fun h36 => absurd (nI_le (Nat.le_refl _) (by omega)) h36)
    exact g_sub (lv' := [(0, _), (1, _), (2, _)]) ⟨rfl, rfl, rfl, trivial⟩ kk
theorem o_invert {s t : Nat} (h : Rr M n A) (hs : s < 6) (ht : t < 6) (hsi : (ivR (thr M 0) n (A s)).2.2.2 < n) : EvR l jX7_invert 4 160 0 0 [.ref 198, .int (nI s), .int (nI t)] M (.inl (some (.int (-3)))) (rbM (thr M 0) n (ivR (thr M 0) n (A s))) := by
  have hn := h.2.2.2.1
  have h1 : Rr (thr M 0) n A := h.thr
  have h2 : Rr (sL (thr M 0) 209 (wr (mL (thr M 0) 209) (uR bitI) n)) n A := h1.sL (by decide)
  have q1 := r_reduces (l := l) (R := bitI) h2 hs (fun i hi => by rw [sL_self, wr_lt hi]; rfl)
  rw [rb_sL] at q1
  have q1 : EvR l jX7_reduces 2 60 0 0 [.ref 198, .int (nI s)] (sL (thr M 0) 209 (wr (mL (thr M 0) 209) (uR bitI) n)) (.inl none) (rbM (thr M 0) n (ivR (thr M 0) n (A s))) := q1
  have h3 := rb_R h1 (ivR (thr M 0) n (A s))
  have ec := rb_c (M := thr M 0) (n := n) (ivR (thr M 0) n (A s))
  generalize ivR (thr M 0) n (A s) = E at *
  generalize rbM (thr M 0) n E = M3 at *
  refine ev_intro rfl (nb rfl) rfl ?_
  refine r_unitBeside h hs ht ?_
  generalize sL (thr M 0) 209 (wr (mL (thr M 0) 209) (uR bitI) n) = M2 at *
  refine g_aload_n (pc := 54) dX7_invert_54 rfl trivial ?_
  refine g_iload_n (pc := 55) dX7_invert_55 rfl ?_
  refine g_invV_r (pc := 56) (As := [_]) dX7_invert_56 rfl (q1) rfl rfl (shK h2.1 rfl) rfl rfl lk_X7_303 rfl (nb rfl) ⟨nb rfl, nb rfl⟩ rfl ?_
  refine g_aload_n (pc := 59) dX7_invert_59 rfl trivial ?_
  refine g_getf (pc := 60) (v := .int _) dX7_invert_60 fk_X7_297 (shK h3.1 rfl) (fun _ => congrArg Value.int (ec)) ?_
  refine g_aload_n (pc := 63) dX7_invert_63 rfl trivial ?_
  refine g_invV_r (pc := 64) (As := []) dX7_invert_64 rfl (r_size h3) rfl rfl (shK h3.1 rfl) rfl rfl lk_X7_71 rfl (nb rfl) ⟨nb rfl, nb rfl⟩ rfl ?_
  refine g_icmp_ge (pc := 67) (tgt := 73) dX7_invert_67 rfl (fun h67 => absurd h67 (nI_ge hsi (by omega))) (fun _ => ?_)
  refine g_bipush (pc := 70) (v := (-3)) dX7_invert_70 rfl ?_
  refine g_ireturn (pc := 72) dX7_invert_72 rfl rfl ?_
  exact ⟨rfl, rfl⟩
/-- the memory behind an inverse -/
def inM (M : Mem) (n t : Nat) (f : Nat → Int32) (c : Nat) : Mem := lsM (kepM (rbM (thr M 0) n (ivR (thr M 0) n f)) c) t n (ivR (thr M 0) n f).2.1
theorem n_invert {s t : Nat} (h : Rr M n A) (hc : mI M 198 5 = nI c) (hc8 : c ≤ 8) (hs : s < 6) (ht : t < 6) (hsi : ¬ (ivR (thr M 0) n (A s)).2.2.2 < n) : EvR l jX7_invert 4 160 0 0 [.ref 198, .int (nI s), .int (nI t)] M (.inl (some (.int (onesF (ivR (thr M 0) n (A s)).2.1 n)))) (inM M n t (A s) c) := by
  have hn := h.2.2.2.1
  have h1 : Rr (thr M 0) n A := h.thr
  have h2 : Rr (sL (thr M 0) 209 (wr (mL (thr M 0) 209) (uR bitI) n)) n A := h1.sL (by decide)
  have q1 := r_reduces (l := l) (R := bitI) h2 hs (fun i hi => by rw [sL_self, wr_lt hi]; rfl)
  rw [rb_sL] at q1
  have q1 : EvR l jX7_reduces 2 60 0 0 [.ref 198, .int (nI s)] (sL (thr M 0) 209 (wr (mL (thr M 0) 209) (uR bitI) n)) (.inl none) (rbM (thr M 0) n (ivR (thr M 0) n (A s))) := q1
  have h3 := rb_R h1 (ivR (thr M 0) n (A s))
  have ec := rb_c (M := thr M 0) (n := n) (ivR (thr M 0) n (A s))
  have er := fun i (hi : i < n) => rb_r (M := thr M 0) (s := ivR (thr M 0) n (A s)) hi
  have ec5 : mI (rbM (thr M 0) n (ivR (thr M 0) n (A s))) 198 5 = nI c := by rw [rb_c0, fs_ne _ _ (by decide)]; exact (pI_k (by decide)).trans hc
  have hcn := ivR_c (thr M 0) n (A s)
  unfold inM
  generalize ivR (thr M 0) n (A s) = E at *
  generalize rbM (thr M 0) n E = M3 at *
  have q2 := r_keeps (l := l) h3 ec5 hc8
  have h4 : Rr (kepM M3 c) n A := kepM_R h3
  have q3 := r_lays (l := l) (x := 209) (f := E.2.1) h4 ht (shK h4.1 rfl) (by decide) (fun i hi => by rw [show mL (kepM M3 c) 209 = mL M3 209 from sL_ne (by decide)]; exact er i hi)
  generalize lsM (kepM M3 c) t n E.2.1 = M5 at *
  generalize kepM M3 c = M4 at *
  refine ev_intro rfl (nb rfl) rfl ?_
  refine r_unitBeside h hs ht ?_
  generalize sL (thr M 0) 209 (wr (mL (thr M 0) 209) (uR bitI) n) = M2 at *
  refine g_aload_n (pc := 54) dX7_invert_54 rfl trivial ?_
  refine g_iload_n (pc := 55) dX7_invert_55 rfl ?_
  refine g_invV_r (pc := 56) (As := [_]) dX7_invert_56 rfl (q1) rfl rfl (shK h2.1 rfl) rfl rfl lk_X7_303 rfl (nb rfl) ⟨nb rfl, nb rfl⟩ rfl ?_
  refine g_aload_n (pc := 59) dX7_invert_59 rfl trivial ?_
  refine g_getf (pc := 60) (v := .int _) dX7_invert_60 fk_X7_297 (shK h3.1 rfl) (fun _ => congrArg Value.int (ec)) ?_
  refine g_aload_n (pc := 63) dX7_invert_63 rfl trivial ?_
  refine g_invV_r (pc := 64) (As := []) dX7_invert_64 rfl (r_size h3) rfl rfl (shK h3.1 rfl) rfl rfl lk_X7_71 rfl (nb rfl) ⟨nb rfl, nb rfl⟩ rfl ?_
  refine g_icmp_ge (pc := 67) (tgt := 73) dX7_invert_67 rfl (fun _ => ?_) (fun h67 => absurd (nI_le (Nat.not_lt.mp hsi) (by omega)) h67)
  refine g_aload_n (pc := 73) dX7_invert_73 rfl trivial ?_
  refine g_invV_r (pc := 74) (As := []) dX7_invert_74 rfl (q2) rfl rfl (shK h3.1 rfl) rfl rfl lk_X7_315 rfl (nb rfl) ⟨nb rfl, nb rfl⟩ rfl ?_
  refine g_aload_n (pc := 77) dX7_invert_77 rfl trivial ?_
  refine g_aload_n (pc := 78) dX7_invert_78 rfl trivial ?_
  refine g_getf (pc := 79) dX7_invert_79 fk_X7_47 (shK h4.1 rfl) (fv_arr (shR h4.1 rfl)) ?_
  refine g_iload_n (pc := 82) dX7_invert_82 rfl ?_
  refine g_invV_r (pc := 83) (As := [_, _]) dX7_invert_83 rfl (q3) rfl rfl (shK h4.1 rfl) rfl rfl lk_X7_322 rfl (nb rfl) ⟨nb rfl, nb rfl⟩ rfl ?_
  refine g_ireturn (pc := 86) dX7_invert_86 rfl rfl ?_
  exact ⟨rfl, rfl⟩
theorem t_invert {v w : Int32} (h : Rr M n A) (hx : ¬ (inR v 6 ∧ inR w 6)) : EvR l jX7_invert 4 160 0 0 [.ref 198, .int v, .int w] M (.inl (some (.int 0))) (thr M 1) := by
  have hS := h.1
  refine ev_intro rfl (nb rfl) rfl ?_
  by_cases h1 : inR v 6
  · refine g_aload_n (pc := 0) dX7_invert_0 rfl trivial ?_
    refine g_iload_n (pc := 1) dX7_invert_1 rfl ?_
    refine g_invS_r (pc := 2) (As := [_]) dX7_invert_2 rfl (r_isSlot_t h1) rfl rfl lk_X7_216 rfl (nb rfl) ⟨nb rfl, nb rfl⟩ rfl ?_
    refine g_if_eq (pc := 5) (tgt := 19) dX7_invert_5 rfl (fun h5 => absurd h5 ((by decide))) (fun _ => ?_)
    refine g_iload_n (pc := 8) dX7_invert_8 rfl ?_
    refine g_invS_r (pc := 9) (As := [_]) dX7_invert_9 rfl (r_isSlot_f (fun q => hx ⟨h1, q⟩)) rfl rfl lk_X7_216 rfl (nb rfl) ⟨nb rfl, nb rfl⟩ rfl ?_
    refine g_if_eq (pc := 12) (tgt := 19) dX7_invert_12 rfl (fun _ => ?_) (fun h12 => absurd (rfl) h12)
    refine g_iconst (pc := 19) (v := 0) dX7_invert_19 rfl ?_
    refine g_iconst (pc := 20) (v := 1) dX7_invert_20 rfl ?_
    refine g_invV_r (pc := 21) (As := [_, _]) dX7_invert_21 rfl (r_isThrown_1 hS) rfl rfl (shK hS rfl) rfl rfl lk_X7_209 rfl (nb rfl) ⟨nb rfl, nb rfl⟩ rfl ?_
    refine g_if_eq (pc := 24) (tgt := 29) dX7_invert_24 rfl (fun h24 => absurd h24 ((by decide))) (fun _ => ?_)
    refine g_iconst (pc := 27) (v := 0) dX7_invert_27 rfl ?_
    refine g_ireturn (pc := 28) dX7_invert_28 rfl rfl ?_
    exact ⟨rfl, rfl⟩
  · refine g_aload_n (pc := 0) dX7_invert_0 rfl trivial ?_
    refine g_iload_n (pc := 1) dX7_invert_1 rfl ?_
    refine g_invS_r (pc := 2) (As := [_]) dX7_invert_2 rfl (r_isSlot_f h1) rfl rfl lk_X7_216 rfl (nb rfl) ⟨nb rfl, nb rfl⟩ rfl ?_
    refine g_if_eq (pc := 5) (tgt := 19) dX7_invert_5 rfl (fun _ => ?_) (fun h5 => absurd (rfl) h5)
    refine g_iconst (pc := 19) (v := 0) dX7_invert_19 rfl ?_
    refine g_iconst (pc := 20) (v := 1) dX7_invert_20 rfl ?_
    refine g_invV_r (pc := 21) (As := [_, _]) dX7_invert_21 rfl (r_isThrown_1 hS) rfl rfl (shK hS rfl) rfl rfl lk_X7_209 rfl (nb rfl) ⟨nb rfl, nb rfl⟩ rfl ?_
    refine g_if_eq (pc := 24) (tgt := 29) dX7_invert_24 rfl (fun h24 => absurd h24 ((by decide))) (fun _ => ?_)
    refine g_iconst (pc := 27) (v := 0) dX7_invert_27 rfl ?_
    refine g_ireturn (pc := 28) dX7_invert_28 rfl rfl ?_
    exact ⟨rfl, rfl⟩
def eqR (f g : Nat → Int32) (n : Nat) : Prop := ∀ i, i < n → f i = g i
theorem r_isSame_t {x y : Nat} {f g : Nat → Int32} (h : Rr M n A) (hx : isH x) (hy : isH y) (hf : ∀ i, i < n → mL M x i = uL (f i)) (hg : ∀ i, i < n → mL M y i = uL (g i)) (he : eqR f g n) : EvR l jX7_isSame 1 30 0 0 [.ref 198, .ref x, .ref y] M (.inl (some (.int 1))) M := by
  have hn := h.2.2.2.1
  have hS := h.1
  refine ev_intro rfl (nb rfl) rfl ?_
  refine g_iconst (pc := 0) (v := 0) dX7_isSame_0 rfl ?_
  refine g_istore_n (pc := 1) (lv' := [(0, _), (1, _), (2, _), (3, _)]) dX7_isSame_1 (nl rfl) rfl ?_
  refine go_loop (pc := 2) n (fun i => [(0, .ref 198), (1, .ref x), (2, .ref y), (3, .int (nI i))]) (fun i => M) ⟨rfl, rfl, rfl, rfl, trivial⟩ rfl ?_ ?_
  · intro i hi ih
    refine g_iload_n (pc := 2) dX7_isSame_2 rfl ?_
    refine g_aload_n (pc := 3) dX7_isSame_3 rfl trivial ?_
    refine g_invV_r (pc := 4) (As := []) dX7_isSame_4 rfl (r_size h) rfl rfl (shK hS rfl) rfl rfl lk_X7_71 rfl (nb rfl) ⟨nb rfl, nb rfl⟩ rfl ?_
    refine g_icmp_ge (pc := 7) (tgt := 28) dX7_isSame_7 rfl (fun h7 => absurd h7 (nI_ge hi (by omega))) (fun _ => ?_)
    refine g_aload_n (pc := 10) dX7_isSame_10 rfl trivial ?_
    refine g_iload_n (pc := 11) dX7_isSame_11 rfl ?_
    refine g_laload (pc := 12) dX7_isSame_12 (shK hS hx.k) rfl (by omega) (nl rfl) ?_
    rw [hf i hi]
    refine g_aload_n (pc := 13) dX7_isSame_13 rfl trivial ?_
    refine g_iload_n (pc := 14) dX7_isSame_14 rfl ?_
    refine g_laload (pc := 15) dX7_isSame_15 (shK hS hy.k) rfl (by omega) (nl rfl) ?_
    rw [hg i hi]
    refine g_lcmp (pc := 16) dX7_isSame_16 ?_
    refine g_if_eq (pc := 17) (tgt := 22) dX7_isSame_17 rfl (fun _ => ?_) (fun h17 => absurd ((lg_cmp_eq _ _).mpr (by rw [he i hi])) h17)
    refine g_iinc (pc := 22) (lv' := [(0, _), (1, _), (2, _), (3, _)]) dX7_isSame_22 rfl (nI_1 _) (nl rfl) rfl ?_
    refine g_goto (pc := 25) (tgt := 2) dX7_isSame_25 rfl ?_
    exact ih
  · refine g_iload_n (pc := 2) dX7_isSame_2 rfl ?_
    refine g_aload_n (pc := 3) dX7_isSame_3 rfl trivial ?_
    refine g_invV_r (pc := 4) (As := []) dX7_isSame_4 rfl (r_size h) rfl rfl (shK hS rfl) rfl rfl lk_X7_71 rfl (nb rfl) ⟨nb rfl, nb rfl⟩ rfl ?_
    refine g_icmp_ge (pc := 7) (tgt := 28) dX7_isSame_7 rfl (fun _ => ?_) (fun h7 => absurd (nI_le (Nat.le_refl _) (by omega)) h7)
    refine g_iconst (pc := 28) (v := 1) dX7_isSame_28 rfl ?_
    refine g_ireturn (pc := 29) dX7_isSame_29 rfl rfl ?_
    exact ⟨rfl, rfl⟩
theorem r_isSame_f {x y : Nat} {f g : Nat → Int32} (h : Rr M n A) (hx : isH x) (hy : isH y) (hf : ∀ i, i < n → mL M x i = uL (f i)) (hg : ∀ i, i < n → mL M y i = uL (g i)) (he : ¬ eqR f g n) : EvR l jX7_isSame 1 30 0 0 [.ref 198, .ref x, .ref y] M (.inl (some (.int 0))) M := by
  have hn := h.2.2.2.1
  have hS := h.1
  refine ev_intro rfl (nb rfl) rfl ?_
  refine g_iconst (pc := 0) (v := 0) dX7_isSame_0 rfl ?_
  refine g_istore_n (pc := 1) (lv' := [(0, _), (1, _), (2, _), (3, _)]) dX7_isSame_1 (nl rfl) rfl ?_
  refine go_while (pc := 2) (σ := Nat) (fun q => q ≤ n ∧ ∀ i, i < q → f i = g i) (fun q => n - q) (fun i => [(0, .ref 198), (1, .ref x), (2, .ref y), (3, .int (nI i))]) (fun i => M) 0 ⟨rfl, rfl, rfl, rfl, trivial⟩ rfl ⟨by omega, fun i hi => by omega⟩ ?_
  rintro i ⟨h1, h2⟩ ih
  by_cases hi : i < n
  · by_cases h9 : f i = g i
    · refine g_iload_n (pc := 2) dX7_isSame_2 rfl ?_
      refine g_aload_n (pc := 3) dX7_isSame_3 rfl trivial ?_
      refine g_invV_r (pc := 4) (As := []) dX7_isSame_4 rfl (r_size h) rfl rfl (shK hS rfl) rfl rfl lk_X7_71 rfl (nb rfl) ⟨nb rfl, nb rfl⟩ rfl ?_
      refine g_icmp_ge (pc := 7) (tgt := 28) dX7_isSame_7 rfl (fun h7 => absurd h7 (nI_ge hi (by omega))) (fun _ => ?_)
      refine g_aload_n (pc := 10) dX7_isSame_10 rfl trivial ?_
      refine g_iload_n (pc := 11) dX7_isSame_11 rfl ?_
      refine g_laload (pc := 12) dX7_isSame_12 (shK hS hx.k) rfl (by omega) (nl rfl) ?_
      rw [hf i hi]
      refine g_aload_n (pc := 13) dX7_isSame_13 rfl trivial ?_
      refine g_iload_n (pc := 14) dX7_isSame_14 rfl ?_
      refine g_laload (pc := 15) dX7_isSame_15 (shK hS hy.k) rfl (by omega) (nl rfl) ?_
      rw [hg i hi]
      refine g_lcmp (pc := 16) dX7_isSame_16 ?_
      refine g_if_eq (pc := 17) (tgt := 22) dX7_isSame_17 rfl (fun _ => ?_) (fun h17 => absurd ((lg_cmp_eq _ _).mpr (by rw [h9])) h17)
      refine g_iinc (pc := 22) (lv' := [(0, _), (1, _), (2, _), (3, _)]) dX7_isSame_22 rfl (nI_1 _) (nl rfl) rfl ?_
      refine g_goto (pc := 25) (tgt := 2) dX7_isSame_25 rfl ?_
      exact ih (i + 1) ⟨hi, fun j hj => (by omega : j < i ∨ j = i).elim (h2 j) (fun e => e ▸ h9)⟩ (by omega)
    · refine g_iload_n (pc := 2) dX7_isSame_2 rfl ?_
      refine g_aload_n (pc := 3) dX7_isSame_3 rfl trivial ?_
      refine g_invV_r (pc := 4) (As := []) dX7_isSame_4 rfl (r_size h) rfl rfl (shK hS rfl) rfl rfl lk_X7_71 rfl (nb rfl) ⟨nb rfl, nb rfl⟩ rfl ?_
      refine g_icmp_ge (pc := 7) (tgt := 28) dX7_isSame_7 rfl (fun h7 => absurd h7 (nI_ge hi (by omega))) (fun _ => ?_)
      refine g_aload_n (pc := 10) dX7_isSame_10 rfl trivial ?_
      refine g_iload_n (pc := 11) dX7_isSame_11 rfl ?_
      refine g_laload (pc := 12) dX7_isSame_12 (shK hS hx.k) rfl (by omega) (nl rfl) ?_
      rw [hf i hi]
      refine g_aload_n (pc := 13) dX7_isSame_13 rfl trivial ?_
      refine g_iload_n (pc := 14) dX7_isSame_14 rfl ?_
      refine g_laload (pc := 15) dX7_isSame_15 (shK hS hy.k) rfl (by omega) (nl rfl) ?_
      rw [hg i hi]
      refine g_lcmp (pc := 16) dX7_isSame_16 ?_
      refine g_if_eq (pc := 17) (tgt := 22) dX7_isSame_17 rfl (fun h17 => absurd h17 ((fun z => h9 (uL_inj.mp ((lg_cmp_eq _ _).mp z))))) (fun _ => ?_)
      refine g_iconst (pc := 20) (v := 0) dX7_isSame_20 rfl ?_
      refine g_ireturn (pc := 21) dX7_isSame_21 rfl rfl ?_
      exact ⟨rfl, rfl⟩
  · have : i = n := by omega
    subst this
    exact absurd h2 he
def eqB (f g : Nat → Int32) : Nat → Bool
  | 0 => true
  | k + 1 => eqB f g k && decide (f k = g k)
theorem eqB_iff (f g : Nat → Int32) : ∀ k, eqB f g k = true ↔ eqR f g k
  | 0 => ⟨fun _ i hi => by omega, fun _ => rfl⟩
  | k + 1 => by
    rw [eqB, Bool.and_eq_true, eqB_iff f g k, decide_eq_true_iff]
    constructor
    · rintro ⟨h1, h2⟩ i hi
      by_cases e : i = k
      · rw [e]; exact h2
      · exact h1 i (by omega)
    · intro h; exact ⟨fun i hi => h i (by omega), h k (by omega)⟩
/-- is an edge there that is not needed -/
def rcB (f : Nat → Int32) (n a b : Nat) (g : Nat → Int32) : Bool := hb (g a) b && eqB (wOut (tnF g a b) n n) (wOut f n n) n
/-- what is left of the edges behind k places -/
def rcF (f : Nat → Int32) (n : Nat) : Nat → Nat → Int32
  | 0 => f
  | k + 1 => if rcB f n (k / n) (k % n) (rcF f n k) = true then tnF (rcF f n k) (k / n) (k % n) else rcF f n k
/-- the second array by then -/
def rcO (w : Nat → Int64) (n : Nat) (F : Nat → Nat → Int32) : Nat → Nat → Int64
  | 0 => w
  | k + 1 => if hb (F k (k / n)) (k % n) = true then wr (rcO w n F k) (uR (wOut (tnF (F k) (k / n) (k % n)) n n)) n else rcO w n F k
theorem dvn : ∀ n, n < 33 → ∀ k, k < n * n → nI k / nI n = nI (k / n) ∧ nI k - nI k / nI n * nI n = nI (k % n) := fun n hn k hk => by
  have hk2 : k < 33 * 33 := Nat.lt_of_lt_of_le hk (Nat.mul_le_mul (show n ≤ 33 by omega) (show n ≤ 33 by omega))
  have e : nI k / nI n = nI (k / n) := (Int32.ofNat_div (a := k) (b := n) (by omega) (by omega)).symm
  have h1 := Nat.div_add_mod k n
  rw [Nat.mul_comm] at h1
  refine ⟨e, ?_⟩
  rw [e, nI_mul, nI_sub' (Nat.div_mul_le_self k n)]
  congr 1
  generalize k / n * n = a at *
  generalize k % n = b at *
  omega
/-- the memory behind k places -/
def rcM (M : Mem) (n : Nat) (f : Nat → Int32) (k : Nat) : Mem := sL (hdM (hdM M 207 n (rcF f n k)) 205 n (wOut f n n)) 206 (rcO (mL M 206) n (rcF f n) k)
theorem rcM_R {f : Nat → Int32} {k : Nat} (h : Rr M n A) : Rr (rcM M n f k) n A := Rr.sL ((h.hd (Or.inr (Or.inr rfl))).hd (Or.inl rfl)) (by decide)
theorem rcM_7 {f : Nat → Int32} {k i : Nat} (hi : i < n) : mL (rcM M n f k) 207 i = uL (rcF f n k i) := by unfold rcM; rw [sL_ne (by decide), hdM_ne (by decide)]; exact hdM_at hi
theorem rcM_5 {f : Nat → Int32} {k i : Nat} (hi : i < n) : mL (rcM M n f k) 205 i = uL (wOut f n n i) := by unfold rcM; rw [sL_ne (by decide)]; exact hdM_at hi
theorem hdM_comm {x y : Nat} {f g : Nat → Int32} (h : x ≠ y) : hdM (hdM M x n f) y n g = hdM (hdM M y n g) x n f := by
  unfold hdM
  rw [sL_ne (Ne.symm h), sL_ne h, sL_comm h]
theorem rd_st {f g : Nat → Int32} {w : Nat → Int64} {X : Mem} : hdM (sL X 206 w) 206 n g = sL X 206 (wr w (uR g) n) := by unfold hdM; rw [sL_self, sL_2]
theorem rd_207 {f g W : Nat → Int32} {w : Nat → Int64} {i : Nat} {v : Int32} (hi : i < n) : pL (sL (hdM (hdM M 207 n f) 205 n W) 206 w) 207 i (uL v) = sL (hdM (hdM M 207 n (fun_set f i v)) 205 n W) 206 w := by
  show sL (sL (hdM (hdM M 207 n f) 205 n W) 206 w) 207 (fun_set (mL (sL (hdM (hdM M 207 n f) 205 n W) 206 w) 207) i (uL v)) = _
  rw [sL_ne (by decide), hdM_ne (by decide), hdM_0, wr_set hi, sL_comm (show 206 ≠ 207 by decide)]
  congr 1
  unfold hdM
  rw [sL_comm (show 205 ≠ 207 by decide), sL_2, sL_ne (show 205 ≠ 207 by decide), sL_ne (show 205 ≠ 207 by decide)]
theorem n_reduce {s t : Nat} (h : Rr M n A) (hc : mI M 198 5 = nI c) (hc8 : c ≤ 8) (hs : s < 6) (ht : t < 6) : EvR l jX7_reduce 4 160 0 0 [.ref 198, .int (nI s), .int (nI t)] M (.inl (some (.int (onesF (rcF (A s) n (n * n)) n)))) (lsM (rcM (k0M M c) n (A s) (n * n)) t n (rcF (A s) n (n * n))) := by
  have hn := h.2.2.2.1
  have hS := h.1
  have h0 := h.2.2.1
  have hnn : n * n ≤ 1024 := Nat.mul_le_mul hn hn
  have q1 := r_k0 (l := l) h hc hc8
  have h1 : Rr (k0M M c) n A := k0M_R h
  have q2 := r_takes (l := l) (x := 207) h1 hs (Or.inr (Or.inr rfl))
  have h2 : Rr (hdM (k0M M c) 207 n (A s)) n A := h1.hd (Or.inr (Or.inr rfl))
  have q3 := r_closure (l := l) h2 hs
  have h4 := rcM_R (f := A s) (k := n * n) h1
  have q4 := r_lays (l := l) (x := 207) (f := rcF (A s) n (n * n)) h4 ht (shK h4.1 rfl) (by decide) (fun i hi => rcM_7 hi)
  have e3 : hdM (hdM (k0M M c) 207 n (A s)) 205 n (wOut (A s) n n) = rcM (k0M M c) n (A s) 0 := by
    unfold rcM
    rw [rcF, rcO]
    exact sL_eq (by rw [hdM_ne (by decide), hdM_ne (by decide)])
  generalize A s = f at *
  generalize k0M M c = M1 at *
  refine ev_intro rfl (nb rfl) rfl ?_
  refine g_aload_n (pc := 0) dX7_reduce_0 rfl trivial ?_
  refine g_iload_n (pc := 1) dX7_reduce_1 rfl ?_
  refine g_invS_r (pc := 2) (As := [_]) dX7_reduce_2 rfl (r_isSlot_t (in6 hs)) rfl rfl lk_X7_216 rfl (nb rfl) ⟨nb rfl, nb rfl⟩ rfl ?_
  refine g_if_eq (pc := 5) (tgt := 19) dX7_reduce_5 rfl (fun h5 => absurd h5 ((by decide))) (fun _ => ?_)
  refine g_iload_n (pc := 8) dX7_reduce_8 rfl ?_
  refine g_invS_r (pc := 9) (As := [_]) dX7_reduce_9 rfl (r_isSlot_t (in6 ht)) rfl rfl lk_X7_216 rfl (nb rfl) ⟨nb rfl, nb rfl⟩ rfl ?_
  refine g_if_eq (pc := 12) (tgt := 19) dX7_reduce_12 rfl (fun h12 => absurd h12 ((by decide))) (fun _ => ?_)
  refine g_iconst (pc := 15) (v := 1) dX7_reduce_15 rfl ?_
  refine g_goto (pc := 16) (tgt := 20) dX7_reduce_16 rfl ?_
  refine g_iconst (pc := 20) (v := 1) dX7_reduce_20 rfl ?_
  refine g_invV_r (pc := 21) (As := [_, _]) dX7_reduce_21 rfl (r_isThrown_0 hS) rfl rfl (shK hS rfl) rfl rfl lk_X7_209 rfl (nb rfl) ⟨nb rfl, nb rfl⟩ rfl ?_
  refine g_if_eq (pc := 24) (tgt := 29) dX7_reduce_24 rfl (fun _ => ?_) (fun h24 => absurd (rfl) h24)
  refine g_aload_n (pc := 29) dX7_reduce_29 rfl trivial ?_
  refine g_invV_r (pc := 30) (As := []) dX7_reduce_30 rfl (q1) rfl rfl (shK (h.thr (x := 0)).1 rfl) rfl rfl lk_X7_315 rfl (nb rfl) ⟨nb rfl, nb rfl⟩ rfl ?_
  refine g_aload_n (pc := 33) dX7_reduce_33 rfl trivial ?_
  refine g_iload_n (pc := 34) dX7_reduce_34 rfl ?_
  refine g_aload_n (pc := 35) dX7_reduce_35 rfl trivial ?_
  refine g_getf (pc := 36) dX7_reduce_36 fk_X7_40 (shK h1.1 rfl) (fv_arr (shR h1.1 rfl)) ?_
  refine g_invV_r (pc := 39) (As := [_, _]) dX7_reduce_39 rfl (q2) rfl rfl (shK h1.1 rfl) rfl rfl lk_X7_252 rfl (nb rfl) ⟨nb rfl, nb rfl⟩ rfl ?_
  refine g_aload_n (pc := 42) dX7_reduce_42 rfl trivial ?_
  refine g_iload_n (pc := 43) dX7_reduce_43 rfl ?_
  refine g_invV_r (pc := 44) (As := [_]) dX7_reduce_44 rfl (q3) rfl rfl (shK h2.1 rfl) rfl rfl lk_X7_260 rfl (nb rfl) ⟨nb rfl, nb rfl⟩ rfl ?_
  refine g_iconst (pc := 47) (v := 0) dX7_reduce_47 rfl ?_
  refine g_istore_n (pc := 48) (lv' := [(0, _), (1, _), (2, _), (3, _)]) dX7_reduce_48 (nl rfl) rfl ?_
  refine go_loop (pc := 49) (n * n) (fun k => [(0, .ref 198), (1, .int (nI s)), (2, .int (nI t)), (3, .int (nI k))]) (fun k => rcM M1 n f k) ⟨rfl, rfl, rfl, rfl, trivial⟩ e3 ?_ ?_
  · intro k hk ih
    obtain ⟨d1, d2⟩ := dvn n (by omega) k hk
    have ha : k / n < n := (Nat.div_lt_iff_lt_mul (by omega)).mpr hk
    have hb9 : k % n < n := Nat.mod_lt _ (by omega)
    have h5 : Rr (rcM M1 n f k) n A := rcM_R h1
    have e57 := fun i (hi : i < n) => rcM_7 (M := M1) (f := f) (k := k) hi
    have e55 := fun i (hi : i < n) => rcM_5 (M := M1) (f := f) (k := k) hi
    have hne0 : ¬ nI n = 0 := nI_ne0 (by omega) (by omega)
    have q5 := r_moves (l := l) (x := 207) (y := 206) (f := rcF f n k) h5 (Or.inr (Or.inr rfl)) (Or.inr (Or.inl rfl)) (by decide) (fun i hi => rcM_7 hi)
    have h6 : Rr (hdM (rcM M1 n f k) 206 n (rcF f n k)) n A := h5.hd (Or.inr (Or.inl rfl))
    have e66 : mL (hdM (rcM M1 n f k) 206 n (rcF f n k)) 206 (k / n) = uL (rcF f n k (k / n)) := hdM_at ha
    have e6t : pL (hdM (rcM M1 n f k) 206 n (rcF f n k)) 206 (k / n) (uL (rcF f n k (k / n) ^^^ bitI (k % n))) = hdM (rcM M1 n f k) 206 n (tnF (rcF f n k) (k / n) (k % n)) := hdM_st ha
    have h7 : Rr (hdM (rcM M1 n f k) 206 n (tnF (rcF f n k) (k / n) (k % n))) n A := h5.hd (Or.inr (Or.inl rfl))
    have q7 := r_closes (l := l) (x := 206) (f := tnF (rcF f n k) (k / n) (k % n)) h7 (Or.inr (Or.inl rfl)) (fun i hi => hdM_at hi)
    rw [hdM_2] at q7
    have h8 : Rr (hdM (rcM M1 n f k) 206 n (wOut (tnF (rcF f n k) (k / n) (k % n)) n n)) n A := h5.hd (Or.inr (Or.inl rfl))
    have e8 : hdM (rcM M1 n f k) 206 n (wOut (tnF (rcF f n k) (k / n) (k % n)) n n) = sL (hdM (hdM M1 207 n (rcF f n k)) 205 n (wOut f n n)) 206 (wr (rcO (mL M1 206) n (rcF f n) k) (uR (wOut (tnF (rcF f n k) (k / n) (k % n)) n n)) n) := by unfold rcM; exact rd_st (f := f)
    have e86 : ∀ i, i < n → mL (hdM (rcM M1 n f k) 206 n (wOut (tnF (rcF f n k) (k / n) (k % n)) n n)) 206 i = uL (wOut (tnF (rcF f n k) (k / n) (k % n)) n n i) := fun i hi => hdM_at hi
    have e85 : ∀ i, i < n → mL (hdM (rcM M1 n f k) 206 n (wOut (tnF (rcF f n k) (k / n) (k % n)) n n)) 205 i = uL (wOut f n n i) := fun i hi => by rw [hdM_ne (by decide)]; exact rcM_5 hi
    have e87 : mL (hdM (rcM M1 n f k) 206 n (wOut (tnF (rcF f n k) (k / n) (k % n)) n n)) 207 (k / n) = uL (rcF f n k (k / n)) := by rw [hdM_ne (by decide)]; exact rcM_7 ha
    have qs_t := fun he => r_isSame_t (l := l) (x := 206) (y := 205) h8 (Or.inr (Or.inl rfl)) (Or.inl rfl) e86 e85 he
    have qs_f := fun he => r_isSame_f (l := l) (x := 206) (y := 205) h8 (Or.inr (Or.inl rfl)) (Or.inl rfl) e86 e85 he
    have e8t : pL (hdM (rcM M1 n f k) 206 n (wOut (tnF (rcF f n k) (k / n) (k % n)) n n)) 207 (k / n) (uL (rcF f n k (k / n) ^^^ bitI (k % n))) = sL (hdM (hdM M1 207 n (tnF (rcF f n k) (k / n) (k % n))) 205 n (wOut f n n)) 206 (wr (rcO (mL M1 206) n (rcF f n) k) (uR (wOut (tnF (rcF f n k) (k / n) (k % n)) n n)) n) := by rw [e8]; exact rd_207 (g := f) ha
    have eN : rcM M1 n f (k + 1) = sL (hdM (hdM M1 207 n (if rcB f n (k / n) (k % n) (rcF f n k) = true then tnF (rcF f n k) (k / n) (k % n) else rcF f n k)) 205 n (wOut f n n)) 206 (if hb (rcF f n k (k / n)) (k % n) = true then wr (rcO (mL M1 206) n (rcF f n) k) (uR (wOut (tnF (rcF f n k) (k / n) (k % n)) n n)) n else rcO (mL M1 206) n (rcF f n) k) := rfl
    have eK : rcM M1 n f k = sL (hdM (hdM M1 207 n (rcF f n k)) 205 n (wOut f n n)) 206 (rcO (mL M1 206) n (rcF f n) k) := rfl
    rw [eN] at ih
    cases hb7 : hb (rcF f n k (k / n)) (k % n) with
    | false =>
      have hB : ¬ rcB f n (k / n) (k % n) (rcF f n k) = true := by unfold rcB; rw [hb7]; simp
      rw [hb7, if_neg hB, if_neg (by decide), ← eK] at ih
      generalize rcM M1 n f k = M5 at *
      refine g_iload_n (pc := 49) dX7_reduce_49 rfl ?_
      refine g_aload_n (pc := 50) dX7_reduce_50 rfl trivial ?_
      refine g_invV_r (pc := 51) (As := []) dX7_reduce_51 rfl (r_size h5) rfl rfl (shK h5.1 rfl) rfl rfl lk_X7_71 rfl (nb rfl) ⟨nb rfl, nb rfl⟩ rfl ?_
      refine g_aload_n (pc := 54) dX7_reduce_54 rfl trivial ?_
      refine g_invV_r (pc := 55) (As := []) dX7_reduce_55 rfl (r_size h5) rfl rfl (shK h5.1 rfl) rfl rfl lk_X7_71 rfl (nb rfl) ⟨nb rfl, nb rfl⟩ rfl ?_
      refine g_imul (pc := 58) dX7_reduce_58 ?_
      rw [nI_mul]
      refine g_icmp_ge (pc := 59) (tgt := 165) dX7_reduce_59 rfl (fun h59 => absurd h59 (nI_ge hk (by omega))) (fun _ => ?_)
      refine g_iload_n (pc := 62) dX7_reduce_62 rfl ?_
      refine g_aload_n (pc := 63) dX7_reduce_63 rfl trivial ?_
      refine g_invV_r (pc := 64) (As := []) dX7_reduce_64 rfl (r_size h5) rfl rfl (shK h5.1 rfl) rfl rfl lk_X7_71 rfl (nb rfl) ⟨nb rfl, nb rfl⟩ rfl ?_
      refine g_idiv (pc := 67) dX7_reduce_67 hne0 ?_
      rw [d1]
      refine g_istore (pc := 68) (lv' := [(0, _), (1, _), (2, _), (3, _), (4, _)]) dX7_reduce_68 (nl rfl) rfl ?_
      refine g_iload_n (pc := 70) dX7_reduce_70 rfl ?_
      refine g_aload_n (pc := 71) dX7_reduce_71 rfl trivial ?_
      refine g_invV_r (pc := 72) (As := []) dX7_reduce_72 rfl (r_size h5) rfl rfl (shK h5.1 rfl) rfl rfl lk_X7_71 rfl (nb rfl) ⟨nb rfl, nb rfl⟩ rfl ?_
      refine g_irem (pc := 75) dX7_reduce_75 hne0 ?_
      rw [d2]
      refine g_istore (pc := 76) (lv' := [(0, _), (1, _), (2, _), (3, _), (4, _), (5, _)]) dX7_reduce_76 (nl rfl) rfl ?_
      refine g_aload_n (pc := 78) dX7_reduce_78 rfl trivial ?_
      refine g_getf (pc := 79) dX7_reduce_79 fk_X7_40 (shK h5.1 rfl) (fv_arr (shR h5.1 rfl)) ?_
      refine g_iload (pc := 82) dX7_reduce_82 rfl ?_
      refine g_laload (pc := 84) dX7_reduce_84 (shK h5.1 rfl) rfl (by omega) (nl rfl) ?_
      rw [e57 _ ha]
      refine g_iload (pc := 85) dX7_reduce_85 rfl ?_
      refine g_invS_r (pc := 87) (As := [_, _]) dX7_reduce_87 rfl (r_one (show k % n < 32 by omega)) rfl rfl lk_X7_231 rfl (nb rfl) ⟨nb rfl, nb rfl⟩ rfl ?_
      rw [hb7]
      refine g_if_ne (pc := 90) (tgt := 96) dX7_reduce_90 rfl (fun h90 => absurd h90 ((fun z => z rfl))) (fun _ => ?_)
      refine g_goto (pc := 93) (tgt := 159) dX7_reduce_93 rfl ?_
      refine g_iinc (pc := 159) (lv' := [(0, _), (1, _), (2, _), (3, _), (4, _), (5, _)]) dX7_reduce_159 rfl (nI_1 _) (nl rfl) rfl ?_
      refine g_goto (pc := 162) (tgt := 49) dX7_reduce_162 rfl ?_
      exact g_sub (lv' := [(0, _), (1, _), (2, _), (3, _)]) ⟨rfl, rfl, rfl, rfl, trivial⟩ ih
    | true =>
      cases hq : eqB (wOut (tnF (rcF f n k) (k / n) (k % n)) n n) (wOut f n n) n with
      | true =>
        have hB : rcB f n (k / n) (k % n) (rcF f n k) = true := by unfold rcB; rw [hb7, hq]; rfl
        have qs := qs_t ((eqB_iff _ _ _).mp hq)
        rw [hb7, if_pos hB, if_pos rfl, ← e8t] at ih
        generalize hdM (rcM M1 n f k) 206 n (wOut (tnF (rcF f n k) (k / n) (k % n)) n n) = M8 at *
        generalize hdM (rcM M1 n f k) 206 n (tnF (rcF f n k) (k / n) (k % n)) = M7 at *
        generalize hdM (rcM M1 n f k) 206 n (rcF f n k) = M6 at *
        generalize rcM M1 n f k = M5 at *
        refine g_iload_n (pc := 49) dX7_reduce_49 rfl ?_
        refine g_aload_n (pc := 50) dX7_reduce_50 rfl trivial ?_
        refine g_invV_r (pc := 51) (As := []) dX7_reduce_51 rfl (r_size h5) rfl rfl (shK h5.1 rfl) rfl rfl lk_X7_71 rfl (nb rfl) ⟨nb rfl, nb rfl⟩ rfl ?_
        refine g_aload_n (pc := 54) dX7_reduce_54 rfl trivial ?_
        refine g_invV_r (pc := 55) (As := []) dX7_reduce_55 rfl (r_size h5) rfl rfl (shK h5.1 rfl) rfl rfl lk_X7_71 rfl (nb rfl) ⟨nb rfl, nb rfl⟩ rfl ?_
        refine g_imul (pc := 58) dX7_reduce_58 ?_
        rw [nI_mul]
        refine g_icmp_ge (pc := 59) (tgt := 165) dX7_reduce_59 rfl (fun h59 => absurd h59 (nI_ge hk (by omega))) (fun _ => ?_)
        refine g_iload_n (pc := 62) dX7_reduce_62 rfl ?_
        refine g_aload_n (pc := 63) dX7_reduce_63 rfl trivial ?_
        refine g_invV_r (pc := 64) (As := []) dX7_reduce_64 rfl (r_size h5) rfl rfl (shK h5.1 rfl) rfl rfl lk_X7_71 rfl (nb rfl) ⟨nb rfl, nb rfl⟩ rfl ?_
        refine g_idiv (pc := 67) dX7_reduce_67 hne0 ?_
        rw [d1]
        refine g_istore (pc := 68) (lv' := [(0, _), (1, _), (2, _), (3, _), (4, _)]) dX7_reduce_68 (nl rfl) rfl ?_
        refine g_iload_n (pc := 70) dX7_reduce_70 rfl ?_
        refine g_aload_n (pc := 71) dX7_reduce_71 rfl trivial ?_
        refine g_invV_r (pc := 72) (As := []) dX7_reduce_72 rfl (r_size h5) rfl rfl (shK h5.1 rfl) rfl rfl lk_X7_71 rfl (nb rfl) ⟨nb rfl, nb rfl⟩ rfl ?_
        refine g_irem (pc := 75) dX7_reduce_75 hne0 ?_
        rw [d2]
        refine g_istore (pc := 76) (lv' := [(0, _), (1, _), (2, _), (3, _), (4, _), (5, _)]) dX7_reduce_76 (nl rfl) rfl ?_
        refine g_aload_n (pc := 78) dX7_reduce_78 rfl trivial ?_
        refine g_getf (pc := 79) dX7_reduce_79 fk_X7_40 (shK h5.1 rfl) (fv_arr (shR h5.1 rfl)) ?_
        refine g_iload (pc := 82) dX7_reduce_82 rfl ?_
        refine g_laload (pc := 84) dX7_reduce_84 (shK h5.1 rfl) rfl (by omega) (nl rfl) ?_
        rw [e57 _ ha]
        refine g_iload (pc := 85) dX7_reduce_85 rfl ?_
        refine g_invS_r (pc := 87) (As := [_, _]) dX7_reduce_87 rfl (r_one (show k % n < 32 by omega)) rfl rfl lk_X7_231 rfl (nb rfl) ⟨nb rfl, nb rfl⟩ rfl ?_
        rw [hb7]
        refine g_if_ne (pc := 90) (tgt := 96) dX7_reduce_90 rfl (fun _ => ?_) (fun h90 => absurd ((by decide)) h90)
        refine g_aload_n (pc := 96) dX7_reduce_96 rfl trivial ?_
        refine g_aload_n (pc := 97) dX7_reduce_97 rfl trivial ?_
        refine g_getf (pc := 98) dX7_reduce_98 fk_X7_40 (shK h5.1 rfl) (fv_arr (shR h5.1 rfl)) ?_
        refine g_aload_n (pc := 101) dX7_reduce_101 rfl trivial ?_
        refine g_getf (pc := 102) dX7_reduce_102 fk_X7_37 (shK h5.1 rfl) (fv_arr (shR h5.1 rfl)) ?_
        refine g_invV_r (pc := 105) (As := [_, _]) dX7_reduce_105 rfl (q5) rfl rfl (shK h5.1 rfl) rfl rfl lk_X7_339 rfl (nb rfl) ⟨nb rfl, nb rfl⟩ rfl ?_
        refine g_aload_n (pc := 108) dX7_reduce_108 rfl trivial ?_
        refine g_getf (pc := 109) dX7_reduce_109 fk_X7_37 (shK h6.1 rfl) (fv_arr (shR h6.1 rfl)) ?_
        refine g_iload (pc := 112) dX7_reduce_112 rfl ?_
        refine g_dup2_11 (pc := 114) dX7_reduce_114 rfl rfl ?_
        refine g_laload (pc := 115) dX7_reduce_115 (shK h6.1 rfl) rfl (show k / n < 32 by omega) (nl rfl) ?_
        rw [e66]
        refine g_lconst (pc := 116) (v := 1) dX7_reduce_116 rfl ?_
        refine g_iload (pc := 117) dX7_reduce_117 rfl ?_
        refine g_lshl (pc := 119) dX7_reduce_119 rfl ?_
        rw [sh_bit (k % n) (by omega)]
        refine g_lxor (pc := 120) dX7_reduce_120 ?_
        rw [uL_xor]
        refine g_lastore (pc := 121) dX7_reduce_121 (shK h6.1 rfl) rfl (show k / n < 32 by omega) (nl rfl) ?_
        refine go_cast e6t ?_
        refine g_aload_n (pc := 122) dX7_reduce_122 rfl trivial ?_
        refine g_aload_n (pc := 123) dX7_reduce_123 rfl trivial ?_
        refine g_getf (pc := 124) dX7_reduce_124 fk_X7_37 (shK h7.1 rfl) (fv_arr (shR h7.1 rfl)) ?_
        refine g_invV_r (pc := 127) (As := [_]) dX7_reduce_127 rfl (q7) rfl rfl (shK h7.1 rfl) rfl rfl lk_X7_256 rfl (nb rfl) ⟨nb rfl, nb rfl⟩ rfl ?_
        refine g_aload_n (pc := 130) dX7_reduce_130 rfl trivial ?_
        refine g_aload_n (pc := 131) dX7_reduce_131 rfl trivial ?_
        refine g_getf (pc := 132) dX7_reduce_132 fk_X7_37 (shK h8.1 rfl) (fv_arr (shR h8.1 rfl)) ?_
        refine g_aload_n (pc := 135) dX7_reduce_135 rfl trivial ?_
        refine g_getf (pc := 136) dX7_reduce_136 fk_X7_34 (shK h8.1 rfl) (fv_arr (shR h8.1 rfl)) ?_
        refine g_invV_r (pc := 139) (As := [_, _]) dX7_reduce_139 rfl (qs) rfl rfl (shK h8.1 rfl) rfl rfl lk_X7_343 rfl (nb rfl) ⟨nb rfl, nb rfl⟩ rfl ?_
        refine g_if_eq (pc := 142) (tgt := 159) dX7_reduce_142 rfl (fun h142 => absurd h142 ((by decide))) (fun _ => ?_)
        refine g_aload_n (pc := 145) dX7_reduce_145 rfl trivial ?_
        refine g_getf (pc := 146) dX7_reduce_146 fk_X7_40 (shK h8.1 rfl) (fv_arr (shR h8.1 rfl)) ?_
        refine g_iload (pc := 149) dX7_reduce_149 rfl ?_
        refine g_dup2_11 (pc := 151) dX7_reduce_151 rfl rfl ?_
        refine g_laload (pc := 152) dX7_reduce_152 (shK h8.1 rfl) rfl (show k / n < 32 by omega) (nl rfl) ?_
        rw [e87]
        refine g_lconst (pc := 153) (v := 1) dX7_reduce_153 rfl ?_
        refine g_iload (pc := 154) dX7_reduce_154 rfl ?_
        refine g_lshl (pc := 156) dX7_reduce_156 rfl ?_
        rw [sh_bit (k % n) (by omega)]
        refine g_lxor (pc := 157) dX7_reduce_157 ?_
        rw [uL_xor]
        refine g_lastore (pc := 158) dX7_reduce_158 (shK h8.1 rfl) rfl (show k / n < 32 by omega) (nl rfl) ?_
        refine g_iinc (pc := 159) (lv' := [(0, _), (1, _), (2, _), (3, _), (4, _), (5, _)]) dX7_reduce_159 rfl (nI_1 _) (nl rfl) rfl ?_
        refine g_goto (pc := 162) (tgt := 49) dX7_reduce_162 rfl ?_
        exact g_sub (lv' := [(0, _), (1, _), (2, _), (3, _)]) ⟨rfl, rfl, rfl, rfl, trivial⟩ ih
      | false =>
        have hB : ¬ rcB f n (k / n) (k % n) (rcF f n k) = true := by unfold rcB; rw [hb7, hq]; decide
        have qs := qs_f (fun z => by rw [(eqB_iff _ _ _).mpr z] at hq; cases hq)
        rw [hb7, if_neg hB, if_pos rfl, ← e8] at ih
        generalize hdM (rcM M1 n f k) 206 n (wOut (tnF (rcF f n k) (k / n) (k % n)) n n) = M8 at *
        generalize hdM (rcM M1 n f k) 206 n (tnF (rcF f n k) (k / n) (k % n)) = M7 at *
        generalize hdM (rcM M1 n f k) 206 n (rcF f n k) = M6 at *
        generalize rcM M1 n f k = M5 at *
        refine g_iload_n (pc := 49) dX7_reduce_49 rfl ?_
        refine g_aload_n (pc := 50) dX7_reduce_50 rfl trivial ?_
        refine g_invV_r (pc := 51) (As := []) dX7_reduce_51 rfl (r_size h5) rfl rfl (shK h5.1 rfl) rfl rfl lk_X7_71 rfl (nb rfl) ⟨nb rfl, nb rfl⟩ rfl ?_
        refine g_aload_n (pc := 54) dX7_reduce_54 rfl trivial ?_
        refine g_invV_r (pc := 55) (As := []) dX7_reduce_55 rfl (r_size h5) rfl rfl (shK h5.1 rfl) rfl rfl lk_X7_71 rfl (nb rfl) ⟨nb rfl, nb rfl⟩ rfl ?_
        refine g_imul (pc := 58) dX7_reduce_58 ?_
        rw [nI_mul]
        refine g_icmp_ge (pc := 59) (tgt := 165) dX7_reduce_59 rfl (fun h59 => absurd h59 (nI_ge hk (by omega))) (fun _ => ?_)
        refine g_iload_n (pc := 62) dX7_reduce_62 rfl ?_
        refine g_aload_n (pc := 63) dX7_reduce_63 rfl trivial ?_
        refine g_invV_r (pc := 64) (As := []) dX7_reduce_64 rfl (r_size h5) rfl rfl (shK h5.1 rfl) rfl rfl lk_X7_71 rfl (nb rfl) ⟨nb rfl, nb rfl⟩ rfl ?_
        refine g_idiv (pc := 67) dX7_reduce_67 hne0 ?_
        rw [d1]
        refine g_istore (pc := 68) (lv' := [(0, _), (1, _), (2, _), (3, _), (4, _)]) dX7_reduce_68 (nl rfl) rfl ?_
        refine g_iload_n (pc := 70) dX7_reduce_70 rfl ?_
        refine g_aload_n (pc := 71) dX7_reduce_71 rfl trivial ?_
        refine g_invV_r (pc := 72) (As := []) dX7_reduce_72 rfl (r_size h5) rfl rfl (shK h5.1 rfl) rfl rfl lk_X7_71 rfl (nb rfl) ⟨nb rfl, nb rfl⟩ rfl ?_
        refine g_irem (pc := 75) dX7_reduce_75 hne0 ?_
        rw [d2]
        refine g_istore (pc := 76) (lv' := [(0, _), (1, _), (2, _), (3, _), (4, _), (5, _)]) dX7_reduce_76 (nl rfl) rfl ?_
        refine g_aload_n (pc := 78) dX7_reduce_78 rfl trivial ?_
        refine g_getf (pc := 79) dX7_reduce_79 fk_X7_40 (shK h5.1 rfl) (fv_arr (shR h5.1 rfl)) ?_
        refine g_iload (pc := 82) dX7_reduce_82 rfl ?_
        refine g_laload (pc := 84) dX7_reduce_84 (shK h5.1 rfl) rfl (by omega) (nl rfl) ?_
        rw [e57 _ ha]
        refine g_iload (pc := 85) dX7_reduce_85 rfl ?_
        refine g_invS_r (pc := 87) (As := [_, _]) dX7_reduce_87 rfl (r_one (show k % n < 32 by omega)) rfl rfl lk_X7_231 rfl (nb rfl) ⟨nb rfl, nb rfl⟩ rfl ?_
        rw [hb7]
        refine g_if_ne (pc := 90) (tgt := 96) dX7_reduce_90 rfl (fun _ => ?_) (fun h90 => absurd ((by decide)) h90)
        refine g_aload_n (pc := 96) dX7_reduce_96 rfl trivial ?_
        refine g_aload_n (pc := 97) dX7_reduce_97 rfl trivial ?_
        refine g_getf (pc := 98) dX7_reduce_98 fk_X7_40 (shK h5.1 rfl) (fv_arr (shR h5.1 rfl)) ?_
        refine g_aload_n (pc := 101) dX7_reduce_101 rfl trivial ?_
        refine g_getf (pc := 102) dX7_reduce_102 fk_X7_37 (shK h5.1 rfl) (fv_arr (shR h5.1 rfl)) ?_
        refine g_invV_r (pc := 105) (As := [_, _]) dX7_reduce_105 rfl (q5) rfl rfl (shK h5.1 rfl) rfl rfl lk_X7_339 rfl (nb rfl) ⟨nb rfl, nb rfl⟩ rfl ?_
        refine g_aload_n (pc := 108) dX7_reduce_108 rfl trivial ?_
        refine g_getf (pc := 109) dX7_reduce_109 fk_X7_37 (shK h6.1 rfl) (fv_arr (shR h6.1 rfl)) ?_
        refine g_iload (pc := 112) dX7_reduce_112 rfl ?_
        refine g_dup2_11 (pc := 114) dX7_reduce_114 rfl rfl ?_
        refine g_laload (pc := 115) dX7_reduce_115 (shK h6.1 rfl) rfl (show k / n < 32 by omega) (nl rfl) ?_
        rw [e66]
        refine g_lconst (pc := 116) (v := 1) dX7_reduce_116 rfl ?_
        refine g_iload (pc := 117) dX7_reduce_117 rfl ?_
        refine g_lshl (pc := 119) dX7_reduce_119 rfl ?_
        rw [sh_bit (k % n) (by omega)]
        refine g_lxor (pc := 120) dX7_reduce_120 ?_
        rw [uL_xor]
        refine g_lastore (pc := 121) dX7_reduce_121 (shK h6.1 rfl) rfl (show k / n < 32 by omega) (nl rfl) ?_
        refine go_cast e6t ?_
        refine g_aload_n (pc := 122) dX7_reduce_122 rfl trivial ?_
        refine g_aload_n (pc := 123) dX7_reduce_123 rfl trivial ?_
        refine g_getf (pc := 124) dX7_reduce_124 fk_X7_37 (shK h7.1 rfl) (fv_arr (shR h7.1 rfl)) ?_
        refine g_invV_r (pc := 127) (As := [_]) dX7_reduce_127 rfl (q7) rfl rfl (shK h7.1 rfl) rfl rfl lk_X7_256 rfl (nb rfl) ⟨nb rfl, nb rfl⟩ rfl ?_
        refine g_aload_n (pc := 130) dX7_reduce_130 rfl trivial ?_
        refine g_aload_n (pc := 131) dX7_reduce_131 rfl trivial ?_
        refine g_getf (pc := 132) dX7_reduce_132 fk_X7_37 (shK h8.1 rfl) (fv_arr (shR h8.1 rfl)) ?_
        refine g_aload_n (pc := 135) dX7_reduce_135 rfl trivial ?_
        refine g_getf (pc := 136) dX7_reduce_136 fk_X7_34 (shK h8.1 rfl) (fv_arr (shR h8.1 rfl)) ?_
        refine g_invV_r (pc := 139) (As := [_, _]) dX7_reduce_139 rfl (qs) rfl rfl (shK h8.1 rfl) rfl rfl lk_X7_343 rfl (nb rfl) ⟨nb rfl, nb rfl⟩ rfl ?_
        refine g_if_eq (pc := 142) (tgt := 159) dX7_reduce_142 rfl (fun _ => ?_) (fun h142 => absurd (rfl) h142)
        refine g_iinc (pc := 159) (lv' := [(0, _), (1, _), (2, _), (3, _), (4, _), (5, _)]) dX7_reduce_159 rfl (nI_1 _) (nl rfl) rfl ?_
        refine g_goto (pc := 162) (tgt := 49) dX7_reduce_162 rfl ?_
        exact g_sub (lv' := [(0, _), (1, _), (2, _), (3, _)]) ⟨rfl, rfl, rfl, rfl, trivial⟩ ih
  · generalize rcM M1 n f (n * n) = M4 at *
    refine g_iload_n (pc := 49) dX7_reduce_49 rfl ?_
    refine g_aload_n (pc := 50) dX7_reduce_50 rfl trivial ?_
    refine g_invV_r (pc := 51) (As := []) dX7_reduce_51 rfl (r_size h4) rfl rfl (shK h4.1 rfl) rfl rfl lk_X7_71 rfl (nb rfl) ⟨nb rfl, nb rfl⟩ rfl ?_
    refine g_aload_n (pc := 54) dX7_reduce_54 rfl trivial ?_
    refine g_invV_r (pc := 55) (As := []) dX7_reduce_55 rfl (r_size h4) rfl rfl (shK h4.1 rfl) rfl rfl lk_X7_71 rfl (nb rfl) ⟨nb rfl, nb rfl⟩ rfl ?_
    refine g_imul (pc := 58) dX7_reduce_58 ?_
    rw [nI_mul]
    refine g_icmp_ge (pc := 59) (tgt := 165) dX7_reduce_59 rfl (fun _ => ?_) (fun h59 => absurd (nI_le (Nat.le_refl _) (by omega)) h59)
    refine g_aload_n (pc := 165) dX7_reduce_165 rfl trivial ?_
    refine g_aload_n (pc := 166) dX7_reduce_166 rfl trivial ?_
    refine g_getf (pc := 167) dX7_reduce_167 fk_X7_40 (shK h4.1 rfl) (fv_arr (shR h4.1 rfl)) ?_
    refine g_iload_n (pc := 170) dX7_reduce_170 rfl ?_
    refine g_invV_r (pc := 171) (As := [_, _]) dX7_reduce_171 rfl (q4) rfl rfl (shK h4.1 rfl) rfl rfl lk_X7_322 rfl (nb rfl) ⟨nb rfl, nb rfl⟩ rfl ?_
    refine g_ireturn (pc := 174) dX7_reduce_174 rfl rfl ?_
    exact ⟨rfl, rfl⟩
theorem t_reduce {v w : Int32} (h : Rr M n A) (hx : ¬ (inR v 6 ∧ inR w 6)) : EvR l jX7_reduce 4 160 0 0 [.ref 198, .int v, .int w] M (.inl (some (.int 0))) (thr M 1) := by
  have hS := h.1
  refine ev_intro rfl (nb rfl) rfl ?_
  by_cases h1 : inR v 6
  · refine g_aload_n (pc := 0) dX7_reduce_0 rfl trivial ?_
    refine g_iload_n (pc := 1) dX7_reduce_1 rfl ?_
    refine g_invS_r (pc := 2) (As := [_]) dX7_reduce_2 rfl (r_isSlot_t h1) rfl rfl lk_X7_216 rfl (nb rfl) ⟨nb rfl, nb rfl⟩ rfl ?_
    refine g_if_eq (pc := 5) (tgt := 19) dX7_reduce_5 rfl (fun h5 => absurd h5 ((by decide))) (fun _ => ?_)
    refine g_iload_n (pc := 8) dX7_reduce_8 rfl ?_
    refine g_invS_r (pc := 9) (As := [_]) dX7_reduce_9 rfl (r_isSlot_f (fun q => hx ⟨h1, q⟩)) rfl rfl lk_X7_216 rfl (nb rfl) ⟨nb rfl, nb rfl⟩ rfl ?_
    refine g_if_eq (pc := 12) (tgt := 19) dX7_reduce_12 rfl (fun _ => ?_) (fun h12 => absurd (rfl) h12)
    refine g_iconst (pc := 19) (v := 0) dX7_reduce_19 rfl ?_
    refine g_iconst (pc := 20) (v := 1) dX7_reduce_20 rfl ?_
    refine g_invV_r (pc := 21) (As := [_, _]) dX7_reduce_21 rfl (r_isThrown_1 hS) rfl rfl (shK hS rfl) rfl rfl lk_X7_209 rfl (nb rfl) ⟨nb rfl, nb rfl⟩ rfl ?_
    refine g_if_eq (pc := 24) (tgt := 29) dX7_reduce_24 rfl (fun h24 => absurd h24 ((by decide))) (fun _ => ?_)
    refine g_iconst (pc := 27) (v := 0) dX7_reduce_27 rfl ?_
    refine g_ireturn (pc := 28) dX7_reduce_28 rfl rfl ?_
    exact ⟨rfl, rfl⟩
  · refine g_aload_n (pc := 0) dX7_reduce_0 rfl trivial ?_
    refine g_iload_n (pc := 1) dX7_reduce_1 rfl ?_
    refine g_invS_r (pc := 2) (As := [_]) dX7_reduce_2 rfl (r_isSlot_f h1) rfl rfl lk_X7_216 rfl (nb rfl) ⟨nb rfl, nb rfl⟩ rfl ?_
    refine g_if_eq (pc := 5) (tgt := 19) dX7_reduce_5 rfl (fun _ => ?_) (fun h5 => absurd (rfl) h5)
    refine g_iconst (pc := 19) (v := 0) dX7_reduce_19 rfl ?_
    refine g_iconst (pc := 20) (v := 1) dX7_reduce_20 rfl ?_
    refine g_invV_r (pc := 21) (As := [_, _]) dX7_reduce_21 rfl (r_isThrown_1 hS) rfl rfl (shK hS rfl) rfl rfl lk_X7_209 rfl (nb rfl) ⟨nb rfl, nb rfl⟩ rfl ?_
    refine g_if_eq (pc := 24) (tgt := 29) dX7_reduce_24 rfl (fun h24 => absurd h24 ((by decide))) (fun _ => ?_)
    refine g_iconst (pc := 27) (v := 0) dX7_reduce_27 rfl ?_
    refine g_ireturn (pc := 28) dX7_reduce_28 rfl rfl ?_
    exact ⟨rfl, rfl⟩
end
end
-- 31.rr
section
/-! the reference reads: a word, a number -/
/-- the reader's numbers in the reference's object: position, start, statement, error, its position -/
def prF (g : Nat → Int32) (s : RP) : Nat → Int32 := fun j => if j = 9 then nI s.1 else if j = 10 then s.2.1 else if j = 13 then s.2.2.1 else if j = 11 then s.2.2.2.1 else if j = 12 then s.2.2.2.2 else g j
def psM (M : Mem) (s : RP) : Mem := sI M 198 (prF (mI M 198) s)
section
variable {M : Mem} {s : RP}
theorem ps_S (hS : Shp M) : Shp (psM M s) := hS
theorem ps_8 : mI (psM M s) 198 8 = mI M 198 8 := by simp [psM, prF, sI, mI, fun_set]
theorem ps_9 : mI (psM M s) 198 9 = nI s.1 := by simp [psM, prF, sI, mI, fun_set]
theorem ps_10 : mI (psM M s) 198 10 = s.2.1 := by simp [psM, prF, sI, mI, fun_set]
theorem ps_13 : mI (psM M s) 198 13 = s.2.2.1 := by simp [psM, prF, sI, mI, fun_set]
theorem ps_11 : mI (psM M s) 198 11 = s.2.2.2.1 := by simp [psM, prF, sI, mI, fun_set]
theorem ps_12 : mI (psM M s) 198 12 = s.2.2.2.2 := by simp [psM, prF, sI, mI, fun_set]
theorem ps_ne {i : Nat} (h : i ≠ 198) : mI (psM M s) i = mI M i := sI_ne h
theorem ps_set {j : Nat} {v : Int32} {t : RP} (h : ∀ i, prF (mI M 198) t i = if i = j then v else prF (mI M 198) s i) : pI (psM M s) 198 j v = psM M t := by
  have e : mI (psM M s) 198 = prF (mI M 198) s := sI_self M 198 _
  show sI (psM M s) 198 (fun_set (mI (psM M s) 198) j v) = _
  rw [e]
  unfold psM
  rw [sI_2]
  congr 1
  funext i
  rw [h i]; rfl
theorem ps_p9 {v : Int32} {p : Nat} (h : v = nI p) : pI (psM M s) 198 9 v = psM M (p, s.2) := ps_set fun i => by
  subst h
  unfold prF
  by_cases h1 : i = 9
  · simp [h1]
  · simp [h1]
theorem ps_p10 {v : Int32} : pI (psM M s) 198 10 v = psM M (s.1, v, s.2.2) := ps_set fun i => by
  unfold prF
  by_cases h1 : i = 10
  · simp [h1]
  · simp [h1]
theorem ps_p13 {v : Int32} : pI (psM M s) 198 13 v = psM M (s.1, s.2.1, v, s.2.2.2) := ps_set fun i => by
  unfold prF
  by_cases h1 : i = 13
  · simp [h1]
  · simp [h1]
theorem ps_p11 {v : Int32} : pI (psM M s) 198 11 v = psM M (s.1, s.2.1, s.2.2.1, v, s.2.2.2.2) := ps_set fun i => by
  unfold prF
  by_cases h1 : i = 11
  · simp [h1]
  · simp [h1]
theorem ps_p12 {v : Int32} : pI (psM M s) 198 12 v = psM M (s.1, s.2.1, s.2.2.1, s.2.2.2.1, v) := ps_set fun i => by
  unfold prF
  by_cases h1 : i = 12
  · simp [h1]
  · simp [h1]
theorem ps_sL {x : Nat} {f : Nat → Int64} : sL (psM M s) x f = psM (sL M x f) s := rfl
theorem ps_2 {t : RP} (h : ∀ i, prF (prF (mI M 198) s) t i = prF (mI M 198) t i) : psM (psM M s) t = psM M t := by
  unfold psM
  rw [sI_self, sI_2]
  congr 1
  funext i; exact h i
end
/-- the text of the class as the reference's buffer holds it -/
def txt (M : Mem) (T : Nat → Int32) (len : Nat) : Prop := ∀ i, i < len → ∃ j, j < 256 ∧ T i = nI j ∧ mI M 204 i = sx (nI j)
section
variable {l : Launch} {M : Mem} {s : RP} {len : Nat} {T : Nat → Int32}
def hvF (T : Nat → Int32) (len p : Nat) : Int32 := if p < len then T p else -1
theorem r_here (hS : Shp M) (hT : txt M T len) (hl : mI M 198 8 = nI len) (hL : len ≤ 600) (hp : s.1 ≤ len) : EvR l jX7_here 0 0 0 0 [.ref 198] (psM M s) (.inl (some (.int (hvF T len s.1)))) (psM M s) := by
  have h9 : mI (psM M s) 198 9 = nI s.1 := ps_9
  have h8 : mI (psM M s) 198 8 = nI len := ps_8.trans hl
  have eb : mI (psM M s) 204 = mI M 204 := ps_ne (by decide)
  have hS1 : Shp (psM M s) := hS
  generalize psM M s = M1 at *
  unfold hvF
  refine ev_intro rfl (nb rfl) rfl ?_
  by_cases h : s.1 < len
  · obtain ⟨j, j1, j2, j3⟩ := hT s.1 h
    have e2 : mI M1 204 s.1 &&& 255 = T s.1 := by rw [eb, j3, (sx_nar j j1).2, j2]
    rw [if_pos h]
    refine g_aload_n (pc := 0) dX7_here_0 rfl trivial ?_
    refine g_getf (pc := 1) (v := .int _) dX7_here_1 fk_X7_84 (shK hS1 rfl) (fun _ => congrArg Value.int (h9)) ?_
    refine g_aload_n (pc := 4) dX7_here_4 rfl trivial ?_
    refine g_getf (pc := 5) (v := .int _) dX7_here_5 fk_X7_81 (shK hS1 rfl) (fun _ => congrArg Value.int (h8)) ?_
    refine g_icmp_ge (pc := 8) (tgt := 27) dX7_here_8 rfl (fun h8 => absurd h8 (nI_ge h (by omega))) (fun _ => ?_)
    refine g_aload_n (pc := 11) dX7_here_11 rfl trivial ?_
    refine g_getf (pc := 12) dX7_here_12 fk_X7_26 (shK hS1 rfl) (fv_arr (shR hS1 rfl)) ?_
    refine g_aload_n (pc := 15) dX7_here_15 rfl trivial ?_
    refine g_getf (pc := 16) (v := .int _) dX7_here_16 fk_X7_84 (shK hS1 rfl) (fun _ => congrArg Value.int (h9)) ?_
    refine g_baload (pc := 19) dX7_here_19 (shK hS1 rfl) rfl (by omega) (nl rfl) ?_
    refine g_sipush (pc := 20) (v := 255) dX7_here_20 rfl ?_
    refine g_iand (pc := 23) dX7_here_23 ?_
    rw [e2]
    refine g_goto (pc := 24) (tgt := 28) dX7_here_24 rfl ?_
    refine g_ireturn (pc := 28) dX7_here_28 rfl rfl ?_
    exact ⟨rfl, rfl⟩
  · rw [if_neg h]
    refine g_aload_n (pc := 0) dX7_here_0 rfl trivial ?_
    refine g_getf (pc := 1) (v := .int _) dX7_here_1 fk_X7_84 (shK hS1 rfl) (fun _ => congrArg Value.int (h9)) ?_
    refine g_aload_n (pc := 4) dX7_here_4 rfl trivial ?_
    refine g_getf (pc := 5) (v := .int _) dX7_here_5 fk_X7_81 (shK hS1 rfl) (fun _ => congrArg Value.int (h8)) ?_
    refine g_icmp_ge (pc := 8) (tgt := 27) dX7_here_8 rfl (fun _ => ?_) (fun h8 => absurd (nI_le (by omega) (by omega)) h8)
    refine g_iconst (pc := 27) (v := (-1)) dX7_here_27 rfl ?_
    refine g_ireturn (pc := 28) dX7_here_28 rfl rfl ?_
    exact ⟨rfl, rfl⟩
theorem scan_done (c : Int32 → Bool) (T : Nat → Int32) : ∀ (d p : Nat), c (T p) = true → 0 < d → scan c T d p = scan c T (d - 1) (p + 1)
  | 0, p, h, h2 => by omega
  | d + 1, p, h, h2 => by rw [scan, if_pos h]; rfl
/-- behind the spaces -/
def nxS (T : Nat → Int32) (len : Nat) (s : RP) : RP := (skipP T len s.1, nI (skipP T len s.1), s.2.2)
theorem isSp_hv {p : Nat} : hvF T len p = 32 ↔ p < len ∧ isSp (T p) = true := by
  unfold hvF isSp
  by_cases h : p < len
  · rw [if_pos h]; simp [h]
  · rw [if_neg h]; simp [h]
theorem skipP_s {p : Nat} (h : p < len) (h2 : isSp (T p) = true) : skipP T len p = skipP T len (p + 1) := by
  unfold skipP
  rw [scan_done isSp T (len - p) p h2 (by omega)]
  congr 1
theorem skipP_0 {p : Nat} (h : ¬ (p < len ∧ isSp (T p) = true)) : skipP T len p = p := by
  unfold skipP
  cases hd : len - p with
  | zero => rfl
  | succ d => rw [scan, if_neg (fun q => h ⟨by omega, q⟩)]
theorem r_next (hS : Shp M) (hT : txt M T len) (hl : mI M 198 8 = nI len) (hL : len ≤ 600) (hp : s.1 ≤ len) : EvR l jX7_next 1 30 0 0 [.ref 198] (psM M s) (.inl (some (.int (hvF T len (skipP T len s.1))))) (psM M (nxS T len s)) := by
  have hsk := skipP_le (T := T) hp
  obtain ⟨S, hs⟩ : ∃ S, S = skipP T len s.1 := ⟨_, rfl⟩
  rw [← hs] at hsk
  have eN : nxS T len s = (S, nI S, s.2.2) := by rw [hs]; rfl
  rw [← hs, eN]
  refine ev_intro rfl (nb rfl) rfl ?_
  refine go_while (pc := 0) (σ := Nat) (fun p => p ≤ len ∧ skipP T len p = S) (fun p => len - p) (fun p => [(0, .ref 198)]) (fun p => psM M (p, s.2)) s.1 ⟨rfl, trivial⟩ rfl ⟨hp, hs.symm⟩ ?_
  rintro p ⟨h1, h2⟩ ih
  have hS1 : Shp (psM M (p, s.2)) := hS
  have q1 := r_here (l := l) (s := (p, s.2)) hS hT hl hL h1
  have h9 : mI (psM M (p, s.2)) 198 9 = nI p := ps_9
  by_cases h : p < len ∧ isSp (T p) = true
  · rw [skipP_s h.1 h.2] at h2
    have e9 : pI (psM M (p, s.2)) 198 9 (nI (p + 1)) = psM M (p + 1, s.2) := ps_p9 rfl
    have ih2 := ih (p + 1) ⟨h.1, h2⟩ (by omega)
    generalize psM M (p + 1, s.2) = M2 at *
    generalize psM M (p, s.2) = M1 at *
    refine g_aload_n (pc := 0) dX7_next_0 rfl trivial ?_
    refine g_invV_r (pc := 1) (As := []) dX7_next_1 rfl (q1) rfl rfl (shK hS1 rfl) rfl rfl lk_X7_87 rfl (nb rfl) ⟨nb rfl, nb rfl⟩ rfl ?_
    refine g_bipush (pc := 4) (v := 32) dX7_next_4 rfl ?_
    refine g_icmp_ne (pc := 6) (tgt := 22) dX7_next_6 rfl (fun h6 => absurd h6 ((fun z => z (isSp_hv.mpr h)))) (fun _ => ?_)
    refine g_aload_n (pc := 9) dX7_next_9 rfl trivial ?_
    refine g_dup (pc := 10) dX7_next_10 rfl ?_
    refine g_getf (pc := 11) (v := .int _) dX7_next_11 fk_X7_84 (shK hS1 rfl) (fun _ => congrArg Value.int (h9)) ?_
    refine g_iconst (pc := 14) (v := 1) dX7_next_14 rfl ?_
    refine g_iadd (pc := 15) dX7_next_15 ?_
    rw [nI_1]
    refine g_putI (pc := 16) dX7_next_16 fp_X7_84 (shK hS1 rfl) ⟨rfl, rfl⟩ (fun _ _ _ _ => rfl) ?_
    refine go_cast e9 ?_
    refine g_goto (pc := 19) (tgt := 0) dX7_next_19 rfl ?_
    exact ih2
  · rw [skipP_0 h] at h2
    subst h2
    have e10 : pI (psM M (p, s.2)) 198 10 (nI p) = psM M (p, nI p, s.2.2) := ps_p10
    have q2 := r_here (l := l) (s := (p, nI p, s.2.2)) hS hT hl hL h1
    have hS2 : Shp (psM M (p, nI p, s.2.2)) := hS
    generalize psM M (p, nI p, s.2.2) = M2 at *
    generalize psM M (p, s.2) = M1 at *
    refine g_aload_n (pc := 0) dX7_next_0 rfl trivial ?_
    refine g_invV_r (pc := 1) (As := []) dX7_next_1 rfl (q1) rfl rfl (shK hS1 rfl) rfl rfl lk_X7_87 rfl (nb rfl) ⟨nb rfl, nb rfl⟩ rfl ?_
    refine g_bipush (pc := 4) (v := 32) dX7_next_4 rfl ?_
    refine g_icmp_ne (pc := 6) (tgt := 22) dX7_next_6 rfl (fun _ => ?_) (fun h6 => absurd ((fun z => h (isSp_hv.mp z))) h6)
    refine g_aload_n (pc := 22) dX7_next_22 rfl trivial ?_
    refine g_aload_n (pc := 23) dX7_next_23 rfl trivial ?_
    refine g_getf (pc := 24) (v := .int _) dX7_next_24 fk_X7_84 (shK hS1 rfl) (fun _ => congrArg Value.int (h9)) ?_
    refine g_putI (pc := 27) dX7_next_27 fp_X7_90 (shK hS1 rfl) ⟨rfl, rfl⟩ (fun _ _ _ _ => rfl) ?_
    refine go_cast e10 ?_
    refine g_aload_n (pc := 30) dX7_next_30 rfl trivial ?_
    refine g_invV_r (pc := 31) (As := []) dX7_next_31 rfl (q2) rfl rfl (shK hS2 rfl) rfl rfl lk_X7_87 rfl (nb rfl) ⟨nb rfl, nb rfl⟩ rfl ?_
    refine g_ireturn (pc := 34) dX7_next_34 rfl rfl ?_
    exact ⟨rfl, rfl⟩
theorem r_fails {k : Int32} (hS : Shp M) : EvR l jX7_fails 0 0 0 0 [.ref 198, .int k] (psM M s) (.inl none) (psM M (rFail k s.2.1 s)) := by
  have hS1 : Shp (psM M s) := hS
  have h11 : mI (psM M s) 198 11 = s.2.2.2.1 := ps_11
  unfold rFail
  refine ev_intro rfl (nb rfl) rfl ?_
  by_cases h : s.2.2.2.1 = 0
  · rw [if_pos h]
    have e11 : pI (psM M s) 198 11 k = psM M (s.1, s.2.1, s.2.2.1, k, s.2.2.2.2) := ps_p11
    have hS2 : Shp (psM M (s.1, s.2.1, s.2.2.1, k, s.2.2.2.2)) := hS
    have h10 : mI (psM M (s.1, s.2.1, s.2.2.1, k, s.2.2.2.2)) 198 10 = s.2.1 := ps_10
    have e12 : pI (psM M (s.1, s.2.1, s.2.2.1, k, s.2.2.2.2)) 198 12 s.2.1 = psM M (s.1, s.2.1, s.2.2.1, k, s.2.1) := ps_p12
    generalize psM M (s.1, s.2.1, s.2.2.1, k, s.2.1) = M3 at *
    generalize psM M (s.1, s.2.1, s.2.2.1, k, s.2.2.2.2) = M2 at *
    generalize psM M s = M1 at *
    refine g_aload_n (pc := 0) dX7_fails_0 rfl trivial ?_
    refine g_getf (pc := 1) (v := .int _) dX7_fails_1 fk_X7_93 (shK hS1 rfl) (fun _ => congrArg Value.int (h11)) ?_
    refine g_if_ne (pc := 4) (tgt := 20) dX7_fails_4 rfl (fun h4 => absurd h4 ((fun z => z h))) (fun _ => ?_)
    refine g_aload_n (pc := 7) dX7_fails_7 rfl trivial ?_
    refine g_iload_n (pc := 8) dX7_fails_8 rfl ?_
    refine g_putI (pc := 9) dX7_fails_9 fp_X7_93 (shK hS1 rfl) ⟨rfl, rfl⟩ (fun _ _ _ _ => rfl) ?_
    refine go_cast e11 ?_
    refine g_aload_n (pc := 12) dX7_fails_12 rfl trivial ?_
    refine g_aload_n (pc := 13) dX7_fails_13 rfl trivial ?_
    refine g_getf (pc := 14) (v := .int _) dX7_fails_14 fk_X7_90 (shK hS2 rfl) (fun _ => congrArg Value.int (h10)) ?_
    refine g_putI (pc := 17) dX7_fails_17 fp_X7_96 (shK hS2 rfl) ⟨rfl, rfl⟩ (fun _ _ _ _ => rfl) ?_
    refine go_cast e12 ?_
    refine g_return (pc := 20) dX7_fails_20 rfl ?_
    exact ⟨rfl, rfl⟩
  · rw [if_neg h]
    generalize psM M s = M1 at *
    refine g_aload_n (pc := 0) dX7_fails_0 rfl trivial ?_
    refine g_getf (pc := 1) (v := .int _) dX7_fails_1 fk_X7_93 (shK hS1 rfl) (fun _ => congrArg Value.int (h11)) ?_
    refine g_if_ne (pc := 4) (tgt := 20) dX7_fails_4 rfl (fun _ => ?_) (fun h4 => absurd (h) h4)
    refine g_return (pc := 20) dX7_fails_20 rfl ?_
    exact ⟨rfl, rfl⟩
theorem hv_in {a b : Int32} {c : Int32 → Bool} {p : Nat} (ha : ¬ (a ≤ -1)) (hc : ∀ v, c v = true ↔ a ≤ v ∧ v ≤ b) : (a.toInt64 ≤ (hvF T len p).toInt64 ∧ (hvF T len p).toInt64 ≤ b.toInt64) ↔ p < len ∧ c (T p) = true := by
  rw [le_long, le_long]
  unfold hvF
  by_cases h : p < len
  · rw [if_pos h, hc]; simp [h]
  · rw [if_neg h]; simp [h]; intro q; exact absurd q ha
theorem isLo_iff (v : Int32) : isLo v = true ↔ 97 ≤ v ∧ v ≤ 122 := by
  unfold isLo
  rw [Bool.and_eq_true, Bool.not_eq_true', Bool.not_eq_true', decide_eq_false_iff_not, decide_eq_false_iff_not, Int32.not_lt, Int32.not_lt]
theorem isDi_iff (v : Int32) : isDi v = true ↔ 48 ≤ v ∧ v ≤ 57 := by
  unfold isDi
  rw [Bool.and_eq_true, Bool.not_eq_true', Bool.not_eq_true', decide_eq_false_iff_not, decide_eq_false_iff_not, Int32.not_lt, Int32.not_lt]
theorem wordP_s {p : Nat} (h : p < len) (h2 : isLo (T p) = true) : wordP T len p = wordP T len (p + 1) := by
  unfold wordP
  rw [scan_done isLo T (len - p) p h2 (by omega)]
  congr 1
theorem wordP_0 {p : Nat} (h : ¬ (p < len ∧ isLo (T p) = true)) : wordP T len p = p := by
  unfold wordP
  cases hd : len - p with
  | zero => rfl
  | succ d => rw [scan, if_neg (fun q => h ⟨by omega, q⟩)]
theorem digP_s {p : Nat} (h : p < len) (h2 : isDi (T p) = true) : digP T len p = digP T len (p + 1) := by
  unfold digP
  rw [scan_done isDi T (len - p) p h2 (by omega)]
  congr 1
theorem digP_0 {p : Nat} (h : ¬ (p < len ∧ isDi (T p) = true)) : digP T len p = p := by
  unfold digP
  cases hd : len - p with
  | zero => rfl
  | succ d => rw [scan, if_neg (fun q => h ⟨by omega, q⟩)]
theorem r_reads (hS : Shp M) (hT : txt M T len) (hl : mI M 198 8 = nI len) (hL : len ≤ 600) (hp : s.1 ≤ len) : EvR l jX7_reads 2 60 0 0 [.ref 198] (psM M s) (.inl none) (psM M (twd T len s)) := by
  have hsk := skipP_le (T := T) hp
  have q1 := r_next (l := l) (s := s) hS hT hl hL hp
  have hS0 : Shp (psM M (nxS T len s)) := hS
  obtain ⟨b, hb⟩ : ∃ b, b = skipP T len s.1 := ⟨_, rfl⟩
  obtain ⟨S, hs⟩ : ∃ S, S = wordP T len b := ⟨_, rfl⟩
  have e0 : nxS T len s = (b, nI b, s.2.2) := by rw [hb]; rfl
  have eE : twd T len s = (S, nI b, s.2.2) := by rw [hs, hb]; rfl
  rw [← hb] at hsk
  rw [e0] at q1 hS0
  rw [eE]
  refine ev_intro rfl (nb rfl) rfl ?_
  refine g_aload_n (pc := 0) dX7_reads_0 rfl trivial ?_
  refine g_invV_r (pc := 1) (As := []) dX7_reads_1 rfl (q1) rfl rfl (shK (ps_S hS) rfl) rfl rfl lk_X7_99 rfl (nb rfl) ⟨nb rfl, nb rfl⟩ rfl ?_
  refine g_pop (pc := 4) dX7_reads_4 rfl ?_
  refine go_while (pc := 5) (σ := Nat) (fun p => p ≤ len ∧ wordP T len p = S) (fun p => len - p) (fun p => [(0, .ref 198)]) (fun p => psM M (p, nI b, s.2.2)) b ⟨rfl, trivial⟩ rfl ⟨hsk.2, hs.symm⟩ ?_
  rintro p ⟨h1, h2⟩ ih
  have hS1 : Shp (psM M (p, nI b, s.2.2)) := hS
  have q2 := r_here (l := l) (s := (p, nI b, s.2.2)) hS hT hl hL h1
  have h9 : mI (psM M (p, nI b, s.2.2)) 198 9 = nI p := ps_9
  have hin := hv_in (T := T) (len := len) (p := p) (a := 97) (b := 122) (c := isLo) (by decide) isLo_iff
  by_cases h : p < len ∧ isLo (T p) = true
  · rw [wordP_s h.1 h.2] at h2
    have hh := hin.mpr h
    have e9 : pI (psM M (p, nI b, s.2.2)) 198 9 (nI (p + 1)) = psM M (p + 1, nI b, s.2.2) := ps_p9 rfl
    have ih2 := ih (p + 1) ⟨h.1, h2⟩ (by omega)
    generalize psM M (p + 1, nI b, s.2.2) = M2 at *
    generalize psM M (p, nI b, s.2.2) = M1 at *
    refine g_aload_n (pc := 5) dX7_reads_5 rfl trivial ?_
    refine g_invV_r (pc := 6) (As := []) dX7_reads_6 rfl (q2) rfl rfl (shK hS1 rfl) rfl rfl lk_X7_87 rfl (nb rfl) ⟨nb rfl, nb rfl⟩ rfl ?_
    refine g_i2l (pc := 9) dX7_reads_9 rfl ?_
    refine g_ldc2 (pc := 10) dX7_reads_10 wd_1325 ?_
    refine g_ldc2 (pc := 13) dX7_reads_13 wd_1326 ?_
    refine g_invS_r (pc := 16) (As := [_, _, _]) dX7_reads_16 rfl (r_in_t hh.1 hh.2) rfl rfl lk_X7_67 rfl (nb rfl) ⟨nb rfl, nb rfl⟩ rfl ?_
    refine g_if_eq (pc := 19) (tgt := 35) dX7_reads_19 rfl (fun h19 => absurd h19 ((by decide))) (fun _ => ?_)
    refine g_aload_n (pc := 22) dX7_reads_22 rfl trivial ?_
    refine g_dup (pc := 23) dX7_reads_23 rfl ?_
    refine g_getf (pc := 24) (v := .int _) dX7_reads_24 fk_X7_84 (shK hS1 rfl) (fun _ => congrArg Value.int (h9)) ?_
    refine g_iconst (pc := 27) (v := 1) dX7_reads_27 rfl ?_
    refine g_iadd (pc := 28) dX7_reads_28 ?_
    rw [nI_1]
    refine g_putI (pc := 29) dX7_reads_29 fp_X7_84 (shK hS1 rfl) ⟨rfl, rfl⟩ (fun _ _ _ _ => rfl) ?_
    refine go_cast e9 ?_
    refine g_goto (pc := 32) (tgt := 5) dX7_reads_32 rfl ?_
    exact ih2
  · rw [wordP_0 h] at h2
    subst h2
    generalize psM M (p, nI b, s.2.2) = M1 at *
    refine g_aload_n (pc := 5) dX7_reads_5 rfl trivial ?_
    refine g_invV_r (pc := 6) (As := []) dX7_reads_6 rfl (q2) rfl rfl (shK hS1 rfl) rfl rfl lk_X7_87 rfl (nb rfl) ⟨nb rfl, nb rfl⟩ rfl ?_
    refine g_i2l (pc := 9) dX7_reads_9 rfl ?_
    refine g_ldc2 (pc := 10) dX7_reads_10 wd_1325 ?_
    refine g_ldc2 (pc := 13) dX7_reads_13 wd_1326 ?_
    refine g_invS_r (pc := 16) (As := [_, _, _]) dX7_reads_16 rfl (r_in_f (fun z => h (hin.mp z))) rfl rfl lk_X7_67 rfl (nb rfl) ⟨nb rfl, nb rfl⟩ rfl ?_
    refine g_if_eq (pc := 19) (tgt := 35) dX7_reads_19 rfl (fun _ => ?_) (fun h19 => absurd (rfl) h19)
    refine g_return (pc := 35) dX7_reads_35 rfl ?_
    exact ⟨rfl, rfl⟩
end
end
-- 311.rr
section
/-! the reference reads: is it a word; a number -/
def lowW (w : List Int32) : Bool := w.all fun x => decide (97 ≤ x) && decide (x ≤ 122)
theorem sx_low : ∀ j, j < 256 → ∀ c, c < 26 → (sx (nI j) = nI (97 + c) ↔ nI j = nI (97 + c)) := by decide +kernel
theorem sx_w {w : List Int32} (hw : lowW w = true) {i j : Nat} (hi : i < w.length) (hj : j < 256) : sx (nI j) = w.getD i 0 ↔ nI j = w.getD i 0 := by
  have h := List.all_eq_true.mp hw _ (getD_mem hi)
  rw [Bool.and_eq_true, decide_eq_true_iff, decide_eq_true_iff] at h
  obtain ⟨h1, h2⟩ := h
  generalize w.getD i 0 = x at *
  obtain ⟨c, hc, rfl⟩ : ∃ c, c < 26 ∧ x = nI (97 + c) := by
    rw [Int32.le_iff_toInt_le] at h1 h2
    have a1 : (97 : Int32).toInt = 97 := rfl
    have a2 : (122 : Int32).toInt = 122 := rfl
    rw [a1] at h1
    rw [a2] at h2
    refine ⟨(x.toInt - 97).toNat, by omega, Int32.toInt_inj.mp ?_⟩
    rw [nI_toInt (by omega)]
    omega
  exact sx_low j hj c hc
theorem strW_low : ∀ k, k < 23 → 13 ≤ k → lowW (strW k) = true := by decide +kernel
section
variable {l : Launch} {M : Mem} {s : RP} {len : Nat} {T : Nat → Int32}
theorem r_isWordR {kS b : Nat} {q0 : String × Nat × String × List Int32} (hS : Shp M) (hT : txt M T len) (hL : len ≤ 600) (hp : s.1 ≤ len) (hb9 : s.2.1 = nI b) (hb : b ≤ s.1) (hq9 : strT[kS]? = some q0) (hw : lowW q0.2.2.2 = true) : EvR l jX7_isWord 4 110 0 0 [.ref 198, .retAddr (2 * kS + 2)] (psM M s) (.inl (some (.int (b1 (wdQ T b s.1 q0.2.2.2))))) (psM M s) := by
  have h9 : mI (psM M s) 198 9 = nI s.1 := ps_9
  have h10 : mI (psM M s) 198 10 = nI b := ps_10.trans hb9
  have eb : mI (psM M s) 204 = mI M 204 := ps_ne (by decide)
  have hS1 : Shp (psM M s) := hS
  generalize psM M s = M1 at *
  have hlen := str_len hq9
  have esub : nI s.1 - nI b = nI (s.1 - b) := nI_sub' hb
  unfold wdQ
  have hsw := fun i j => sx_w hw (i := i) (j := j)
  have qlen := t_length (l := l) (M := M1) hq9
  have qchr := fun i => t_charAt (l := l) (M := M1) (i := i) hq9
  generalize q0.2.2.2 = w at *
  refine ev_intro rfl (nb rfl) rfl ?_
  by_cases hlw : s.1 - b = w.length
  · rw [if_pos hlw]
    obtain ⟨S, hS9⟩ : ∃ S, S = wdL T b w w.length 0 := ⟨_, rfl⟩
    rw [← hS9]
    refine g_aload_n (pc := 0) dX7_isWord_0 rfl trivial ?_
    refine g_getf (pc := 1) (v := .int _) dX7_isWord_1 fk_X7_84 (shK hS1 rfl) (fun _ => congrArg Value.int (h9)) ?_
    refine g_aload_n (pc := 4) dX7_isWord_4 rfl trivial ?_
    refine g_getf (pc := 5) (v := .int _) dX7_isWord_5 fk_X7_90 (shK hS1 rfl) (fun _ => congrArg Value.int (h10)) ?_
    refine g_isub (pc := 8) dX7_isWord_8 ?_
    rw [esub]
    refine g_aload_n (pc := 9) dX7_isWord_9 rfl (isA_s _) ?_
    refine g_invVT_r (pc := 10) (As := []) dX7_isWord_10 rfl (qlen) rfl rfl (hq9) lk_X7_106 rfl (nb rfl) ⟨nb rfl, nb rfl⟩ rfl ?_
    refine g_icmp_ne (pc := 13) (tgt := 20) dX7_isWord_13 rfl (fun h13 => absurd h13 ((fun z => z (by rw [hlw])))) (fun _ => ?_)
    refine g_iconst (pc := 16) (v := 1) dX7_isWord_16 rfl ?_
    refine g_goto (pc := 17) (tgt := 21) dX7_isWord_17 rfl ?_
    refine g_istore_n (pc := 21) (lv' := [(0, _), (1, _), (2, _)]) dX7_isWord_21 (nl rfl) rfl ?_
    refine g_iconst (pc := 22) (v := 0) dX7_isWord_22 rfl ?_
    refine g_istore_n (pc := 23) (lv' := [(0, _), (1, _), (2, _), (3, _)]) dX7_isWord_23 (nl rfl) rfl ?_
    refine go_while (pc := 24) (σ := Nat) (fun q => q ≤ w.length ∧ wdL T b w (w.length - q) q = S) (fun q => w.length - q) (fun q => [(0, .ref 198), (1, .retAddr (2 * kS + 2)), (2, .int 1), (3, .int (nI q))]) (fun _ => M1) 0 ⟨rfl, rfl, rfl, rfl, trivial⟩ rfl ⟨Nat.zero_le _, hS9.symm⟩ ?_
    rintro q ⟨h1, h2⟩ ih
    by_cases hq : q < w.length
    · obtain ⟨d, hd⟩ : ∃ d, w.length - q = d + 1 := ⟨w.length - q - 1, by omega⟩
      have hd' : w.length - (q + 1) = d := by omega
      rw [hd, wdL] at h2
      obtain ⟨j, j1, j2, j3⟩ := hT (b + q) (by omega)
      have hsj := hsw q j hq j1
      by_cases hc : T (b + q) = w.getD q 0
      · rw [if_pos hc] at h2
        have hc2 : mI M1 204 (b + q) = w.getD q 0 := by rw [eb, j3, hsj, ← j2]; exact hc
        refine g_iload_n (pc := 24) dX7_isWord_24 rfl ?_
        refine g_if_eq (pc := 25) (tgt := 67) dX7_isWord_25 rfl (fun h25 => absurd h25 ((by decide))) (fun _ => ?_)
        refine g_iload_n (pc := 28) dX7_isWord_28 rfl ?_
        refine g_aload_n (pc := 29) dX7_isWord_29 rfl (isA_s _) ?_
        refine g_invVT_r (pc := 30) (As := []) dX7_isWord_30 rfl (qlen) rfl rfl (hq9) lk_X7_106 rfl (nb rfl) ⟨nb rfl, nb rfl⟩ rfl ?_
        refine g_icmp_ge (pc := 33) (tgt := 67) dX7_isWord_33 rfl (fun h33 => absurd h33 (nI_ge hq (by omega))) (fun _ => ?_)
        refine g_aload_n (pc := 36) dX7_isWord_36 rfl trivial ?_
        refine g_getf (pc := 37) dX7_isWord_37 fk_X7_26 (shK hS1 rfl) (fv_arr (shR hS1 rfl)) ?_
        refine g_aload_n (pc := 40) dX7_isWord_40 rfl trivial ?_
        refine g_getf (pc := 41) (v := .int _) dX7_isWord_41 fk_X7_90 (shK hS1 rfl) (fun _ => congrArg Value.int (h10)) ?_
        refine g_iload_n (pc := 44) dX7_isWord_44 rfl ?_
        refine g_iadd (pc := 45) dX7_isWord_45 ?_
        rw [nI_add]
        refine g_baload (pc := 46) dX7_isWord_46 (shK hS1 rfl) rfl (by omega) (nl rfl) ?_
        rw [hc2]
        refine g_aload_n (pc := 47) dX7_isWord_47 rfl (isA_s _) ?_
        refine g_iload_n (pc := 48) dX7_isWord_48 rfl ?_
        refine g_invVT_r (pc := 49) (As := [_]) dX7_isWord_49 rfl ((qchr q hq)) rfl rfl (hq9) lk_X7_110 rfl (nb rfl) ⟨nb rfl, nb rfl⟩ rfl ?_
        refine g_icmp_ne (pc := 52) (tgt := 59) dX7_isWord_52 rfl (fun h52 => absurd h52 ((fun z => z rfl))) (fun _ => ?_)
        refine g_iconst (pc := 55) (v := 1) dX7_isWord_55 rfl ?_
        refine g_goto (pc := 56) (tgt := 60) dX7_isWord_56 rfl ?_
        refine g_istore_n (pc := 60) (lv' := [(0, _), (1, _), (2, _), (3, _)]) dX7_isWord_60 (nl rfl) rfl ?_
        refine g_iinc (pc := 61) (lv' := [(0, _), (1, _), (2, _), (3, _)]) dX7_isWord_61 rfl (nI_1 _) (nl rfl) rfl ?_
        refine g_goto (pc := 64) (tgt := 24) dX7_isWord_64 rfl ?_
        exact ih (q + 1) ⟨hq, by rw [hd']; exact h2⟩ (by omega)
      · rw [if_neg hc] at h2
        have hc2 : ¬ mI M1 204 (b + q) = w.getD q 0 := by rw [eb, j3, hsj, ← j2]; exact hc
        have hend : Go l jX7_isWord 4 110 0 0 (fun r' M' => r' = .inl (some (.int (b1 S))) ∧ M' = M1) 24 [(0, .ref 198), (1, .retAddr (2 * kS + 2)), (2, .int 0), (3, .int (nI (q + 1)))] [] 0 0 M1 := by
          refine g_iload_n (pc := 24) dX7_isWord_24 rfl ?_
          refine g_if_eq (pc := 25) (tgt := 67) dX7_isWord_25 rfl (fun _ => ?_) (fun h25 => absurd (rfl) h25)
          refine g_iload_n (pc := 67) dX7_isWord_67 rfl ?_
          refine g_ireturn (pc := 68) dX7_isWord_68 rfl rfl ?_
          exact ⟨by rw [← h2]; rfl, rfl⟩
        refine g_iload_n (pc := 24) dX7_isWord_24 rfl ?_
        refine g_if_eq (pc := 25) (tgt := 67) dX7_isWord_25 rfl (fun h25 => absurd h25 ((by decide))) (fun _ => ?_)
        refine g_iload_n (pc := 28) dX7_isWord_28 rfl ?_
        refine g_aload_n (pc := 29) dX7_isWord_29 rfl (isA_s _) ?_
        refine g_invVT_r (pc := 30) (As := []) dX7_isWord_30 rfl (qlen) rfl rfl (hq9) lk_X7_106 rfl (nb rfl) ⟨nb rfl, nb rfl⟩ rfl ?_
        refine g_icmp_ge (pc := 33) (tgt := 67) dX7_isWord_33 rfl (fun h33 => absurd h33 (nI_ge hq (by omega))) (fun _ => ?_)
        refine g_aload_n (pc := 36) dX7_isWord_36 rfl trivial ?_
        refine g_getf (pc := 37) dX7_isWord_37 fk_X7_26 (shK hS1 rfl) (fv_arr (shR hS1 rfl)) ?_
        refine g_aload_n (pc := 40) dX7_isWord_40 rfl trivial ?_
        refine g_getf (pc := 41) (v := .int _) dX7_isWord_41 fk_X7_90 (shK hS1 rfl) (fun _ => congrArg Value.int (h10)) ?_
        refine g_iload_n (pc := 44) dX7_isWord_44 rfl ?_
        refine g_iadd (pc := 45) dX7_isWord_45 ?_
        rw [nI_add]
        refine g_baload (pc := 46) dX7_isWord_46 (shK hS1 rfl) rfl (by omega) (nl rfl) ?_
        refine g_aload_n (pc := 47) dX7_isWord_47 rfl (isA_s _) ?_
        refine g_iload_n (pc := 48) dX7_isWord_48 rfl ?_
        refine g_invVT_r (pc := 49) (As := [_]) dX7_isWord_49 rfl ((qchr q hq)) rfl rfl (hq9) lk_X7_110 rfl (nb rfl) ⟨nb rfl, nb rfl⟩ rfl ?_
        refine g_icmp_ne (pc := 52) (tgt := 59) dX7_isWord_52 rfl (fun _ => ?_) (fun h52 => absurd (hc2) h52)
        refine g_iconst (pc := 59) (v := 0) dX7_isWord_59 rfl ?_
        refine g_istore_n (pc := 60) (lv' := [(0, _), (1, _), (2, _), (3, _)]) dX7_isWord_60 (nl rfl) rfl ?_
        refine g_iinc (pc := 61) (lv' := [(0, _), (1, _), (2, _), (3, _)]) dX7_isWord_61 rfl (nI_1 _) (nl rfl) rfl ?_
        refine g_goto (pc := 64) (tgt := 24) dX7_isWord_64 rfl ?_
        exact hend
    · have hq' : q = w.length := by omega
      subst hq'
      rw [Nat.sub_self, wdL] at h2
      refine g_iload_n (pc := 24) dX7_isWord_24 rfl ?_
      refine g_if_eq (pc := 25) (tgt := 67) dX7_isWord_25 rfl (fun h25 => absurd h25 ((by decide))) (fun _ => ?_)
      refine g_iload_n (pc := 28) dX7_isWord_28 rfl ?_
      refine g_aload_n (pc := 29) dX7_isWord_29 rfl (isA_s _) ?_
      refine g_invVT_r (pc := 30) (As := []) dX7_isWord_30 rfl (qlen) rfl rfl (hq9) lk_X7_106 rfl (nb rfl) ⟨nb rfl, nb rfl⟩ rfl ?_
      refine g_icmp_ge (pc := 33) (tgt := 67) dX7_isWord_33 rfl (fun _ => ?_) (fun h33 => absurd (nI_le (Nat.le_refl _) (by omega)) h33)
      refine g_iload_n (pc := 67) dX7_isWord_67 rfl ?_
      refine g_ireturn (pc := 68) dX7_isWord_68 rfl rfl ?_
      exact ⟨by rw [← h2]; rfl, rfl⟩
  · rw [if_neg hlw]
    have hend : Go l jX7_isWord 4 110 0 0 (fun r' M' => r' = .inl (some (.int (b1 false))) ∧ M' = M1) 24 [(0, .ref 198), (1, .retAddr (2 * kS + 2)), (2, .int 0), (3, .int 0)] [] 0 0 M1 := by
      refine g_iload_n (pc := 24) dX7_isWord_24 rfl ?_
      refine g_if_eq (pc := 25) (tgt := 67) dX7_isWord_25 rfl (fun _ => ?_) (fun h25 => absurd (rfl) h25)
      refine g_iload_n (pc := 67) dX7_isWord_67 rfl ?_
      refine g_ireturn (pc := 68) dX7_isWord_68 rfl rfl ?_
      exact ⟨rfl, rfl⟩
    refine g_aload_n (pc := 0) dX7_isWord_0 rfl trivial ?_
    refine g_getf (pc := 1) (v := .int _) dX7_isWord_1 fk_X7_84 (shK hS1 rfl) (fun _ => congrArg Value.int (h9)) ?_
    refine g_aload_n (pc := 4) dX7_isWord_4 rfl trivial ?_
    refine g_getf (pc := 5) (v := .int _) dX7_isWord_5 fk_X7_90 (shK hS1 rfl) (fun _ => congrArg Value.int (h10)) ?_
    refine g_isub (pc := 8) dX7_isWord_8 ?_
    rw [esub]
    refine g_aload_n (pc := 9) dX7_isWord_9 rfl (isA_s _) ?_
    refine g_invVT_r (pc := 10) (As := []) dX7_isWord_10 rfl (qlen) rfl rfl (hq9) lk_X7_106 rfl (nb rfl) ⟨nb rfl, nb rfl⟩ rfl ?_
    refine g_icmp_ne (pc := 13) (tgt := 20) dX7_isWord_13 rfl (fun _ => ?_) (fun h13 => absurd ((fun z => hlw ((nI_eq (by omega) (by omega)).mp z))) h13)
    refine g_iconst (pc := 20) (v := 0) dX7_isWord_20 rfl ?_
    refine g_istore_n (pc := 21) (lv' := [(0, _), (1, _), (2, _)]) dX7_isWord_21 (nl rfl) rfl ?_
    refine g_iconst (pc := 22) (v := 0) dX7_isWord_22 rfl ?_
    refine g_istore_n (pc := 23) (lv' := [(0, _), (1, _), (2, _), (3, _)]) dX7_isWord_23 (nl rfl) rfl ?_
    exact hend
theorem r_isWR {b : Nat} (k : Nat) (hS : Shp M) (hT : txt M T len) (hL : len ≤ 600) (hp : s.1 ≤ len) (hb9 : s.2.1 = nI b) (hb : b ≤ s.1) (hk : k < strT.length) (hk2 : 13 ≤ k) : EvR l jX7_isWord 4 110 0 0 [.ref 198, .retAddr (2 * k + 2)] (psM M s) (.inl (some (.int (b1 (wdQ T b s.1 (strW k)))))) (psM M s) := by
  have h : strT[k]? = some (strT[k]?.getD ("", 0, "", [])) := by rw [List.getElem?_eq_getElem hk]; rfl
  exact r_isWordR hS hT hL hp hb9 hb h (strW_low k hk hk2)
/-- a number's value, capped higher -/
def valG (T : Nat → Int32) (q : Nat) : Nat → Int32
  | 0 => 0
  | k + 1 => least9 10000000 (10 * valG T q k + T (q + k) - 48)
def numG (T : Nat → Int32) (len p : Nat) : Int32 := valG T (skipP T len p) (digP T len (skipP T len p) - skipP T len p)
theorem r_number_e {lo hi : Int32} (hS : Shp M) (he : s.2.2.2.1 ≠ 0) : EvR l jX7_number 2 60 0 0 [.ref 198, .int lo, .int hi] (psM M s) (.inl (some (.int lo))) (psM M s) := by
  have h11 : mI (psM M s) 198 11 = s.2.2.2.1 := ps_11
  have hS1 : Shp (psM M s) := hS
  generalize psM M s = M1 at *
  refine ev_intro rfl (nb rfl) rfl ?_
  refine g_aload_n (pc := 0) dX7_number_0 rfl trivial ?_
  refine g_getf (pc := 1) (v := .int _) dX7_number_1 fk_X7_93 (shK hS1 rfl) (fun _ => congrArg Value.int (h11)) ?_
  refine g_if_eq (pc := 4) (tgt := 9) dX7_number_4 rfl (fun h4 => absurd h4 (he)) (fun _ => ?_)
  refine g_iload_n (pc := 7) dX7_number_7 rfl ?_
  refine g_ireturn (pc := 8) dX7_number_8 rfl rfl ?_
  exact ⟨rfl, rfl⟩
theorem r_numberG {lo hi : Int32} (hS : Shp M) (hT : txt M T len) (hl : mI M 198 8 = nI len) (hL : len ≤ 600) (hp : s.1 ≤ len) (he : s.2.2.2.1 = 0) : EvR l jX7_number 2 60 0 0 [.ref 198, .int lo, .int hi] (psM M s) (.inl (some (.int (if skipP T len s.1 = digP T len (skipP T len s.1) then lo else if lo ≤ numG T len s.1 ∧ numG T len s.1 ≤ hi then numG T len s.1 else lo)))) (psM M (if skipP T len s.1 = digP T len (skipP T len s.1) then rFail 1 (nI (skipP T len s.1)) (tdg0 T len s) else if lo ≤ numG T len s.1 ∧ numG T len s.1 ≤ hi then tdg0 T len s else rFail 2 (nI (skipP T len s.1)) (tdg0 T len s))) := by
  have hsk := skipP_le (T := T) hp
  have h11 : mI (psM M s) 198 11 = 0 := ps_11.trans he
  have q1 := r_next (l := l) (s := s) hS hT hl hL hp
  obtain ⟨b, hb⟩ : ∃ b, b = skipP T len s.1 := ⟨_, rfl⟩
  obtain ⟨S, hs⟩ : ∃ S, S = digP T len b := ⟨_, rfl⟩
  have e0 : nxS T len s = (b, nI b, s.2.2) := by rw [hb]; rfl
  have eE : tdg0 T len s = (S, nI b, s.2.2) := by rw [hs, hb]; rfl
  have hv : numG T len s.1 = valG T b (S - b) := by unfold numG; rw [← hb, ← hs]
  rw [hv, eE, ← hb, ← hs]
  rw [← hb] at hsk
  rw [e0, ← hb] at q1
  have hin := hv_in (T := T) (len := len) (p := b) (a := 48) (b := 57) (c := isDi) (by decide) isDi_iff
  have hS0 : Shp (psM M (b, nI b, s.2.2)) := hS
  have hSs : Shp (psM M s) := hS
  have hdle := digP_le (T := T) hsk.2
  rw [← hs] at hdle
  refine ev_intro rfl (nb rfl) rfl ?_
  by_cases hd : b < len ∧ isDi (T b) = true
  · have hh := hin.mpr hd
    have hne : ¬ b = S := by
      intro e
      have := digP_s hd.1 hd.2
      rw [← hs] at this
      have h2 := digP_le (T := T) (show b + 1 ≤ len by omega)
      omega
    rw [if_neg hne, if_neg hne]
    refine g_aload_n (pc := 0) dX7_number_0 rfl trivial ?_
    refine g_getf (pc := 1) (v := .int _) dX7_number_1 fk_X7_93 (shK hSs rfl) (fun _ => congrArg Value.int (h11)) ?_
    refine g_if_eq (pc := 4) (tgt := 9) dX7_number_4 rfl (fun _ => ?_) (fun h4 => absurd (rfl) h4)
    refine g_aload_n (pc := 9) dX7_number_9 rfl trivial ?_
    refine g_invV_r (pc := 10) (As := []) dX7_number_10 rfl (q1) rfl rfl (shK hSs rfl) rfl rfl lk_X7_99 rfl (nb rfl) ⟨nb rfl, nb rfl⟩ rfl ?_
    refine g_i2l (pc := 13) dX7_number_13 rfl ?_
    refine g_ldc2 (pc := 14) dX7_number_14 wd_1345 ?_
    refine g_ldc2 (pc := 17) dX7_number_17 wd_1346 ?_
    refine g_invS_r (pc := 20) (As := [_, _, _]) dX7_number_20 rfl (r_in_t hh.1 hh.2) rfl rfl lk_X7_67 rfl (nb rfl) ⟨nb rfl, nb rfl⟩ rfl ?_
    refine g_if_ne (pc := 23) (tgt := 33) dX7_number_23 rfl (fun _ => ?_) (fun h23 => absurd ((by decide)) h23)
    refine g_iconst (pc := 33) (v := 0) dX7_number_33 rfl ?_
    refine g_istore_n (pc := 34) (lv' := [(0, _), (1, _), (2, _), (3, _)]) dX7_number_34 (nl rfl) rfl ?_
    refine go_while (pc := 35) (σ := Nat) (fun p => b ≤ p ∧ p ≤ len ∧ digP T len p = S) (fun p => len - p) (fun p => [(0, .ref 198), (1, .int lo), (2, .int hi), (3, .int (valG T b (p - b)))]) (fun p => psM M (p, nI b, s.2.2)) b ⟨rfl, rfl, rfl, by rw [Nat.sub_self]; rfl, trivial⟩ rfl ⟨Nat.le_refl _, hsk.2, hs.symm⟩ ?_
    rintro p ⟨h0, h1, h2⟩ ih
    have hS1 : Shp (psM M (p, nI b, s.2.2)) := hS
    have q2 := r_here (l := l) (s := (p, nI b, s.2.2)) hS hT hl hL h1
    have h9 : mI (psM M (p, nI b, s.2.2)) 198 9 = nI p := ps_9
    have hin2 := hv_in (T := T) (len := len) (p := p) (a := 48) (b := 57) (c := isDi) (by decide) isDi_iff
    by_cases hp2 : p < len ∧ isDi (T p) = true
    · have hh2 := hin2.mpr hp2
      rw [digP_s hp2.1 hp2.2] at h2
      have e9 : pI (psM M (p, nI b, s.2.2)) 198 9 (nI (p + 1)) = psM M (p + 1, nI b, s.2.2) := ps_p9 rfl
      have ih2 := ih (p + 1) ⟨by omega, hp2.1, h2⟩ (by omega)
      have ehv : hvF T len p = T (b + (p - b)) := by unfold hvF; rw [if_pos hp2.1]; congr 1; omega
      rw [show p + 1 - b = (p - b) + 1 by omega, valG] at ih2
      unfold least9 at ih2
      rw [ehv] at q2 hh2
      generalize psM M (p + 1, nI b, s.2.2) = M2 at *
      generalize psM M (p, nI b, s.2.2) = M1 at *
      refine g_aload_n (pc := 35) dX7_number_35 rfl trivial ?_
      refine g_invV_r (pc := 36) (As := []) dX7_number_36 rfl (q2) rfl rfl (shK hS1 rfl) rfl rfl lk_X7_87 rfl (nb rfl) ⟨nb rfl, nb rfl⟩ rfl ?_
      refine g_i2l (pc := 39) dX7_number_39 rfl ?_
      refine g_ldc2 (pc := 40) dX7_number_40 wd_1345 ?_
      refine g_ldc2 (pc := 43) dX7_number_43 wd_1346 ?_
      refine g_invS_r (pc := 46) (As := [_, _, _]) dX7_number_46 rfl (r_in_t hh2.1 hh2.2) rfl rfl lk_X7_67 rfl (nb rfl) ⟨nb rfl, nb rfl⟩ rfl ?_
      refine g_if_eq (pc := 49) (tgt := 83) dX7_number_49 rfl (fun h49 => absurd h49 ((by decide))) (fun _ => ?_)
      refine g_ldc (pc := 52) dX7_number_52 wd_1347 ?_
      refine g_bipush (pc := 54) (v := 10) dX7_number_54 rfl ?_
      refine g_iload_n (pc := 56) dX7_number_56 rfl ?_
      refine g_imul (pc := 57) dX7_number_57 ?_
      refine g_aload_n (pc := 58) dX7_number_58 rfl trivial ?_
      refine g_invV_r (pc := 59) (As := []) dX7_number_59 rfl (q2) rfl rfl (shK hS1 rfl) rfl rfl lk_X7_87 rfl (nb rfl) ⟨nb rfl, nb rfl⟩ rfl ?_
      refine g_iadd (pc := 62) dX7_number_62 ?_
      refine g_bipush (pc := 63) (v := 48) dX7_number_63 rfl ?_
      refine g_isub (pc := 65) dX7_number_65 ?_
      refine g_mmin (pc := 66) dX7_number_66 wd_1348 wd_430 wd_107 wd_431 (nb rfl) (nb rfl) ?_
      refine g_istore_n (pc := 69) (lv' := [(0, _), (1, _), (2, _), (3, _)]) dX7_number_69 (nl rfl) rfl ?_
      refine g_aload_n (pc := 70) dX7_number_70 rfl trivial ?_
      refine g_dup (pc := 71) dX7_number_71 rfl ?_
      refine g_getf (pc := 72) (v := .int _) dX7_number_72 fk_X7_84 (shK hS1 rfl) (fun _ => congrArg Value.int (h9)) ?_
      refine g_iconst (pc := 75) (v := 1) dX7_number_75 rfl ?_
      refine g_iadd (pc := 76) dX7_number_76 ?_
      rw [nI_1]
      refine g_putI (pc := 77) dX7_number_77 fp_X7_84 (shK hS1 rfl) ⟨rfl, rfl⟩ (fun _ _ _ _ => rfl) ?_
      refine go_cast e9 ?_
      refine g_goto (pc := 80) (tgt := 35) dX7_number_80 rfl ?_
      exact ih2
    · rw [digP_0 hp2] at h2
      subst h2
      have qf := r_fails (l := l) (M := M) (s := (p, nI b, s.2.2)) (k := 2) hS
      simp only at qf
      generalize valG T b (p - b) = v at *
      by_cases hr : lo ≤ v ∧ v ≤ hi
      · rw [if_pos hr, if_pos hr]
        have hr2 : lo.toInt64 ≤ v.toInt64 ∧ v.toInt64 ≤ hi.toInt64 := by rw [le_long, le_long]; exact hr
        generalize psM M (p, nI b, s.2.2) = M1 at *
        refine g_aload_n (pc := 35) dX7_number_35 rfl trivial ?_
        refine g_invV_r (pc := 36) (As := []) dX7_number_36 rfl (q2) rfl rfl (shK hS1 rfl) rfl rfl lk_X7_87 rfl (nb rfl) ⟨nb rfl, nb rfl⟩ rfl ?_
        refine g_i2l (pc := 39) dX7_number_39 rfl ?_
        refine g_ldc2 (pc := 40) dX7_number_40 wd_1345 ?_
        refine g_ldc2 (pc := 43) dX7_number_43 wd_1346 ?_
        refine g_invS_r (pc := 46) (As := [_, _, _]) dX7_number_46 rfl (r_in_f (fun z => hp2 (hin2.mp z))) rfl rfl lk_X7_67 rfl (nb rfl) ⟨nb rfl, nb rfl⟩ rfl ?_
        refine g_if_eq (pc := 49) (tgt := 83) dX7_number_49 rfl (fun _ => ?_) (fun h49 => absurd (rfl) h49)
        refine g_iload_n (pc := 83) dX7_number_83 rfl ?_
        refine g_i2l (pc := 84) dX7_number_84 rfl ?_
        refine g_iload_n (pc := 85) dX7_number_85 rfl ?_
        refine g_i2l (pc := 86) dX7_number_86 rfl ?_
        refine g_iload_n (pc := 87) dX7_number_87 rfl ?_
        refine g_i2l (pc := 88) dX7_number_88 rfl ?_
        refine g_invS_r (pc := 89) (As := [_, _, _]) dX7_number_89 rfl (r_in_t hr2.1 hr2.2) rfl rfl lk_X7_67 rfl (nb rfl) ⟨nb rfl, nb rfl⟩ rfl ?_
        refine g_if_ne (pc := 92) (tgt := 102) dX7_number_92 rfl (fun _ => ?_) (fun h92 => absurd ((by decide)) h92)
        refine g_iload_n (pc := 102) dX7_number_102 rfl ?_
        refine g_ireturn (pc := 103) dX7_number_103 rfl rfl ?_
        exact ⟨rfl, rfl⟩
      · rw [if_neg hr, if_neg hr]
        have hr2 : ¬ (lo.toInt64 ≤ v.toInt64 ∧ v.toInt64 ≤ hi.toInt64) := by rw [le_long, le_long]; exact hr
        generalize psM M (rFail 2 (nI b) (p, nI b, s.2.2)) = M3 at *
        generalize psM M (p, nI b, s.2.2) = M1 at *
        refine g_aload_n (pc := 35) dX7_number_35 rfl trivial ?_
        refine g_invV_r (pc := 36) (As := []) dX7_number_36 rfl (q2) rfl rfl (shK hS1 rfl) rfl rfl lk_X7_87 rfl (nb rfl) ⟨nb rfl, nb rfl⟩ rfl ?_
        refine g_i2l (pc := 39) dX7_number_39 rfl ?_
        refine g_ldc2 (pc := 40) dX7_number_40 wd_1345 ?_
        refine g_ldc2 (pc := 43) dX7_number_43 wd_1346 ?_
        refine g_invS_r (pc := 46) (As := [_, _, _]) dX7_number_46 rfl (r_in_f (fun z => hp2 (hin2.mp z))) rfl rfl lk_X7_67 rfl (nb rfl) ⟨nb rfl, nb rfl⟩ rfl ?_
        refine g_if_eq (pc := 49) (tgt := 83) dX7_number_49 rfl (fun _ => ?_) (fun h49 => absurd (rfl) h49)
        refine g_iload_n (pc := 83) dX7_number_83 rfl ?_
        refine g_i2l (pc := 84) dX7_number_84 rfl ?_
        refine g_iload_n (pc := 85) dX7_number_85 rfl ?_
        refine g_i2l (pc := 86) dX7_number_86 rfl ?_
        refine g_iload_n (pc := 87) dX7_number_87 rfl ?_
        refine g_i2l (pc := 88) dX7_number_88 rfl ?_
        refine g_invS_r (pc := 89) (As := [_, _, _]) dX7_number_89 rfl (r_in_f hr2) rfl rfl lk_X7_67 rfl (nb rfl) ⟨nb rfl, nb rfl⟩ rfl ?_
        refine g_if_ne (pc := 92) (tgt := 102) dX7_number_92 rfl (fun h92 => absurd h92 ((fun z => z rfl))) (fun _ => ?_)
        refine g_aload_n (pc := 95) dX7_number_95 rfl trivial ?_
        refine g_iconst (pc := 96) (v := 2) dX7_number_96 rfl ?_
        refine g_invV_r (pc := 97) (As := [_]) dX7_number_97 rfl (qf) rfl rfl (shK hS1 rfl) rfl rfl lk_X7_118 rfl (nb rfl) ⟨nb rfl, nb rfl⟩ rfl ?_
        refine g_iload_n (pc := 100) dX7_number_100 rfl ?_
        refine g_ireturn (pc := 101) dX7_number_101 rfl rfl ?_
        exact ⟨rfl, rfl⟩
  · have e9 : b = S := by rw [hs]; exact (digP_0 hd).symm
    rw [if_pos e9, if_pos e9]
    subst e9
    have qf := r_fails (l := l) (M := M) (s := (b, nI b, s.2.2)) (k := 1) hS
    simp only at qf
    generalize psM M (rFail 1 (nI b) (b, nI b, s.2.2)) = M3 at *
    generalize psM M (b, nI b, s.2.2) = M1 at *
    refine g_aload_n (pc := 0) dX7_number_0 rfl trivial ?_
    refine g_getf (pc := 1) (v := .int _) dX7_number_1 fk_X7_93 (shK hSs rfl) (fun _ => congrArg Value.int (h11)) ?_
    refine g_if_eq (pc := 4) (tgt := 9) dX7_number_4 rfl (fun _ => ?_) (fun h4 => absurd (rfl) h4)
    refine g_aload_n (pc := 9) dX7_number_9 rfl trivial ?_
    refine g_invV_r (pc := 10) (As := []) dX7_number_10 rfl (q1) rfl rfl (shK hSs rfl) rfl rfl lk_X7_99 rfl (nb rfl) ⟨nb rfl, nb rfl⟩ rfl ?_
    refine g_i2l (pc := 13) dX7_number_13 rfl ?_
    refine g_ldc2 (pc := 14) dX7_number_14 wd_1345 ?_
    refine g_ldc2 (pc := 17) dX7_number_17 wd_1346 ?_
    refine g_invS_r (pc := 20) (As := [_, _, _]) dX7_number_20 rfl (r_in_f (fun z => hd (hin.mp z))) rfl rfl lk_X7_67 rfl (nb rfl) ⟨nb rfl, nb rfl⟩ rfl ?_
    refine g_if_ne (pc := 23) (tgt := 33) dX7_number_23 rfl (fun h23 => absurd h23 ((fun z => z rfl))) (fun _ => ?_)
    refine g_aload_n (pc := 26) dX7_number_26 rfl trivial ?_
    refine g_iconst (pc := 27) (v := 1) dX7_number_27 rfl ?_
    refine g_invV_r (pc := 28) (As := [_]) dX7_number_28 rfl (qf) rfl rfl (shK hS0 rfl) rfl rfl lk_X7_118 rfl (nb rfl) ⟨nb rfl, nb rfl⟩ rfl ?_
    refine g_iload_n (pc := 31) dX7_number_31 rfl ?_
    refine g_ireturn (pc := 32) dX7_number_32 rfl rfl ?_
    exact ⟨rfl, rfl⟩
end
end
-- 312.rr
section
/-! the reference reads: numbers as the class reads them, edges, closures to keep -/
theorem scan_all (c : Int32 → Bool) (T : Nat → Int32) : ∀ d p i, p ≤ i → i < scan c T d p → c (T i) = true
  | 0, p, i, h, h2 => by rw [scan] at h2; omega
  | d + 1, p, i, h, h2 => by
    rw [scan] at h2
    by_cases hc : c (T p) = true
    · rw [if_pos hc] at h2
      by_cases e : i = p
      · rw [e]; exact hc
      · exact scan_all c T d (p + 1) i (by omega) h2
    · rw [if_neg hc] at h2; omega
theorem di_n {v : Int32} (h : isDi v = true) : ∃ d, d ≤ 9 ∧ v = nI (48 + d) := by
  obtain ⟨h1, h2⟩ := (isDi_iff v).mp h
  rw [Int32.le_iff_toInt_le] at h1 h2
  have a1 : (48 : Int32).toInt = 48 := rfl
  have a2 : (57 : Int32).toInt = 57 := rfl
  rw [a1] at h1
  rw [a2] at h2
  refine ⟨(v.toInt - 48).toNat, by omega, Int32.toInt_inj.mp ?_⟩
  rw [nI_toInt (by omega)]
  omega
theorem dig_step {a d : Nat} (ha : a ≤ 10000000) (hd : d ≤ 9) : 10 * nI a + nI (48 + d) - 48 = nI (10 * a + d) := by
  rw [show (10 : Int32) = nI 10 from rfl, nI_mul, nI_add, show (48 : Int32) = nI 48 from rfl, nI_sub' (by omega)]
  congr 1
  omega
theorem least_n {a b : Nat} (ha : a < 2147483648) (hb9 : b < 2147483648) : least9 (nI a) (nI b) = nI (min a b) := by
  unfold least9
  by_cases h : b < a
  · rw [if_pos (nI_lt h ha), Nat.min_eq_right (by omega)]
  · rw [if_neg (nI_nlt (by omega) hb9), Nat.min_eq_left (by omega)]
theorem val_FG (T : Nat → Int32) (q : Nat) : ∀ k, (∀ i, q ≤ i → i < q + k → isDi (T i) = true) → ∃ a g, valF T q k = nI a ∧ valG T q k = nI g ∧ a ≤ 1000 ∧ g ≤ 10000000 ∧ ((a = g ∧ a < 1000) ∨ (a = 1000 ∧ 1000 ≤ g))
  | 0, _ => ⟨0, 0, rfl, rfl, by omega, by omega, Or.inl ⟨rfl, by omega⟩⟩
  | k + 1, h => by
    obtain ⟨a, g, h1, h2, h3, h4, h5⟩ := val_FG T q k (fun i hi hj => h i hi (by omega))
    obtain ⟨d, d1, d2⟩ := di_n (h (q + k) (by omega) (by omega))
    refine ⟨min (10 * a + d) 1000, min 10000000 (10 * g + d), ?_, ?_, by omega, by omega, by omega⟩
    · rw [valF, h1, d2, dig_step (by omega) d1, show (1000 : Int32) = nI 1000 from rfl, least_n (by omega) (by omega)]
    · rw [valG, h2, d2, dig_step (by omega) d1, show (10000000 : Int32) = nI 10000000 from rfl, least_n (by omega) (by omega)]
section
variable {T : Nat → Int32} {len : Nat} {s : RP}
theorem num_FG (p : Nat) : ∃ a g, numV T len p = nI a ∧ numG T len p = nI g ∧ a ≤ 1000 ∧ g ≤ 10000000 ∧ ((a = g ∧ a < 1000) ∨ (a = 1000 ∧ 1000 ≤ g)) := by
  refine val_FG T (skipP T len p) _ (fun i hi hj => ?_)
  refine scan_all isDi T (len - skipP T len p) (skipP T len p) i hi ?_
  have hle := (scan_le isDi T (len - skipP T len p) (skipP T len p)).1
  show i < digP T len (skipP T len p)
  have : skipP T len p ≤ digP T len (skipP T len p) := hle
  omega
theorem num_rng {lo hi : Int32} (p : Nat) (hhi : hi < 1000) : (lo ≤ numG T len p ∧ numG T len p ≤ hi) ↔ ¬ (numV T len p < lo ∨ hi < numV T len p) := by
  obtain ⟨a, g, h1, h2, h3, h4, h5⟩ := num_FG (T := T) (len := len) p
  rw [h1, h2]
  have e1 : (1000 : Int32).toInt = 1000 := rfl
  simp only [Int32.le_iff_toInt_le, Int32.lt_iff_toInt_lt, nI_toInt (show a < 2 ^ 31 by omega), nI_toInt (show g < 2 ^ 31 by omega)] at *
  rw [e1] at hhi
  omega
theorem num_val {lo hi : Int32} (p : Nat) (hhi : hi < 1000) (h : lo ≤ numG T len p ∧ numG T len p ≤ hi) : numG T len p = numV T len p := by
  obtain ⟨a, g, h1, h2, h3, h4, h5⟩ := num_FG (T := T) (len := len) p
  rw [h2] at h
  rw [h1, h2]
  have e1 : (1000 : Int32).toInt = 1000 := rfl
  have h6 := h.2
  rw [Int32.le_iff_toInt_le, nI_toInt (by omega)] at h6
  rw [Int32.lt_iff_toInt_lt, e1] at hhi
  congr 1
  omega
theorem rFail_e {k a : Int32} (h : s.2.2.2.1 ≠ 0) : rFail k a s = s := by unfold rFail; rw [if_neg h]
theorem rFail_0 {k a : Int32} (h : s.2.2.2.1 = 0) : rFail k a s = (s.1, s.2.1, s.2.2.1, k, a) := by unfold rFail; rw [if_pos h]
theorem tdg0_e : (tdg0 T len s).2.2.2.1 = s.2.2.2.1 := rfl
theorem tnm_G {lo hi : Int32} (hhi : hi < 1000) (he : s.2.2.2.1 = 0) : tnm T len lo hi s = (if skipP T len s.1 = digP T len (skipP T len s.1) then rFail 1 (nI (skipP T len s.1)) (tdg0 T len s) else if lo ≤ numG T len s.1 ∧ numG T len s.1 ≤ hi then tdg0 T len s else rFail 2 (nI (skipP T len s.1)) (tdg0 T len s)) := by
  unfold tnm tdg
  by_cases h : skipP T len s.1 = digP T len (skipP T len s.1)
  · rw [if_pos h, if_pos h]
    have h2 : (rFail 1 (nI (skipP T len s.1)) (tdg0 T len s)).2.2.2.1 ≠ 0 := by
      rw [rFail_0 (show (tdg0 T len s).2.2.2.1 = 0 from he)]; exact (by decide : (1 : Int32) ≠ 0)
    rw [rFail_e h2, ite_self]
  · rw [if_neg h, if_neg h]
    by_cases h3 : lo ≤ numG T len s.1 ∧ numG T len s.1 ≤ hi
    · rw [if_pos h3, if_neg ((num_rng s.1 hhi).mp h3)]
    · rw [if_neg h3, if_pos (Classical.byContradiction fun q => h3 ((num_rng s.1 hhi).mpr q))]
theorem tnv_G {lo hi : Int32} (hhi : hi < 1000) (he : s.2.2.2.1 = 0) : tnv T len lo hi s = (if skipP T len s.1 = digP T len (skipP T len s.1) then lo else if lo ≤ numG T len s.1 ∧ numG T len s.1 ≤ hi then numG T len s.1 else lo) := by
  unfold tnv
  rw [tnm_G hhi he]
  have h0 : (tdg0 T len s).2.2.2.1 = 0 := he
  by_cases h : skipP T len s.1 = digP T len (skipP T len s.1)
  · rw [if_pos h, if_pos h, rFail_0 h0, if_neg (show ¬ (1 : Int32) = 0 by decide)]
  · rw [if_neg h, if_neg h]
    by_cases h3 : lo ≤ numG T len s.1 ∧ numG T len s.1 ≤ hi
    · rw [if_pos h3, if_pos h3, if_pos h0, num_val s.1 hhi h3]
    · rw [if_neg h3, if_neg h3, rFail_0 h0, if_neg (show ¬ (2 : Int32) = 0 by decide)]
/-- a number is read where no error was -/
def nmS (T : Nat → Int32) (len : Nat) (lo hi : Int32) (s : RP) : RP := if s.2.2.2.1 = 0 then tnm T len lo hi s else s
def nmV (T : Nat → Int32) (len : Nat) (lo hi : Int32) (s : RP) : Int32 := if s.2.2.2.1 = 0 then tnv T len lo hi s else lo
def nmN (T : Nat → Int32) (len h : Nat) (s : RP) : Nat := (nmV T len 0 (nI h) s).toNatClampNeg
theorem nmS_le {lo hi : Int32} (hp : s.1 ≤ len) : (nmS T len lo hi s).1 ≤ len := by
  unfold nmS; split
  · exact tnm_le hp
  · exact hp
theorem nmN_ok {h : Nat} (hh : h < 2147483648) : nmV T len 0 (nI h) s = nI (nmN T len h s) ∧ nmN T len h s ≤ h := by
  unfold nmN nmV
  by_cases he : s.2.2.2.1 = 0
  · rw [if_pos he]
    have := tnN_ok T len hh s
    unfold tnN at this
    exact this
  · rw [if_neg he]
    exact ⟨rfl, Nat.zero_le _⟩
end
section
variable {l : Launch} {M : Mem} {s : RP} {len n : Nat} {T : Nat → Int32}
theorem r_numR {lo hi : Int32} (hS : Shp M) (hT : txt M T len) (hl : mI M 198 8 = nI len) (hL : len ≤ 600) (hp : s.1 ≤ len) (hhi : hi < 1000) : EvR l jX7_number 2 60 0 0 [.ref 198, .int lo, .int hi] (psM M s) (.inl (some (.int (nmV T len lo hi s)))) (psM M (nmS T len lo hi s)) := by
  unfold nmV nmS
  by_cases he : s.2.2.2.1 = 0
  · rw [if_pos he, if_pos he, tnm_G hhi he, tnv_G hhi he]
    exact r_numberG hS hT hl hL hp he
  · rw [if_neg he, if_neg he]
    exact r_number_e hS he
theorem r_readSlot (hS : Shp M) (hT : txt M T len) (hl : mI M 198 8 = nI len) (hL : len ≤ 600) (hp : s.1 ≤ len) : EvR l jX7_readSlot 3 90 0 0 [.ref 198] (psM M s) (.inl (some (.int (nI (nmN T len 5 s))))) (psM M (nmS T len 0 (nI 5) s)) := by
  have q1 := r_numR (l := l) (s := s) (lo := 0) (hi := nI 5) hS hT hl hL hp (by decide)
  rw [(nmN_ok (T := T) (len := len) (s := s) (h := 5) (by decide)).1] at q1
  have hS1 : Shp (psM M s) := hS
  generalize psM M (nmS T len 0 (nI 5) s) = M2 at *
  generalize psM M s = M1 at *
  refine ev_intro rfl (nb rfl) rfl ?_
  refine g_aload_n (pc := 0) dX7_readSlot_0 rfl trivial ?_
  refine g_iconst (pc := 1) (v := 0) dX7_readSlot_1 rfl ?_
  refine g_iconst (pc := 2) (v := 5) dX7_readSlot_2 rfl ?_
  refine g_invV_r (pc := 3) (As := [_, _]) dX7_readSlot_3 rfl (q1) rfl rfl (shK hS1 rfl) rfl rfl lk_X7_129 rfl (nb rfl) ⟨nb rfl, nb rfl⟩ rfl ?_
  refine g_ireturn (pc := 6) dX7_readSlot_6 rfl rfl ?_
  exact ⟨rfl, rfl⟩
theorem r_readNode (hS : Shp M) (hT : txt M T len) (hl : mI M 198 8 = nI len) (hL : len ≤ 600) (hp : s.1 ≤ len) (hz : mL M 200 0 = lN n) (hn : 1 ≤ n) (hn9 : n ≤ 32) : EvR l jX7_readNode 3 90 0 0 [.ref 198] (psM M s) (.inl (some (.int (nI (nmN T len (n - 1) s))))) (psM M (nmS T len 0 (nI (n - 1)) s)) := by
  have q1 := r_numR (l := l) (s := s) (lo := 0) (hi := nI (n - 1)) hS hT hl hL hp (nI_lt (b := 1000) (by omega) (by decide))
  rw [(nmN_ok (T := T) (len := len) (s := s) (h := n - 1) (by omega)).1] at q1
  have hS1 : Shp (psM M s) := hS
  have hz1 : mL (psM M s) 200 0 = lN n := hz
  generalize psM M (nmS T len 0 (nI (n - 1)) s) = M2 at *
  generalize psM M s = M1 at *
  refine ev_intro rfl (nb rfl) rfl ?_
  refine g_aload_n (pc := 0) dX7_readNode_0 rfl trivial ?_
  refine g_iconst (pc := 1) (v := 0) dX7_readNode_1 rfl ?_
  refine g_aload_n (pc := 2) dX7_readNode_2 rfl trivial ?_
  refine g_getf (pc := 3) dX7_readNode_3 fk_X7_13 (shK hS1 rfl) (fv_arr (shR hS1 rfl)) ?_
  refine g_iconst (pc := 6) (v := 0) dX7_readNode_6 rfl ?_
  refine g_laload (pc := 7) dX7_readNode_7 (shK hS1 rfl) rfl (by decide) (nl rfl) ?_
  rw [hz1]
  refine g_l2i (pc := 8) dX7_readNode_8 (lN_i n) ?_
  refine g_iconst (pc := 9) (v := 1) dX7_readNode_9 rfl ?_
  refine g_isub (pc := 10) dX7_readNode_10 ?_
  rw [nI_m1 hn]
  refine g_invV_r (pc := 11) (As := [_, _]) dX7_readNode_11 rfl (q1) rfl rfl (shK hS1 rfl) rfl rfl lk_X7_129 rfl (nb rfl) ⟨nb rfl, nb rfl⟩ rfl ?_
  refine g_ireturn (pc := 14) dX7_readNode_14 rfl rfl ?_
  exact ⟨rfl, rfl⟩
/-- an edge read: the rows, the numbers -/
def gE (T : Nat → Int32) (len n : Nat) (u : Nat → Int64) (s : RP) : (Nat → Int64) × RP :=
  (if (nmS T len 0 (nI (n - 1)) (nmS T len 0 (nI (n - 1)) (nmS T len 0 (nI 5) s))).2.2.2.1 = 0 then fun_set u (28 + 32 * nmN T len 5 s + nmN T len (n - 1) (nmS T len 0 (nI 5) s)) (u (28 + 32 * nmN T len 5 s + nmN T len (n - 1) (nmS T len 0 (nI 5) s)) ||| uL (bitI (nmN T len (n - 1) (nmS T len 0 (nI (n - 1)) (nmS T len 0 (nI 5) s))))) else u,
    nmS T len 0 (nI (n - 1)) (nmS T len 0 (nI (n - 1)) (nmS T len 0 (nI 5) s)))
theorem r_edgePart (hS : Shp M) (hT : txt M T len) (hl : mI M 198 8 = nI len) (hL : len ≤ 600) (hp : s.1 ≤ len) (hz : mL M 200 0 = lN n) (hn : 1 ≤ n) (hn9 : n ≤ 32) : EvR l jX7_edgePart 4 130 0 0 [.ref 198] (psM M s) (.inl none) (psM (sL M 200 (gE T len n (mL M 200) s).1) (gE T len n (mL M 200) s).2) := by
  have q1 := r_readSlot (l := l) (s := s) hS hT hl hL hp
  have ha := (nmN_ok (T := T) (len := len) (s := s) (h := 5) (by decide)).2
  unfold gE
  generalize nmN T len 5 s = a at *
  have hp1 := nmS_le (T := T) (lo := 0) (hi := nI 5) hp
  generalize nmS T len 0 (nI 5) s = s1 at *
  have q2 := r_readNode (l := l) (s := s1) hS hT hl hL hp1 hz hn hn9
  have hr := (nmN_ok (T := T) (len := len) (s := s1) (h := n - 1) (by omega)).2
  generalize nmN T len (n - 1) s1 = r at *
  have hp2 := nmS_le (T := T) (lo := 0) (hi := nI (n - 1)) hp1
  generalize nmS T len 0 (nI (n - 1)) s1 = s2 at *
  have q3 := r_readNode (l := l) (s := s2) hS hT hl hL hp2 hz hn hn9
  have hc := (nmN_ok (T := T) (len := len) (s := s2) (h := n - 1) (by omega)).2
  generalize nmN T len (n - 1) s2 = c at *
  generalize nmS T len 0 (nI (n - 1)) s2 = s3 at *
  have h11 : mI (psM M s3) 198 11 = s3.2.2.2.1 := ps_11
  have hS0 : Shp (psM M s) := hS
  have hS1 : Shp (psM M s1) := hS
  have hS2 : Shp (psM M s2) := hS
  have hS3 : Shp (psM M s3) := hS
  have eu : mL (psM M s3) 200 = mL M 200 := rfl
  have eP : ∀ w, sL (psM M s3) 200 w = psM (sL M 200 w) s3 := fun w => ps_sL
  refine ev_intro rfl (nb rfl) rfl ?_
  by_cases he : s3.2.2.2.1 = 0
  · rw [if_pos he]
    simp only
    rw [← eP, ← eu]
    generalize psM M s3 = M3 at *
    generalize psM M s2 = M2 at *
    generalize psM M s1 = M1 at *
    generalize psM M s = M0 at *
    refine g_aload_n (pc := 0) dX7_edgePart_0 rfl trivial ?_
    refine g_invV_r (pc := 1) (As := []) dX7_edgePart_1 rfl (q1) rfl rfl (shK hS0 rfl) rfl rfl lk_X7_140 rfl (nb rfl) ⟨nb rfl, nb rfl⟩ rfl ?_
    refine g_istore_n (pc := 4) (lv' := [(0, _), (1, _)]) dX7_edgePart_4 (nl rfl) rfl ?_
    refine g_aload_n (pc := 5) dX7_edgePart_5 rfl trivial ?_
    refine g_invV_r (pc := 6) (As := []) dX7_edgePart_6 rfl (q2) rfl rfl (shK hS1 rfl) rfl rfl lk_X7_143 rfl (nb rfl) ⟨nb rfl, nb rfl⟩ rfl ?_
    refine g_istore_n (pc := 9) (lv' := [(0, _), (1, _), (2, _)]) dX7_edgePart_9 (nl rfl) rfl ?_
    refine g_aload_n (pc := 10) dX7_edgePart_10 rfl trivial ?_
    refine g_invV_r (pc := 11) (As := []) dX7_edgePart_11 rfl (q3) rfl rfl (shK hS2 rfl) rfl rfl lk_X7_143 rfl (nb rfl) ⟨nb rfl, nb rfl⟩ rfl ?_
    refine g_istore_n (pc := 14) (lv' := [(0, _), (1, _), (2, _), (3, _)]) dX7_edgePart_14 (nl rfl) rfl ?_
    refine g_aload_n (pc := 15) dX7_edgePart_15 rfl trivial ?_
    refine g_getf (pc := 16) (v := .int _) dX7_edgePart_16 fk_X7_93 (shK hS3 rfl) (fun _ => congrArg Value.int (h11)) ?_
    refine g_if_ne (pc := 19) (tgt := 42) dX7_edgePart_19 rfl (fun h19 => absurd h19 ((fun z => z he))) (fun _ => ?_)
    refine g_aload_n (pc := 22) dX7_edgePart_22 rfl trivial ?_
    refine g_getf (pc := 23) dX7_edgePart_23 fk_X7_13 (shK hS3 rfl) (fv_arr (shR hS3 rfl)) ?_
    refine g_bipush (pc := 26) (v := 28) dX7_edgePart_26 rfl ?_
    refine g_bipush (pc := 28) (v := 32) dX7_edgePart_28 rfl ?_
    refine g_iload_n (pc := 30) dX7_edgePart_30 rfl ?_
    refine g_imul (pc := 31) dX7_edgePart_31 ?_
    refine g_iadd (pc := 32) dX7_edgePart_32 ?_
    refine g_iload_n (pc := 33) dX7_edgePart_33 rfl ?_
    refine g_iadd (pc := 34) dX7_edgePart_34 ?_
    rw [ixR]
    refine g_dup2_11 (pc := 35) dX7_edgePart_35 rfl rfl ?_
    refine g_laload (pc := 36) dX7_edgePart_36 (shK hS3 rfl) rfl (show 28 + 32 * a + r < 220 by omega) (nl rfl) ?_
    refine g_lconst (pc := 37) (v := 1) dX7_edgePart_37 rfl ?_
    refine g_iload_n (pc := 38) dX7_edgePart_38 rfl ?_
    refine g_lshl (pc := 39) dX7_edgePart_39 rfl ?_
    rw [sh_bit c (by omega)]
    refine g_lor (pc := 40) dX7_edgePart_40 ?_
    refine g_lastore (pc := 41) dX7_edgePart_41 (shK hS3 rfl) rfl (show 28 + 32 * a + r < 220 by omega) (nl rfl) ?_
    refine g_return (pc := 42) dX7_edgePart_42 rfl ?_
    exact ⟨rfl, rfl⟩
  · rw [if_neg he]
    simp only
    have e9 : psM (sL M 200 (mL M 200)) s3 = psM M s3 := by rw [sL_id]
    rw [e9]
    generalize psM M s3 = M3 at *
    generalize psM M s2 = M2 at *
    generalize psM M s1 = M1 at *
    generalize psM M s = M0 at *
    refine g_aload_n (pc := 0) dX7_edgePart_0 rfl trivial ?_
    refine g_invV_r (pc := 1) (As := []) dX7_edgePart_1 rfl (q1) rfl rfl (shK hS0 rfl) rfl rfl lk_X7_140 rfl (nb rfl) ⟨nb rfl, nb rfl⟩ rfl ?_
    refine g_istore_n (pc := 4) (lv' := [(0, _), (1, _)]) dX7_edgePart_4 (nl rfl) rfl ?_
    refine g_aload_n (pc := 5) dX7_edgePart_5 rfl trivial ?_
    refine g_invV_r (pc := 6) (As := []) dX7_edgePart_6 rfl (q2) rfl rfl (shK hS1 rfl) rfl rfl lk_X7_143 rfl (nb rfl) ⟨nb rfl, nb rfl⟩ rfl ?_
    refine g_istore_n (pc := 9) (lv' := [(0, _), (1, _), (2, _)]) dX7_edgePart_9 (nl rfl) rfl ?_
    refine g_aload_n (pc := 10) dX7_edgePart_10 rfl trivial ?_
    refine g_invV_r (pc := 11) (As := []) dX7_edgePart_11 rfl (q3) rfl rfl (shK hS2 rfl) rfl rfl lk_X7_143 rfl (nb rfl) ⟨nb rfl, nb rfl⟩ rfl ?_
    refine g_istore_n (pc := 14) (lv' := [(0, _), (1, _), (2, _), (3, _)]) dX7_edgePart_14 (nl rfl) rfl ?_
    refine g_aload_n (pc := 15) dX7_edgePart_15 rfl trivial ?_
    refine g_getf (pc := 16) (v := .int _) dX7_edgePart_16 fk_X7_93 (shK hS3 rfl) (fun _ => congrArg Value.int (h11)) ?_
    refine g_if_ne (pc := 19) (tgt := 42) dX7_edgePart_19 rfl (fun _ => ?_) (fun h19 => absurd (he) h19)
    refine g_return (pc := 42) dX7_edgePart_42 rfl ?_
    exact ⟨rfl, rfl⟩
def gK (T : Nat → Int32) (len : Nat) (u : Nat → Int64) (s : RP) : (Nat → Int64) × RP :=
  (fun_set u (4 + nmN T len 5 s) 1, if (nmS T len 0 (nI 5) s).2.2.2.1 = 0 ∧ u (4 + nmN T len 5 s) = 1 then rFail 3 (nmS T len 0 (nI 5) s).2.1 (nmS T len 0 (nI 5) s) else nmS T len 0 (nI 5) s)
theorem r_keepPart (hS : Shp M) (hT : txt M T len) (hl : mI M 198 8 = nI len) (hL : len ≤ 600) (hp : s.1 ≤ len) : EvR l jX7_keepPart 4 130 0 0 [.ref 198] (psM M s) (.inl none) (psM (sL M 200 (gK T len (mL M 200) s).1) (gK T len (mL M 200) s).2) := by
  have q1 := r_readSlot (l := l) (s := s) hS hT hl hL hp
  have ha := (nmN_ok (T := T) (len := len) (s := s) (h := 5) (by decide)).2
  unfold gK
  generalize nmN T len 5 s = a at *
  generalize nmS T len 0 (nI 5) s = s1 at *
  have i4 : 4 + nI a = nI (4 + a) := nI_add 4 a
  have h11 : mI (psM M s1) 198 11 = s1.2.2.2.1 := ps_11
  have hS0 : Shp (psM M s) := hS
  have hS1 : Shp (psM M s1) := hS
  have qf := r_fails (l := l) (M := M) (s := s1) (k := 3) hS
  have eu : mL (psM M s1) 200 = mL M 200 := rfl
  have hS2 : Shp (psM M (rFail 3 s1.2.1 s1)) := hS
  have eP : ∀ w t, psM (sL M 200 w) t = sL (psM M t) 200 w := fun w t => ps_sL.symm
  have eu2 : ∀ t, mL M 200 = mL (psM M t) 200 := fun t => rfl
  refine ev_intro rfl (nb rfl) rfl ?_
  simp only
  by_cases he : s1.2.2.2.1 = 0
  · by_cases h1 : mL M 200 (4 + a) = 1
    · rw [if_pos ⟨he, h1⟩, eP]
      rw [show fun_set (mL M 200) (4 + a) 1 = fun_set (mL (psM M (rFail 3 s1.2.1 s1)) 200) (4 + a) 1 from rfl]
      have h1' : mL (psM M s1) 200 (4 + a) = 1 := h1
      generalize psM M (rFail 3 s1.2.1 s1) = M2 at *
      generalize psM M s1 = M1 at *
      generalize psM M s = M0 at *
      refine g_aload_n (pc := 0) dX7_keepPart_0 rfl trivial ?_
      refine g_invV_r (pc := 1) (As := []) dX7_keepPart_1 rfl (q1) rfl rfl (shK hS0 rfl) rfl rfl lk_X7_140 rfl (nb rfl) ⟨nb rfl, nb rfl⟩ rfl ?_
      refine g_istore_n (pc := 4) (lv' := [(0, _), (1, _)]) dX7_keepPart_4 (nl rfl) rfl ?_
      refine g_aload_n (pc := 5) dX7_keepPart_5 rfl trivial ?_
      refine g_getf (pc := 6) (v := .int _) dX7_keepPart_6 fk_X7_93 (shK hS1 rfl) (fun _ => congrArg Value.int (h11)) ?_
      refine g_if_ne (pc := 9) (tgt := 30) dX7_keepPart_9 rfl (fun h9 => absurd h9 ((fun z => z he))) (fun _ => ?_)
      refine g_aload_n (pc := 12) dX7_keepPart_12 rfl trivial ?_
      refine g_getf (pc := 13) dX7_keepPart_13 fk_X7_13 (shK hS1 rfl) (fv_arr (shR hS1 rfl)) ?_
      refine g_iconst (pc := 16) (v := 4) dX7_keepPart_16 rfl ?_
      refine g_iload_n (pc := 17) dX7_keepPart_17 rfl ?_
      refine g_iadd (pc := 18) dX7_keepPart_18 ?_
      rw [i4]
      refine g_laload (pc := 19) dX7_keepPart_19 (shK hS1 rfl) rfl (show 4 + a < 220 by omega) (nl rfl) ?_
      rw [h1']
      refine g_lconst (pc := 20) (v := 1) dX7_keepPart_20 rfl ?_
      refine g_lcmp (pc := 21) dX7_keepPart_21 ?_
      refine g_if_ne (pc := 22) (tgt := 30) dX7_keepPart_22 rfl (fun h22 => absurd h22 ((by decide))) (fun _ => ?_)
      refine g_aload_n (pc := 25) dX7_keepPart_25 rfl trivial ?_
      refine g_iconst (pc := 26) (v := 3) dX7_keepPart_26 rfl ?_
      refine g_invV_r (pc := 27) (As := [_]) dX7_keepPart_27 rfl (qf) rfl rfl (shK hS1 rfl) rfl rfl lk_X7_118 rfl (nb rfl) ⟨nb rfl, nb rfl⟩ rfl ?_
      refine g_aload_n (pc := 30) dX7_keepPart_30 rfl trivial ?_
      refine g_getf (pc := 31) dX7_keepPart_31 fk_X7_13 (shK hS2 rfl) (fv_arr (shR hS2 rfl)) ?_
      refine g_iconst (pc := 34) (v := 4) dX7_keepPart_34 rfl ?_
      refine g_iload_n (pc := 35) dX7_keepPart_35 rfl ?_
      refine g_iadd (pc := 36) dX7_keepPart_36 ?_
      rw [i4]
      refine g_lconst (pc := 37) (v := 1) dX7_keepPart_37 rfl ?_
      refine g_lastore (pc := 38) dX7_keepPart_38 (shK hS2 rfl) rfl (show 4 + a < 220 by omega) (nl rfl) ?_
      refine g_return (pc := 39) dX7_keepPart_39 rfl ?_
      exact ⟨rfl, rfl⟩
    · rw [if_neg (fun z => h1 z.2), eP]
      rw [show fun_set (mL M 200) (4 + a) 1 = fun_set (mL (psM M s1) 200) (4 + a) 1 from rfl]
      have h1' : ¬ mL (psM M s1) 200 (4 + a) = 1 := h1
      generalize psM M s1 = M1 at *
      generalize psM M s = M0 at *
      refine g_aload_n (pc := 0) dX7_keepPart_0 rfl trivial ?_
      refine g_invV_r (pc := 1) (As := []) dX7_keepPart_1 rfl (q1) rfl rfl (shK hS0 rfl) rfl rfl lk_X7_140 rfl (nb rfl) ⟨nb rfl, nb rfl⟩ rfl ?_
      refine g_istore_n (pc := 4) (lv' := [(0, _), (1, _)]) dX7_keepPart_4 (nl rfl) rfl ?_
      refine g_aload_n (pc := 5) dX7_keepPart_5 rfl trivial ?_
      refine g_getf (pc := 6) (v := .int _) dX7_keepPart_6 fk_X7_93 (shK hS1 rfl) (fun _ => congrArg Value.int (h11)) ?_
      refine g_if_ne (pc := 9) (tgt := 30) dX7_keepPart_9 rfl (fun h9 => absurd h9 ((fun z => z he))) (fun _ => ?_)
      refine g_aload_n (pc := 12) dX7_keepPart_12 rfl trivial ?_
      refine g_getf (pc := 13) dX7_keepPart_13 fk_X7_13 (shK hS1 rfl) (fv_arr (shR hS1 rfl)) ?_
      refine g_iconst (pc := 16) (v := 4) dX7_keepPart_16 rfl ?_
      refine g_iload_n (pc := 17) dX7_keepPart_17 rfl ?_
      refine g_iadd (pc := 18) dX7_keepPart_18 ?_
      rw [i4]
      refine g_laload (pc := 19) dX7_keepPart_19 (shK hS1 rfl) rfl (show 4 + a < 220 by omega) (nl rfl) ?_
      refine g_lconst (pc := 20) (v := 1) dX7_keepPart_20 rfl ?_
      refine g_lcmp (pc := 21) dX7_keepPart_21 ?_
      refine g_if_ne (pc := 22) (tgt := 30) dX7_keepPart_22 rfl (fun _ => ?_) (fun h22 => absurd ((fun z => h1' ((lg_cmp_eq _ _).mp z))) h22)
      refine g_aload_n (pc := 30) dX7_keepPart_30 rfl trivial ?_
      refine g_getf (pc := 31) dX7_keepPart_31 fk_X7_13 (shK hS1 rfl) (fv_arr (shR hS1 rfl)) ?_
      refine g_iconst (pc := 34) (v := 4) dX7_keepPart_34 rfl ?_
      refine g_iload_n (pc := 35) dX7_keepPart_35 rfl ?_
      refine g_iadd (pc := 36) dX7_keepPart_36 ?_
      rw [i4]
      refine g_lconst (pc := 37) (v := 1) dX7_keepPart_37 rfl ?_
      refine g_lastore (pc := 38) dX7_keepPart_38 (shK hS1 rfl) rfl (show 4 + a < 220 by omega) (nl rfl) ?_
      refine g_return (pc := 39) dX7_keepPart_39 rfl ?_
      exact ⟨rfl, rfl⟩
  · rw [if_neg (fun z => he z.1), eP]
    rw [show fun_set (mL M 200) (4 + a) 1 = fun_set (mL (psM M s1) 200) (4 + a) 1 from rfl]
    generalize psM M s1 = M1 at *
    generalize psM M s = M0 at *
    refine g_aload_n (pc := 0) dX7_keepPart_0 rfl trivial ?_
    refine g_invV_r (pc := 1) (As := []) dX7_keepPart_1 rfl (q1) rfl rfl (shK hS0 rfl) rfl rfl lk_X7_140 rfl (nb rfl) ⟨nb rfl, nb rfl⟩ rfl ?_
    refine g_istore_n (pc := 4) (lv' := [(0, _), (1, _)]) dX7_keepPart_4 (nl rfl) rfl ?_
    refine g_aload_n (pc := 5) dX7_keepPart_5 rfl trivial ?_
    refine g_getf (pc := 6) (v := .int _) dX7_keepPart_6 fk_X7_93 (shK hS1 rfl) (fun _ => congrArg Value.int (h11)) ?_
    refine g_if_ne (pc := 9) (tgt := 30) dX7_keepPart_9 rfl (fun _ => ?_) (fun h9 => absurd (he) h9)
    refine g_aload_n (pc := 30) dX7_keepPart_30 rfl trivial ?_
    refine g_getf (pc := 31) dX7_keepPart_31 fk_X7_13 (shK hS1 rfl) (fv_arr (shR hS1 rfl)) ?_
    refine g_iconst (pc := 34) (v := 4) dX7_keepPart_34 rfl ?_
    refine g_iload_n (pc := 35) dX7_keepPart_35 rfl ?_
    refine g_iadd (pc := 36) dX7_keepPart_36 ?_
    rw [i4]
    refine g_lconst (pc := 37) (v := 1) dX7_keepPart_37 rfl ?_
    refine g_lastore (pc := 38) dX7_keepPart_38 (shK hS1 rfl) rfl (show 4 + a < 220 by omega) (nl rfl) ?_
    refine g_return (pc := 39) dX7_keepPart_39 rfl ?_
    exact ⟨rfl, rfl⟩
end
end
-- 313.rr
section
/-! the reference reads: rows, fillings -/
def rbB (T : Nat → Int32) (b : Nat) : Nat → Int32
  | 0 => 0
  | k + 1 => rbB T b k ||| (if k < 32 ∧ T (b + k) = 49 then bitI k else 0)
def isB (T : Nat → Int32) (b : Nat) : Nat → Bool
  | 0 => true
  | k + 1 => isB T b k && decide (T (b + k) ≤ 49)
theorem lN_iq {a b : Nat} (ha : a < 2147483648) (hb9 : b < 2147483648) (h : lN a = lN b) : a = b := by
  have := congrArg Int64.toInt h
  rw [lN_toInt (by omega), lN_toInt (by omega)] at this
  omega
section
variable {T : Nat → Int32} {b k : Nat}
theorem isB_t (h : T (b + k) ≤ 49) : b1 (isB T b k) &&& 1 = b1 (isB T b (k + 1)) := by
  rw [isB, decide_eq_true h]; cases isB T b k <;> rfl
theorem isB_f (h : ¬ T (b + k) ≤ 49) : b1 (isB T b k) &&& 0 = b1 (isB T b (k + 1)) := by
  rw [isB, decide_eq_false h]; cases isB T b k <;> rfl
theorem rbB_t (h : k < 32) (h2 : T (b + k) = 49) : uL (rbB T b k) ||| 1 <<< ((nI k).toInt64 &&& 63) = uL (rbB T b (k + 1)) := by
  rw [rbB, if_pos ⟨h, h2⟩, sh_bit k h, uL_or]
theorem rbB_f (h : ¬ (k < 32 ∧ T (b + k) = 49)) : uL (rbB T b k) ||| 0 = uL (rbB T b (k + 1)) := by
  rw [rbB, if_neg h, ← uL_or, uL_0]
end
/-- a row read: the rows, the numbers -/
def gRb (T : Nat → Int32) (len n a r : Nat) (u : Nat → Int64) (s : RP) (b : Nat) : (Nat → Int64) × RP :=
  if b < len ∧ isDi (T b) = true then
    (if isB T b (digP T len b - b) = true ∧ digP T len b - b = n then (fun_set u (28 + 32 * a + r) (uL (rbB T b n)), (digP T len b, nI b, s.2.2))
     else (u, rFail 2 (nI b) (digP T len b, nI b, s.2.2)))
  else (u, rFail 1 (nI b) (b, nI b, s.2.2))
def gR (T : Nat → Int32) (len n : Nat) (u : Nat → Int64) (s : RP) : (Nat → Int64) × RP :=
  if (nmS T len 0 (nI (n - 1)) (nmS T len 0 (nI 5) s)).2.2.2.1 = 0 then gRb T len n (nmN T len 5 s) (nmN T len (n - 1) (nmS T len 0 (nI 5) s)) u (nmS T len 0 (nI (n - 1)) (nmS T len 0 (nI 5) s)) (skipP T len (nmS T len 0 (nI (n - 1)) (nmS T len 0 (nI 5) s)).1)
  else (u, nmS T len 0 (nI (n - 1)) (nmS T len 0 (nI 5) s))
section
variable {l : Launch} {M : Mem} {s : RP} {len n : Nat} {T : Nat → Int32}
theorem r_rowPart (hS : Shp M) (hT : txt M T len) (hl : mI M 198 8 = nI len) (hL : len ≤ 600) (hp : s.1 ≤ len) (hz : mL M 200 0 = lN n) (hn : 1 ≤ n) (hn9 : n ≤ 32) : EvR l jX7_rowPart 4 130 0 0 [.ref 198] (psM M s) (.inl none) (psM (sL M 200 (gR T len n (mL M 200) s).1) (gR T len n (mL M 200) s).2) := by
  have q1 := r_readSlot (l := l) (s := s) hS hT hl hL hp
  have ha := (nmN_ok (T := T) (len := len) (s := s) (h := 5) (by decide)).2
  unfold gR
  generalize nmN T len 5 s = a at *
  have hp1 := nmS_le (T := T) (lo := 0) (hi := nI 5) hp
  generalize nmS T len 0 (nI 5) s = s1 at *
  have q2 := r_readNode (l := l) (s := s1) hS hT hl hL hp1 hz hn hn9
  have hr := (nmN_ok (T := T) (len := len) (s := s1) (h := n - 1) (by omega)).2
  generalize nmN T len (n - 1) s1 = r at *
  have hp2 := nmS_le (T := T) (lo := 0) (hi := nI (n - 1)) hp1
  generalize nmS T len 0 (nI (n - 1)) s1 = s2 at *
  have h11 : mI (psM M s2) 198 11 = s2.2.2.2.1 := ps_11
  have hS0 : Shp (psM M s) := hS
  have hS1 : Shp (psM M s1) := hS
  have hS2 : Shp (psM M s2) := hS
  have eP : ∀ w t, psM (sL M 200 w) t = sL (psM M t) 200 w := fun w t => ps_sL.symm
  refine ev_intro rfl (nb rfl) rfl ?_
  by_cases he : s2.2.2.2.1 = 0
  · rw [if_pos he]
    have q3 := r_next (l := l) (s := s2) hS hT hl hL hp2
    have hsk := (skipP_le (T := T) hp2).2
    unfold nxS at q3
    unfold gRb
    obtain ⟨b, hb⟩ : ∃ b, b = skipP T len s2.1 := ⟨_, rfl⟩
    rw [← hb] at q3 hsk
    rw [← hb]
    have hin := hv_in (T := T) (len := len) (p := b) (a := 48) (b := 57) (c := isDi) (by decide) isDi_iff
    have hS3 : Shp (psM M (b, nI b, s2.2.2)) := hS
    have h113 : mI (psM M (b, nI b, s2.2.2)) 198 11 = 0 := ps_11.trans he
    by_cases hd : b < len ∧ isDi (T b) = true
    · rw [if_pos hd]
      have hh := hin.mpr hd
      have hdle := digP_le (T := T) (show b ≤ len by omega)
      obtain ⟨S, hs⟩ : ∃ S, S = digP T len b := ⟨_, rfl⟩
      rw [← hs] at hdle
      rw [← hs]
      refine g_aload_n (pc := 0) dX7_rowPart_0 rfl trivial ?_
      refine g_invV_r (pc := 1) (As := []) dX7_rowPart_1 rfl (q1) rfl rfl (shK hS0 rfl) rfl rfl lk_X7_140 rfl (nb rfl) ⟨nb rfl, nb rfl⟩ rfl ?_
      refine g_istore_n (pc := 4) (lv' := [(0, _), (1, _)]) dX7_rowPart_4 (nl rfl) rfl ?_
      refine g_aload_n (pc := 5) dX7_rowPart_5 rfl trivial ?_
      refine g_invV_r (pc := 6) (As := []) dX7_rowPart_6 rfl (q2) rfl rfl (shK hS1 rfl) rfl rfl lk_X7_143 rfl (nb rfl) ⟨nb rfl, nb rfl⟩ rfl ?_
      refine g_istore_n (pc := 9) (lv' := [(0, _), (1, _), (2, _)]) dX7_rowPart_9 (nl rfl) rfl ?_
      refine g_aload_n (pc := 10) dX7_rowPart_10 rfl trivial ?_
      refine g_getf (pc := 11) (v := .int _) dX7_rowPart_11 fk_X7_93 (shK hS2 rfl) (fun _ => congrArg Value.int (h11)) ?_
      refine g_if_ne (pc := 14) (tgt := 39) dX7_rowPart_14 rfl (fun h14 => absurd h14 ((fun z => z he))) (fun _ => ?_)
      refine g_aload_n (pc := 17) dX7_rowPart_17 rfl trivial ?_
      refine g_invV_r (pc := 18) (As := []) dX7_rowPart_18 rfl (q3) rfl rfl (shK hS2 rfl) rfl rfl lk_X7_99 rfl (nb rfl) ⟨nb rfl, nb rfl⟩ rfl ?_
      refine g_i2l (pc := 21) dX7_rowPart_21 rfl ?_
      refine g_ldc2 (pc := 22) dX7_rowPart_22 wd_1345 ?_
      refine g_ldc2 (pc := 25) dX7_rowPart_25 wd_1346 ?_
      refine g_invS_r (pc := 28) (As := [_, _, _]) dX7_rowPart_28 rfl (r_in_t hh.1 hh.2) rfl rfl lk_X7_67 rfl (nb rfl) ⟨nb rfl, nb rfl⟩ rfl ?_
      refine g_if_ne (pc := 31) (tgt := 39) dX7_rowPart_31 rfl (fun _ => ?_) (fun h31 => absurd ((by decide)) h31)
      refine g_aload_n (pc := 39) dX7_rowPart_39 rfl trivial ?_
      refine g_getf (pc := 40) (v := .int _) dX7_rowPart_40 fk_X7_93 (shK hS3 rfl) (fun _ => congrArg Value.int (h113)) ?_
      refine g_if_eq (pc := 43) (tgt := 47) dX7_rowPart_43 rfl (fun _ => ?_) (fun h43 => absurd (rfl) h43)
      refine g_lconst (pc := 47) (v := 0) dX7_rowPart_47 rfl ?_
      refine g_lstore_n (pc := 48) (lv' := [(0, _), (1, _), (2, _), (3, _)]) dX7_rowPart_48 (nl rfl) rfl ?_
      rw [← uL_0]
      refine g_iconst (pc := 49) (v := 0) dX7_rowPart_49 rfl ?_
      refine g_istore (pc := 50) (lv' := [(0, _), (1, _), (2, _), (3, _), (5, _)]) dX7_rowPart_50 (nl rfl) rfl ?_
      refine g_iconst (pc := 52) (v := 1) dX7_rowPart_52 rfl ?_
      refine g_istore (pc := 53) (lv' := [(0, _), (1, _), (2, _), (3, _), (5, _), (6, _)]) dX7_rowPart_53 (nl rfl) rfl ?_
      refine go_while (pc := 55) (σ := Nat) (fun p => b ≤ p ∧ p ≤ len ∧ digP T len p = S) (fun p => len - p) (fun p => [(0, .ref 198), (1, .int (nI a)), (2, .int (nI r)), (3, .long (uL (rbB T b (p - b)))), (5, .int (nI (p - b))), (6, .int (b1 (isB T b (p - b))))]) (fun p => psM M (p, nI b, s2.2.2)) b ⟨rfl, rfl, rfl, by rw [Nat.sub_self]; rfl, by rw [Nat.sub_self]; rfl, by rw [Nat.sub_self]; rfl, trivial⟩ rfl ⟨Nat.le_refl _, hsk, hs.symm⟩ ?_
      rintro p ⟨h0, h1, h2⟩ ih
      have hS1 : Shp (psM M (p, nI b, s2.2.2)) := hS
      have q2 := r_here (l := l) (s := (p, nI b, s2.2.2)) hS hT hl hL h1
      have h9 : mI (psM M (p, nI b, s2.2.2)) 198 9 = nI p := ps_9
      have hin2 := hv_in (T := T) (len := len) (p := p) (a := 48) (b := 57) (c := isDi) (by decide) isDi_iff
      by_cases hp2 : p < len ∧ isDi (T p) = true
      · have hh2 := hin2.mpr hp2
        rw [digP_s hp2.1 hp2.2] at h2
        have e9 : pI (psM M (p, nI b, s2.2.2)) 198 9 (nI (p + 1)) = psM M (p + 1, nI b, s2.2.2) := ps_p9 rfl
        have ih2 := ih (p + 1) ⟨by omega, hp2.1, h2⟩ (by omega)
        have ehv : hvF T len p = T (b + (p - b)) := by unfold hvF; rw [if_pos hp2.1]; congr 1; omega
        rw [show p + 1 - b = (p - b) + 1 by omega] at ih2
        have hkn : p - b < 600 := by omega
        generalize p - b = k at *
        rw [ehv] at q2 hh2
        generalize psM M (p + 1, nI b, s2.2.2) = M2 at *
        generalize psM M (p, nI b, s2.2.2) = M1 at *
        refine g_aload_n (pc := 55) dX7_rowPart_55 rfl trivial ?_
        refine g_invV_r (pc := 56) (As := []) dX7_rowPart_56 rfl (q2) rfl rfl (shK hS1 rfl) rfl rfl lk_X7_87 rfl (nb rfl) ⟨nb rfl, nb rfl⟩ rfl ?_
        refine g_i2l (pc := 59) dX7_rowPart_59 rfl ?_
        refine g_ldc2 (pc := 60) dX7_rowPart_60 wd_1345 ?_
        refine g_ldc2 (pc := 63) dX7_rowPart_63 wd_1346 ?_
        refine g_invS_r (pc := 66) (As := [_, _, _]) dX7_rowPart_66 rfl (r_in_t hh2.1 hh2.2) rfl rfl lk_X7_67 rfl (nb rfl) ⟨nb rfl, nb rfl⟩ rfl ?_
        refine g_if_eq (pc := 69) (tgt := 134) dX7_rowPart_69 rfl (fun h69 => absurd h69 ((by decide))) (fun _ => ?_)
        refine g_iload (pc := 72) dX7_rowPart_72 rfl ?_
        refine g_aload_n (pc := 74) dX7_rowPart_74 rfl trivial ?_
        refine g_invV_r (pc := 75) (As := []) dX7_rowPart_75 rfl (q2) rfl rfl (shK hS1 rfl) rfl rfl lk_X7_87 rfl (nb rfl) ⟨nb rfl, nb rfl⟩ rfl ?_
        refine g_bipush (pc := 78) (v := 49) dX7_rowPart_78 rfl ?_
        refine g_icmp_gt (pc := 80) (tgt := 87) dX7_rowPart_80 rfl (fun h80 => ?_) (fun h80 => ?_)
        · refine g_iconst (pc := 87) (v := 0) dX7_rowPart_87 rfl ?_
          refine g_iand (pc := 88) dX7_rowPart_88 ?_
          rw [isB_f (Int32.not_le.mpr h80)]
          refine g_istore (pc := 89) (lv' := [(0, _), (1, _), (2, _), (3, _), (5, _), (6, _)]) dX7_rowPart_89 (nl rfl) rfl ?_
          refine g_lload_n (pc := 91) dX7_rowPart_91 rfl ?_
          refine g_iload (pc := 92) dX7_rowPart_92 rfl ?_
          refine g_bipush (pc := 94) (v := 32) dX7_rowPart_94 rfl ?_
          refine g_icmp_ge (pc := 96) (tgt := 115) dX7_rowPart_96 rfl (fun h96 => ?_) (fun h96 => ?_)
          · refine g_lconst (pc := 115) (v := 0) dX7_rowPart_115 rfl ?_
            refine g_lor (pc := 116) dX7_rowPart_116 ?_
            rw [rbB_f (fun z => Int32.not_lt.mpr h96 (nI_lt (b := 32) z.1 (by decide)))]
            refine g_lstore_n (pc := 117) (lv' := [(0, _), (1, _), (2, _), (3, _), (5, _), (6, _)]) dX7_rowPart_117 (nl rfl) rfl ?_
            refine g_iinc (pc := 118) (lv' := [(0, _), (1, _), (2, _), (3, _), (5, _), (6, _)]) dX7_rowPart_118 rfl (nI_1 _) (nl rfl) rfl ?_
            refine g_aload_n (pc := 121) dX7_rowPart_121 rfl trivial ?_
            refine g_dup (pc := 122) dX7_rowPart_122 rfl ?_
            refine g_getf (pc := 123) (v := .int _) dX7_rowPart_123 fk_X7_84 (shK hS1 rfl) (fun _ => congrArg Value.int (h9)) ?_
            refine g_iconst (pc := 126) (v := 1) dX7_rowPart_126 rfl ?_
            refine g_iadd (pc := 127) dX7_rowPart_127 ?_
            rw [nI_1]
            refine g_putI (pc := 128) dX7_rowPart_128 fp_X7_84 (shK hS1 rfl) ⟨rfl, rfl⟩ (fun _ _ _ _ => rfl) ?_
            refine go_cast e9 ?_
            refine g_goto (pc := 131) (tgt := 55) dX7_rowPart_131 rfl ?_
            exact ih2
          · refine g_aload_n (pc := 99) dX7_rowPart_99 rfl trivial ?_
            refine g_invV_r (pc := 100) (As := []) dX7_rowPart_100 rfl (q2) rfl rfl (shK hS1 rfl) rfl rfl lk_X7_87 rfl (nb rfl) ⟨nb rfl, nb rfl⟩ rfl ?_
            refine g_bipush (pc := 103) (v := 49) dX7_rowPart_103 rfl ?_
            refine g_icmp_ne (pc := 105) (tgt := 115) dX7_rowPart_105 rfl (fun h105 => ?_) (fun h105 => ?_)
            · refine g_lconst (pc := 115) (v := 0) dX7_rowPart_115 rfl ?_
              refine g_lor (pc := 116) dX7_rowPart_116 ?_
              rw [rbB_f (fun z => h105 z.2)]
              refine g_lstore_n (pc := 117) (lv' := [(0, _), (1, _), (2, _), (3, _), (5, _), (6, _)]) dX7_rowPart_117 (nl rfl) rfl ?_
              refine g_iinc (pc := 118) (lv' := [(0, _), (1, _), (2, _), (3, _), (5, _), (6, _)]) dX7_rowPart_118 rfl (nI_1 _) (nl rfl) rfl ?_
              refine g_aload_n (pc := 121) dX7_rowPart_121 rfl trivial ?_
              refine g_dup (pc := 122) dX7_rowPart_122 rfl ?_
              refine g_getf (pc := 123) (v := .int _) dX7_rowPart_123 fk_X7_84 (shK hS1 rfl) (fun _ => congrArg Value.int (h9)) ?_
              refine g_iconst (pc := 126) (v := 1) dX7_rowPart_126 rfl ?_
              refine g_iadd (pc := 127) dX7_rowPart_127 ?_
              rw [nI_1]
              refine g_putI (pc := 128) dX7_rowPart_128 fp_X7_84 (shK hS1 rfl) ⟨rfl, rfl⟩ (fun _ _ _ _ => rfl) ?_
              refine go_cast e9 ?_
              refine g_goto (pc := 131) (tgt := 55) dX7_rowPart_131 rfl ?_
              exact ih2
            · refine g_lconst (pc := 108) (v := 1) dX7_rowPart_108 rfl ?_
              refine g_iload (pc := 109) dX7_rowPart_109 rfl ?_
              refine g_lshl (pc := 111) dX7_rowPart_111 rfl ?_
              refine g_goto (pc := 112) (tgt := 116) dX7_rowPart_112 rfl ?_
              refine g_lor (pc := 116) dX7_rowPart_116 ?_
              rw [rbB_t (Nat.lt_of_not_le (fun z => h96 (nI_le (a := 32) z (by omega)))) (Classical.byContradiction h105)]
              refine g_lstore_n (pc := 117) (lv' := [(0, _), (1, _), (2, _), (3, _), (5, _), (6, _)]) dX7_rowPart_117 (nl rfl) rfl ?_
              refine g_iinc (pc := 118) (lv' := [(0, _), (1, _), (2, _), (3, _), (5, _), (6, _)]) dX7_rowPart_118 rfl (nI_1 _) (nl rfl) rfl ?_
              refine g_aload_n (pc := 121) dX7_rowPart_121 rfl trivial ?_
              refine g_dup (pc := 122) dX7_rowPart_122 rfl ?_
              refine g_getf (pc := 123) (v := .int _) dX7_rowPart_123 fk_X7_84 (shK hS1 rfl) (fun _ => congrArg Value.int (h9)) ?_
              refine g_iconst (pc := 126) (v := 1) dX7_rowPart_126 rfl ?_
              refine g_iadd (pc := 127) dX7_rowPart_127 ?_
              rw [nI_1]
              refine g_putI (pc := 128) dX7_rowPart_128 fp_X7_84 (shK hS1 rfl) ⟨rfl, rfl⟩ (fun _ _ _ _ => rfl) ?_
              refine go_cast e9 ?_
              refine g_goto (pc := 131) (tgt := 55) dX7_rowPart_131 rfl ?_
              exact ih2
        · refine g_iconst (pc := 83) (v := 1) dX7_rowPart_83 rfl ?_
          refine g_goto (pc := 84) (tgt := 88) dX7_rowPart_84 rfl ?_
          refine g_iand (pc := 88) dX7_rowPart_88 ?_
          rw [isB_t (Int32.not_lt.mp h80)]
          refine g_istore (pc := 89) (lv' := [(0, _), (1, _), (2, _), (3, _), (5, _), (6, _)]) dX7_rowPart_89 (nl rfl) rfl ?_
          refine g_lload_n (pc := 91) dX7_rowPart_91 rfl ?_
          refine g_iload (pc := 92) dX7_rowPart_92 rfl ?_
          refine g_bipush (pc := 94) (v := 32) dX7_rowPart_94 rfl ?_
          refine g_icmp_ge (pc := 96) (tgt := 115) dX7_rowPart_96 rfl (fun h96 => ?_) (fun h96 => ?_)
          · refine g_lconst (pc := 115) (v := 0) dX7_rowPart_115 rfl ?_
            refine g_lor (pc := 116) dX7_rowPart_116 ?_
            rw [rbB_f (fun z => Int32.not_lt.mpr h96 (nI_lt (b := 32) z.1 (by decide)))]
            refine g_lstore_n (pc := 117) (lv' := [(0, _), (1, _), (2, _), (3, _), (5, _), (6, _)]) dX7_rowPart_117 (nl rfl) rfl ?_
            refine g_iinc (pc := 118) (lv' := [(0, _), (1, _), (2, _), (3, _), (5, _), (6, _)]) dX7_rowPart_118 rfl (nI_1 _) (nl rfl) rfl ?_
            refine g_aload_n (pc := 121) dX7_rowPart_121 rfl trivial ?_
            refine g_dup (pc := 122) dX7_rowPart_122 rfl ?_
            refine g_getf (pc := 123) (v := .int _) dX7_rowPart_123 fk_X7_84 (shK hS1 rfl) (fun _ => congrArg Value.int (h9)) ?_
            refine g_iconst (pc := 126) (v := 1) dX7_rowPart_126 rfl ?_
            refine g_iadd (pc := 127) dX7_rowPart_127 ?_
            rw [nI_1]
            refine g_putI (pc := 128) dX7_rowPart_128 fp_X7_84 (shK hS1 rfl) ⟨rfl, rfl⟩ (fun _ _ _ _ => rfl) ?_
            refine go_cast e9 ?_
            refine g_goto (pc := 131) (tgt := 55) dX7_rowPart_131 rfl ?_
            exact ih2
          · refine g_aload_n (pc := 99) dX7_rowPart_99 rfl trivial ?_
            refine g_invV_r (pc := 100) (As := []) dX7_rowPart_100 rfl (q2) rfl rfl (shK hS1 rfl) rfl rfl lk_X7_87 rfl (nb rfl) ⟨nb rfl, nb rfl⟩ rfl ?_
            refine g_bipush (pc := 103) (v := 49) dX7_rowPart_103 rfl ?_
            refine g_icmp_ne (pc := 105) (tgt := 115) dX7_rowPart_105 rfl (fun h105 => ?_) (fun h105 => ?_)
            · refine g_lconst (pc := 115) (v := 0) dX7_rowPart_115 rfl ?_
              refine g_lor (pc := 116) dX7_rowPart_116 ?_
              rw [rbB_f (fun z => h105 z.2)]
              refine g_lstore_n (pc := 117) (lv' := [(0, _), (1, _), (2, _), (3, _), (5, _), (6, _)]) dX7_rowPart_117 (nl rfl) rfl ?_
              refine g_iinc (pc := 118) (lv' := [(0, _), (1, _), (2, _), (3, _), (5, _), (6, _)]) dX7_rowPart_118 rfl (nI_1 _) (nl rfl) rfl ?_
              refine g_aload_n (pc := 121) dX7_rowPart_121 rfl trivial ?_
              refine g_dup (pc := 122) dX7_rowPart_122 rfl ?_
              refine g_getf (pc := 123) (v := .int _) dX7_rowPart_123 fk_X7_84 (shK hS1 rfl) (fun _ => congrArg Value.int (h9)) ?_
              refine g_iconst (pc := 126) (v := 1) dX7_rowPart_126 rfl ?_
              refine g_iadd (pc := 127) dX7_rowPart_127 ?_
              rw [nI_1]
              refine g_putI (pc := 128) dX7_rowPart_128 fp_X7_84 (shK hS1 rfl) ⟨rfl, rfl⟩ (fun _ _ _ _ => rfl) ?_
              refine go_cast e9 ?_
              refine g_goto (pc := 131) (tgt := 55) dX7_rowPart_131 rfl ?_
              exact ih2
            · refine g_lconst (pc := 108) (v := 1) dX7_rowPart_108 rfl ?_
              refine g_iload (pc := 109) dX7_rowPart_109 rfl ?_
              refine g_lshl (pc := 111) dX7_rowPart_111 rfl ?_
              refine g_goto (pc := 112) (tgt := 116) dX7_rowPart_112 rfl ?_
              refine g_lor (pc := 116) dX7_rowPart_116 ?_
              rw [rbB_t (Nat.lt_of_not_le (fun z => h96 (nI_le (a := 32) z (by omega)))) (Classical.byContradiction h105)]
              refine g_lstore_n (pc := 117) (lv' := [(0, _), (1, _), (2, _), (3, _), (5, _), (6, _)]) dX7_rowPart_117 (nl rfl) rfl ?_
              refine g_iinc (pc := 118) (lv' := [(0, _), (1, _), (2, _), (3, _), (5, _), (6, _)]) dX7_rowPart_118 rfl (nI_1 _) (nl rfl) rfl ?_
              refine g_aload_n (pc := 121) dX7_rowPart_121 rfl trivial ?_
              refine g_dup (pc := 122) dX7_rowPart_122 rfl ?_
              refine g_getf (pc := 123) (v := .int _) dX7_rowPart_123 fk_X7_84 (shK hS1 rfl) (fun _ => congrArg Value.int (h9)) ?_
              refine g_iconst (pc := 126) (v := 1) dX7_rowPart_126 rfl ?_
              refine g_iadd (pc := 127) dX7_rowPart_127 ?_
              rw [nI_1]
              refine g_putI (pc := 128) dX7_rowPart_128 fp_X7_84 (shK hS1 rfl) ⟨rfl, rfl⟩ (fun _ _ _ _ => rfl) ?_
              refine go_cast e9 ?_
              refine g_goto (pc := 131) (tgt := 55) dX7_rowPart_131 rfl ?_
              exact ih2
      · rw [digP_0 hp2] at h2
        subst h2
        have qf := r_fails (l := l) (M := M) (s := (p, nI b, s2.2.2)) (k := 2) hS
        simp only at qf
        have hz1 : mL (psM M (p, nI b, s2.2.2)) 200 0 = lN n := hz
        have eu : mL (psM M (p, nI b, s2.2.2)) 200 = mL M 200 := rfl
        have hkn : p - b < 601 := by omega
        by_cases hB : isB T b (p - b) = true
        · by_cases hk : p - b = n
          · rw [if_pos ⟨hB, hk⟩, hB]
            simp only
            rw [eP, ← eu, hk]
            generalize psM M (p, nI b, s2.2.2) = M1 at *
            refine g_aload_n (pc := 55) dX7_rowPart_55 rfl trivial ?_
            refine g_invV_r (pc := 56) (As := []) dX7_rowPart_56 rfl (q2) rfl rfl (shK hS1 rfl) rfl rfl lk_X7_87 rfl (nb rfl) ⟨nb rfl, nb rfl⟩ rfl ?_
            refine g_i2l (pc := 59) dX7_rowPart_59 rfl ?_
            refine g_ldc2 (pc := 60) dX7_rowPart_60 wd_1345 ?_
            refine g_ldc2 (pc := 63) dX7_rowPart_63 wd_1346 ?_
            refine g_invS_r (pc := 66) (As := [_, _, _]) dX7_rowPart_66 rfl (r_in_f (fun z => hp2 (hin2.mp z))) rfl rfl lk_X7_67 rfl (nb rfl) ⟨nb rfl, nb rfl⟩ rfl ?_
            refine g_if_eq (pc := 69) (tgt := 134) dX7_rowPart_69 rfl (fun _ => ?_) (fun h69 => absurd (rfl) h69)
            refine g_iload (pc := 134) dX7_rowPart_134 rfl ?_
            refine g_if_eq (pc := 136) (tgt := 152) dX7_rowPart_136 rfl (fun h136 => absurd h136 ((by decide))) (fun _ => ?_)
            refine g_iload (pc := 139) dX7_rowPart_139 rfl ?_
            refine g_i2l (pc := 141) dX7_rowPart_141 rfl ?_
            refine g_aload_n (pc := 142) dX7_rowPart_142 rfl trivial ?_
            refine g_getf (pc := 143) dX7_rowPart_143 fk_X7_13 (shK hS1 rfl) (fv_arr (shR hS1 rfl)) ?_
            refine g_iconst (pc := 146) (v := 0) dX7_rowPart_146 rfl ?_
            refine g_laload (pc := 147) dX7_rowPart_147 (shK hS1 rfl) rfl (by decide) (nl rfl) ?_
            rw [hz1, lN_nI (by omega)]
            refine g_lcmp (pc := 148) dX7_rowPart_148 ?_
            refine g_if_eq (pc := 149) (tgt := 158) dX7_rowPart_149 rfl (fun _ => ?_) (fun h149 => absurd (((lg_cmp_eq _ _).mpr rfl)) h149)
            refine g_aload_n (pc := 158) dX7_rowPart_158 rfl trivial ?_
            refine g_getf (pc := 159) dX7_rowPart_159 fk_X7_13 (shK hS1 rfl) (fv_arr (shR hS1 rfl)) ?_
            refine g_bipush (pc := 162) (v := 28) dX7_rowPart_162 rfl ?_
            refine g_bipush (pc := 164) (v := 32) dX7_rowPart_164 rfl ?_
            refine g_iload_n (pc := 166) dX7_rowPart_166 rfl ?_
            refine g_imul (pc := 167) dX7_rowPart_167 ?_
            refine g_iadd (pc := 168) dX7_rowPart_168 ?_
            refine g_iload_n (pc := 169) dX7_rowPart_169 rfl ?_
            refine g_iadd (pc := 170) dX7_rowPart_170 ?_
            rw [ixR]
            refine g_lload_n (pc := 171) dX7_rowPart_171 rfl ?_
            refine g_lastore (pc := 172) dX7_rowPart_172 (shK hS1 rfl) rfl (show 28 + 32 * a + r < 220 by omega) (nl rfl) ?_
            refine g_return (pc := 173) dX7_rowPart_173 rfl ?_
            exact ⟨rfl, rfl⟩
          · rw [if_neg (fun z => hk z.2), hB]
            simp only
            rw [sL_id]
            generalize psM M (p, nI b, s2.2.2) = M1 at *
            refine g_aload_n (pc := 55) dX7_rowPart_55 rfl trivial ?_
            refine g_invV_r (pc := 56) (As := []) dX7_rowPart_56 rfl (q2) rfl rfl (shK hS1 rfl) rfl rfl lk_X7_87 rfl (nb rfl) ⟨nb rfl, nb rfl⟩ rfl ?_
            refine g_i2l (pc := 59) dX7_rowPart_59 rfl ?_
            refine g_ldc2 (pc := 60) dX7_rowPart_60 wd_1345 ?_
            refine g_ldc2 (pc := 63) dX7_rowPart_63 wd_1346 ?_
            refine g_invS_r (pc := 66) (As := [_, _, _]) dX7_rowPart_66 rfl (r_in_f (fun z => hp2 (hin2.mp z))) rfl rfl lk_X7_67 rfl (nb rfl) ⟨nb rfl, nb rfl⟩ rfl ?_
            refine g_if_eq (pc := 69) (tgt := 134) dX7_rowPart_69 rfl (fun _ => ?_) (fun h69 => absurd (rfl) h69)
            refine g_iload (pc := 134) dX7_rowPart_134 rfl ?_
            refine g_if_eq (pc := 136) (tgt := 152) dX7_rowPart_136 rfl (fun h136 => absurd h136 ((by decide))) (fun _ => ?_)
            refine g_iload (pc := 139) dX7_rowPart_139 rfl ?_
            refine g_i2l (pc := 141) dX7_rowPart_141 rfl ?_
            refine g_aload_n (pc := 142) dX7_rowPart_142 rfl trivial ?_
            refine g_getf (pc := 143) dX7_rowPart_143 fk_X7_13 (shK hS1 rfl) (fv_arr (shR hS1 rfl)) ?_
            refine g_iconst (pc := 146) (v := 0) dX7_rowPart_146 rfl ?_
            refine g_laload (pc := 147) dX7_rowPart_147 (shK hS1 rfl) rfl (by decide) (nl rfl) ?_
            rw [hz1, lN_nI (by omega)]
            refine g_lcmp (pc := 148) dX7_rowPart_148 ?_
            refine g_if_eq (pc := 149) (tgt := 158) dX7_rowPart_149 rfl (fun h149 => absurd h149 ((fun z => hk (lN_iq (by omega) (by omega) ((lg_cmp_eq _ _).mp z))))) (fun _ => ?_)
            refine g_aload_n (pc := 152) dX7_rowPart_152 rfl trivial ?_
            refine g_iconst (pc := 153) (v := 2) dX7_rowPart_153 rfl ?_
            refine g_invV_r (pc := 154) (As := [_]) dX7_rowPart_154 rfl (qf) rfl rfl (shK hS1 rfl) rfl rfl lk_X7_118 rfl (nb rfl) ⟨nb rfl, nb rfl⟩ rfl ?_
            refine g_return (pc := 157) dX7_rowPart_157 rfl ?_
            exact ⟨rfl, rfl⟩
        · rw [if_neg (fun z => hB z.1), Bool.eq_false_iff.mpr hB]
          simp only
          rw [sL_id]
          generalize psM M (p, nI b, s2.2.2) = M1 at *
          refine g_aload_n (pc := 55) dX7_rowPart_55 rfl trivial ?_
          refine g_invV_r (pc := 56) (As := []) dX7_rowPart_56 rfl (q2) rfl rfl (shK hS1 rfl) rfl rfl lk_X7_87 rfl (nb rfl) ⟨nb rfl, nb rfl⟩ rfl ?_
          refine g_i2l (pc := 59) dX7_rowPart_59 rfl ?_
          refine g_ldc2 (pc := 60) dX7_rowPart_60 wd_1345 ?_
          refine g_ldc2 (pc := 63) dX7_rowPart_63 wd_1346 ?_
          refine g_invS_r (pc := 66) (As := [_, _, _]) dX7_rowPart_66 rfl (r_in_f (fun z => hp2 (hin2.mp z))) rfl rfl lk_X7_67 rfl (nb rfl) ⟨nb rfl, nb rfl⟩ rfl ?_
          refine g_if_eq (pc := 69) (tgt := 134) dX7_rowPart_69 rfl (fun _ => ?_) (fun h69 => absurd (rfl) h69)
          refine g_iload (pc := 134) dX7_rowPart_134 rfl ?_
          refine g_if_eq (pc := 136) (tgt := 152) dX7_rowPart_136 rfl (fun _ => ?_) (fun h136 => absurd (rfl) h136)
          refine g_aload_n (pc := 152) dX7_rowPart_152 rfl trivial ?_
          refine g_iconst (pc := 153) (v := 2) dX7_rowPart_153 rfl ?_
          refine g_invV_r (pc := 154) (As := [_]) dX7_rowPart_154 rfl (qf) rfl rfl (shK hS1 rfl) rfl rfl lk_X7_118 rfl (nb rfl) ⟨nb rfl, nb rfl⟩ rfl ?_
          refine g_return (pc := 157) dX7_rowPart_157 rfl ?_
          exact ⟨rfl, rfl⟩
    · rw [if_neg hd]
      simp only
      have qf := r_fails (l := l) (M := M) (s := (b, nI b, s2.2.2)) (k := 1) hS
      simp only at qf
      have hS4 : Shp (psM M (rFail 1 (nI b) (b, nI b, s2.2.2))) := hS
      have h114 : mI (psM M (rFail 1 (nI b) (b, nI b, s2.2.2))) 198 11 = 1 := by rw [ps_11, rFail_0 (show (b, nI b, s2.2.2).2.2.2.1 = 0 from he)]
      rw [sL_id]
      refine g_aload_n (pc := 0) dX7_rowPart_0 rfl trivial ?_
      refine g_invV_r (pc := 1) (As := []) dX7_rowPart_1 rfl (q1) rfl rfl (shK hS0 rfl) rfl rfl lk_X7_140 rfl (nb rfl) ⟨nb rfl, nb rfl⟩ rfl ?_
      refine g_istore_n (pc := 4) (lv' := [(0, _), (1, _)]) dX7_rowPart_4 (nl rfl) rfl ?_
      refine g_aload_n (pc := 5) dX7_rowPart_5 rfl trivial ?_
      refine g_invV_r (pc := 6) (As := []) dX7_rowPart_6 rfl (q2) rfl rfl (shK hS1 rfl) rfl rfl lk_X7_143 rfl (nb rfl) ⟨nb rfl, nb rfl⟩ rfl ?_
      refine g_istore_n (pc := 9) (lv' := [(0, _), (1, _), (2, _)]) dX7_rowPart_9 (nl rfl) rfl ?_
      refine g_aload_n (pc := 10) dX7_rowPart_10 rfl trivial ?_
      refine g_getf (pc := 11) (v := .int _) dX7_rowPart_11 fk_X7_93 (shK hS2 rfl) (fun _ => congrArg Value.int (h11)) ?_
      refine g_if_ne (pc := 14) (tgt := 39) dX7_rowPart_14 rfl (fun h14 => absurd h14 ((fun z => z he))) (fun _ => ?_)
      refine g_aload_n (pc := 17) dX7_rowPart_17 rfl trivial ?_
      refine g_invV_r (pc := 18) (As := []) dX7_rowPart_18 rfl (q3) rfl rfl (shK hS2 rfl) rfl rfl lk_X7_99 rfl (nb rfl) ⟨nb rfl, nb rfl⟩ rfl ?_
      refine g_i2l (pc := 21) dX7_rowPart_21 rfl ?_
      refine g_ldc2 (pc := 22) dX7_rowPart_22 wd_1345 ?_
      refine g_ldc2 (pc := 25) dX7_rowPart_25 wd_1346 ?_
      refine g_invS_r (pc := 28) (As := [_, _, _]) dX7_rowPart_28 rfl (r_in_f (fun z => hd (hin.mp z))) rfl rfl lk_X7_67 rfl (nb rfl) ⟨nb rfl, nb rfl⟩ rfl ?_
      refine g_if_ne (pc := 31) (tgt := 39) dX7_rowPart_31 rfl (fun h31 => absurd h31 ((fun z => z rfl))) (fun _ => ?_)
      refine g_aload_n (pc := 34) dX7_rowPart_34 rfl trivial ?_
      refine g_iconst (pc := 35) (v := 1) dX7_rowPart_35 rfl ?_
      refine g_invV_r (pc := 36) (As := [_]) dX7_rowPart_36 rfl (qf) rfl rfl (shK hS3 rfl) rfl rfl lk_X7_118 rfl (nb rfl) ⟨nb rfl, nb rfl⟩ rfl ?_
      refine g_aload_n (pc := 39) dX7_rowPart_39 rfl trivial ?_
      refine g_getf (pc := 40) (v := .int _) dX7_rowPart_40 fk_X7_93 (shK hS4 rfl) (fun _ => congrArg Value.int (h114)) ?_
      refine g_if_eq (pc := 43) (tgt := 47) dX7_rowPart_43 rfl (fun h43 => absurd h43 ((by decide))) (fun _ => ?_)
      refine g_return (pc := 46) dX7_rowPart_46 rfl ?_
      exact ⟨rfl, rfl⟩
  · rw [if_neg he]
    simp only
    rw [sL_id]
    refine g_aload_n (pc := 0) dX7_rowPart_0 rfl trivial ?_
    refine g_invV_r (pc := 1) (As := []) dX7_rowPart_1 rfl (q1) rfl rfl (shK hS0 rfl) rfl rfl lk_X7_140 rfl (nb rfl) ⟨nb rfl, nb rfl⟩ rfl ?_
    refine g_istore_n (pc := 4) (lv' := [(0, _), (1, _)]) dX7_rowPart_4 (nl rfl) rfl ?_
    refine g_aload_n (pc := 5) dX7_rowPart_5 rfl trivial ?_
    refine g_invV_r (pc := 6) (As := []) dX7_rowPart_6 rfl (q2) rfl rfl (shK hS1 rfl) rfl rfl lk_X7_143 rfl (nb rfl) ⟨nb rfl, nb rfl⟩ rfl ?_
    refine g_istore_n (pc := 9) (lv' := [(0, _), (1, _), (2, _)]) dX7_rowPart_9 (nl rfl) rfl ?_
    refine g_aload_n (pc := 10) dX7_rowPart_10 rfl trivial ?_
    refine g_getf (pc := 11) (v := .int _) dX7_rowPart_11 fk_X7_93 (shK hS2 rfl) (fun _ => congrArg Value.int (h11)) ?_
    refine g_if_ne (pc := 14) (tgt := 39) dX7_rowPart_14 rfl (fun _ => ?_) (fun h14 => absurd (he) h14)
    refine g_aload_n (pc := 39) dX7_rowPart_39 rfl trivial ?_
    refine g_getf (pc := 40) (v := .int _) dX7_rowPart_40 fk_X7_93 (shK hS2 rfl) (fun _ => congrArg Value.int (h11)) ?_
    refine g_if_eq (pc := 43) (tgt := 47) dX7_rowPart_43 rfl (fun h43 => absurd h43 (he)) (fun _ => ?_)
    refine g_return (pc := 46) dX7_rowPart_46 rfl ?_
    exact ⟨rfl, rfl⟩
end
end
-- 314.rr
section
/-! the reference reads: fillings, a statement, the size -/
def khF (T : Nat → Int32) (b p : Nat) : Nat := if wdQ T b p (strW 17) = true then 0 else if wdQ T b p (strW 18) = true then 1 else if wdQ T b p (strW 19) = true then 2 else if wdQ T b p (strW 20) = true then 3 else 4
def khV (k : Nat) : Int32 := if k = 4 then -1 else nI k
/-- a row of a kind -/
def flF (k n r : Nat) : Int32 := if k = 0 then bitI r else if k = 1 then lowM n else if k = 2 then (if r + 1 < n then bitI (r + 1) else 1) else lowM r
theorem flF_0 (n r : Nat) : flF 0 n r = bitI r := rfl
theorem flF_1 (n r : Nat) : flF 1 n r = lowM n := rfl
theorem flF_2 (n r : Nat) : flF 2 n r = if r + 1 < n then bitI (r + 1) else 1 := rfl
theorem flF_3 (n r : Nat) : flF 3 n r = lowM r := rfl
theorem sh_two : ∀ c, c < 31 → ((1 : Int64) <<< ((nI c).toInt64 &&& 63)) <<< ((1 : Int32).toInt64 &&& 63) = uL (bitI (c + 1)) := by decide +kernel
theorem khF_le (T : Nat → Int32) (b p : Nat) : khF T b p ≤ 4 := by
  unfold khF
  repeat' split
  all_goals omega
section
variable {l : Launch} {M : Mem} {s : RP} {len n : Nat} {T : Nat → Int32}
theorem r_kindHere {b : Nat} (hS : Shp M) (hT : txt M T len) (hL : len ≤ 600) (hp : s.1 ≤ len) (hb9 : s.2.1 = nI b) (hb : b ≤ s.1) : EvR l jX7_kindHere 5 140 0 0 [.ref 198] (psM M s) (.inl (some (.int (khV (khF T b s.1))))) (psM M s) := by
  have w0 : EvR l jX7_isWord 4 110 0 0 [.ref 198, .retAddr (2 * 17 + 2)] (psM M s) (.inl (some (.int (b1 (wdQ T b s.1 (strW 17)))))) (psM M s) := r_isWR 17 hS hT hL hp hb9 hb (by decide) (by decide)
  have w1 : EvR l jX7_isWord 4 110 0 0 [.ref 198, .retAddr (2 * 18 + 2)] (psM M s) (.inl (some (.int (b1 (wdQ T b s.1 (strW 18)))))) (psM M s) := r_isWR 18 hS hT hL hp hb9 hb (by decide) (by decide)
  have w2 : EvR l jX7_isWord 4 110 0 0 [.ref 198, .retAddr (2 * 19 + 2)] (psM M s) (.inl (some (.int (b1 (wdQ T b s.1 (strW 19)))))) (psM M s) := r_isWR 19 hS hT hL hp hb9 hb (by decide) (by decide)
  have w3 : EvR l jX7_isWord 4 110 0 0 [.ref 198, .retAddr (2 * 20 + 2)] (psM M s) (.inl (some (.int (b1 (wdQ T b s.1 (strW 20)))))) (psM M s) := r_isWR 20 hS hT hL hp hb9 hb (by decide) (by decide)
  have hS1 : Shp (psM M s) := hS
  unfold khF
  generalize psM M s = M1 at *
  generalize wdQ T b s.1 (strW 17) = c0 at *
  generalize wdQ T b s.1 (strW 18) = c1 at *
  generalize wdQ T b s.1 (strW 19) = c2 at *
  generalize wdQ T b s.1 (strW 20) = c3 at *
  refine ev_intro rfl (nb rfl) rfl ?_
  cases c0 with
  | true =>
    refine g_aload_n (pc := 0) dX7_kindHere_0 rfl trivial ?_
    refine g_ldcS (pc := 1) (kS := 17) dX7_kindHere_1 rfl ?_
    refine g_invV_r (pc := 3) (As := [_]) dX7_kindHere_3 rfl (w0) rfl rfl (shK hS1 rfl) rfl rfl lk_X7_136 rfl (nb rfl) ⟨nb rfl, nb rfl⟩ rfl ?_
    refine g_if_eq (pc := 6) (tgt := 13) dX7_kindHere_6 rfl (fun h6 => absurd h6 ((by decide))) (fun _ => ?_)
    refine g_iconst (pc := 9) (v := 0) dX7_kindHere_9 rfl ?_
    refine g_goto (pc := 10) (tgt := 53) dX7_kindHere_10 rfl ?_
    refine g_ireturn (pc := 53) dX7_kindHere_53 rfl rfl ?_
    exact ⟨rfl, rfl⟩
  | false =>
    cases c1 with
    | true =>
      refine g_aload_n (pc := 0) dX7_kindHere_0 rfl trivial ?_
      refine g_ldcS (pc := 1) (kS := 17) dX7_kindHere_1 rfl ?_
      refine g_invV_r (pc := 3) (As := [_]) dX7_kindHere_3 rfl (w0) rfl rfl (shK hS1 rfl) rfl rfl lk_X7_136 rfl (nb rfl) ⟨nb rfl, nb rfl⟩ rfl ?_
      refine g_if_eq (pc := 6) (tgt := 13) dX7_kindHere_6 rfl (fun _ => ?_) (fun h6 => absurd (rfl) h6)
      refine g_aload_n (pc := 13) dX7_kindHere_13 rfl trivial ?_
      refine g_ldcS (pc := 14) (kS := 18) dX7_kindHere_14 rfl ?_
      refine g_invV_r (pc := 16) (As := [_]) dX7_kindHere_16 rfl (w1) rfl rfl (shK hS1 rfl) rfl rfl lk_X7_136 rfl (nb rfl) ⟨nb rfl, nb rfl⟩ rfl ?_
      refine g_if_eq (pc := 19) (tgt := 26) dX7_kindHere_19 rfl (fun h19 => absurd h19 ((by decide))) (fun _ => ?_)
      refine g_iconst (pc := 22) (v := 1) dX7_kindHere_22 rfl ?_
      refine g_goto (pc := 23) (tgt := 53) dX7_kindHere_23 rfl ?_
      refine g_ireturn (pc := 53) dX7_kindHere_53 rfl rfl ?_
      exact ⟨rfl, rfl⟩
    | false =>
      cases c2 with
      | true =>
        refine g_aload_n (pc := 0) dX7_kindHere_0 rfl trivial ?_
        refine g_ldcS (pc := 1) (kS := 17) dX7_kindHere_1 rfl ?_
        refine g_invV_r (pc := 3) (As := [_]) dX7_kindHere_3 rfl (w0) rfl rfl (shK hS1 rfl) rfl rfl lk_X7_136 rfl (nb rfl) ⟨nb rfl, nb rfl⟩ rfl ?_
        refine g_if_eq (pc := 6) (tgt := 13) dX7_kindHere_6 rfl (fun _ => ?_) (fun h6 => absurd (rfl) h6)
        refine g_aload_n (pc := 13) dX7_kindHere_13 rfl trivial ?_
        refine g_ldcS (pc := 14) (kS := 18) dX7_kindHere_14 rfl ?_
        refine g_invV_r (pc := 16) (As := [_]) dX7_kindHere_16 rfl (w1) rfl rfl (shK hS1 rfl) rfl rfl lk_X7_136 rfl (nb rfl) ⟨nb rfl, nb rfl⟩ rfl ?_
        refine g_if_eq (pc := 19) (tgt := 26) dX7_kindHere_19 rfl (fun _ => ?_) (fun h19 => absurd (rfl) h19)
        refine g_aload_n (pc := 26) dX7_kindHere_26 rfl trivial ?_
        refine g_ldcS (pc := 27) (kS := 19) dX7_kindHere_27 rfl ?_
        refine g_invV_r (pc := 29) (As := [_]) dX7_kindHere_29 rfl (w2) rfl rfl (shK hS1 rfl) rfl rfl lk_X7_136 rfl (nb rfl) ⟨nb rfl, nb rfl⟩ rfl ?_
        refine g_if_eq (pc := 32) (tgt := 39) dX7_kindHere_32 rfl (fun h32 => absurd h32 ((by decide))) (fun _ => ?_)
        refine g_iconst (pc := 35) (v := 2) dX7_kindHere_35 rfl ?_
        refine g_goto (pc := 36) (tgt := 53) dX7_kindHere_36 rfl ?_
        refine g_ireturn (pc := 53) dX7_kindHere_53 rfl rfl ?_
        exact ⟨rfl, rfl⟩
      | false =>
        cases c3 with
        | true =>
          refine g_aload_n (pc := 0) dX7_kindHere_0 rfl trivial ?_
          refine g_ldcS (pc := 1) (kS := 17) dX7_kindHere_1 rfl ?_
          refine g_invV_r (pc := 3) (As := [_]) dX7_kindHere_3 rfl (w0) rfl rfl (shK hS1 rfl) rfl rfl lk_X7_136 rfl (nb rfl) ⟨nb rfl, nb rfl⟩ rfl ?_
          refine g_if_eq (pc := 6) (tgt := 13) dX7_kindHere_6 rfl (fun _ => ?_) (fun h6 => absurd (rfl) h6)
          refine g_aload_n (pc := 13) dX7_kindHere_13 rfl trivial ?_
          refine g_ldcS (pc := 14) (kS := 18) dX7_kindHere_14 rfl ?_
          refine g_invV_r (pc := 16) (As := [_]) dX7_kindHere_16 rfl (w1) rfl rfl (shK hS1 rfl) rfl rfl lk_X7_136 rfl (nb rfl) ⟨nb rfl, nb rfl⟩ rfl ?_
          refine g_if_eq (pc := 19) (tgt := 26) dX7_kindHere_19 rfl (fun _ => ?_) (fun h19 => absurd (rfl) h19)
          refine g_aload_n (pc := 26) dX7_kindHere_26 rfl trivial ?_
          refine g_ldcS (pc := 27) (kS := 19) dX7_kindHere_27 rfl ?_
          refine g_invV_r (pc := 29) (As := [_]) dX7_kindHere_29 rfl (w2) rfl rfl (shK hS1 rfl) rfl rfl lk_X7_136 rfl (nb rfl) ⟨nb rfl, nb rfl⟩ rfl ?_
          refine g_if_eq (pc := 32) (tgt := 39) dX7_kindHere_32 rfl (fun _ => ?_) (fun h32 => absurd (rfl) h32)
          refine g_aload_n (pc := 39) dX7_kindHere_39 rfl trivial ?_
          refine g_ldcS (pc := 40) (kS := 20) dX7_kindHere_40 rfl ?_
          refine g_invV_r (pc := 42) (As := [_]) dX7_kindHere_42 rfl (w3) rfl rfl (shK hS1 rfl) rfl rfl lk_X7_136 rfl (nb rfl) ⟨nb rfl, nb rfl⟩ rfl ?_
          refine g_if_eq (pc := 45) (tgt := 52) dX7_kindHere_45 rfl (fun h45 => absurd h45 ((by decide))) (fun _ => ?_)
          refine g_iconst (pc := 48) (v := 3) dX7_kindHere_48 rfl ?_
          refine g_goto (pc := 49) (tgt := 53) dX7_kindHere_49 rfl ?_
          refine g_ireturn (pc := 53) dX7_kindHere_53 rfl rfl ?_
          exact ⟨rfl, rfl⟩
        | false =>
          refine g_aload_n (pc := 0) dX7_kindHere_0 rfl trivial ?_
          refine g_ldcS (pc := 1) (kS := 17) dX7_kindHere_1 rfl ?_
          refine g_invV_r (pc := 3) (As := [_]) dX7_kindHere_3 rfl (w0) rfl rfl (shK hS1 rfl) rfl rfl lk_X7_136 rfl (nb rfl) ⟨nb rfl, nb rfl⟩ rfl ?_
          refine g_if_eq (pc := 6) (tgt := 13) dX7_kindHere_6 rfl (fun _ => ?_) (fun h6 => absurd (rfl) h6)
          refine g_aload_n (pc := 13) dX7_kindHere_13 rfl trivial ?_
          refine g_ldcS (pc := 14) (kS := 18) dX7_kindHere_14 rfl ?_
          refine g_invV_r (pc := 16) (As := [_]) dX7_kindHere_16 rfl (w1) rfl rfl (shK hS1 rfl) rfl rfl lk_X7_136 rfl (nb rfl) ⟨nb rfl, nb rfl⟩ rfl ?_
          refine g_if_eq (pc := 19) (tgt := 26) dX7_kindHere_19 rfl (fun _ => ?_) (fun h19 => absurd (rfl) h19)
          refine g_aload_n (pc := 26) dX7_kindHere_26 rfl trivial ?_
          refine g_ldcS (pc := 27) (kS := 19) dX7_kindHere_27 rfl ?_
          refine g_invV_r (pc := 29) (As := [_]) dX7_kindHere_29 rfl (w2) rfl rfl (shK hS1 rfl) rfl rfl lk_X7_136 rfl (nb rfl) ⟨nb rfl, nb rfl⟩ rfl ?_
          refine g_if_eq (pc := 32) (tgt := 39) dX7_kindHere_32 rfl (fun _ => ?_) (fun h32 => absurd (rfl) h32)
          refine g_aload_n (pc := 39) dX7_kindHere_39 rfl trivial ?_
          refine g_ldcS (pc := 40) (kS := 20) dX7_kindHere_40 rfl ?_
          refine g_invV_r (pc := 42) (As := [_]) dX7_kindHere_42 rfl (w3) rfl rfl (shK hS1 rfl) rfl rfl lk_X7_136 rfl (nb rfl) ⟨nb rfl, nb rfl⟩ rfl ?_
          refine g_if_eq (pc := 45) (tgt := 52) dX7_kindHere_45 rfl (fun _ => ?_) (fun h45 => absurd (rfl) h45)
          refine g_iconst (pc := 52) (v := (-1)) dX7_kindHere_52 rfl ?_
          refine g_ireturn (pc := 53) dX7_kindHere_53 rfl rfl ?_
          exact ⟨rfl, rfl⟩
theorem r_filled {k r : Nat} (hk : k < 4) (hr : r < n) (hn9 : n ≤ 32) : EvR l jX7_filled 0 0 0 0 [.int (nI k), .int (nI r), .int (nI n)] M (.inl (some (.long (uL (flF k n r))))) M := by
  refine ev_intro rfl (nb rfl) rfl ?_
  rcases (by omega : k = 0 ∨ k = 1 ∨ k = 2 ∨ k = 3) with rfl | rfl | rfl | rfl
  · rw [flF_0]
    refine g_lconst (pc := 0) (v := 1) dX7_filled_0 rfl ?_
    refine g_iload_n (pc := 1) dX7_filled_1 rfl ?_
    refine g_lshl (pc := 2) dX7_filled_2 rfl ?_
    rw [sh_bit r (by omega)]
    refine g_lstore_n (pc := 3) (lv' := [(0, _), (1, _), (2, _), (3, _)]) dX7_filled_3 (nl rfl) rfl ?_
    refine g_iload_n (pc := 4) dX7_filled_4 rfl ?_
    refine g_tableIn (pc := 5) (tgt := 32) (off := 27) dX7_filled_5 (by decide) (by decide) (by decide) (by decide) ?_
    refine g_lload_n (pc := 32) dX7_filled_32 rfl ?_
    refine g_lreturn (pc := 33) dX7_filled_33 rfl ?_
    exact ⟨rfl, rfl⟩
  · rw [flF_1]
    refine g_lconst (pc := 0) (v := 1) dX7_filled_0 rfl ?_
    refine g_iload_n (pc := 1) dX7_filled_1 rfl ?_
    refine g_lshl (pc := 2) dX7_filled_2 rfl ?_
    refine g_lstore_n (pc := 3) (lv' := [(0, _), (1, _), (2, _), (3, _)]) dX7_filled_3 (nl rfl) rfl ?_
    refine g_iload_n (pc := 4) dX7_filled_4 rfl ?_
    refine g_tableIn (pc := 5) (tgt := 34) (off := 29) dX7_filled_5 (by decide) (by decide) (by decide) (by decide) ?_
    refine g_lconst (pc := 34) (v := 1) dX7_filled_34 rfl ?_
    refine g_iload_n (pc := 35) dX7_filled_35 rfl ?_
    refine g_lshl (pc := 36) dX7_filled_36 rfl ?_
    refine g_lconst (pc := 37) (v := 1) dX7_filled_37 rfl ?_
    refine g_lsub (pc := 38) dX7_filled_38 ?_
    rw [sh_low n hn9]
    refine g_lreturn (pc := 39) dX7_filled_39 rfl ?_
    exact ⟨rfl, rfl⟩
  · rw [flF_2]
    by_cases h : r + 1 < n
    · rw [if_pos h]
      refine g_lconst (pc := 0) (v := 1) dX7_filled_0 rfl ?_
      refine g_iload_n (pc := 1) dX7_filled_1 rfl ?_
      refine g_lshl (pc := 2) dX7_filled_2 rfl ?_
      refine g_lstore_n (pc := 3) (lv' := [(0, _), (1, _), (2, _), (3, _)]) dX7_filled_3 (nl rfl) rfl ?_
      refine g_iload_n (pc := 4) dX7_filled_4 rfl ?_
      refine g_tableIn (pc := 5) (tgt := 40) (off := 35) dX7_filled_5 (by decide) (by decide) (by decide) (by decide) ?_
      refine g_iload_n (pc := 40) dX7_filled_40 rfl ?_
      refine g_iload_n (pc := 41) dX7_filled_41 rfl ?_
      refine g_iconst (pc := 42) (v := 1) dX7_filled_42 rfl ?_
      refine g_isub (pc := 43) dX7_filled_43 ?_
      rw [nI_m1 (by omega)]
      refine g_icmp_ne (pc := 44) (tgt := 51) dX7_filled_44 rfl (fun _ => ?_) (fun h44 => absurd ((fun z => absurd ((nI_eq (by omega) (by omega)).mp z) (by omega))) h44)
      refine g_lload_n (pc := 51) dX7_filled_51 rfl ?_
      refine g_iconst (pc := 52) (v := 1) dX7_filled_52 rfl ?_
      refine g_lshl (pc := 53) dX7_filled_53 rfl ?_
      rw [sh_two r (by omega)]
      refine g_lreturn (pc := 54) dX7_filled_54 rfl ?_
      exact ⟨rfl, rfl⟩
    · rw [if_neg h]
      refine g_lconst (pc := 0) (v := 1) dX7_filled_0 rfl ?_
      refine g_iload_n (pc := 1) dX7_filled_1 rfl ?_
      refine g_lshl (pc := 2) dX7_filled_2 rfl ?_
      refine g_lstore_n (pc := 3) (lv' := [(0, _), (1, _), (2, _), (3, _)]) dX7_filled_3 (nl rfl) rfl ?_
      refine g_iload_n (pc := 4) dX7_filled_4 rfl ?_
      refine g_tableIn (pc := 5) (tgt := 40) (off := 35) dX7_filled_5 (by decide) (by decide) (by decide) (by decide) ?_
      refine g_iload_n (pc := 40) dX7_filled_40 rfl ?_
      refine g_iload_n (pc := 41) dX7_filled_41 rfl ?_
      refine g_iconst (pc := 42) (v := 1) dX7_filled_42 rfl ?_
      refine g_isub (pc := 43) dX7_filled_43 ?_
      rw [nI_m1 (by omega)]
      refine g_icmp_ne (pc := 44) (tgt := 51) dX7_filled_44 rfl (fun h44 => absurd h44 ((fun z => z (by rw [show n - 1 = r by omega])))) (fun _ => ?_)
      refine g_lconst (pc := 47) (v := 1) dX7_filled_47 rfl ?_
      refine g_goto (pc := 48) (tgt := 54) dX7_filled_48 rfl ?_
      refine g_lreturn (pc := 54) dX7_filled_54 rfl ?_
      exact ⟨rfl, rfl⟩
  · rw [flF_3]
    refine g_lconst (pc := 0) (v := 1) dX7_filled_0 rfl ?_
    refine g_iload_n (pc := 1) dX7_filled_1 rfl ?_
    refine g_lshl (pc := 2) dX7_filled_2 rfl ?_
    refine g_lstore_n (pc := 3) (lv' := [(0, _), (1, _), (2, _), (3, _)]) dX7_filled_3 (nl rfl) rfl ?_
    refine g_iload_n (pc := 4) dX7_filled_4 rfl ?_
    refine g_tableOut (pc := 5) (tgt := 55) dX7_filled_5 (by decide) (by decide) ?_
    refine g_lload_n (pc := 55) dX7_filled_55 rfl ?_
    refine g_lconst (pc := 56) (v := 1) dX7_filled_56 rfl ?_
    refine g_lsub (pc := 57) dX7_filled_57 ?_
    rw [sh_low r (by omega)]
    refine g_lreturn (pc := 58) dX7_filled_58 rfl ?_
    exact ⟨rfl, rfl⟩
def gF (T : Nat → Int32) (len n : Nat) (u : Nat → Int64) (s : RP) : (Nat → Int64) × RP :=
  if khF T (skipP T len (nmS T len 0 (nI 5) s).1) (twd T len (nmS T len 0 (nI 5) s)).1 = 4 then (u, rFail 1 (nI (skipP T len (nmS T len 0 (nI 5) s).1)) (twd T len (nmS T len 0 (nI 5) s)))
  else if (twd T len (nmS T len 0 (nI 5) s)).2.2.2.1 = 0 then (lyF u (nmN T len 5 s) (flF (khF T (skipP T len (nmS T len 0 (nI 5) s).1) (twd T len (nmS T len 0 (nI 5) s)).1) n) n, twd T len (nmS T len 0 (nI 5) s))
  else (u, twd T len (nmS T len 0 (nI 5) s))
theorem r_fillPart (hS : Shp M) (hT : txt M T len) (hl : mI M 198 8 = nI len) (hL : len ≤ 600) (hp : s.1 ≤ len) (hz : mL M 200 0 = lN n) (hn : 1 ≤ n) (hn9 : n ≤ 32) : EvR l jX7_fillPart 6 160 0 0 [.ref 198] (psM M s) (.inl none) (psM (sL M 200 (gF T len n (mL M 200) s).1) (gF T len n (mL M 200) s).2) := by
  have q1 := r_readSlot (l := l) (s := s) hS hT hl hL hp
  have ha := (nmN_ok (T := T) (len := len) (s := s) (h := 5) (by decide)).2
  unfold gF
  generalize nmN T len 5 s = a at *
  have hp1 := nmS_le (T := T) (lo := 0) (hi := nI 5) hp
  generalize nmS T len 0 (nI 5) s = s1 at *
  have q2 := r_reads (l := l) (s := s1) hS hT hl hL hp1
  have hw := twd_le (T := T) hp1
  have hw2 : (twd T len s1).2.1 = nI (skipP T len s1.1) := rfl
  generalize twd T len s1 = s2 at *
  generalize skipP T len s1.1 = b at *
  have q3 := r_kindHere (l := l) (s := s2) hS hT hL hw.1 hw2 hw.2
  have hk4 := khF_le T b s2.1
  generalize khF T b s2.1 = k at *
  have hS0 : Shp (psM M s) := hS
  have hS1 : Shp (psM M s1) := hS
  have hS2 : Shp (psM M s2) := hS
  have h11 : mI (psM M s2) 198 11 = s2.2.2.2.1 := ps_11
  have eP : ∀ w t, psM (sL M 200 w) t = sL (psM M t) 200 w := fun w t => ps_sL.symm
  refine ev_intro rfl (nb rfl) rfl ?_
  by_cases h4 : k = 4
  · rw [if_pos h4]
    subst h4
    simp only
    rw [sL_id]
    have qf := r_fails (l := l) (M := M) (s := s2) (k := 1) hS
    rw [hw2] at qf
    have hS4 : Shp (psM M (rFail 1 (nI b) s2)) := hS
    have h5 : (rFail 1 (nI b) s2).2.2.2.1 ≠ 0 := by
      by_cases he : s2.2.2.2.1 = 0
      · rw [rFail_0 he]; exact (by decide : (1 : Int32) ≠ 0)
      · rw [rFail_e he]; exact he
    have h114 : mI (psM M (rFail 1 (nI b) s2)) 198 11 = (rFail 1 (nI b) s2).2.2.2.1 := ps_11
    generalize rFail 1 (nI b) s2 = s3 at *
    refine g_aload_n (pc := 0) dX7_fillPart_0 rfl trivial ?_
    refine g_invV_r (pc := 1) (As := []) dX7_fillPart_1 rfl (q1) rfl rfl (shK hS0 rfl) rfl rfl lk_X7_140 rfl (nb rfl) ⟨nb rfl, nb rfl⟩ rfl ?_
    refine g_istore_n (pc := 4) (lv' := [(0, _), (1, _)]) dX7_fillPart_4 (nl rfl) rfl ?_
    refine g_aload_n (pc := 5) dX7_fillPart_5 rfl trivial ?_
    refine g_invV_r (pc := 6) (As := []) dX7_fillPart_6 rfl (q2) rfl rfl (shK hS1 rfl) rfl rfl lk_X7_132 rfl (nb rfl) ⟨nb rfl, nb rfl⟩ rfl ?_
    refine g_aload_n (pc := 9) dX7_fillPart_9 rfl trivial ?_
    refine g_invV_r (pc := 10) (As := []) dX7_fillPart_10 rfl (q3) rfl rfl (shK hS2 rfl) rfl rfl lk_X7_154 rfl (nb rfl) ⟨nb rfl, nb rfl⟩ rfl ?_
    refine g_istore_n (pc := 13) (lv' := [(0, _), (1, _), (2, _)]) dX7_fillPart_13 (nl rfl) rfl ?_
    refine g_iload_n (pc := 14) dX7_fillPart_14 rfl ?_
    refine g_iconst (pc := 15) (v := (-1)) dX7_fillPart_15 rfl ?_
    refine g_icmp_ne (pc := 16) (tgt := 24) dX7_fillPart_16 rfl (fun h16 => absurd h16 ((fun z => z rfl))) (fun _ => ?_)
    refine g_aload_n (pc := 19) dX7_fillPart_19 rfl trivial ?_
    refine g_iconst (pc := 20) (v := 1) dX7_fillPart_20 rfl ?_
    refine g_invV_r (pc := 21) (As := [_]) dX7_fillPart_21 rfl (qf) rfl rfl (shK hS2 rfl) rfl rfl lk_X7_118 rfl (nb rfl) ⟨nb rfl, nb rfl⟩ rfl ?_
    refine g_aload_n (pc := 24) dX7_fillPart_24 rfl trivial ?_
    refine g_getf (pc := 25) (v := .int _) dX7_fillPart_25 fk_X7_93 (shK hS4 rfl) (fun _ => congrArg Value.int (h114)) ?_
    refine g_if_eq (pc := 28) (tgt := 32) dX7_fillPart_28 rfl (fun h28 => absurd h28 (h5)) (fun _ => ?_)
    refine g_return (pc := 31) dX7_fillPart_31 rfl ?_
    exact ⟨rfl, rfl⟩
  · rw [if_neg h4]
    have hv : khV k = nI k := by unfold khV; rw [if_neg h4]
    rw [hv] at q3
    have hne : ∀ k, k < 4 → nI k ≠ -1 := by decide
    by_cases he : s2.2.2.2.1 = 0
    · rw [if_pos he]
      simp only
      rw [eP, show mL M 200 = mL (psM M s2) 200 from rfl]
      have hz1 : mL (psM M s2) 200 0 = lN n := hz
      generalize psM M s2 = M2 at *
      generalize psM M s1 = M1 at *
      generalize psM M s = M0 at *
      refine g_aload_n (pc := 0) dX7_fillPart_0 rfl trivial ?_
      refine g_invV_r (pc := 1) (As := []) dX7_fillPart_1 rfl (q1) rfl rfl (shK hS0 rfl) rfl rfl lk_X7_140 rfl (nb rfl) ⟨nb rfl, nb rfl⟩ rfl ?_
      refine g_istore_n (pc := 4) (lv' := [(0, _), (1, _)]) dX7_fillPart_4 (nl rfl) rfl ?_
      refine g_aload_n (pc := 5) dX7_fillPart_5 rfl trivial ?_
      refine g_invV_r (pc := 6) (As := []) dX7_fillPart_6 rfl (q2) rfl rfl (shK hS1 rfl) rfl rfl lk_X7_132 rfl (nb rfl) ⟨nb rfl, nb rfl⟩ rfl ?_
      refine g_aload_n (pc := 9) dX7_fillPart_9 rfl trivial ?_
      refine g_invV_r (pc := 10) (As := []) dX7_fillPart_10 rfl (q3) rfl rfl (shK hS2 rfl) rfl rfl lk_X7_154 rfl (nb rfl) ⟨nb rfl, nb rfl⟩ rfl ?_
      refine g_istore_n (pc := 13) (lv' := [(0, _), (1, _), (2, _)]) dX7_fillPart_13 (nl rfl) rfl ?_
      refine g_iload_n (pc := 14) dX7_fillPart_14 rfl ?_
      refine g_iconst (pc := 15) (v := (-1)) dX7_fillPart_15 rfl ?_
      refine g_icmp_ne (pc := 16) (tgt := 24) dX7_fillPart_16 rfl (fun _ => ?_) (fun h16 => absurd ((hne k (by omega))) h16)
      refine g_aload_n (pc := 24) dX7_fillPart_24 rfl trivial ?_
      refine g_getf (pc := 25) (v := .int _) dX7_fillPart_25 fk_X7_93 (shK hS2 rfl) (fun _ => congrArg Value.int (h11)) ?_
      refine g_if_eq (pc := 28) (tgt := 32) dX7_fillPart_28 rfl (fun _ => ?_) (fun h28 => absurd (he) h28)
      refine g_aload_n (pc := 32) dX7_fillPart_32 rfl trivial ?_
      refine g_getf (pc := 33) dX7_fillPart_33 fk_X7_13 (shK hS2 rfl) (fv_arr (shR hS2 rfl)) ?_
      refine g_iconst (pc := 36) (v := 0) dX7_fillPart_36 rfl ?_
      refine g_laload (pc := 37) dX7_fillPart_37 (shK hS2 rfl) rfl (by decide) (nl rfl) ?_
      rw [hz1]
      refine g_l2i (pc := 38) dX7_fillPart_38 (lN_i n) ?_
      refine g_istore_n (pc := 39) (lv' := [(0, _), (1, _), (2, _), (3, _)]) dX7_fillPart_39 (nl rfl) rfl ?_
      refine g_iconst (pc := 40) (v := 0) dX7_fillPart_40 rfl ?_
      refine g_istore (pc := 41) (lv' := [(0, _), (1, _), (2, _), (3, _), (4, _)]) dX7_fillPart_41 (nl rfl) rfl ?_
      refine go_loop (pc := 43) n (fun i => [(0, .ref 198), (1, .int (nI a)), (2, .int (nI k)), (3, .int (nI n)), (4, .int (nI i))]) (fun i => sL M2 200 (lyF (mL M2 200) a (flF k n) i)) ⟨rfl, rfl, rfl, rfl, rfl, trivial⟩ (sL_eq (lyF_0 _ _ _)) ?_ ?_
      · intro i hi ih
        have e3 : pL (sL M2 200 (lyF (mL M2 200) a (flF k n) i)) 200 (28 + 32 * a + i) (uL (flF k n i)) = sL M2 200 (lyF (mL M2 200) a (flF k n) (i + 1)) := sL_st (lyF_s _ _ _ i)
        have hS3 : Shp (sL M2 200 (lyF (mL M2 200) a (flF k n) i)) := hS2
        generalize sL M2 200 (lyF (mL M2 200) a (flF k n) (i + 1)) = M4 at *
        generalize sL M2 200 (lyF (mL M2 200) a (flF k n) i) = M3 at *
        refine g_iload (pc := 43) dX7_fillPart_43 rfl ?_
        refine g_iload_n (pc := 45) dX7_fillPart_45 rfl ?_
        refine g_icmp_ge (pc := 46) (tgt := 77) dX7_fillPart_46 rfl (fun h46 => absurd h46 (nI_ge hi (by omega))) (fun _ => ?_)
        refine g_aload_n (pc := 49) dX7_fillPart_49 rfl trivial ?_
        refine g_getf (pc := 50) dX7_fillPart_50 fk_X7_13 (shK hS3 rfl) (fv_arr (shR hS3 rfl)) ?_
        refine g_bipush (pc := 53) (v := 28) dX7_fillPart_53 rfl ?_
        refine g_bipush (pc := 55) (v := 32) dX7_fillPart_55 rfl ?_
        refine g_iload_n (pc := 57) dX7_fillPart_57 rfl ?_
        refine g_imul (pc := 58) dX7_fillPart_58 ?_
        refine g_iadd (pc := 59) dX7_fillPart_59 ?_
        refine g_iload (pc := 60) dX7_fillPart_60 rfl ?_
        refine g_iadd (pc := 62) dX7_fillPart_62 ?_
        rw [ixR]
        refine g_iload_n (pc := 63) dX7_fillPart_63 rfl ?_
        refine g_iload (pc := 64) dX7_fillPart_64 rfl ?_
        refine g_iload_n (pc := 66) dX7_fillPart_66 rfl ?_
        refine g_invS_r (pc := 67) (As := [_, _, _]) dX7_fillPart_67 rfl (r_filled (by omega) hi hn9) rfl rfl lk_X7_157 rfl (nb rfl) ⟨nb rfl, nb rfl⟩ rfl ?_
        refine g_lastore (pc := 70) dX7_fillPart_70 (shK hS3 rfl) rfl (show 28 + 32 * a + i < 220 by omega) (nl rfl) ?_
        refine g_iinc (pc := 71) (lv' := [(0, _), (1, _), (2, _), (3, _), (4, _)]) dX7_fillPart_71 rfl (nI_1 _) (nl rfl) rfl ?_
        refine g_goto (pc := 74) (tgt := 43) dX7_fillPart_74 rfl ?_
        exact go_cast e3 ih
      · refine g_iload (pc := 43) dX7_fillPart_43 rfl ?_
        refine g_iload_n (pc := 45) dX7_fillPart_45 rfl ?_
        refine g_icmp_ge (pc := 46) (tgt := 77) dX7_fillPart_46 rfl (fun _ => ?_) (fun h46 => absurd (nI_le (Nat.le_refl _) (by omega)) h46)
        refine g_return (pc := 77) dX7_fillPart_77 rfl ?_
        exact ⟨rfl, rfl⟩
    · rw [if_neg he]
      simp only
      rw [sL_id]
      refine g_aload_n (pc := 0) dX7_fillPart_0 rfl trivial ?_
      refine g_invV_r (pc := 1) (As := []) dX7_fillPart_1 rfl (q1) rfl rfl (shK hS0 rfl) rfl rfl lk_X7_140 rfl (nb rfl) ⟨nb rfl, nb rfl⟩ rfl ?_
      refine g_istore_n (pc := 4) (lv' := [(0, _), (1, _)]) dX7_fillPart_4 (nl rfl) rfl ?_
      refine g_aload_n (pc := 5) dX7_fillPart_5 rfl trivial ?_
      refine g_invV_r (pc := 6) (As := []) dX7_fillPart_6 rfl (q2) rfl rfl (shK hS1 rfl) rfl rfl lk_X7_132 rfl (nb rfl) ⟨nb rfl, nb rfl⟩ rfl ?_
      refine g_aload_n (pc := 9) dX7_fillPart_9 rfl trivial ?_
      refine g_invV_r (pc := 10) (As := []) dX7_fillPart_10 rfl (q3) rfl rfl (shK hS2 rfl) rfl rfl lk_X7_154 rfl (nb rfl) ⟨nb rfl, nb rfl⟩ rfl ?_
      refine g_istore_n (pc := 13) (lv' := [(0, _), (1, _), (2, _)]) dX7_fillPart_13 (nl rfl) rfl ?_
      refine g_iload_n (pc := 14) dX7_fillPart_14 rfl ?_
      refine g_iconst (pc := 15) (v := (-1)) dX7_fillPart_15 rfl ?_
      refine g_icmp_ne (pc := 16) (tgt := 24) dX7_fillPart_16 rfl (fun _ => ?_) (fun h16 => absurd ((hne k (by omega))) h16)
      refine g_aload_n (pc := 24) dX7_fillPart_24 rfl trivial ?_
      refine g_getf (pc := 25) (v := .int _) dX7_fillPart_25 fk_X7_93 (shK hS2 rfl) (fun _ => congrArg Value.int (h11)) ?_
      refine g_if_eq (pc := 28) (tgt := 32) dX7_fillPart_28 rfl (fun h28 => absurd h28 (he)) (fun _ => ?_)
      refine g_return (pc := 31) dX7_fillPart_31 rfl ?_
      exact ⟨rfl, rfl⟩
end
end
-- 315.rr
section
/-! the reference reads: a statement, more, the size -/
/-- a block read -/
def gBk (T : Nat → Int32) (len : Nat) (u : Nat → Int64) (s : RP) : (Nat → Int64) × RP := (fun_set u 1 (nmV T len 1 8 s).toInt64, nmS T len 1 8 s)
def gS (T : Nat → Int32) (len n : Nat) (u : Nat → Int64) (s : RP) : (Nat → Int64) × RP :=
  if wdQ T (skipP T len s.1) (twd T len s).1 (strW 14) = true then gE T len n u (twd T len s)
  else if wdQ T (skipP T len s.1) (twd T len s).1 (strW 15) = true then gR T len n u (twd T len s)
  else if wdQ T (skipP T len s.1) (twd T len s).1 (strW 16) = true then gF T len n u (twd T len s)
  else if wdQ T (skipP T len s.1) (twd T len s).1 (strW 21) = true then gK T len u (twd T len s)
  else if wdQ T (skipP T len s.1) (twd T len s).1 (strW 22) = true then gBk T len u (twd T len s)
  else (u, rFail 1 (nI (skipP T len s.1)) (twd T len s))
section
variable {l : Launch} {M : Mem} {s : RP} {len n : Nat} {T : Nat → Int32}
theorem r_statement (hS : Shp M) (hT : txt M T len) (hl : mI M 198 8 = nI len) (hL : len ≤ 600) (hp : s.1 ≤ len) (hz : mL M 200 0 = lN n) (hn : 1 ≤ n) (hn9 : n ≤ 32) : EvR l jX7_statement 7 190 0 0 [.ref 198] (psM M s) (.inl none) (psM (sL M 200 (gS T len n (mL M 200) s).1) (gS T len n (mL M 200) s).2) := by
  have q0 := r_reads (l := l) (s := s) hS hT hl hL hp
  have hw := twd_le (T := T) hp
  have hw2 : (twd T len s).2.1 = nI (skipP T len s.1) := rfl
  unfold gS
  generalize twd T len s = s1 at *
  generalize skipP T len s.1 = b at *
  have w0 : EvR l jX7_isWord 4 110 0 0 [.ref 198, .retAddr (2 * 14 + 2)] (psM M s1) (.inl (some (.int (b1 (wdQ T b s1.1 (strW 14)))))) (psM M s1) := r_isWR 14 hS hT hL hw.1 hw2 hw.2 (by decide) (by decide)
  have w1 : EvR l jX7_isWord 4 110 0 0 [.ref 198, .retAddr (2 * 15 + 2)] (psM M s1) (.inl (some (.int (b1 (wdQ T b s1.1 (strW 15)))))) (psM M s1) := r_isWR 15 hS hT hL hw.1 hw2 hw.2 (by decide) (by decide)
  have w2 : EvR l jX7_isWord 4 110 0 0 [.ref 198, .retAddr (2 * 16 + 2)] (psM M s1) (.inl (some (.int (b1 (wdQ T b s1.1 (strW 16)))))) (psM M s1) := r_isWR 16 hS hT hL hw.1 hw2 hw.2 (by decide) (by decide)
  have w3 : EvR l jX7_isWord 4 110 0 0 [.ref 198, .retAddr (2 * 21 + 2)] (psM M s1) (.inl (some (.int (b1 (wdQ T b s1.1 (strW 21)))))) (psM M s1) := r_isWR 21 hS hT hL hw.1 hw2 hw.2 (by decide) (by decide)
  have w4 : EvR l jX7_isWord 4 110 0 0 [.ref 198, .retAddr (2 * 22 + 2)] (psM M s1) (.inl (some (.int (b1 (wdQ T b s1.1 (strW 22)))))) (psM M s1) := r_isWR 22 hS hT hL hw.1 hw2 hw.2 (by decide) (by decide)
  have p0 := r_edgePart (l := l) (s := s1) hS hT hl hL hw.1 hz hn hn9
  have p1 := r_rowPart (l := l) (s := s1) hS hT hl hL hw.1 hz hn hn9
  have p2 := r_fillPart (l := l) (s := s1) hS hT hl hL hw.1 hz hn hn9
  have p3 := r_keepPart (l := l) (s := s1) hS hT hl hL hw.1
  have p4 := r_numR (l := l) (s := s1) (lo := 1) (hi := 8) hS hT hl hL hw.1 (by decide)
  have pf := r_fails (l := l) (M := M) (s := s1) (k := 1) hS
  rw [hw2] at pf
  have hS0 : Shp (psM M s) := hS
  have hS1 : Shp (psM M s1) := hS
  generalize wdQ T b s1.1 (strW 14) = c0 at *
  generalize wdQ T b s1.1 (strW 15) = c1 at *
  generalize wdQ T b s1.1 (strW 16) = c2 at *
  generalize wdQ T b s1.1 (strW 21) = c3 at *
  generalize wdQ T b s1.1 (strW 22) = c4 at *
  generalize gE T len n (mL M 200) s1 = r0 at *
  generalize gR T len n (mL M 200) s1 = r1 at *
  generalize gF T len n (mL M 200) s1 = r2 at *
  generalize gK T len (mL M 200) s1 = r3 at *
  refine ev_intro rfl (nb rfl) rfl ?_
  cases c0 with
  | true =>
    refine g_aload_n (pc := 0) dX7_statement_0 rfl trivial ?_
    refine g_invV_r (pc := 1) (As := []) dX7_statement_1 rfl (q0) rfl rfl (shK hS0 rfl) rfl rfl lk_X7_132 rfl (nb rfl) ⟨nb rfl, nb rfl⟩ rfl ?_
    refine g_aload_n (pc := 4) dX7_statement_4 rfl trivial ?_
    refine g_ldcS (pc := 5) (kS := 14) dX7_statement_5 rfl ?_
    refine g_invV_r (pc := 7) (As := [_]) dX7_statement_7 rfl (w0) rfl rfl (shK hS1 rfl) rfl rfl lk_X7_136 rfl (nb rfl) ⟨nb rfl, nb rfl⟩ rfl ?_
    refine g_if_eq (pc := 10) (tgt := 20) dX7_statement_10 rfl (fun h10 => absurd h10 ((by decide))) (fun _ => ?_)
    refine g_aload_n (pc := 13) dX7_statement_13 rfl trivial ?_
    refine g_invV_r (pc := 14) (As := []) dX7_statement_14 rfl (p0) rfl rfl (shK hS1 rfl) rfl rfl lk_X7_163 rfl (nb rfl) ⟨nb rfl, nb rfl⟩ rfl ?_
    refine g_goto (pc := 17) (tgt := 99) dX7_statement_17 rfl ?_
    refine g_return (pc := 99) dX7_statement_99 rfl ?_
    exact ⟨rfl, rfl⟩
  | false =>
    cases c1 with
    | true =>
      refine g_aload_n (pc := 0) dX7_statement_0 rfl trivial ?_
      refine g_invV_r (pc := 1) (As := []) dX7_statement_1 rfl (q0) rfl rfl (shK hS0 rfl) rfl rfl lk_X7_132 rfl (nb rfl) ⟨nb rfl, nb rfl⟩ rfl ?_
      refine g_aload_n (pc := 4) dX7_statement_4 rfl trivial ?_
      refine g_ldcS (pc := 5) (kS := 14) dX7_statement_5 rfl ?_
      refine g_invV_r (pc := 7) (As := [_]) dX7_statement_7 rfl (w0) rfl rfl (shK hS1 rfl) rfl rfl lk_X7_136 rfl (nb rfl) ⟨nb rfl, nb rfl⟩ rfl ?_
      refine g_if_eq (pc := 10) (tgt := 20) dX7_statement_10 rfl (fun _ => ?_) (fun h10 => absurd (rfl) h10)
      refine g_aload_n (pc := 20) dX7_statement_20 rfl trivial ?_
      refine g_ldcS (pc := 21) (kS := 15) dX7_statement_21 rfl ?_
      refine g_invV_r (pc := 23) (As := [_]) dX7_statement_23 rfl (w1) rfl rfl (shK hS1 rfl) rfl rfl lk_X7_136 rfl (nb rfl) ⟨nb rfl, nb rfl⟩ rfl ?_
      refine g_if_eq (pc := 26) (tgt := 36) dX7_statement_26 rfl (fun h26 => absurd h26 ((by decide))) (fun _ => ?_)
      refine g_aload_n (pc := 29) dX7_statement_29 rfl trivial ?_
      refine g_invV_r (pc := 30) (As := []) dX7_statement_30 rfl (p1) rfl rfl (shK hS1 rfl) rfl rfl lk_X7_168 rfl (nb rfl) ⟨nb rfl, nb rfl⟩ rfl ?_
      refine g_goto (pc := 33) (tgt := 99) dX7_statement_33 rfl ?_
      refine g_return (pc := 99) dX7_statement_99 rfl ?_
      exact ⟨rfl, rfl⟩
    | false =>
      cases c2 with
      | true =>
        refine g_aload_n (pc := 0) dX7_statement_0 rfl trivial ?_
        refine g_invV_r (pc := 1) (As := []) dX7_statement_1 rfl (q0) rfl rfl (shK hS0 rfl) rfl rfl lk_X7_132 rfl (nb rfl) ⟨nb rfl, nb rfl⟩ rfl ?_
        refine g_aload_n (pc := 4) dX7_statement_4 rfl trivial ?_
        refine g_ldcS (pc := 5) (kS := 14) dX7_statement_5 rfl ?_
        refine g_invV_r (pc := 7) (As := [_]) dX7_statement_7 rfl (w0) rfl rfl (shK hS1 rfl) rfl rfl lk_X7_136 rfl (nb rfl) ⟨nb rfl, nb rfl⟩ rfl ?_
        refine g_if_eq (pc := 10) (tgt := 20) dX7_statement_10 rfl (fun _ => ?_) (fun h10 => absurd (rfl) h10)
        refine g_aload_n (pc := 20) dX7_statement_20 rfl trivial ?_
        refine g_ldcS (pc := 21) (kS := 15) dX7_statement_21 rfl ?_
        refine g_invV_r (pc := 23) (As := [_]) dX7_statement_23 rfl (w1) rfl rfl (shK hS1 rfl) rfl rfl lk_X7_136 rfl (nb rfl) ⟨nb rfl, nb rfl⟩ rfl ?_
        refine g_if_eq (pc := 26) (tgt := 36) dX7_statement_26 rfl (fun _ => ?_) (fun h26 => absurd (rfl) h26)
        refine g_aload_n (pc := 36) dX7_statement_36 rfl trivial ?_
        refine g_ldcS (pc := 37) (kS := 16) dX7_statement_37 rfl ?_
        refine g_invV_r (pc := 39) (As := [_]) dX7_statement_39 rfl (w2) rfl rfl (shK hS1 rfl) rfl rfl lk_X7_136 rfl (nb rfl) ⟨nb rfl, nb rfl⟩ rfl ?_
        refine g_if_eq (pc := 42) (tgt := 52) dX7_statement_42 rfl (fun h42 => absurd h42 ((by decide))) (fun _ => ?_)
        refine g_aload_n (pc := 45) dX7_statement_45 rfl trivial ?_
        refine g_invV_r (pc := 46) (As := []) dX7_statement_46 rfl (p2) rfl rfl (shK hS1 rfl) rfl rfl lk_X7_173 rfl (nb rfl) ⟨nb rfl, nb rfl⟩ rfl ?_
        refine g_goto (pc := 49) (tgt := 99) dX7_statement_49 rfl ?_
        refine g_return (pc := 99) dX7_statement_99 rfl ?_
        exact ⟨rfl, rfl⟩
      | false =>
        cases c3 with
        | true =>
          refine g_aload_n (pc := 0) dX7_statement_0 rfl trivial ?_
          refine g_invV_r (pc := 1) (As := []) dX7_statement_1 rfl (q0) rfl rfl (shK hS0 rfl) rfl rfl lk_X7_132 rfl (nb rfl) ⟨nb rfl, nb rfl⟩ rfl ?_
          refine g_aload_n (pc := 4) dX7_statement_4 rfl trivial ?_
          refine g_ldcS (pc := 5) (kS := 14) dX7_statement_5 rfl ?_
          refine g_invV_r (pc := 7) (As := [_]) dX7_statement_7 rfl (w0) rfl rfl (shK hS1 rfl) rfl rfl lk_X7_136 rfl (nb rfl) ⟨nb rfl, nb rfl⟩ rfl ?_
          refine g_if_eq (pc := 10) (tgt := 20) dX7_statement_10 rfl (fun _ => ?_) (fun h10 => absurd (rfl) h10)
          refine g_aload_n (pc := 20) dX7_statement_20 rfl trivial ?_
          refine g_ldcS (pc := 21) (kS := 15) dX7_statement_21 rfl ?_
          refine g_invV_r (pc := 23) (As := [_]) dX7_statement_23 rfl (w1) rfl rfl (shK hS1 rfl) rfl rfl lk_X7_136 rfl (nb rfl) ⟨nb rfl, nb rfl⟩ rfl ?_
          refine g_if_eq (pc := 26) (tgt := 36) dX7_statement_26 rfl (fun _ => ?_) (fun h26 => absurd (rfl) h26)
          refine g_aload_n (pc := 36) dX7_statement_36 rfl trivial ?_
          refine g_ldcS (pc := 37) (kS := 16) dX7_statement_37 rfl ?_
          refine g_invV_r (pc := 39) (As := [_]) dX7_statement_39 rfl (w2) rfl rfl (shK hS1 rfl) rfl rfl lk_X7_136 rfl (nb rfl) ⟨nb rfl, nb rfl⟩ rfl ?_
          refine g_if_eq (pc := 42) (tgt := 52) dX7_statement_42 rfl (fun _ => ?_) (fun h42 => absurd (rfl) h42)
          refine g_aload_n (pc := 52) dX7_statement_52 rfl trivial ?_
          refine g_ldcS (pc := 53) (kS := 21) dX7_statement_53 rfl ?_
          refine g_invV_r (pc := 55) (As := [_]) dX7_statement_55 rfl (w3) rfl rfl (shK hS1 rfl) rfl rfl lk_X7_136 rfl (nb rfl) ⟨nb rfl, nb rfl⟩ rfl ?_
          refine g_if_eq (pc := 58) (tgt := 68) dX7_statement_58 rfl (fun h58 => absurd h58 ((by decide))) (fun _ => ?_)
          refine g_aload_n (pc := 61) dX7_statement_61 rfl trivial ?_
          refine g_invV_r (pc := 62) (As := []) dX7_statement_62 rfl (p3) rfl rfl (shK hS1 rfl) rfl rfl lk_X7_178 rfl (nb rfl) ⟨nb rfl, nb rfl⟩ rfl ?_
          refine g_goto (pc := 65) (tgt := 99) dX7_statement_65 rfl ?_
          refine g_return (pc := 99) dX7_statement_99 rfl ?_
          exact ⟨rfl, rfl⟩
        | false =>
          cases c4 with
          | true =>
            have e9 : pL (psM M (nmS T len 1 8 s1)) 200 1 (nmV T len 1 8 s1).toInt64 = psM (sL M 200 (fun_set (mL M 200) 1 (nmV T len 1 8 s1).toInt64)) (nmS T len 1 8 s1) := ps_sL
            have e9 : psM (sL M 200 (gBk T len (mL M 200) s1).1) (gBk T len (mL M 200) s1).2 = pL (psM M (nmS T len 1 8 s1)) 200 1 (nmV T len 1 8 s1).toInt64 := e9.symm
            simp only [if_true, if_false, Bool.false_eq_true]
            rw [e9]
            have hS2 : Shp (psM M (nmS T len 1 8 s1)) := hS
            generalize psM M (nmS T len 1 8 s1) = M2 at *
            generalize nmV T len 1 8 s1 = v at *
            refine g_aload_n (pc := 0) dX7_statement_0 rfl trivial ?_
            refine g_invV_r (pc := 1) (As := []) dX7_statement_1 rfl (q0) rfl rfl (shK hS0 rfl) rfl rfl lk_X7_132 rfl (nb rfl) ⟨nb rfl, nb rfl⟩ rfl ?_
            refine g_aload_n (pc := 4) dX7_statement_4 rfl trivial ?_
            refine g_ldcS (pc := 5) (kS := 14) dX7_statement_5 rfl ?_
            refine g_invV_r (pc := 7) (As := [_]) dX7_statement_7 rfl (w0) rfl rfl (shK hS1 rfl) rfl rfl lk_X7_136 rfl (nb rfl) ⟨nb rfl, nb rfl⟩ rfl ?_
            refine g_if_eq (pc := 10) (tgt := 20) dX7_statement_10 rfl (fun _ => ?_) (fun h10 => absurd (rfl) h10)
            refine g_aload_n (pc := 20) dX7_statement_20 rfl trivial ?_
            refine g_ldcS (pc := 21) (kS := 15) dX7_statement_21 rfl ?_
            refine g_invV_r (pc := 23) (As := [_]) dX7_statement_23 rfl (w1) rfl rfl (shK hS1 rfl) rfl rfl lk_X7_136 rfl (nb rfl) ⟨nb rfl, nb rfl⟩ rfl ?_
            refine g_if_eq (pc := 26) (tgt := 36) dX7_statement_26 rfl (fun _ => ?_) (fun h26 => absurd (rfl) h26)
            refine g_aload_n (pc := 36) dX7_statement_36 rfl trivial ?_
            refine g_ldcS (pc := 37) (kS := 16) dX7_statement_37 rfl ?_
            refine g_invV_r (pc := 39) (As := [_]) dX7_statement_39 rfl (w2) rfl rfl (shK hS1 rfl) rfl rfl lk_X7_136 rfl (nb rfl) ⟨nb rfl, nb rfl⟩ rfl ?_
            refine g_if_eq (pc := 42) (tgt := 52) dX7_statement_42 rfl (fun _ => ?_) (fun h42 => absurd (rfl) h42)
            refine g_aload_n (pc := 52) dX7_statement_52 rfl trivial ?_
            refine g_ldcS (pc := 53) (kS := 21) dX7_statement_53 rfl ?_
            refine g_invV_r (pc := 55) (As := [_]) dX7_statement_55 rfl (w3) rfl rfl (shK hS1 rfl) rfl rfl lk_X7_136 rfl (nb rfl) ⟨nb rfl, nb rfl⟩ rfl ?_
            refine g_if_eq (pc := 58) (tgt := 68) dX7_statement_58 rfl (fun _ => ?_) (fun h58 => absurd (rfl) h58)
            refine g_aload_n (pc := 68) dX7_statement_68 rfl trivial ?_
            refine g_ldcS (pc := 69) (kS := 22) dX7_statement_69 rfl ?_
            refine g_invV_r (pc := 71) (As := [_]) dX7_statement_71 rfl (w4) rfl rfl (shK hS1 rfl) rfl rfl lk_X7_136 rfl (nb rfl) ⟨nb rfl, nb rfl⟩ rfl ?_
            refine g_if_eq (pc := 74) (tgt := 94) dX7_statement_74 rfl (fun h74 => absurd h74 ((by decide))) (fun _ => ?_)
            refine g_aload_n (pc := 77) dX7_statement_77 rfl trivial ?_
            refine g_getf (pc := 78) dX7_statement_78 fk_X7_13 (shK hS1 rfl) (fv_arr (shR hS1 rfl)) ?_
            refine g_iconst (pc := 81) (v := 1) dX7_statement_81 rfl ?_
            refine g_aload_n (pc := 82) dX7_statement_82 rfl trivial ?_
            refine g_iconst (pc := 83) (v := 1) dX7_statement_83 rfl ?_
            refine g_bipush (pc := 84) (v := 8) dX7_statement_84 rfl ?_
            refine g_invV_r (pc := 86) (As := [_, _]) dX7_statement_86 rfl (p4) rfl rfl (shK hS1 rfl) rfl rfl lk_X7_129 rfl (nb rfl) ⟨nb rfl, nb rfl⟩ rfl ?_
            refine g_i2l (pc := 89) dX7_statement_89 rfl ?_
            refine g_lastore (pc := 90) dX7_statement_90 (shK hS2 rfl) rfl (by decide) (nl rfl) ?_
            refine g_goto (pc := 91) (tgt := 99) dX7_statement_91 rfl ?_
            refine g_return (pc := 99) dX7_statement_99 rfl ?_
            exact ⟨rfl, rfl⟩
          | false =>
            simp only [if_false, Bool.false_eq_true]
            rw [sL_id]
            refine g_aload_n (pc := 0) dX7_statement_0 rfl trivial ?_
            refine g_invV_r (pc := 1) (As := []) dX7_statement_1 rfl (q0) rfl rfl (shK hS0 rfl) rfl rfl lk_X7_132 rfl (nb rfl) ⟨nb rfl, nb rfl⟩ rfl ?_
            refine g_aload_n (pc := 4) dX7_statement_4 rfl trivial ?_
            refine g_ldcS (pc := 5) (kS := 14) dX7_statement_5 rfl ?_
            refine g_invV_r (pc := 7) (As := [_]) dX7_statement_7 rfl (w0) rfl rfl (shK hS1 rfl) rfl rfl lk_X7_136 rfl (nb rfl) ⟨nb rfl, nb rfl⟩ rfl ?_
            refine g_if_eq (pc := 10) (tgt := 20) dX7_statement_10 rfl (fun _ => ?_) (fun h10 => absurd (rfl) h10)
            refine g_aload_n (pc := 20) dX7_statement_20 rfl trivial ?_
            refine g_ldcS (pc := 21) (kS := 15) dX7_statement_21 rfl ?_
            refine g_invV_r (pc := 23) (As := [_]) dX7_statement_23 rfl (w1) rfl rfl (shK hS1 rfl) rfl rfl lk_X7_136 rfl (nb rfl) ⟨nb rfl, nb rfl⟩ rfl ?_
            refine g_if_eq (pc := 26) (tgt := 36) dX7_statement_26 rfl (fun _ => ?_) (fun h26 => absurd (rfl) h26)
            refine g_aload_n (pc := 36) dX7_statement_36 rfl trivial ?_
            refine g_ldcS (pc := 37) (kS := 16) dX7_statement_37 rfl ?_
            refine g_invV_r (pc := 39) (As := [_]) dX7_statement_39 rfl (w2) rfl rfl (shK hS1 rfl) rfl rfl lk_X7_136 rfl (nb rfl) ⟨nb rfl, nb rfl⟩ rfl ?_
            refine g_if_eq (pc := 42) (tgt := 52) dX7_statement_42 rfl (fun _ => ?_) (fun h42 => absurd (rfl) h42)
            refine g_aload_n (pc := 52) dX7_statement_52 rfl trivial ?_
            refine g_ldcS (pc := 53) (kS := 21) dX7_statement_53 rfl ?_
            refine g_invV_r (pc := 55) (As := [_]) dX7_statement_55 rfl (w3) rfl rfl (shK hS1 rfl) rfl rfl lk_X7_136 rfl (nb rfl) ⟨nb rfl, nb rfl⟩ rfl ?_
            refine g_if_eq (pc := 58) (tgt := 68) dX7_statement_58 rfl (fun _ => ?_) (fun h58 => absurd (rfl) h58)
            refine g_aload_n (pc := 68) dX7_statement_68 rfl trivial ?_
            refine g_ldcS (pc := 69) (kS := 22) dX7_statement_69 rfl ?_
            refine g_invV_r (pc := 71) (As := [_]) dX7_statement_71 rfl (w4) rfl rfl (shK hS1 rfl) rfl rfl lk_X7_136 rfl (nb rfl) ⟨nb rfl, nb rfl⟩ rfl ?_
            refine g_if_eq (pc := 74) (tgt := 94) dX7_statement_74 rfl (fun _ => ?_) (fun h74 => absurd (rfl) h74)
            refine g_aload_n (pc := 94) dX7_statement_94 rfl trivial ?_
            refine g_iconst (pc := 95) (v := 1) dX7_statement_95 rfl ?_
            refine g_invV_r (pc := 96) (As := [_]) dX7_statement_96 rfl (pf) rfl rfl (shK hS1 rfl) rfl rfl lk_X7_118 rfl (nb rfl) ⟨nb rfl, nb rfl⟩ rfl ?_
            refine g_return (pc := 99) dX7_statement_99 rfl ?_
            exact ⟨rfl, rfl⟩
def mvS (T : Nat → Int32) (len : Nat) (s : RP) : RP := if s.2.2.2.1 = 0 then (if skipP T len s.1 < len then (if T (skipP T len s.1) = 59 then (skipP T len s.1 + 1, nI (skipP T len s.1), s.2.2.1 + 1, s.2.2.2) else rFail 1 (nI (skipP T len s.1)) (nxS T len s)) else nxS T len s) else s
def mvB (T : Nat → Int32) (len : Nat) (s : RP) : Bool := decide (s.2.2.2.1 = 0) && decide (skipP T len s.1 < len) && decide (T (skipP T len s.1) = 59)
theorem r_isMore (hS : Shp M) (hT : txt M T len) (hl : mI M 198 8 = nI len) (hL : len ≤ 600) (hp : s.1 ≤ len) : EvR l jX7_isMore 2 60 0 0 [.ref 198] (psM M s) (.inl (some (.int (b1 (mvB T len s))))) (psM M (mvS T len s)) := by
  have q1 := r_next (l := l) (s := s) hS hT hl hL hp
  have hsk := skipP_le (T := T) hp
  unfold mvB mvS
  have h11 : mI (psM M s) 198 11 = s.2.2.2.1 := ps_11
  have hS0 : Shp (psM M s) := hS
  refine ev_intro rfl (nb rfl) rfl ?_
  by_cases he : s.2.2.2.1 = 0
  · rw [if_pos he]
    unfold nxS at *
    generalize skipP T len s.1 = p at *
    have q2 := r_here (l := l) (s := (p, nI p, s.2.2)) hS hT hl hL hsk.2
    simp only at q2
    have hS1 : Shp (psM M (p, nI p, s.2.2)) := hS
    by_cases h1 : p < len
    · rw [if_pos h1]
      obtain ⟨j, j1, j2, j3⟩ := hT p h1
      have hv : hvF T len p = T p := by unfold hvF; rw [if_pos h1]
      rw [hv] at q1 q2
      have hge : T p ≥ 0 := by rw [j2]; exact (by decide +kernel : ∀ j, j < 256 → nI j ≥ 0) j j1
      by_cases h2 : T p = 59
      · rw [if_pos h2]
        have h9 : mI (psM M (p, nI p, s.2.2)) 198 9 = nI p := ps_9
        have e9 : pI (psM M (p, nI p, s.2.2)) 198 9 (nI (p + 1)) = psM M (p + 1, nI p, s.2.2) := ps_p9 rfl
        have hS2 : Shp (psM M (p + 1, nI p, s.2.2)) := hS
        have h13 : mI (psM M (p + 1, nI p, s.2.2)) 198 13 = s.2.2.1 := ps_13
        have e13 : pI (psM M (p + 1, nI p, s.2.2)) 198 13 (s.2.2.1 + 1) = psM M (p + 1, nI p, s.2.2.1 + 1, s.2.2.2) := ps_p13
        have eb : (decide (s.2.2.2.1 = 0) && decide (p < len) && decide (T p = 59)) = true := by simp [he, h1, h2]
        rw [eb]
        generalize psM M (p + 1, nI p, s.2.2.1 + 1, s.2.2.2) = M3 at *
        generalize psM M (p + 1, nI p, s.2.2) = M2 at *
        generalize psM M (p, nI p, s.2.2) = M1 at *
        refine g_aload_n (pc := 0) dX7_isMore_0 rfl trivial ?_
        refine g_getf (pc := 1) (v := .int _) dX7_isMore_1 fk_X7_93 (shK hS0 rfl) (fun _ => congrArg Value.int (h11)) ?_
        refine g_if_ne (pc := 4) (tgt := 14) dX7_isMore_4 rfl (fun h4 => absurd h4 ((fun z => z he))) (fun _ => ?_)
        refine g_aload_n (pc := 7) dX7_isMore_7 rfl trivial ?_
        refine g_invV_r (pc := 8) (As := []) dX7_isMore_8 rfl (q1) rfl rfl (shK hS0 rfl) rfl rfl lk_X7_99 rfl (nb rfl) ⟨nb rfl, nb rfl⟩ rfl ?_
        refine g_if_ge (pc := 11) (tgt := 16) dX7_isMore_11 rfl (fun _ => ?_) (fun h11 => absurd (hge) h11)
        refine g_aload_n (pc := 16) dX7_isMore_16 rfl trivial ?_
        refine g_invV_r (pc := 17) (As := []) dX7_isMore_17 rfl (q2) rfl rfl (shK hS1 rfl) rfl rfl lk_X7_87 rfl (nb rfl) ⟨nb rfl, nb rfl⟩ rfl ?_
        refine g_bipush (pc := 20) (v := 59) dX7_isMore_20 rfl ?_
        refine g_icmp_eq (pc := 22) (tgt := 32) dX7_isMore_22 rfl (fun _ => ?_) (fun h22 => absurd (h2) h22)
        refine g_aload_n (pc := 32) dX7_isMore_32 rfl trivial ?_
        refine g_dup (pc := 33) dX7_isMore_33 rfl ?_
        refine g_getf (pc := 34) (v := .int _) dX7_isMore_34 fk_X7_84 (shK hS1 rfl) (fun _ => congrArg Value.int (h9)) ?_
        refine g_iconst (pc := 37) (v := 1) dX7_isMore_37 rfl ?_
        refine g_iadd (pc := 38) dX7_isMore_38 ?_
        rw [nI_1]
        refine g_putI (pc := 39) dX7_isMore_39 fp_X7_84 (shK hS1 rfl) ⟨rfl, rfl⟩ (fun _ _ _ _ => rfl) ?_
        refine go_cast e9 ?_
        refine g_aload_n (pc := 42) dX7_isMore_42 rfl trivial ?_
        refine g_dup (pc := 43) dX7_isMore_43 rfl ?_
        refine g_getf (pc := 44) (v := .int _) dX7_isMore_44 fk_X7_183 (shK hS2 rfl) (fun _ => congrArg Value.int (h13)) ?_
        refine g_iconst (pc := 47) (v := 1) dX7_isMore_47 rfl ?_
        refine g_iadd (pc := 48) dX7_isMore_48 ?_
        refine g_putI (pc := 49) dX7_isMore_49 fp_X7_183 (shK hS2 rfl) ⟨rfl, rfl⟩ (fun _ _ _ _ => rfl) ?_
        refine go_cast e13 ?_
        refine g_iconst (pc := 52) (v := 1) dX7_isMore_52 rfl ?_
        refine g_ireturn (pc := 53) dX7_isMore_53 rfl rfl ?_
        exact ⟨rfl, rfl⟩
      · rw [if_neg h2]
        have qf := r_fails (l := l) (M := M) (s := (p, nI p, s.2.2)) (k := 1) hS
        simp only at qf
        have eb : (decide (s.2.2.2.1 = 0) && decide (p < len) && decide (T p = 59)) = false := by simp [h2]
        rw [eb]
        generalize psM M (p, nI p, s.2.2) = M1 at *
        refine g_aload_n (pc := 0) dX7_isMore_0 rfl trivial ?_
        refine g_getf (pc := 1) (v := .int _) dX7_isMore_1 fk_X7_93 (shK hS0 rfl) (fun _ => congrArg Value.int (h11)) ?_
        refine g_if_ne (pc := 4) (tgt := 14) dX7_isMore_4 rfl (fun h4 => absurd h4 ((fun z => z he))) (fun _ => ?_)
        refine g_aload_n (pc := 7) dX7_isMore_7 rfl trivial ?_
        refine g_invV_r (pc := 8) (As := []) dX7_isMore_8 rfl (q1) rfl rfl (shK hS0 rfl) rfl rfl lk_X7_99 rfl (nb rfl) ⟨nb rfl, nb rfl⟩ rfl ?_
        refine g_if_ge (pc := 11) (tgt := 16) dX7_isMore_11 rfl (fun _ => ?_) (fun h11 => absurd (hge) h11)
        refine g_aload_n (pc := 16) dX7_isMore_16 rfl trivial ?_
        refine g_invV_r (pc := 17) (As := []) dX7_isMore_17 rfl (q2) rfl rfl (shK hS1 rfl) rfl rfl lk_X7_87 rfl (nb rfl) ⟨nb rfl, nb rfl⟩ rfl ?_
        refine g_bipush (pc := 20) (v := 59) dX7_isMore_20 rfl ?_
        refine g_icmp_eq (pc := 22) (tgt := 32) dX7_isMore_22 rfl (fun h22 => absurd h22 (h2)) (fun _ => ?_)
        refine g_aload_n (pc := 25) dX7_isMore_25 rfl trivial ?_
        refine g_iconst (pc := 26) (v := 1) dX7_isMore_26 rfl ?_
        refine g_invV_r (pc := 27) (As := [_]) dX7_isMore_27 rfl (qf) rfl rfl (shK hS1 rfl) rfl rfl lk_X7_118 rfl (nb rfl) ⟨nb rfl, nb rfl⟩ rfl ?_
        refine g_iconst (pc := 30) (v := 0) dX7_isMore_30 rfl ?_
        refine g_ireturn (pc := 31) dX7_isMore_31 rfl rfl ?_
        exact ⟨rfl, rfl⟩
    · rw [if_neg h1]
      have hv : hvF T len p = -1 := by unfold hvF; rw [if_neg h1]
      rw [hv] at q1
      have eb : (decide (s.2.2.2.1 = 0) && decide (p < len) && decide (T p = 59)) = false := by simp [h1]
      rw [eb]
      refine g_aload_n (pc := 0) dX7_isMore_0 rfl trivial ?_
      refine g_getf (pc := 1) (v := .int _) dX7_isMore_1 fk_X7_93 (shK hS0 rfl) (fun _ => congrArg Value.int (h11)) ?_
      refine g_if_ne (pc := 4) (tgt := 14) dX7_isMore_4 rfl (fun h4 => absurd h4 ((fun z => z he))) (fun _ => ?_)
      refine g_aload_n (pc := 7) dX7_isMore_7 rfl trivial ?_
      refine g_invV_r (pc := 8) (As := []) dX7_isMore_8 rfl (q1) rfl rfl (shK hS0 rfl) rfl rfl lk_X7_99 rfl (nb rfl) ⟨nb rfl, nb rfl⟩ rfl ?_
      refine g_if_ge (pc := 11) (tgt := 16) dX7_isMore_11 rfl (fun h11 => absurd h11 ((by decide))) (fun _ => ?_)
      refine g_iconst (pc := 14) (v := 0) dX7_isMore_14 rfl ?_
      refine g_ireturn (pc := 15) dX7_isMore_15 rfl rfl ?_
      exact ⟨rfl, rfl⟩
  · rw [if_neg he]
    have eb : (decide (s.2.2.2.1 = 0) && decide (skipP T len s.1 < len) && decide (T (skipP T len s.1) = 59)) = false := by simp [he]
    rw [eb]
    refine g_aload_n (pc := 0) dX7_isMore_0 rfl trivial ?_
    refine g_getf (pc := 1) (v := .int _) dX7_isMore_1 fk_X7_93 (shK hS0 rfl) (fun _ => congrArg Value.int (h11)) ?_
    refine g_if_ne (pc := 4) (tgt := 14) dX7_isMore_4 rfl (fun _ => ?_) (fun h4 => absurd (he) h4)
    refine g_iconst (pc := 14) (v := 0) dX7_isMore_14 rfl ?_
    refine g_ireturn (pc := 15) dX7_isMore_15 rfl rfl ?_
    exact ⟨rfl, rfl⟩
def clF (u : Nat → Int64) (k : Nat) : Nat → Int64 := fun i => if i < k then 0 else u i
theorem clF_0 (u : Nat → Int64) : clF u 0 = u := by funext i; unfold clF; rw [if_neg (by omega)]
theorem clF_s (u : Nat → Int64) (k : Nat) : fun_set (clF u k) k 0 = clF u (k + 1) := by
  funext i
  unfold clF fun_set
  dsimp only
  by_cases h1 : i = k
  · rw [if_pos h1, if_pos (by omega)]
  · rw [if_neg h1]
    by_cases h2 : i < k
    · rw [if_pos h2, if_pos (by omega)]
    · rw [if_neg h2, if_neg (by omega)]
/-- an empty state -/
def bgF (u : Nat → Int64) (n : Nat) : Nat → Int64 := fun_set (fun_set (clF u 220) 0 (lN n)) 1 4
theorem r_begins {x n : Nat} (hkx : (mK M)[x]? = some (kL 220)) (hn9 : n ≤ 32) : EvR l jX7_begins 0 0 0 0 [.ref x, .int (nI n)] M (.inl none) (sL M x (bgF (mL M x) n)) := by
  refine ev_intro rfl (nb rfl) rfl ?_
  refine g_iconst (pc := 0) (v := 0) dX7_begins_0 rfl ?_
  refine g_istore_n (pc := 1) (lv' := [(0, _), (1, _), (2, _)]) dX7_begins_1 (nl rfl) rfl ?_
  refine go_loop (pc := 2) 220 (fun i => [(0, .ref x), (1, .int (nI n)), (2, .int (nI i))]) (fun i => sL M x (clF (mL M x) i)) ⟨rfl, rfl, rfl, trivial⟩ (sL_eq (clF_0 _)) ?_ ?_
  · intro i hi ih
    have hkx2 : (mK (sL M x (clF (mL M x) i)))[x]? = some (kL 220) := hkx
    refine g_iload_n (pc := 2) dX7_begins_2 rfl ?_
    refine g_sipush (pc := 3) (v := 220) dX7_begins_3 rfl ?_
    refine g_icmp_ge (pc := 6) (tgt := 19) dX7_begins_6 rfl (fun h6 => absurd h6 (nI_ge (b := 220) hi (by decide))) (fun _ => ?_)
    refine g_aload_n (pc := 9) dX7_begins_9 rfl trivial ?_
    refine g_iload_n (pc := 10) dX7_begins_10 rfl ?_
    refine g_lconst (pc := 11) (v := 0) dX7_begins_11 rfl ?_
    refine g_lastore (pc := 12) dX7_begins_12 hkx2 rfl hi (nl rfl) ?_
    refine g_iinc (pc := 13) (lv' := [(0, _), (1, _), (2, _)]) dX7_begins_13 rfl (nI_1 _) (nl rfl) rfl ?_
    refine g_goto (pc := 16) (tgt := 2) dX7_begins_16 rfl ?_
    exact go_cast (sL_st (clF_s _ i)) ih
  · have hkx2 : (mK (sL M x (clF (mL M x) 220)))[x]? = some (kL 220) := hkx
    have e1 : pL (sL M x (clF (mL M x) 220)) x 0 (lN n) = sL M x (fun_set (clF (mL M x) 220) 0 (lN n)) := sL_st rfl
    have e2 : pL (sL M x (fun_set (clF (mL M x) 220) 0 (lN n))) x 1 4 = sL M x (bgF (mL M x) n) := sL_st rfl
    have hkx3 : (mK (sL M x (fun_set (clF (mL M x) 220) 0 (lN n))))[x]? = some (kL 220) := hkx
    generalize sL M x (bgF (mL M x) n) = M4 at *
    generalize sL M x (fun_set (clF (mL M x) 220) 0 (lN n)) = M3 at *
    generalize sL M x (clF (mL M x) 220) = M2 at *
    refine g_iload_n (pc := 2) dX7_begins_2 rfl ?_
    refine g_sipush (pc := 3) (v := 220) dX7_begins_3 rfl ?_
    refine g_icmp_ge (pc := 6) (tgt := 19) dX7_begins_6 rfl (fun _ => ?_) (fun h6 => absurd (nI_le (Nat.le_refl 220) (by decide)) h6)
    refine g_aload_n (pc := 19) dX7_begins_19 rfl trivial ?_
    refine g_iconst (pc := 20) (v := 0) dX7_begins_20 rfl ?_
    refine g_iload_n (pc := 21) dX7_begins_21 rfl ?_
    refine g_i2l (pc := 22) dX7_begins_22 rfl ?_
    rw [lN_nI (by omega)]
    refine g_lastore (pc := 23) dX7_begins_23 hkx2 rfl (by decide) (nl rfl) ?_
    refine go_cast e1 ?_
    refine g_aload_n (pc := 24) dX7_begins_24 rfl trivial ?_
    refine g_iconst (pc := 25) (v := 1) dX7_begins_25 rfl ?_
    refine g_ldc2 (pc := 26) dX7_begins_26 wd_1215 ?_
    refine g_lastore (pc := 29) dX7_begins_29 hkx3 rfl (by decide) (nl rfl) ?_
    refine go_cast e2 ?_
    refine g_return (pc := 30) dX7_begins_30 rfl ?_
    exact ⟨rfl, rfl⟩
/-- the size read -/
def szS0 (T : Nat → Int32) (len : Nat) (s : RP) : RP := if wdQ T (skipP T len s.1) (twd T len s).1 (strW 13) = true then twd T len s else rFail 1 (nI (skipP T len s.1)) (twd T len s)
def szN (T : Nat → Int32) (len : Nat) (s : RP) : Nat := (nmV T len 1 32 (szS0 T len s)).toNatClampNeg
def szS (T : Nat → Int32) (len : Nat) (s : RP) : RP := nmS T len 1 32 (szS0 T len s)
theorem szS0_le (hp : s.1 ≤ len) : (szS0 T len s).1 ≤ len := by
  unfold szS0; split
  · exact (twd_le hp).1
  · rw [(rFail_1 _ _ _).1]; exact (twd_le hp).1
theorem szN_ok (T : Nat → Int32) (len : Nat) (s : RP) : nmV T len 1 32 (szS0 T len s) = nI (szN T len s) ∧ 1 ≤ szN T len s ∧ szN T len s ≤ 32 := by
  have h : ¬ nmV T len 1 32 (szS0 T len s) < 1 ∧ ¬ 32 < nmV T len 1 32 (szS0 T len s) := by
    unfold nmV
    split
    · exact tnv_in T len 1 32 (szS0 T len s) (by decide)
    · exact ⟨by decide, by decide⟩
  unfold szN
  generalize nmV T len 1 32 (szS0 T len s) = v at *
  obtain ⟨j, h3, h4⟩ := nI_of2 (x := v) (M := 32) (n := 32) (by decide) (fun q => h.1 (Int32.lt_trans q (by decide))) (Int32.not_lt.mp h.2)
  subst h4
  rw [nI_clamp (by omega)]
  refine ⟨rfl, Nat.pos_of_ne_zero fun q => ?_, h3⟩
  subst q
  exact h.1 (by decide)
theorem r_sizePart (hS : Shp M) (hT : txt M T len) (hl : mI M 198 8 = nI len) (hL : len ≤ 600) (hp : s.1 ≤ len) : EvR l jX7_sizePart 5 140 0 0 [.ref 198] (psM M s) (.inl none) (psM (sL M 200 (bgF (mL M 200) (szN T len s))) (szS T len s)) := by
  have q0 := r_reads (l := l) (s := s) hS hT hl hL hp
  have hw := twd_le (T := T) hp
  have hw2 : (twd T len s).2.1 = nI (skipP T len s.1) := rfl
  have h0 := szS0_le (T := T) hp
  obtain ⟨n1, n2, n3⟩ := szN_ok T len s
  have p4 := r_numR (l := l) (s := szS0 T len s) (lo := 1) (hi := 32) hS hT hl hL h0 (by decide)
  rw [n1] at p4
  have q5 := r_begins (l := l) (M := psM M (szS T len s)) (x := 200) (n := szN T len s) (shK (M := psM M (szS T len s)) hS rfl) n3
  have e5 : sL (psM M (szS T len s)) 200 (bgF (mL (psM M (szS T len s)) 200) (szN T len s)) = psM (sL M 200 (bgF (mL M 200) (szN T len s))) (szS T len s) := ps_sL
  rw [e5] at q5
  have p4 : EvR l jX7_number 2 60 0 0 [.ref 198, .int 1, .int 32] (psM M (szS0 T len s)) (.inl (some (.int (nI (szN T len s))))) (psM M (szS T len s)) := p4
  have hSz : Shp (psM M (szS T len s)) := hS
  generalize szS T len s = s3 at *
  generalize szN T len s = n at *
  unfold szS0 at *
  generalize twd T len s = s1 at *
  generalize skipP T len s.1 = b at *
  have w0 : EvR l jX7_isWord 4 110 0 0 [.ref 198, .retAddr (2 * 13 + 2)] (psM M s1) (.inl (some (.int (b1 (wdQ T b s1.1 (strW 13)))))) (psM M s1) := r_isWR 13 hS hT hL hw.1 hw2 hw.2 (by decide) (by decide)
  have pf := r_fails (l := l) (M := M) (s := s1) (k := 1) hS
  rw [hw2] at pf
  have hS0 : Shp (psM M s) := hS
  have hS1 : Shp (psM M s1) := hS
  have hS2 : Shp (psM M (rFail 1 (nI b) s1)) := hS
  generalize wdQ T b s1.1 (strW 13) = c0 at *
  generalize psM (sL M 200 (bgF (mL M 200) n)) s3 = M9 at *
  refine ev_intro rfl (nb rfl) rfl ?_
  cases c0 with
  | true =>
    rw [if_pos rfl] at p4
    refine g_aload_n (pc := 0) dX7_sizePart_0 rfl trivial ?_
    refine g_invV_r (pc := 1) (As := []) dX7_sizePart_1 rfl (q0) rfl rfl (shK hS0 rfl) rfl rfl lk_X7_132 rfl (nb rfl) ⟨nb rfl, nb rfl⟩ rfl ?_
    refine g_aload_n (pc := 4) dX7_sizePart_4 rfl trivial ?_
    refine g_ldcS (pc := 5) (kS := 13) dX7_sizePart_5 rfl ?_
    refine g_invV_r (pc := 7) (As := [_]) dX7_sizePart_7 rfl (w0) rfl rfl (shK hS1 rfl) rfl rfl lk_X7_136 rfl (nb rfl) ⟨nb rfl, nb rfl⟩ rfl ?_
    refine g_if_ne (pc := 10) (tgt := 18) dX7_sizePart_10 rfl (fun _ => ?_) (fun h10 => absurd ((by decide)) h10)
    refine g_aload_n (pc := 18) dX7_sizePart_18 rfl trivial ?_
    refine g_getf (pc := 19) dX7_sizePart_19 fk_X7_13 (shK hS1 rfl) (fv_arr (shR hS1 rfl)) ?_
    refine g_aload_n (pc := 22) dX7_sizePart_22 rfl trivial ?_
    refine g_iconst (pc := 23) (v := 1) dX7_sizePart_23 rfl ?_
    refine g_bipush (pc := 24) (v := 32) dX7_sizePart_24 rfl ?_
    refine g_invV_r (pc := 26) (As := [_, _]) dX7_sizePart_26 rfl (p4) rfl rfl (shK hS1 rfl) rfl rfl lk_X7_129 rfl (nb rfl) ⟨nb rfl, nb rfl⟩ rfl ?_
    refine g_invS_r (pc := 29) (As := [_, _]) dX7_sizePart_29 rfl (q5) rfl rfl lk_X7_56 rfl (nb rfl) ⟨nb rfl, nb rfl⟩ rfl ?_
    refine g_return (pc := 32) dX7_sizePart_32 rfl ?_
    exact ⟨rfl, rfl⟩
  | false =>
    rw [if_neg (by decide)] at p4
    refine g_aload_n (pc := 0) dX7_sizePart_0 rfl trivial ?_
    refine g_invV_r (pc := 1) (As := []) dX7_sizePart_1 rfl (q0) rfl rfl (shK hS0 rfl) rfl rfl lk_X7_132 rfl (nb rfl) ⟨nb rfl, nb rfl⟩ rfl ?_
    refine g_aload_n (pc := 4) dX7_sizePart_4 rfl trivial ?_
    refine g_ldcS (pc := 5) (kS := 13) dX7_sizePart_5 rfl ?_
    refine g_invV_r (pc := 7) (As := [_]) dX7_sizePart_7 rfl (w0) rfl rfl (shK hS1 rfl) rfl rfl lk_X7_136 rfl (nb rfl) ⟨nb rfl, nb rfl⟩ rfl ?_
    refine g_if_ne (pc := 10) (tgt := 18) dX7_sizePart_10 rfl (fun h10 => absurd h10 ((fun z => z rfl))) (fun _ => ?_)
    refine g_aload_n (pc := 13) dX7_sizePart_13 rfl trivial ?_
    refine g_iconst (pc := 14) (v := 1) dX7_sizePart_14 rfl ?_
    refine g_invV_r (pc := 15) (As := [_]) dX7_sizePart_15 rfl (pf) rfl rfl (shK hS1 rfl) rfl rfl lk_X7_118 rfl (nb rfl) ⟨nb rfl, nb rfl⟩ rfl ?_
    refine g_aload_n (pc := 18) dX7_sizePart_18 rfl trivial ?_
    refine g_getf (pc := 19) dX7_sizePart_19 fk_X7_13 (shK hS2 rfl) (fv_arr (shR hS2 rfl)) ?_
    refine g_aload_n (pc := 22) dX7_sizePart_22 rfl trivial ?_
    refine g_iconst (pc := 23) (v := 1) dX7_sizePart_23 rfl ?_
    refine g_bipush (pc := 24) (v := 32) dX7_sizePart_24 rfl ?_
    refine g_invV_r (pc := 26) (As := [_, _]) dX7_sizePart_26 rfl (p4) rfl rfl (shK hS2 rfl) rfl rfl lk_X7_129 rfl (nb rfl) ⟨nb rfl, nb rfl⟩ rfl ?_
    refine g_invS_r (pc := 29) (As := [_, _]) dX7_sizePart_29 rfl (q5) rfl rfl lk_X7_56 rfl (nb rfl) ⟨nb rfl, nb rfl⟩ rfl ?_
    refine g_return (pc := 32) dX7_sizePart_32 rfl ?_
    exact ⟨rfl, rfl⟩
end
end
-- 316.rr
section
/-! the reference reads: a text -/
/-- every number among the rows is a row -/
def uOk (u : Nat → Int64) : Prop := ∀ i, 28 ≤ i → i < 220 → u i = uL (u i).toInt32
theorem uOk_set {u : Nat → Int64} (h : uOk u) (j : Nat) (x : Int32) : uOk (fun_set u j (uL x)) := fun i h1 h2 => by
  unfold fun_set
  by_cases e : i = j
  · rw [if_pos e, uL_32]
  · rw [if_neg e]; exact h i h1 h2
theorem uOk_lo {u : Nat → Int64} (h : uOk u) {j : Nat} (hj : j < 28) (x : Int64) : uOk (fun_set u j x) := fun i h1 h2 => by
  unfold fun_set
  rw [if_neg (by omega)]; exact h i h1 h2
theorem lyF_ok {u : Nat → Int64} (h : uOk u) (a n : Nat) (f : Nat → Int32) : uOk (lyF u a f n) := fun i h1 h2 => by
  unfold lyF
  split
  · rw [uL_32]
  · exact h i h1 h2
theorem bgF_ok (u : Nat → Int64) (n : Nat) : uOk (bgF u n) := uOk_lo (uOk_lo (fun i h1 h2 => by unfold clF; rw [if_pos (by omega)]; decide) (by decide) _) (by decide) _
section
variable {s : RP} {len n : Nat} {T : Nat → Int32} {u : Nat → Int64}
theorem tnm_ge {lo hi : Int32} (hp : s.1 ≤ len) : s.1 ≤ (tnm T len lo hi s).1 := by
  rw [(tnm_1 T len lo hi s).1]
  have h1 := skipP_le (T := T) hp
  have h2 := digP_le (T := T) h1.2
  omega
theorem nmS_ge {lo hi : Int32} (hp : s.1 ≤ len) : s.1 ≤ (nmS T len lo hi s).1 := by
  unfold nmS; split
  · exact tnm_ge hp
  · exact Nat.le_refl _
theorem twd_ge (hp : s.1 ≤ len) : s.1 ≤ (twd T len s).1 := by
  have h1 := skipP_le (T := T) hp
  have h2 := wordP_le (T := T) h1.2
  show s.1 ≤ wordP T len (skipP T len s.1)
  omega
/-- a step of reading -/
def stOk (u : Nat → Int64) (s : RP) (len : Nat) (r : (Nat → Int64) × RP) : Prop := s.1 ≤ r.2.1 ∧ r.2.1 ≤ len ∧ r.1 0 = u 0 ∧ (uOk u → uOk r.1)
theorem gE_ok (hp : s.1 ≤ len) : stOk u s len (gE T len n u s) := by
  have h1 := nmS_le (T := T) (lo := 0) (hi := nI 5) hp
  have h2 := nmS_le (T := T) (lo := 0) (hi := nI (n - 1)) h1
  have h3 := nmS_le (T := T) (lo := 0) (hi := nI (n - 1)) h2
  have g1 := nmS_ge (T := T) (lo := 0) (hi := nI 5) hp
  have g2 := nmS_ge (T := T) (lo := 0) (hi := nI (n - 1)) h1
  have g3 := nmS_ge (T := T) (lo := 0) (hi := nI (n - 1)) h2
  refine ⟨show s.1 ≤ (nmS T len 0 (nI (n - 1)) (nmS T len 0 (nI (n - 1)) (nmS T len 0 (nI 5) s))).1 by omega, h3, ?_, fun h => ?_⟩
  · show (ite _ _ _ : Nat → Int64) 0 = _
    split
    · unfold fun_set; rw [if_neg (by omega)]
    · rfl
  · show uOk (ite _ _ _)
    split
    · intro i i1 i2
      by_cases e : i = 28 + 32 * nmN T len 5 s + nmN T len (n - 1) (nmS T len 0 (nI 5) s)
      · subst e
        rw [h _ i1 i2, uL_or]
        exact uOk_set h _ _ _ i1 i2
      · unfold fun_set; rw [if_neg e]; exact h i i1 i2
    · exact h
theorem gR_ok (hp : s.1 ≤ len) : stOk u s len (gR T len n u s) := by
  have h1 := nmS_le (T := T) (lo := 0) (hi := nI 5) hp
  have h2 := nmS_le (T := T) (lo := 0) (hi := nI (n - 1)) h1
  have g1 := nmS_ge (T := T) (lo := 0) (hi := nI 5) hp
  have g2 := nmS_ge (T := T) (lo := 0) (hi := nI (n - 1)) h1
  unfold gR
  generalize nmN T len (n - 1) (nmS T len 0 (nI 5) s) = r at *
  generalize nmN T len 5 s = a at *
  generalize nmS T len 0 (nI (n - 1)) (nmS T len 0 (nI 5) s) = s2 at *
  have hk := skipP_le (T := T) h2
  have hd := digP_le (T := T) hk.2
  generalize skipP T len s2.1 = b at *
  split
  · unfold gRb
    split
    · split
      · exact ⟨show s.1 ≤ digP T len b by omega, hd.2, by show fun_set u _ _ 0 = _; unfold fun_set; rw [if_neg (by omega)], fun h => uOk_set h _ _⟩
      · refine ⟨?_, ?_, rfl, fun h => h⟩
        · show s.1 ≤ (rFail 2 (nI b) (digP T len b, nI b, s2.2.2)).1
          rw [(rFail_1 _ _ _).1]; show s.1 ≤ digP T len b; omega
        · show (rFail 2 (nI b) (digP T len b, nI b, s2.2.2)).1 ≤ len
          rw [(rFail_1 _ _ _).1]; exact hd.2
    · refine ⟨?_, ?_, rfl, fun h => h⟩
      · show s.1 ≤ (rFail 1 (nI b) (b, nI b, s2.2.2)).1
        rw [(rFail_1 _ _ _).1]; show s.1 ≤ b; omega
      · show (rFail 1 (nI b) (b, nI b, s2.2.2)).1 ≤ len
        rw [(rFail_1 _ _ _).1]; exact hk.2
  · exact ⟨show s.1 ≤ s2.1 by omega, h2, rfl, fun h => h⟩
theorem gF_ok (hp : s.1 ≤ len) : stOk u s len (gF T len n u s) := by
  have h1 := nmS_le (T := T) (lo := 0) (hi := nI 5) hp
  have g1 := nmS_ge (T := T) (lo := 0) (hi := nI 5) hp
  unfold gF
  generalize nmN T len 5 s = a at *
  generalize nmS T len 0 (nI 5) s = s1 at *
  have h2 := (twd_le (T := T) h1).1
  have g2 := twd_ge (T := T) h1
  generalize twd T len s1 = s2 at *
  generalize khF T (skipP T len s1.1) s2.1 = k
  split
  · refine ⟨?_, ?_, rfl, fun h => h⟩
    · show s.1 ≤ (rFail 1 _ s2).1
      rw [(rFail_1 _ _ _).1]; omega
    · show (rFail 1 _ s2).1 ≤ len
      rw [(rFail_1 _ _ _).1]; exact h2
  · split
    · exact ⟨show s.1 ≤ s2.1 by omega, h2, by show lyF u a _ n 0 = _; unfold lyF; rw [if_neg (by omega)], fun h => lyF_ok h _ _ _⟩
    · exact ⟨show s.1 ≤ s2.1 by omega, h2, rfl, fun h => h⟩
theorem gK_ok (hp : s.1 ≤ len) : stOk u s len (gK T len u s) := by
  have h1 := nmS_le (T := T) (lo := 0) (hi := nI 5) hp
  have g1 := nmS_ge (T := T) (lo := 0) (hi := nI 5) hp
  have ha := (nmN_ok (T := T) (len := len) (s := s) (h := 5) (by decide)).2
  unfold gK
  generalize nmN T len 5 s = a at *
  generalize nmS T len 0 (nI 5) s = s1 at *
  refine ⟨?_, ?_, by show fun_set u _ _ 0 = _; unfold fun_set; rw [if_neg (by omega)], fun h => uOk_lo h (by omega) _⟩
  · show s.1 ≤ (ite _ _ _ : RP).1
    split
    · rw [(rFail_1 _ _ _).1]; omega
    · omega
  · show (ite _ _ _ : RP).1 ≤ len
    split
    · rw [(rFail_1 _ _ _).1]; omega
    · omega
theorem gS_ok (hp : s.1 ≤ len) : stOk u s len (gS T len n u s) := by
  have h1 := (twd_le (T := T) hp).1
  have g1 := twd_ge (T := T) hp
  have key : ∀ r, stOk u (twd T len s) len r → stOk u s len r := fun r h => ⟨Nat.le_trans g1 h.1, h.2⟩
  unfold gS
  split
  · exact key _ (gE_ok h1)
  · split
    · exact key _ (gR_ok h1)
    · split
      · exact key _ (gF_ok h1)
      · split
        · exact key _ (gK_ok h1)
        · split
          · exact key _ ⟨nmS_ge h1, nmS_le h1, rfl, fun h => uOk_lo h (by decide) _⟩
          · refine ⟨?_, ?_, rfl, fun h => h⟩
            · show s.1 ≤ (rFail 1 _ _).1
              rw [(rFail_1 _ _ _).1]; exact g1
            · show (rFail 1 _ _).1 ≤ len
              rw [(rFail_1 _ _ _).1]; exact h1
theorem mvS_le (hp : s.1 ≤ len) : s.1 ≤ (mvS T len s).1 ∧ (mvS T len s).1 ≤ len := by
  have h := skipP_le (T := T) hp
  unfold mvS
  split
  · split
    · split
      · exact ⟨show s.1 ≤ skipP T len s.1 + 1 by omega, show skipP T len s.1 + 1 ≤ len by omega⟩
      · rw [(rFail_1 _ _ _).1]; exact h
    · exact h
  · exact ⟨Nat.le_refl _, hp⟩
theorem mvB_lt (hp : s.1 ≤ len) (h : mvB T len s = true) : s.1 < (mvS T len s).1 := by
  have h1 := skipP_le (T := T) hp
  unfold mvB at h
  simp only [Bool.and_eq_true, decide_eq_true_iff] at h
  unfold mvS
  rw [if_pos h.1.1, if_pos h.1.2, if_pos h.2]
  show s.1 < skipP T len s.1 + 1
  omega
/-- statements one after another, d at most -/
def gL (T : Nat → Int32) (len n : Nat) : Nat → (Nat → Int64) → RP → (Nat → Int64) × RP
  | 0, u, s => (u, mvS T len s)
  | d + 1, u, s => if mvB T len s = true then gL T len n d (gS T len n u (mvS T len s)).1 (gS T len n u (mvS T len s)).2 else (u, mvS T len s)
termination_by d => d
theorem gL_ok : ∀ (d : Nat) (u : Nat → Int64) (s : RP), s.1 ≤ len → stOk u s len (gL T len n d u s)
  | 0, u, s, hp => by
    rw [gL.eq_1]
    exact ⟨(mvS_le hp).1, (mvS_le hp).2, rfl, fun h => h⟩
  | d + 1, u, s, hp => by
    have h := mvS_le (T := T) hp
    rw [gL.eq_2]
    split
    · have h2 := gS_ok (T := T) (n := n) (u := u) h.2
      have h3 := gL_ok d (gS T len n u (mvS T len s)).1 (gS T len n u (mvS T len s)).2 h2.2.1
      exact ⟨Nat.le_trans h.1 (Nat.le_trans h2.1 h3.1), h3.2.1, h3.2.2.1.trans h2.2.2.1, fun q => h3.2.2.2 (h2.2.2.2 q)⟩
    · exact ⟨h.1, h.2, rfl, fun h => h⟩
def lrN (T : Nat → Int32) (len : Nat) (b0 e0 : Int32) : Nat := szN T len (0, b0, 0, 0, e0)
def lrR (T : Nat → Int32) (len : Nat) (b0 e0 : Int32) (u : Nat → Int64) : (Nat → Int64) × RP := gL T len (lrN T len b0 e0) len (bgF u (lrN T len b0 e0)) (szS T len (0, b0, 0, 0, e0))
end
def anK (M : Mem) (x : Int32) : Nat → Mem
  | 0 => M
  | k + 1 => anM (anK M x k) k x
termination_by k => k
theorem anK_R {M : Mem} {n : Nat} {A : Nat → Nat → Int32} {x : Int32} (h : Rr M n A) : ∀ k, k ≤ 6 → Rr (anK M x k) n A
  | 0, _ => by rw [anK.eq_1]; exact h
  | k + 1, hk => by rw [anK.eq_2]; exact anM_R (anK_R h k (by omega)) (by omega)
def lrM (M : Mem) (T : Nat → Int32) (len : Nat) : Mem := psM (sL (thr M 0) 200 (lrR T len (mI M 198 10) (mI M 198 12) (mL M 200)).1) (lrR T len (mI M 198 10) (mI M 198 12) (mL M 200)).2
/-- read, whether there was an error or not -/
def lrD (M : Mem) (T : Nat → Int32) (len : Nat) (r : RP) : Mem := pI (pI (pI (lrM M T len) 198 8 0) 198 14 r.2.2.2.1) 198 15 (if r.2.2.2.1 = 0 then -1 else r.2.2.1)
def lrC (M : Mem) (T : Nat → Int32) (len : Nat) (r : RP) : Mem := pI (sL (lrD M T len r) 199 (cpF (mL M 199) 0 (lrR T len (mI M 198 10) (mI M 198 12) (mL M 200)).1 0 220)) 198 5 0
def ldE (M : Mem) (T : Nat → Int32) (len : Nat) (r : RP) : Mem := if r.2.2.2.1 = 0 then anK (lrC M T len r) (nI (lrN T len (mI M 198 10) (mI M 198 12))) 6 else lrD M T len r
def ldV (n : Nat) (r : RP) : Int32 := if r.2.2.2.1 = 0 then nI n else -100 - r.2.2.2.2
def ldA (M : Mem) (T : Nat → Int32) (len : Nat) : Nat → Nat → Int32 := fun s r => ((lrR T len (mI M 198 10) (mI M 198 12) (mL M 200)).1 (28 + 32 * s + r)).toInt32
theorem lrC_R {M : Mem} {T : Nat → Int32} {len : Nat} {r : RP} (hS : Shp M) : Rr (lrC M T len r) (lrN T len (mI M 198 10) (mI M 198 12)) (ldA M T len) := by
  obtain ⟨n1, n2, n3⟩ := szN_ok T len (0, mI M 198 10, 0, 0, mI M 198 12)
  have hz : (szS T len (0, mI M 198 10, 0, 0, mI M 198 12)).1 ≤ len := nmS_le (szS0_le (Nat.zero_le _))
  have h := gL_ok (T := T) (n := lrN T len (mI M 198 10) (mI M 198 12)) len (bgF (mL M 200) (lrN T len (mI M 198 10) (mI M 198 12))) _ hz
  have h0 : (lrR T len (mI M 198 10) (mI M 198 12) (mL M 200)).1 0 = lN (lrN T len (mI M 198 10) (mI M 198 12)) := h.2.2.1
  have hu : uOk (lrR T len (mI M 198 10) (mI M 198 12) (mL M 200)).1 := h.2.2.2 (bgF_ok _ _)
  have e : mL (lrC M T len r) 199 = cpF (mL M 199) 0 (lrR T len (mI M 198 10) (mI M 198 12) (mL M 200)).1 0 220 := sL_self (lrD M T len r) 199 _
  refine ⟨hS, ?_, n2, n3, fun s r hs hr => ?_⟩
  · rw [e]; unfold cpF; rw [if_pos (by omega)]; exact h0
  · have hr2 : r < 32 := Nat.lt_of_lt_of_le hr n3
    rw [e]; unfold cpF; rw [if_pos (by omega)]
    show (lrR T len (mI M 198 10) (mI M 198 12) (mL M 200)).1 (28 + 32 * s + r - 220 * 0 + 220 * 0) = _
    rw [show 28 + 32 * s + r - 220 * 0 + 220 * 0 = 28 + 32 * s + r by omega]
    exact hu _ (by omega) (by omega)
section
variable {l : Launch} {M : Mem} {s : RP} {len n : Nat} {T : Nat → Int32}
theorem ps_start : pI (pI (pI M 198 9 0) 198 11 0) 198 13 0 = psM M (0, mI M 198 10, 0, 0, mI M 198 12) := by
  refine mem_extI rfl rfl rfl rfl rfl rfl (fun i => ?_)
  by_cases i1 : i = 198
  · subst i1; funext j; simp only [psM, prF, sI, mI, pI, fun_set, if_true]
    by_cases j2 : j = 9
    · subst j2; rfl
    · by_cases j3 : j = 10
      · subst j3; rfl
      · by_cases j4 : j = 13
        · subst j4; rfl
        · by_cases j5 : j = 11
          · subst j5; rfl
          · by_cases j6 : j = 12
            · subst j6; rfl
            · simp [j2, j3, j4, j5, j6]
  · simp [psM, sI, mI, pI, fun_set, i1]
theorem n_load (hS : Shp M) (hT : txt M T len) (hl : mI M 198 8 = nI len) (hL : len ≤ 600) : EvR l jX7_load 8 220 0 0 [.ref 198] M (.inl (some (.int (ldV (lrN T len (mI M 198 10) (mI M 198 12)) (lrR T len (mI M 198 10) (mI M 198 12) (mL M 200)).2)))) (ldE M T len (lrR T len (mI M 198 10) (mI M 198 12) (mL M 200)).2) := by
  have hS1 : Shp (thr M 0) := hS
  have hT1 : txt (thr M 0) T len := fun i hi => by
    obtain ⟨j, j1, j2, j3⟩ := hT i hi
    exact ⟨j, j1, j2, by rw [← j3]; exact congrFun (pI_i (by decide)) i⟩
  have hl1 : mI (thr M 0) 198 8 = nI len := (pI_k (by decide)).trans hl
  have hb1 : mI (thr M 0) 198 10 = mI M 198 10 := pI_k (by decide)
  have he1 : mI (thr M 0) 198 12 = mI M 198 12 := pI_k (by decide)
  have e1 : pI (pI (pI (thr M 0) 198 9 0) 198 11 0) 198 13 0 = psM (thr M 0) (0, mI M 198 10, 0, 0, mI M 198 12) := by rw [ps_start, hb1, he1]
  have hz := r_sizePart (l := l) (s := (0, mI M 198 10, 0, 0, mI M 198 12)) hS1 hT1 hl1 hL (Nat.zero_le _)
  have hCR := lrC_R (T := T) (len := len) (r := (lrR T len (mI M 198 10) (mI M 198 12) (mL M 200)).2) hS
  obtain ⟨n1, n2, n3⟩ := szN_ok T len (0, mI M 198 10, 0, 0, mI M 198 12)
  have hzl : (szS T len (0, mI M 198 10, 0, 0, mI M 198 12)).1 ≤ len := nmS_le (szS0_le (Nat.zero_le _))
  have eL : lrM M T len = psM (sL (thr M 0) 200 (lrR T len (mI M 198 10) (mI M 198 12) (mL M 200)).1) (lrR T len (mI M 198 10) (mI M 198 12) (mL M 200)).2 := rfl
  have e199 : mL (thr M 0) 199 = mL M 199 := rfl
  unfold ldE
  unfold lrC lrD at hCR ⊢
  rw [eL] at hCR ⊢
  rw [show mL (thr M 0) 200 = mL M 200 from rfl] at hz
  rw [← e199] at hCR ⊢
  clear eL e199
  unfold lrR at hCR ⊢
  rw [show szN T len (0, mI M 198 10, 0, 0, mI M 198 12) = lrN T len (mI M 198 10) (mI M 198 12) from rfl] at hz n1 n2 n3
  generalize lrN T len (mI M 198 10) (mI M 198 12) = n at *
  generalize szS T len (0, mI M 198 10, 0, 0, mI M 198 12) = s1 at *
  obtain ⟨S, hs⟩ : ∃ S, S = gL T len n len (bgF (mL M 200) n) s1 := ⟨_, rfl⟩
  rw [← hs] at hCR ⊢
  have e0 : pI M 198 6 0 = thr M 0 := rfl
  have hu0 : bgF (mL M 200) n 0 = lN n := rfl
  have hfin : Go l jX7_load 8 220 0 0 (fun r' M9 => r' = .inl (some (.int (ldV n S.2))) ∧ M9 = ite (S.2.2.2.2.1 = 0) (anK (pI (sL (pI (pI (pI (psM (sL (thr M 0) 200 S.1) S.2) 198 8 0) 198 14 S.2.2.2.2.1) 198 15 (if S.2.2.2.2.1 = 0 then -1 else S.2.2.2.1)) 199 (cpF (mL (thr M 0) 199) 0 S.1 0 220)) 198 5 0) (nI n) 6) (pI (pI (pI (psM (sL (thr M 0) 200 S.1) S.2) 198 8 0) 198 14 S.2.2.2.2.1) 198 15 (if S.2.2.2.2.1 = 0 then -1 else S.2.2.2.1))) 38 [(0, .ref 198)] [] 0 0 (psM (sL (thr M 0) 200 S.1) S.2) := by
    have h11 : mI (psM (sL (thr M 0) 200 S.1) S.2) 198 11 = S.2.2.2.2.1 := ps_11
    have h12 : mI (psM (sL (thr M 0) 200 S.1) S.2) 198 12 = S.2.2.2.2.2 := ps_12
    have h13 : mI (psM (sL (thr M 0) 200 S.1) S.2) 198 13 = S.2.2.2.1 := ps_13
    have h199 : mL (psM (sL (thr M 0) 200 S.1) S.2) 199 = mL (thr M 0) 199 := rfl
    have h200 : mL (psM (sL (thr M 0) 200 S.1) S.2) 200 = S.1 := sL_self (thr M 0) 200 _
    have hS2 : Shp (psM (sL (thr M 0) 200 S.1) S.2) := hS
    generalize psM (sL (thr M 0) 200 S.1) S.2 = M1 at *
    unfold ldV
    have hk0 : mI (pI M1 198 8 0) 198 11 = S.2.2.2.2.1 := (pI_k (by decide)).trans h11
    have hk1 : mI (pI (pI M1 198 8 0) 198 14 S.2.2.2.2.1) 198 11 = S.2.2.2.2.1 := (pI_k (by decide)).trans hk0
    have hk3 : mI (pI (pI M1 198 8 0) 198 14 S.2.2.2.2.1) 198 13 = S.2.2.2.1 := (pI_k (by decide)).trans ((pI_k (by decide)).trans h13)
    have hS3 : Shp (pI M1 198 8 0) := hS2
    have hS4 : Shp (pI (pI M1 198 8 0) 198 14 S.2.2.2.2.1) := hS2
    have hS5 : ∀ v, Shp (pI (pI (pI M1 198 8 0) 198 14 S.2.2.2.2.1) 198 15 v) := fun v => hS2
    have hk5 : ∀ v, mI (pI (pI (pI M1 198 8 0) 198 14 S.2.2.2.2.1) 198 15 v) 198 11 = S.2.2.2.2.1 := fun v => (pI_k (by decide)).trans hk1
    have hk6 : ∀ v, mI (pI (pI (pI M1 198 8 0) 198 14 S.2.2.2.2.1) 198 15 v) 198 12 = S.2.2.2.2.2 := fun v => (pI_k (by decide)).trans ((pI_k (by decide)).trans ((pI_k (by decide)).trans h12))
    by_cases he : S.2.2.2.2.1 = 0
    · rw [if_pos he] at hCR
      rw [if_pos he, if_pos he, if_pos he]
      have q1 := r_copies (l := l) (M := pI (pI (pI M1 198 8 0) 198 14 S.2.2.2.2.1) 198 15 (-1)) (x := 200) (y := 199) (h := 0) (t := 0) (shK (hS5 _) rfl) (shK (hS5 _) rfl) (by decide) (by decide) (by decide) (by decide) (by decide)
      have a1 : mL (pI (pI (pI M1 198 8 0) 198 14 S.2.2.2.2.1) 198 15 (-1)) 200 = S.1 := h200
      have a2 : mL (pI (pI (pI M1 198 8 0) 198 14 S.2.2.2.2.1) 198 15 (-1)) 199 = mL (thr M 0) 199 := h199
      rw [a1, a2] at q1
      have hS6 : Shp (sL (pI (pI (pI M1 198 8 0) 198 14 S.2.2.2.2.1) 198 15 (-1)) 199 (cpF (mL (thr M 0) 199) 0 S.1 0 220)) := hS2
      have hS5a := hS5 (-1)
      have hk5a := hk5 (-1)
      clear hS5 hk5 hk6
      have hCR : Rr (pI (sL (pI (pI (pI M1 198 8 0) 198 14 S.2.2.2.2.1) 198 15 (-1)) 199 (cpF (mL (thr M 0) 199) 0 S.1 0 220)) 198 5 0) n (ldA M T len) := hCR
      generalize hM6 : pI (sL (pI (pI (pI M1 198 8 0) 198 14 S.2.2.2.2.1) 198 15 (-1)) 199 (cpF (mL (thr M 0) 199) 0 S.1 0 220)) 198 5 0 = M6 at *
      generalize sL (pI (pI (pI M1 198 8 0) 198 14 S.2.2.2.2.1) 198 15 (-1)) 199 (cpF (mL (thr M 0) 199) 0 S.1 0 220) = M5 at *
      generalize hM4 : pI (pI (pI M1 198 8 0) 198 14 S.2.2.2.2.1) 198 15 (-1) = M4 at *
      generalize hM3 : pI (pI M1 198 8 0) 198 14 S.2.2.2.2.1 = M3 at *
      generalize hM2 : pI M1 198 8 0 = M2 at *
      refine g_aload_n (pc := 38) dX7_load_38 rfl trivial ?_
      refine g_iconst (pc := 39) (v := 0) dX7_load_39 rfl ?_
      refine g_putI (pc := 40) dX7_load_40 fp_X7_81 (shK hS2 rfl) ⟨rfl, rfl⟩ (fun _ _ _ _ => rfl) ?_
      refine go_cast hM2 ?_
      refine g_aload_n (pc := 43) dX7_load_43 rfl trivial ?_
      refine g_aload_n (pc := 44) dX7_load_44 rfl trivial ?_
      refine g_getf (pc := 45) (v := .int _) dX7_load_45 fk_X7_93 (shK hS3 rfl) (fun _ => congrArg Value.int (hk0)) ?_
      refine g_putI (pc := 48) dX7_load_48 fp_X7_195 (shK hS3 rfl) ⟨rfl, rfl⟩ (fun _ _ _ _ => rfl) ?_
      refine go_cast hM3 ?_
      refine g_aload_n (pc := 51) dX7_load_51 rfl trivial ?_
      refine g_aload_n (pc := 52) dX7_load_52 rfl trivial ?_
      refine g_getf (pc := 53) (v := .int _) dX7_load_53 fk_X7_93 (shK hS4 rfl) (fun _ => congrArg Value.int (hk1)) ?_
      refine g_if_ne (pc := 56) (tgt := 63) dX7_load_56 rfl (fun h56 => absurd h56 ((fun z => z he))) (fun _ => ?_)
      refine g_iconst (pc := 59) (v := (-1)) dX7_load_59 rfl ?_
      refine g_goto (pc := 60) (tgt := 67) dX7_load_60 rfl ?_
      refine g_putI (pc := 67) dX7_load_67 fp_X7_30 (shK hS4 rfl) ⟨rfl, rfl⟩ (fun _ _ _ _ => rfl) ?_
      refine go_cast hM4 ?_
      refine g_aload_n (pc := 70) dX7_load_70 rfl trivial ?_
      refine g_getf (pc := 71) (v := .int _) dX7_load_71 fk_X7_93 (shK hS5a rfl) (fun _ => congrArg Value.int (hk5a)) ?_
      refine g_if_eq (pc := 74) (tgt := 85) dX7_load_74 rfl (fun _ => ?_) (fun h74 => absurd (he) h74)
      refine g_aload_n (pc := 85) dX7_load_85 rfl trivial ?_
      refine g_getf (pc := 86) dX7_load_86 fk_X7_13 (shK hS5a rfl) (fv_arr (shR hS5a rfl)) ?_
      refine g_iconst (pc := 89) (v := 0) dX7_load_89 rfl ?_
      refine g_aload_n (pc := 90) dX7_load_90 rfl trivial ?_
      refine g_getf (pc := 91) dX7_load_91 fk_X7_9 (shK hS5a rfl) (fv_arr (shR hS5a rfl)) ?_
      refine g_iconst (pc := 94) (v := 0) dX7_load_94 rfl ?_
      refine g_invS_r (pc := 95) (As := [_, _, _, _]) dX7_load_95 rfl (q1) rfl rfl lk_X7_198 rfl (nb rfl) ⟨nb rfl, nb rfl⟩ rfl ?_
      refine g_aload_n (pc := 98) dX7_load_98 rfl trivial ?_
      refine g_iconst (pc := 99) (v := 0) dX7_load_99 rfl ?_
      refine g_putI (pc := 100) dX7_load_100 fp_X7_201 (shK hS6 rfl) ⟨rfl, rfl⟩ (fun _ _ _ _ => rfl) ?_
      refine go_cast hM6 ?_
      refine g_iconst (pc := 103) (v := 0) dX7_load_103 rfl ?_
      refine g_istore_n (pc := 104) (lv' := [(0, _), (1, _)]) dX7_load_104 (nl rfl) rfl ?_
      refine go_loop (pc := 105) 6 (fun i => [(0, .ref 198), (1, .int (nI i))]) (fun i => anK M6 (nI n) i) ⟨rfl, rfl, trivial⟩ (by rw [anK.eq_1]) ?_ ?_
      · intro i hi ih
        have h3 := anK_R (x := nI n) hCR i (by omega)
        rw [anK.eq_2 M6 (nI n) i] at ih
        generalize anK M6 (nI n) 6 = M9 at *
        generalize anK M6 (nI n) i = M7 at *
        refine g_iload_n (pc := 105) dX7_load_105 rfl ?_
        refine g_bipush (pc := 106) (v := 6) dX7_load_106 rfl ?_
        refine g_icmp_ge (pc := 108) (tgt := 122) dX7_load_108 rfl (fun h108 => absurd h108 (nI_ge (b := 6) hi (by omega))) (fun _ => ?_)
        refine g_aload_n (pc := 111) dX7_load_111 rfl trivial ?_
        refine g_iload_n (pc := 112) dX7_load_112 rfl ?_
        refine g_invV_r (pc := 113) (As := [_]) dX7_load_113 rfl (r_madeAnew h3 hi) rfl rfl (shK h3.1 rfl) rfl rfl lk_X7_204 rfl (nb rfl) ⟨nb rfl, nb rfl⟩ rfl ?_
        refine g_iinc (pc := 116) (lv' := [(0, _), (1, _)]) dX7_load_116 rfl (nI_1 _) (nl rfl) rfl ?_
        refine g_goto (pc := 119) (tgt := 105) dX7_load_119 rfl ?_
        exact ih
      · have h3 := anK_R (x := nI n) hCR 6 (by omega)
        generalize anK M6 (nI n) 6 = M9 at *
        refine g_iload_n (pc := 105) dX7_load_105 rfl ?_
        refine g_bipush (pc := 106) (v := 6) dX7_load_106 rfl ?_
        refine g_icmp_ge (pc := 108) (tgt := 122) dX7_load_108 rfl (fun _ => ?_) (fun h108 => absurd (nI_le (Nat.le_refl 6) (by omega)) h108)
        refine g_aload_n (pc := 122) dX7_load_122 rfl trivial ?_
        refine g_invV_r (pc := 123) (As := []) dX7_load_123 rfl (r_size h3) rfl rfl (shK h3.1 rfl) rfl rfl lk_X7_71 rfl (nb rfl) ⟨nb rfl, nb rfl⟩ rfl ?_
        refine g_ireturn (pc := 126) dX7_load_126 rfl rfl ?_
        exact ⟨rfl, rfl⟩
    · rw [if_neg he, if_neg he, if_neg he]
      have hS5a := hS5 S.2.2.2.1
      have hk5a := hk5 S.2.2.2.1
      have hk6a := hk6 S.2.2.2.1
      clear hS5 hk5 hk6
      generalize hM4 : pI (pI (pI M1 198 8 0) 198 14 S.2.2.2.2.1) 198 15 S.2.2.2.1 = M4 at *
      generalize hM3 : pI (pI M1 198 8 0) 198 14 S.2.2.2.2.1 = M3 at *
      generalize hM2 : pI M1 198 8 0 = M2 at *
      refine g_aload_n (pc := 38) dX7_load_38 rfl trivial ?_
      refine g_iconst (pc := 39) (v := 0) dX7_load_39 rfl ?_
      refine g_putI (pc := 40) dX7_load_40 fp_X7_81 (shK hS2 rfl) ⟨rfl, rfl⟩ (fun _ _ _ _ => rfl) ?_
      refine go_cast hM2 ?_
      refine g_aload_n (pc := 43) dX7_load_43 rfl trivial ?_
      refine g_aload_n (pc := 44) dX7_load_44 rfl trivial ?_
      refine g_getf (pc := 45) (v := .int _) dX7_load_45 fk_X7_93 (shK hS3 rfl) (fun _ => congrArg Value.int (hk0)) ?_
      refine g_putI (pc := 48) dX7_load_48 fp_X7_195 (shK hS3 rfl) ⟨rfl, rfl⟩ (fun _ _ _ _ => rfl) ?_
      refine go_cast hM3 ?_
      refine g_aload_n (pc := 51) dX7_load_51 rfl trivial ?_
      refine g_aload_n (pc := 52) dX7_load_52 rfl trivial ?_
      refine g_getf (pc := 53) (v := .int _) dX7_load_53 fk_X7_93 (shK hS4 rfl) (fun _ => congrArg Value.int (hk1)) ?_
      refine g_if_ne (pc := 56) (tgt := 63) dX7_load_56 rfl (fun _ => ?_) (fun h56 => absurd (he) h56)
      refine g_aload_n (pc := 63) dX7_load_63 rfl trivial ?_
      refine g_getf (pc := 64) (v := .int _) dX7_load_64 fk_X7_183 (shK hS4 rfl) (fun _ => congrArg Value.int (hk3)) ?_
      refine g_putI (pc := 67) dX7_load_67 fp_X7_30 (shK hS4 rfl) ⟨rfl, rfl⟩ (fun _ _ _ _ => rfl) ?_
      refine go_cast hM4 ?_
      refine g_aload_n (pc := 70) dX7_load_70 rfl trivial ?_
      refine g_getf (pc := 71) (v := .int _) dX7_load_71 fk_X7_93 (shK hS5a rfl) (fun _ => congrArg Value.int (hk5a)) ?_
      refine g_if_eq (pc := 74) (tgt := 85) dX7_load_74 rfl (fun h74 => absurd h74 (he)) (fun _ => ?_)
      refine g_bipush (pc := 77) (v := (-100)) dX7_load_77 rfl ?_
      refine g_aload_n (pc := 79) dX7_load_79 rfl trivial ?_
      refine g_getf (pc := 80) (v := .int _) dX7_load_80 fk_X7_96 (shK hS5a rfl) (fun _ => congrArg Value.int (hk6a)) ?_
      refine g_isub (pc := 83) dX7_load_83 ?_
      refine g_ireturn (pc := 84) dX7_load_84 rfl rfl ?_
      exact ⟨rfl, rfl⟩
  refine ev_intro rfl (nb rfl) rfl ?_
  have hSa : Shp (pI (thr M 0) 198 9 0) := hS
  have hSb : Shp (pI (pI (thr M 0) 198 9 0) 198 11 0) := hS
  refine g_aload_n (pc := 0) dX7_load_0 rfl trivial ?_
  refine g_iconst (pc := 1) (v := 0) dX7_load_1 rfl ?_
  refine g_putI (pc := 2) dX7_load_2 fp_X7_60 (shK hS rfl) ⟨rfl, rfl⟩ (fun _ _ _ _ => rfl) ?_
  refine go_cast e0 ?_
  refine g_aload_n (pc := 5) dX7_load_5 rfl trivial ?_
  refine g_iconst (pc := 6) (v := 0) dX7_load_6 rfl ?_
  refine g_putI (pc := 7) dX7_load_7 fp_X7_84 (shK hS1 rfl) ⟨rfl, rfl⟩ (fun _ _ _ _ => rfl) ?_
  refine g_aload_n (pc := 10) dX7_load_10 rfl trivial ?_
  refine g_iconst (pc := 11) (v := 0) dX7_load_11 rfl ?_
  refine g_putI (pc := 12) dX7_load_12 fp_X7_93 (shK hSa rfl) ⟨rfl, rfl⟩ (fun _ _ _ _ => rfl) ?_
  refine g_aload_n (pc := 15) dX7_load_15 rfl trivial ?_
  refine g_iconst (pc := 16) (v := 0) dX7_load_16 rfl ?_
  refine g_putI (pc := 17) dX7_load_17 fp_X7_183 (shK hSb rfl) ⟨rfl, rfl⟩ (fun _ _ _ _ => rfl) ?_
  refine go_cast e1 ?_
  skip
  have hS0 : Shp (psM (thr M 0) (0, mI M 198 10, 0, 0, mI M 198 12)) := hS
  refine g_aload_n (pc := 20) dX7_load_20 rfl trivial ?_
  refine g_invV_r (pc := 21) (As := []) dX7_load_21 rfl (hz) rfl rfl (shK hS0 rfl) rfl rfl lk_X7_186 rfl (nb rfl) ⟨nb rfl, nb rfl⟩ rfl ?_
  refine go_while (pc := 24) (σ := Nat × (Nat → Int64) × RP) (fun q => q.1 ≤ q.2.2.1 ∧ q.2.2.1 ≤ len ∧ q.2.1 0 = lN n ∧ gL T len n (len - q.1) q.2.1 q.2.2 = S) (fun q => len - q.1) (fun q => [(0, .ref 198)]) (fun q => psM (sL (thr M 0) 200 q.2.1) q.2.2) (0, bgF (mL M 200) n, s1) ⟨rfl, trivial⟩ rfl ⟨Nat.zero_le _, hzl, hu0, hs.symm⟩ ?_
  rintro ⟨i, u, s2⟩ ⟨h1, hp2, hu2, hq2⟩ ih
  simp only at h1 hp2 hu2 hq2 ih
  have hSu : ∀ t, Shp (psM (sL (thr M 0) 200 u) t) := fun t => hS
  have hTu : txt (sL (thr M 0) 200 u) T len := hT1
  have hlu : mI (sL (thr M 0) 200 u) 198 8 = nI len := hl1
  have hzu : mL (sL (thr M 0) 200 u) 200 0 = lN n := by rw [sL_self]; exact hu2
  have q1 := r_isMore (l := l) (M := sL (thr M 0) 200 u) (s := s2) hS hTu hlu hL hp2
  have hm := mvS_le (T := T) hp2
  by_cases hb : mvB T len s2 = true
  · have hlt := mvB_lt hp2 hb
    rw [show len - i = (len - (i + 1)) + 1 by omega, gL.eq_2, if_pos hb] at hq2
    rw [hb] at q1
    have q2 := r_statement (l := l) (M := sL (thr M 0) 200 u) (s := mvS T len s2) hS hTu hlu hL hm.2 hzu n2 n3
    have hok := gS_ok (T := T) (n := n) (u := u) hm.2
    rw [show mL (sL (thr M 0) 200 u) 200 = u from sL_self _ _ _, sL_2] at q2
    have ih2 := ih (i + 1, (gS T len n u (mvS T len s2)).1, (gS T len n u (mvS T len s2)).2) ⟨by have := hok.1; simp only; omega, hok.2.1, hok.2.2.1.trans hu2, hq2⟩ (by simp only; omega)
    generalize gS T len n u (mvS T len s2) = r at *
    simp only at ih2
    have hS3 := hSu (mvS T len s2)
    have hS2 := hSu s2
    generalize psM (sL (thr M 0) 200 r.1) r.2 = M3 at *
    generalize psM (sL (thr M 0) 200 u) (mvS T len s2) = M2 at *
    generalize psM (sL (thr M 0) 200 u) s2 = M1 at *
    refine g_aload_n (pc := 24) dX7_load_24 rfl trivial ?_
    refine g_invV_r (pc := 25) (As := []) dX7_load_25 rfl (q1) rfl rfl (shK hS2 rfl) rfl rfl lk_X7_189 rfl (nb rfl) ⟨nb rfl, nb rfl⟩ rfl ?_
    refine g_if_eq (pc := 28) (tgt := 38) dX7_load_28 rfl (fun h28 => absurd h28 ((by decide))) (fun _ => ?_)
    refine g_aload_n (pc := 31) dX7_load_31 rfl trivial ?_
    refine g_invV_r (pc := 32) (As := []) dX7_load_32 rfl (q2) rfl rfl (shK hS3 rfl) rfl rfl lk_X7_193 rfl (nb rfl) ⟨nb rfl, nb rfl⟩ rfl ?_
    refine g_goto (pc := 35) (tgt := 24) dX7_load_35 rfl ?_
    exact ih2
  · have e9 : S = (u, mvS T len s2) := by
      rw [← hq2]
      cases len - i with
      | zero => rw [gL.eq_1]
      | succ d => rw [gL.eq_2, if_neg hb]
    rw [Bool.eq_false_iff.mpr hb] at q1
    have hS2 := hSu s2
    rw [e9] at hfin
    simp only at hfin
    rw [e9]
    refine g_aload_n (pc := 24) dX7_load_24 rfl trivial ?_
    refine g_invV_r (pc := 25) (As := []) dX7_load_25 rfl (q1) rfl rfl (shK hS2 rfl) rfl rfl lk_X7_189 rfl (nb rfl) ⟨nb rfl, nb rfl⟩ rfl ?_
    refine g_if_eq (pc := 28) (tgt := 38) dX7_load_28 rfl (fun _ => ?_) (fun h28 => absurd (rfl) h28)
    exact hfin
end
end
-- 32.init
section
/-! what the constructors make: states, multiplier -/
def cR (M : Mem) (m a : Nat) (k : Knd) : Mem := pR (nK M k) m a (mK M).length
def nO (f : Mem → Nat → Mem) (c m a : Nat) (M : Mem) : Mem := pR (f (nK M (.inr c)) (mK M).length) m a (mK M).length
def X2M (M : Mem) (m : Nat) : Mem := cR M m 0 (kI 32)
def X0M (M : Mem) (m : Nat) : Mem := cR M m 0 (kI 32)
def X4M (M : Mem) (m : Nat) : Mem := cR M m 0 (kI 600)
def X1M (M : Mem) (m : Nat) : Mem := cR (cR (cR M m 0 (kI 32)) m 1 (kI 32)) m 2 (kI 32)
def X3M (M : Mem) (m : Nat) : Mem := cR (cR (cR M m 0 (kI 256)) m 1 (kI 32)) m 2 (kI 32)
def nOs (f : Mem → Nat → Mem) (c a : Nat) (M : Mem) : Nat → Mem
  | 0 => M
  | i + 1 => nO f c a i (nOs f c a M i)
termination_by i => i
def X5M (M : Mem) (m : Nat) : Mem := pI (pI (nOs X2M 2 (mK M).length (cR M m 0 (.inl (.object kMx, 6))) 6) m 1 8) m 2 4
/-- M' is M and more, but for the references of m -/
def Ext (m : Nat) (M M' : Mem) : Prop := (mX M = true → mX M' = true) ∧ (∀ (i : Nat) (x : Knd), (mK M)[i]? = some x → (mK M')[i]? = some x) ∧ (∀ (i : Nat) (x : Knd), (mK M)[i]? = some x → i ≠ m → mR M' i = mR M i)
section
variable {l : Launch} {M M1 M2 P : Mem} {m a b : Nat} {k x : Knd}
theorem lenI {i : Nat} {x : Knd} (h : (mK M)[i]? = some x) : i < (mK M).length := by
  rcases Nat.lt_or_ge i (mK M).length with q | q
  · exact q
  · rw [List.getElem?_eq_none q] at h; cases h
theorem nK_new {k : Knd} : (mK (nK M k))[(mK M).length]? = some k := by
  show (mK M ++ [k])[(mK M).length]? = _
  rw [List.getElem?_append_right (Nat.le_refl _), Nat.sub_self]; rfl
theorem nK_R {i : Nat} {x k : Knd} (h : (mK M)[i]? = some x) : mR (nK M k) i = mR M i := by
  have := lenI h
  show fun_set (mR M) (mK M).length (fun _ => none) i = _
  unfold fun_set
  rw [if_neg (by omega)]
theorem Ext.rf (m : Nat) (M : Mem) : Ext m M M := ⟨fun h => h, fun _ _ h => h, fun _ _ _ _ => rfl⟩
theorem Ext.tr (h1 : Ext m M M1) (h2 : Ext m M1 M2) : Ext m M M2 := ⟨fun h => h2.1 (h1.1 h), fun i x h => h2.2.1 i x (h1.2.1 i x h), fun i x h hi => (h2.2.2 i x (h1.2.1 i x h) hi).trans (h1.2.2 i x h hi)⟩
theorem ex_nK (m : Nat) (M : Mem) (k : Knd) : Ext m M (nK M k) := ⟨fun h => h, fun _ _ h => nK_k h, fun _ _ h _ => nK_R h⟩
theorem ex_pR (M : Mem) (m a r : Nat) : Ext m M (pR M m a r) := ⟨fun h => h, fun _ _ h => h, fun i x h hi => by
  show fun_set (mR M) m _ i = _
  unfold fun_set; rw [if_neg hi]⟩
theorem ex_cR (M : Mem) (m a : Nat) (k : Knd) : Ext m M (cR M m a k) := (ex_nK m M k).tr (ex_pR _ m a _)
theorem ex_pI (m : Nat) (M : Mem) (i j : Nat) (v : Int32) : Ext m M (pI M i j v) := ⟨fun h => h, fun _ _ h => h, fun _ _ _ _ => rfl⟩
/-- what was made apart from M -/
theorem Ext.out (h : Ext (mK M).length (nK M k) M1) : Ext m M M1 := ⟨fun q => h.1 q, fun i x q => h.2.1 i x (nK_k q), fun i x q _ => (h.2.2 i x (nK_k q) (Nat.ne_of_lt (lenI q))).trans (nK_R q)⟩
theorem ex_nO {f : Mem → Nat → Mem} {c : Nat} (hf : ∀ (M : Mem) (m : Nat) (x : Knd), (mK M)[m]? = some x → Ext m M (f M m)) (M : Mem) (m a : Nat) : Ext m M (nO f c m a M) := (Ext.out (hf _ _ _ nK_new)).tr (ex_pR _ m a _)
theorem ex_nOs {f : Mem → Nat → Mem} {c : Nat} (hf : ∀ (M : Mem) (m : Nat) (x : Knd), (mK M)[m]? = some x → Ext m M (f M m)) (M : Mem) (a : Nat) : ∀ i, Ext a M (nOs f c a M i)
  | 0 => by rw [nOs.eq_1]; exact Ext.rf _ _
  | i + 1 => by rw [nOs.eq_2]; exact (ex_nOs hf M a i).tr (ex_nO hf _ _ _)
theorem cR_new {k : Knd} : (mK (cR M m a k))[(mK M).length]? = some k := nK_new
theorem cR_f {k : Knd} : mR (cR M m a k) m a = some (mK M).length := by
  show fun_set (mR (nK M k)) m (fun_set (mR (nK M k) m) a (some (mK M).length)) m a = _
  simp [fun_set]
theorem pR_f {r : Nat} : mR (pR M m a r) m a = some r := by
  show fun_set (mR M) m (fun_set (mR M m) a (some r)) m a = _
  simp [fun_set]
theorem pR_o {r b : Nat} (h : b ≠ a) : mR (pR M m a r) m b = mR M m b := by
  show fun_set (mR M) m (fun_set (mR M m) a (some r)) m b = _
  simp [fun_set, h]
theorem X2_e (M : Mem) (m : Nat) (x : Knd) (_ : (mK M)[m]? = some x) : Ext m M (X2M M m) := ex_cR _ _ _ _
theorem X0_e (M : Mem) (m : Nat) (x : Knd) (_ : (mK M)[m]? = some x) : Ext m M (X0M M m) := ex_cR _ _ _ _
theorem X4_e (M : Mem) (m : Nat) (x : Knd) (_ : (mK M)[m]? = some x) : Ext m M (X4M M m) := ex_cR _ _ _ _
theorem X1_e (M : Mem) (m : Nat) (x : Knd) (_ : (mK M)[m]? = some x) : Ext m M (X1M M m) := ((ex_cR _ _ _ _).tr (ex_cR _ _ _ _)).tr (ex_cR _ _ _ _)
theorem X3_e (M : Mem) (m : Nat) (x : Knd) (_ : (mK M)[m]? = some x) : Ext m M (X3M M m) := ((ex_cR _ _ _ _).tr (ex_cR _ _ _ _)).tr (ex_cR _ _ _ _)
theorem Ext.lo (h : Ext (mK M).length (cR M m b k) M1) (hm : (mK M)[m]? = some x) : Ext m M M1 := ⟨fun q => h.1 q, fun i y q => h.2.1 i y (nK_k q), fun i y q hi => (h.2.2 i y (nK_k q) (Nat.ne_of_lt (lenI q))).trans ((ex_cR M m b k).2.2 i y q hi)⟩
theorem X5_e (M : Mem) (m : Nat) (x : Knd) (hm : (mK M)[m]? = some x) : Ext m M (X5M M m) := (Ext.lo (ex_nOs X2_e _ _ 6) hm).tr ((ex_pI m _ _ _ _).tr (ex_pI m _ _ _ _))
theorem j_X2 (hx : mX M = true) (hk : (mK M)[m]? = some (.inr 2)) : EvR l jX2_init 1 30 1 32 [.ref m] M (.inl none) (X2M M m) := i_X2 hx hk rfl
theorem j_X0 (hx : mX M = true) (hk : (mK M)[m]? = some (.inr 0)) : EvR l jX0_init 1 30 1 32 [.ref m] M (.inl none) (X0M M m) := i_X0 hx hk rfl
theorem j_X4 (hx : mX M = true) (hk : (mK M)[m]? = some (.inr 4)) : EvR l jX4_init 1 30 1 600 [.ref m] M (.inl none) (X4M M m) := i_X4 hx hk rfl
theorem j_X1 (hx : mX M = true) (hk : (mK M)[m]? = some (.inr 1)) : EvR l jX1_init 1 30 3 96 [.ref m] M (.inl none) (X1M M m) := by
  have h := i_X1 (l := l) hx hk rfl
  have e1 : (mK M).length + 1 = (mK (cR M m 0 (kI 32))).length := (nK_n rfl).symm
  have e2 : (mK M).length + 2 = (mK (cR (cR M m 0 (kI 32)) m 1 (kI 32))).length := (nK_n (M := cR M m 0 (kI 32)) (nK_n rfl)).symm
  rw [e1, e2] at h
  exact h
theorem j_X3 (hx : mX M = true) (hk : (mK M)[m]? = some (.inr 3)) : EvR l jX3_init 1 30 3 320 [.ref m] M (.inl none) (X3M M m) := by
  have a1 := ex_cR M m 0 (kI 256)
  have a2 := a1.tr (ex_cR _ m 1 (kI 32))
  have a3 := a2.tr (ex_cR _ m 2 (kI 32))
  refine ev_intro rfl (nb rfl) rfl ?_
  refine g_aload_n (pc := 0) dX3_init_0 rfl trivial ?_
  refine g_objInit (pc := 1) dX3_init_1 wd_240 wd_121 wd_122 (nb rfl) (nb rfl) ?_
  refine g_aload_n (pc := 4) dX3_init_4 rfl trivial ?_
  refine g_sipush (pc := 5) (v := 256) dX3_init_5 rfl ?_
  refine g_newarray_int (pc := 8) (len := 256) (n := 64) (k := 2) dX3_init_8 wd_154 rfl (by decide) hx ?_
  refine g_putR (pc := 10) dX3_init_10 fp_X3_9 (fun _ => ⟨rfl, _, rfl, rfl⟩) (nK_k hk) (fun _ => ⟨rfl, rfl⟩) (fun _ _ _ _ => rfl) ?_
  refine go_cast (show _ = cR M m 0 (kI 256) from rfl) ?_
  refine g_aload_n (pc := 13) dX3_init_13 rfl trivial ?_
  refine g_bipush (pc := 14) (v := 32) dX3_init_14 rfl ?_
  refine g_newarray_int (pc := 16) (len := 32) (n := 32) (k := 1) dX3_init_16 wd_154 rfl (by decide) (a1.1 hx) ?_
  refine g_putR (pc := 18) dX3_init_18 fp_X3_15 (fun _ => ⟨rfl, _, rfl, rfl⟩) (nK_k (a1.2.1 _ _ hk)) (fun _ => ⟨rfl, rfl⟩) (fun _ _ _ _ => rfl) ?_
  refine go_cast (show _ = cR (cR M m 0 (kI 256)) m 1 (kI 32) from rfl) ?_
  refine g_aload_n (pc := 21) dX3_init_21 rfl trivial ?_
  refine g_bipush (pc := 22) (v := 32) dX3_init_22 rfl ?_
  refine g_newarray_int (pc := 24) (len := 32) (n := 0) (k := 0) dX3_init_24 wd_154 rfl (by decide) (a2.1 hx) ?_
  refine g_putR (pc := 26) dX3_init_26 fp_X3_18 (fun _ => ⟨rfl, _, rfl, rfl⟩) (nK_k (a2.2.1 _ _ hk)) (fun _ => ⟨rfl, rfl⟩) (fun _ _ _ _ => rfl) ?_
  refine g_return (pc := 29) dX3_init_29 rfl ?_
  exact ⟨rfl, rfl⟩
theorem j_X5 (hx : mX M = true) (hk : (mK M)[m]? = some (.inr 5)) : EvR l jX5_init 2 60 13 228 [.ref m] M (.inl none) (X5M M m) := by
  have hma : m ≠ (mK M).length := Nat.ne_of_lt (lenI hk)
  have a1 := ex_cR M m 0 (.inl (.object kMx, 6))
  have hk1 := a1.2.1 _ _ hk
  have hx1 := a1.1 hx
  have hA1 : (mK (cR M m 0 (.inl (.object kMx, 6))))[(mK M).length]? = some (.inl (.object kMx, 6)) := cR_new
  have hR1 : mR (cR M m 0 (.inl (.object kMx, 6))) m 0 = some (mK M).length := cR_f
  obtain ⟨P0, hP0⟩ : ∃ P, P = cR M m 0 (.inl (.object kMx, 6)) := ⟨_, rfl⟩
  obtain ⟨a, ha⟩ : ∃ a, a = (mK M).length := ⟨_, rfl⟩
  unfold X5M
  rw [← hP0, ← ha]
  rw [← hP0] at hk1 hx1
  rw [← hP0, ← ha] at hA1 hR1
  rw [← ha] at hma
  clear a1
  have hE := ex_nOs (c := 2) X2_e P0 a
  refine ev_intro rfl (nb rfl) rfl ?_
  have body : ∀ (i k n : Nat), i < 6 → Go l jX5_init 2 60 13 228 (fun r' M9 => r' = .inl none ∧ M9 = pI (pI (nOs X2M 2 a P0 6) m 1 8) m 2 4) 15 [(0, .ref m), (1, .int (nI (i + 1)))] [] k n (nOs X2M 2 a P0 (i + 1)) → Go l jX5_init 2 60 13 228 (fun r' M9 => r' = .inl none ∧ M9 = pI (pI (nOs X2M 2 a P0 6) m 1 8) m 2 4) 15 [(0, .ref m), (1, .int (nI i))] [] (k + 2) (n + 32 + 5) (nOs X2M 2 a P0 i) := by
    intro i k n hi ih
    have h1 := (hE i).1 hx1
    have h2 := (hE i).2.1 _ _ hk1
    have h3 := (hE i).2.1 _ _ hA1
    have h4 : mR (nOs X2M 2 a P0 i) m 0 = some a := by rw [(hE i).2.2 _ _ hk1 hma]; exact hR1
    generalize pI (pI (nOs X2M 2 a P0 6) m 1 8) m 2 4 = M9 at *
    rw [nOs.eq_2] at ih
    generalize nOs X2M 2 a P0 i = P at *
    have g1 := (X2_e (nK P (.inr 2)) (mK P).length _ nK_new).2.1
    refine g_iload_n (pc := 15) dX5_init_15 rfl ?_
    refine g_bipush (pc := 16) (v := 6) dX5_init_16 rfl ?_
    refine g_icmp_ge (pc := 18) (tgt := 40) dX5_init_18 rfl (fun h18 => absurd h18 (nI_ge (b := 6) hi (by omega))) (fun _ => ?_)
    refine g_aload_n (pc := 21) dX5_init_21 rfl trivial ?_
    refine g_getf (pc := 22) dX5_init_22 fk_X5_11 h2 (fv_arr h4) ?_
    refine g_iload_n (pc := 25) dX5_init_25 rfl ?_
    refine g_new (pc := 26) (ci := 2) (ty0 := tyX2) dX5_init_26 rfl wd_161 wd_163 wd_98 inW2 tyX2_ok (new_df2 _) rfl h1 ?_
    refine g_dup (pc := 29) dX5_init_29 rfl ?_
    refine g_invI_r (pc := 30) (As := []) dX5_init_30 rfl ((j_X2 h1 nK_new)) rfl rfl nK_new rfl rfl lk_X5_17 rfl (nb rfl) ⟨nb rfl, nb rfl⟩ rfl ?_
    refine g_aastore_Matrix (pc := 33) dX5_init_33 (g1 _ _ (nK_k h3)) rfl hi (by decide) (g1 _ _ nK_new) rfl rfl ?_
    refine go_cast (show _ = nO X2M 2 a i P from rfl) ?_
    refine g_iinc (pc := 34) (lv' := [(0, _), (1, _)]) dX5_init_34 rfl (nI_1 _) (nl rfl) rfl ?_
    refine g_goto (pc := 37) (tgt := 15) dX5_init_37 rfl ?_
    exact ih
  refine g_aload_n (pc := 0) dX5_init_0 rfl trivial ?_
  refine g_objInit (pc := 1) dX5_init_1 wd_160 wd_121 wd_122 (nb rfl) (nb rfl) ?_
  refine g_aload_n (pc := 4) dX5_init_4 rfl trivial ?_
  refine g_bipush (pc := 5) (v := 6) dX5_init_5 rfl ?_
  refine g_anewarray_Matrix (pc := 7) (len := 6) (n := 222) (k := 12) dX5_init_7 wd_161 rfl (by decide) hx ?_
  refine g_putR (pc := 10) dX5_init_10 fp_X5_11 (fun _ => ⟨rfl, _, rfl, rfl⟩) (nK_k hk) (fun _ => ⟨rfl, rfl⟩) (fun _ _ _ _ => rfl) ?_
  refine go_cast hP0.symm ?_
  refine g_iconst (pc := 13) (v := 0) dX5_init_13 rfl ?_
  refine g_istore_n (pc := 14) (lv' := [(0, _), (1, _)]) dX5_init_14 (nl rfl) rfl ?_
  refine go_cast (show P0 = nOs X2M 2 a P0 0 from (nOs.eq_1 _ _ _ _).symm) ?_
  refine body 0 10 185 (by decide) (body 1 8 148 (by decide) (body 2 6 111 (by decide) (body 3 4 74 (by decide) (body 4 2 37 (by decide) (body 5 0 0 (by decide) ?_)))))
  have h2 := (hE 6).2.1 _ _ hk1
  generalize nOs X2M 2 a P0 6 = P at *
  refine g_iload_n (pc := 15) dX5_init_15 rfl ?_
  refine g_bipush (pc := 16) (v := 6) dX5_init_16 rfl ?_
  refine g_icmp_ge (pc := 18) (tgt := 40) dX5_init_18 rfl (fun _ => ?_) (fun h18 => absurd (nI_le (Nat.le_refl 6) (by omega)) h18)
  refine g_aload_n (pc := 40) dX5_init_40 rfl trivial ?_
  refine g_bipush (pc := 41) (v := 8) dX5_init_41 rfl ?_
  refine g_putI (pc := 43) dX5_init_43 fp_X5_18 h2 ⟨rfl, rfl⟩ (fun _ _ _ _ => rfl) ?_
  refine g_aload_n (pc := 46) dX5_init_46 rfl trivial ?_
  refine g_iconst (pc := 47) (v := 4) dX5_init_47 rfl ?_
  refine g_putI (pc := 48) dX5_init_48 fp_X5_22 h2 ⟨rfl, rfl⟩ (fun _ _ _ _ => rfl) ?_
  refine g_return (pc := 51) dX5_init_51 rfl ?_
  exact ⟨rfl, rfl⟩
end
end
-- 321.init
section
/-! what the constructors make: the class's object -/
def Q4M (M : Mem) (m : Nat) : Mem := cR (nO X5M 5 m 2 (nO X5M 5 m 1 (nO X4M 4 m 0 M))) m 3 (.inl (.object kSt, 8))
def Q5M (M : Mem) (m : Nat) : Mem := nOs X5M 5 (mK (nO X5M 5 m 2 (nO X5M 5 m 1 (nO X4M 4 m 0 M)))).length (Q4M M m) 8
def Q7M (M : Mem) (m : Nat) : Mem := nOs X5M 5 (mK M).length (cR M m 6 (.inl (.object kSt, 2))) 2
def Q9M (M : Mem) (m : Nat) : Mem := nOs X0M 0 (mK (cR M m 7 (.inl (.boolean, 2)))).length (cR (cR M m 7 (.inl (.boolean, 2))) m 8 (.inl (.object kCl, 6))) 6
def QzM (M : Mem) (m : Nat) : Mem := cR (cR (cR (nO X1M 1 m 10 (nO X3M 3 m 9 M)) m 11 (kI 32)) m 12 (kI 32)) m 13 (kI 32)
def X6M (M : Mem) (m : Nat) : Mem := QzM (Q9M (Q7M (Q5M M m) m) m) m
section
variable {l : Launch} {Q : Res → Mem → Prop} {M P P0 : Mem} {m a k n : Nat}
theorem i6a {c1 c2 c3 c4 : Mem} (h1 : c1 = nO X4M 4 m 0 M) (h2 : c2 = nO X5M 5 m 1 c1) (h3 : c3 = nO X5M 5 m 2 c2) (h4 : c4 = cR c3 m 3 (.inl (.object kSt, 8))) (hx : mX M = true) (hk : (mK M)[m]? = some (.inr 6)) (kk : Go l jX6_init 3 90 197 4149 Q 48 [(0, .ref m), (1, .int 0)] [] k n c4) : Go l jX6_init 3 90 197 4149 Q 0 [(0, .ref m)] [] (k + 31) (n + 1081) M := by
  have a1 : Ext m M c1 := h1 ▸ ex_nO (c := 4) X4_e M m 0
  have b2 : Ext m c1 c2 := h2 ▸ ex_nO (c := 5) X5_e c1 m 1
  have b3 : Ext m c2 c3 := h3 ▸ ex_nO (c := 5) X5_e c2 m 2
  have x1 := a1.1 hx
  have k1 := a1.2.1 _ _ hk
  have x2 := b2.1 x1
  have k2 := b2.2.1 _ _ k1
  have x3 := b3.1 x2
  have k3 := b3.2.1 _ _ k2
  have g0 := (X4_e (nK M (.inr 4)) (mK M).length _ nK_new).2.1 m _ (nK_k hk)
  have g1 := (X5_e (nK c1 (.inr 5)) (mK c1).length _ nK_new).2.1 m _ (nK_k k1)
  have g2 := (X5_e (nK c2 (.inr 5)) (mK c2).length _ nK_new).2.1 m _ (nK_k k2)
  refine g_aload_n (pc := 0) dX6_init_0 rfl trivial ?_
  refine g_objInit (pc := 1) dX6_init_1 wd_120 wd_121 wd_122 (nb rfl) (nb rfl) ?_
  refine g_aload_n (pc := 4) dX6_init_4 rfl trivial ?_
  refine g_new (pc := 5) (nf := 7) (n := (n+1074)) (k := (k+30)) (ci := 4) (ty0 := tyX4) dX6_init_5 rfl wd_123 wd_124 wd_96 inW4 tyX4_ok (new_df4 _) rfl hx ?_
  refine g_dup (pc := 8) dX6_init_8 rfl ?_
  refine g_invI_r (pc := 9) (As := []) dX6_init_9 rfl ((j_X4 hx nK_new)) rfl rfl nK_new rfl rfl lk_X6_9 rfl (nb rfl) ⟨nb rfl, nb rfl⟩ rfl ?_
  refine g_putR (pc := 12) dX6_init_12 fp_X6_10 (fun _ => ⟨rfl, _, rfl, rfl⟩) g0 (fun _ => ⟨rfl, rfl⟩) (fun _ _ _ _ => rfl) ?_
  refine go_cast h1.symm ?_
  refine g_aload_n (pc := 15) dX6_init_15 rfl trivial ?_
  refine g_new (pc := 16) (nf := 5) (n := (n+469)) (k := (k+28)) (ci := 5) (ty0 := tyX5) dX6_init_16 rfl wd_155 wd_156 wd_97 inW5 tyX5_ok (new_df5 _) rfl x1 ?_
  refine g_dup (pc := 19) dX6_init_19 rfl ?_
  refine g_invI_r (pc := 20) (As := []) dX6_init_20 rfl ((j_X5 x1 nK_new)) rfl rfl nK_new rfl rfl lk_X6_18 rfl (nb rfl) ⟨nb rfl, nb rfl⟩ rfl ?_
  refine g_putR (pc := 23) dX6_init_23 fp_X6_19 (fun _ => ⟨rfl, _, rfl, rfl⟩) g1 (fun _ => ⟨rfl, rfl⟩) (fun _ _ _ _ => rfl) ?_
  refine go_cast h2.symm ?_
  refine g_aload_n (pc := 26) dX6_init_26 rfl trivial ?_
  refine g_new (pc := 27) (nf := 5) (n := (n+236)) (k := (k+14)) (ci := 5) (ty0 := tyX5) dX6_init_27 rfl wd_155 wd_156 wd_97 inW5 tyX5_ok (new_df5 _) rfl x2 ?_
  refine g_dup (pc := 30) dX6_init_30 rfl ?_
  refine g_invI_r (pc := 31) (As := []) dX6_init_31 rfl ((j_X5 x2 nK_new)) rfl rfl nK_new rfl rfl lk_X6_18 rfl (nb rfl) ⟨nb rfl, nb rfl⟩ rfl ?_
  refine g_putR (pc := 34) dX6_init_34 fp_X6_23 (fun _ => ⟨rfl, _, rfl, rfl⟩) g2 (fun _ => ⟨rfl, rfl⟩) (fun _ _ _ _ => rfl) ?_
  refine go_cast h3.symm ?_
  refine g_aload_n (pc := 37) dX6_init_37 rfl trivial ?_
  refine g_bipush (pc := 38) (v := 8) dX6_init_38 rfl ?_
  refine g_anewarray_State (pc := 40) (len := 8) (n := n) (k := k) dX6_init_40 wd_155 rfl (by decide) x3 ?_
  refine g_putR (pc := 43) dX6_init_43 fp_X6_26 (fun _ => ⟨rfl, _, rfl, rfl⟩) (nK_k k3) (fun _ => ⟨rfl, rfl⟩) (fun _ _ _ _ => rfl) ?_
  refine go_cast h4.symm ?_
  refine g_iconst (pc := 46) (v := 0) dX6_init_46 rfl ?_
  refine g_istore_n (pc := 47) (lv' := [(0, _), (1, _)]) dX6_init_47 (nl rfl) rfl ?_
  exact kk
theorem i6b_b (hx1 : mX P0 = true) (hk1 : (mK P0)[m]? = some (.inr 6)) (hma : m ≠ a) (hA1 : (mK P0)[a]? = some (.inl (.object kSt, 8))) (hR1 : mR P0 m 3 = some a) (i : Nat) (hi : i < 8) (ih : Go l jX6_init 3 90 197 4149 Q 48 [(0, .ref m), (1, .int (nI (i + 1)))] [] k n (nOs X5M 5 a P0 (i + 1))) : Go l jX6_init 3 90 197 4149 Q 48 [(0, .ref m), (1, .int (nI i))] [] (k + 14) (n + 233) (nOs X5M 5 a P0 i) := by
  have hE := ex_nOs (c := 5) X5_e P0 a i
  have h1 := hE.1 hx1
  have h2 := hE.2.1 _ _ hk1
  have h3 := hE.2.1 _ _ hA1
  have h4 : mR (nOs X5M 5 a P0 i) m 3 = some a := by rw [hE.2.2 _ _ hk1 hma]; exact hR1
  rw [nOs.eq_2] at ih
  generalize nOs X5M 5 a P0 i = P at *
  have g0 := (X5_e (nK P (.inr 5)) (mK P).length _ nK_new).2.1 a _ (nK_k h3)
  have g1 := (X5_e (nK P (.inr 5)) (mK P).length _ nK_new).2.1 _ _ nK_new
  refine g_iload_n (pc := 48) dX6_init_48 rfl ?_
  refine g_bipush (pc := 49) (v := 8) dX6_init_49 rfl ?_
  refine g_icmp_ge (pc := 51) (tgt := 73) dX6_init_51 rfl (fun h51 => absurd h51 (nI_ge (b := 8) hi (by omega))) (fun _ => ?_)
  refine g_aload_n (pc := 54) dX6_init_54 rfl trivial ?_
  refine g_getf (pc := 55) dX6_init_55 fk_X6_26 h2 (fv_arr h4) ?_
  refine g_iload_n (pc := 58) dX6_init_58 rfl ?_
  refine g_new (pc := 59) (nf := 5) (n := (n+228)) (k := (k+13)) (ci := 5) (ty0 := tyX5) dX6_init_59 rfl wd_155 wd_156 wd_97 inW5 tyX5_ok (new_df5 _) rfl h1 ?_
  refine g_dup (pc := 62) dX6_init_62 rfl ?_
  refine g_invI_r (pc := 63) (As := []) dX6_init_63 rfl ((j_X5 h1 nK_new)) rfl rfl nK_new rfl rfl lk_X6_18 rfl (nb rfl) ⟨nb rfl, nb rfl⟩ rfl ?_
  refine g_aastore_State (pc := 66) dX6_init_66 g0 rfl hi (by decide) g1 rfl rfl ?_
  refine go_cast (show _ = nO X5M 5 a i P from rfl) ?_
  refine g_iinc (pc := 67) (lv' := [(0, _), (1, _)]) dX6_init_67 rfl (nI_1 _) (nl rfl) rfl ?_
  refine g_goto (pc := 70) (tgt := 48) dX6_init_70 rfl ?_
  exact ih
theorem i6b (hx1 : mX P0 = true) (hk1 : (mK P0)[m]? = some (.inr 6)) (hma : m ≠ a) (hA1 : (mK P0)[a]? = some (.inl (.object kSt, 8))) (hR1 : mR P0 m 3 = some a) (hP : P = nOs X5M 5 a P0 8) (kk : Go l jX6_init 3 90 197 4149 Q 48 [(0, .ref m), (1, .int (nI 8))] [] k n P) : Go l jX6_init 3 90 197 4149 Q 48 [(0, .ref m), (1, .int 0)] [] (k + 112) (n + 1864) P0 := by
  rw [hP] at kk
  refine go_cast (show P0 = nOs X5M 5 a P0 0 from (nOs.eq_1 _ _ _ _).symm) ?_
  exact i6b_b (k := k + 98) (n := n + 1631) hx1 hk1 hma hA1 hR1 0 (by decide) (i6b_b (k := k + 84) (n := n + 1398) hx1 hk1 hma hA1 hR1 1 (by decide) (i6b_b (k := k + 70) (n := n + 1165) hx1 hk1 hma hA1 hR1 2 (by decide) (i6b_b (k := k + 56) (n := n + 932) hx1 hk1 hma hA1 hR1 3 (by decide) (i6b_b (k := k + 42) (n := n + 699) hx1 hk1 hma hA1 hR1 4 (by decide) (i6b_b (k := k + 28) (n := n + 466) hx1 hk1 hma hA1 hR1 5 (by decide) (i6b_b (k := k + 14) (n := n + 233) hx1 hk1 hma hA1 hR1 6 (by decide) (i6b_b hx1 hk1 hma hA1 hR1 7 (by decide) kk)))))))
theorem i6c {c6 : Mem} (h6 : c6 = cR M m 6 (.inl (.object kSt, 2))) (hx : mX M = true) (hk : (mK M)[m]? = some (.inr 6)) (kk : Go l jX6_init 3 90 197 4149 Q 83 [(0, .ref m), (1, .int 0)] [] k n c6) : Go l jX6_init 3 90 197 4149 Q 48 [(0, .ref m), (1, .int (nI 8))] [] (k + 1) (n + 2) M := by
  refine g_iload_n (pc := 48) dX6_init_48 rfl ?_
  refine g_bipush (pc := 49) (v := 8) dX6_init_49 rfl ?_
  refine g_icmp_ge (pc := 51) (tgt := 73) dX6_init_51 rfl (fun _ => ?_) (fun h51 => absurd (nI_le (Nat.le_refl 8) (by omega)) h51)
  refine g_aload_n (pc := 73) dX6_init_73 rfl trivial ?_
  refine g_iconst (pc := 74) (v := 2) dX6_init_74 rfl ?_
  refine g_anewarray_State (pc := 75) (len := 2) (n := n) (k := k) dX6_init_75 wd_155 rfl (by decide) hx ?_
  refine g_putR (pc := 78) dX6_init_78 fp_X6_30 (fun _ => ⟨rfl, _, rfl, rfl⟩) (nK_k hk) (fun _ => ⟨rfl, rfl⟩) (fun _ _ _ _ => rfl) ?_
  refine go_cast h6.symm ?_
  refine g_iconst (pc := 81) (v := 0) dX6_init_81 rfl ?_
  refine g_istore_n (pc := 82) (lv' := [(0, _), (1, _)]) dX6_init_82 (nl rfl) rfl ?_
  exact kk
theorem i6d_b (hx1 : mX P0 = true) (hk1 : (mK P0)[m]? = some (.inr 6)) (hma : m ≠ a) (hA1 : (mK P0)[a]? = some (.inl (.object kSt, 2))) (hR1 : mR P0 m 6 = some a) (i : Nat) (hi : i < 2) (ih : Go l jX6_init 3 90 197 4149 Q 83 [(0, .ref m), (1, .int (nI (i + 1)))] [] k n (nOs X5M 5 a P0 (i + 1))) : Go l jX6_init 3 90 197 4149 Q 83 [(0, .ref m), (1, .int (nI i))] [] (k + 14) (n + 233) (nOs X5M 5 a P0 i) := by
  have hE := ex_nOs (c := 5) X5_e P0 a i
  have h1 := hE.1 hx1
  have h2 := hE.2.1 _ _ hk1
  have h3 := hE.2.1 _ _ hA1
  have h4 : mR (nOs X5M 5 a P0 i) m 6 = some a := by rw [hE.2.2 _ _ hk1 hma]; exact hR1
  rw [nOs.eq_2] at ih
  generalize nOs X5M 5 a P0 i = P at *
  have g0 := (X5_e (nK P (.inr 5)) (mK P).length _ nK_new).2.1 a _ (nK_k h3)
  have g1 := (X5_e (nK P (.inr 5)) (mK P).length _ nK_new).2.1 _ _ nK_new
  refine g_iload_n (pc := 83) dX6_init_83 rfl ?_
  refine g_iconst (pc := 84) (v := 2) dX6_init_84 rfl ?_
  refine g_icmp_ge (pc := 85) (tgt := 107) dX6_init_85 rfl (fun h85 => absurd h85 (nI_ge (b := 2) hi (by omega))) (fun _ => ?_)
  refine g_aload_n (pc := 88) dX6_init_88 rfl trivial ?_
  refine g_getf (pc := 89) dX6_init_89 fk_X6_30 h2 (fv_arr h4) ?_
  refine g_iload_n (pc := 92) dX6_init_92 rfl ?_
  refine g_new (pc := 93) (nf := 5) (n := (n+228)) (k := (k+13)) (ci := 5) (ty0 := tyX5) dX6_init_93 rfl wd_155 wd_156 wd_97 inW5 tyX5_ok (new_df5 _) rfl h1 ?_
  refine g_dup (pc := 96) dX6_init_96 rfl ?_
  refine g_invI_r (pc := 97) (As := []) dX6_init_97 rfl ((j_X5 h1 nK_new)) rfl rfl nK_new rfl rfl lk_X6_18 rfl (nb rfl) ⟨nb rfl, nb rfl⟩ rfl ?_
  refine g_aastore_State (pc := 100) dX6_init_100 g0 rfl hi (by decide) g1 rfl rfl ?_
  refine go_cast (show _ = nO X5M 5 a i P from rfl) ?_
  refine g_iinc (pc := 101) (lv' := [(0, _), (1, _)]) dX6_init_101 rfl (nI_1 _) (nl rfl) rfl ?_
  refine g_goto (pc := 104) (tgt := 83) dX6_init_104 rfl ?_
  exact ih
theorem i6d (hx1 : mX P0 = true) (hk1 : (mK P0)[m]? = some (.inr 6)) (hma : m ≠ a) (hA1 : (mK P0)[a]? = some (.inl (.object kSt, 2))) (hR1 : mR P0 m 6 = some a) (hP : P = nOs X5M 5 a P0 2) (kk : Go l jX6_init 3 90 197 4149 Q 83 [(0, .ref m), (1, .int (nI 2))] [] k n P) : Go l jX6_init 3 90 197 4149 Q 83 [(0, .ref m), (1, .int 0)] [] (k + 28) (n + 466) P0 := by
  rw [hP] at kk
  refine go_cast (show P0 = nOs X5M 5 a P0 0 from (nOs.eq_1 _ _ _ _).symm) ?_
  exact i6d_b (k := k + 14) (n := n + 233) hx1 hk1 hma hA1 hR1 0 (by decide) (i6d_b hx1 hk1 hma hA1 hR1 1 (by decide) kk)
theorem i6e {c8 c9 : Mem} (h8 : c8 = cR M m 7 (.inl (.boolean, 2))) (h9 : c9 = cR c8 m 8 (.inl (.object kCl, 6))) (hx : mX M = true) (hk : (mK M)[m]? = some (.inr 6)) (kk : Go l jX6_init 3 90 197 4149 Q 125 [(0, .ref m), (1, .int 0)] [] k n c9) : Go l jX6_init 3 90 197 4149 Q 83 [(0, .ref m), (1, .int (nI 2))] [] (k + 2) (n + 8) M := by
  have b8 : Ext m M c8 := h8 ▸ ex_cR M m _ _
  refine g_iload_n (pc := 83) dX6_init_83 rfl ?_
  refine g_iconst (pc := 84) (v := 2) dX6_init_84 rfl ?_
  refine g_icmp_ge (pc := 85) (tgt := 107) dX6_init_85 rfl (fun _ => ?_) (fun h85 => absurd (nI_le (Nat.le_refl 2) (by omega)) h85)
  refine g_aload_n (pc := 107) dX6_init_107 rfl trivial ?_
  refine g_iconst (pc := 108) (v := 2) dX6_init_108 rfl ?_
  refine g_newarray_boolean (pc := 109) (len := 2) (n := (n+6)) (k := (k+1)) dX6_init_109 wd_234 rfl (by decide) hx ?_
  refine g_putR (pc := 111) dX6_init_111 fp_X6_33 (fun _ => ⟨rfl, _, rfl, rfl⟩) (nK_k hk) (fun _ => ⟨rfl, rfl⟩) (fun _ _ _ _ => rfl) ?_
  refine go_cast h8.symm ?_
  refine g_aload_n (pc := 114) dX6_init_114 rfl trivial ?_
  refine g_bipush (pc := 115) (v := 6) dX6_init_115 rfl ?_
  refine g_anewarray_Closure (pc := 117) (len := 6) (n := n) (k := k) dX6_init_117 wd_218 rfl (by decide) (b8.1 hx) ?_
  refine g_putR (pc := 120) dX6_init_120 fp_X6_39 (fun _ => ⟨rfl, _, rfl, rfl⟩) (nK_k (b8.2.1 _ _ hk)) (fun _ => ⟨rfl, rfl⟩) (fun _ _ _ _ => rfl) ?_
  refine go_cast h9.symm ?_
  refine g_iconst (pc := 123) (v := 0) dX6_init_123 rfl ?_
  refine g_istore_n (pc := 124) (lv' := [(0, _), (1, _)]) dX6_init_124 (nl rfl) rfl ?_
  exact kk
theorem i6f_b (hx1 : mX P0 = true) (hk1 : (mK P0)[m]? = some (.inr 6)) (hma : m ≠ a) (hA1 : (mK P0)[a]? = some (.inl (.object kCl, 6))) (hR1 : mR P0 m 8 = some a) (i : Nat) (hi : i < 6) (ih : Go l jX6_init 3 90 197 4149 Q 125 [(0, .ref m), (1, .int (nI (i + 1)))] [] k n (nOs X0M 0 a P0 (i + 1))) : Go l jX6_init 3 90 197 4149 Q 125 [(0, .ref m), (1, .int (nI i))] [] (k + 2) (n + 34) (nOs X0M 0 a P0 i) := by
  have hE := ex_nOs (c := 0) X0_e P0 a i
  have h1 := hE.1 hx1
  have h2 := hE.2.1 _ _ hk1
  have h3 := hE.2.1 _ _ hA1
  have h4 : mR (nOs X0M 0 a P0 i) m 8 = some a := by rw [hE.2.2 _ _ hk1 hma]; exact hR1
  rw [nOs.eq_2] at ih
  generalize nOs X0M 0 a P0 i = P at *
  have g0 := (X0_e (nK P (.inr 0)) (mK P).length _ nK_new).2.1 a _ (nK_k h3)
  have g1 := (X0_e (nK P (.inr 0)) (mK P).length _ nK_new).2.1 _ _ nK_new
  refine g_iload_n (pc := 125) dX6_init_125 rfl ?_
  refine g_bipush (pc := 126) (v := 6) dX6_init_126 rfl ?_
  refine g_icmp_ge (pc := 128) (tgt := 150) dX6_init_128 rfl (fun h128 => absurd h128 (nI_ge (b := 6) hi (by omega))) (fun _ => ?_)
  refine g_aload_n (pc := 131) dX6_init_131 rfl trivial ?_
  refine g_getf (pc := 132) dX6_init_132 fk_X6_39 h2 (fv_arr h4) ?_
  refine g_iload_n (pc := 135) dX6_init_135 rfl ?_
  refine g_new (pc := 136) (nf := 2) (n := (n+32)) (k := (k+1)) (ci := 0) (ty0 := tyX0) dX6_init_136 rfl wd_218 wd_220 wd_99 inW0 tyX0_ok (new_df0 _) rfl h1 ?_
  refine g_dup (pc := 139) dX6_init_139 rfl ?_
  refine g_invI_r (pc := 140) (As := []) dX6_init_140 rfl ((j_X0 h1 nK_new)) rfl rfl nK_new rfl rfl lk_X6_43 rfl (nb rfl) ⟨nb rfl, nb rfl⟩ rfl ?_
  refine g_aastore_Closure (pc := 143) dX6_init_143 g0 rfl hi (by decide) g1 rfl rfl ?_
  refine go_cast (show _ = nO X0M 0 a i P from rfl) ?_
  refine g_iinc (pc := 144) (lv' := [(0, _), (1, _)]) dX6_init_144 rfl (nI_1 _) (nl rfl) rfl ?_
  refine g_goto (pc := 147) (tgt := 125) dX6_init_147 rfl ?_
  exact ih
theorem i6f (hx1 : mX P0 = true) (hk1 : (mK P0)[m]? = some (.inr 6)) (hma : m ≠ a) (hA1 : (mK P0)[a]? = some (.inl (.object kCl, 6))) (hR1 : mR P0 m 8 = some a) (hP : P = nOs X0M 0 a P0 6) (kk : Go l jX6_init 3 90 197 4149 Q 125 [(0, .ref m), (1, .int (nI 6))] [] k n P) : Go l jX6_init 3 90 197 4149 Q 125 [(0, .ref m), (1, .int 0)] [] (k + 12) (n + 204) P0 := by
  rw [hP] at kk
  refine go_cast (show P0 = nOs X0M 0 a P0 0 from (nOs.eq_1 _ _ _ _).symm) ?_
  exact i6f_b (k := k + 10) (n := n + 170) hx1 hk1 hma hA1 hR1 0 (by decide) (i6f_b (k := k + 8) (n := n + 136) hx1 hk1 hma hA1 hR1 1 (by decide) (i6f_b (k := k + 6) (n := n + 102) hx1 hk1 hma hA1 hR1 2 (by decide) (i6f_b (k := k + 4) (n := n + 68) hx1 hk1 hma hA1 hR1 3 (by decide) (i6f_b (k := k + 2) (n := n + 34) hx1 hk1 hma hA1 hR1 4 (by decide) (i6f_b hx1 hk1 hma hA1 hR1 5 (by decide) kk)))))
theorem i6g {c1 c2 c3 c4 c5 : Mem} (h1 : c1 = nO X3M 3 m 9 M) (h2 : c2 = nO X1M 1 m 10 c1) (h3 : c3 = cR c2 m 11 (kI 32)) (h4 : c4 = cR c3 m 12 (kI 32)) (h5 : c5 = cR c4 m 13 (kI 32)) (hx : mX M = true) (hk : (mK M)[m]? = some (.inr 6)) (hq : Q (.inl none) c5) : Go l jX6_init 3 90 197 4149 Q 125 [(0, .ref m), (1, .int (nI 6))] [] (k + 11) (n + 524) M := by
  have a1 : Ext m M c1 := h1 ▸ ex_nO (c := 3) X3_e M m 9
  have b2 : Ext m c1 c2 := h2 ▸ ex_nO (c := 1) X1_e c1 m 10
  have b3 : Ext m c2 c3 := h3 ▸ ex_cR c2 m _ _
  have b4 : Ext m c3 c4 := h4 ▸ ex_cR c3 m _ _
  have x1 := a1.1 hx
  have k1 := a1.2.1 _ _ hk
  have x2 := b2.1 x1
  have k2 := b2.2.1 _ _ k1
  have x3 := b3.1 x2
  have k3 := b3.2.1 _ _ k2
  have x4 := b4.1 x3
  have k4 := b4.2.1 _ _ k3
  have g0 := (X3_e (nK M (.inr 3)) (mK M).length _ nK_new).2.1 m _ (nK_k hk)
  have g1 := (X1_e (nK c1 (.inr 1)) (mK c1).length _ nK_new).2.1 m _ (nK_k k1)
  refine g_iload_n (pc := 125) dX6_init_125 rfl ?_
  refine g_bipush (pc := 126) (v := 6) dX6_init_126 rfl ?_
  refine g_icmp_ge (pc := 128) (tgt := 150) dX6_init_128 rfl (fun _ => ?_) (fun h128 => absurd (nI_le (Nat.le_refl 6) (by omega)) h128)
  refine g_aload_n (pc := 150) dX6_init_150 rfl trivial ?_
  refine g_new (pc := 151) (nf := 8) (n := (n+516)) (k := (k+10)) (ci := 3) (ty0 := tyX3) dX6_init_151 rfl wd_235 wd_236 wd_100 inW3 tyX3_ok (new_df3 _) rfl hx ?_
  refine g_dup (pc := 154) dX6_init_154 rfl ?_
  refine g_invI_r (pc := 155) (As := []) dX6_init_155 rfl ((j_X3 hx nK_new)) rfl rfl nK_new rfl rfl lk_X6_46 rfl (nb rfl) ⟨nb rfl, nb rfl⟩ rfl ?_
  refine g_putR (pc := 158) dX6_init_158 fp_X6_47 (fun _ => ⟨rfl, _, rfl, rfl⟩) g0 (fun _ => ⟨rfl, rfl⟩) (fun _ _ _ _ => rfl) ?_
  refine go_cast h1.symm ?_
  refine g_aload_n (pc := 161) dX6_init_161 rfl trivial ?_
  refine g_new (pc := 162) (nf := 4) (n := (n+192)) (k := (k+6)) (ci := 1) (ty0 := tyX1) dX6_init_162 rfl wd_268 wd_269 wd_101 inW1 tyX1_ok (new_df1 _) rfl x1 ?_
  refine g_dup (pc := 165) dX6_init_165 rfl ?_
  refine g_invI_r (pc := 166) (As := []) dX6_init_166 rfl ((j_X1 x1 nK_new)) rfl rfl nK_new rfl rfl lk_X6_53 rfl (nb rfl) ⟨nb rfl, nb rfl⟩ rfl ?_
  refine g_putR (pc := 169) dX6_init_169 fp_X6_54 (fun _ => ⟨rfl, _, rfl, rfl⟩) g1 (fun _ => ⟨rfl, rfl⟩) (fun _ _ _ _ => rfl) ?_
  refine go_cast h2.symm ?_
  refine g_aload_n (pc := 172) dX6_init_172 rfl trivial ?_
  refine g_bipush (pc := 173) (v := 32) dX6_init_173 rfl ?_
  refine g_newarray_int (pc := 175) (len := 32) (n := (n+64)) (k := (k+2)) dX6_init_175 wd_154 rfl (by decide) x2 ?_
  refine g_putR (pc := 177) dX6_init_177 fp_X6_58 (fun _ => ⟨rfl, _, rfl, rfl⟩) (nK_k k2) (fun _ => ⟨rfl, rfl⟩) (fun _ _ _ _ => rfl) ?_
  refine go_cast h3.symm ?_
  refine g_aload_n (pc := 180) dX6_init_180 rfl trivial ?_
  refine g_bipush (pc := 181) (v := 32) dX6_init_181 rfl ?_
  refine g_newarray_int (pc := 183) (len := 32) (n := (n+32)) (k := (k+1)) dX6_init_183 wd_154 rfl (by decide) x3 ?_
  refine g_putR (pc := 185) dX6_init_185 fp_X6_62 (fun _ => ⟨rfl, _, rfl, rfl⟩) (nK_k k3) (fun _ => ⟨rfl, rfl⟩) (fun _ _ _ _ => rfl) ?_
  refine go_cast h4.symm ?_
  refine g_aload_n (pc := 188) dX6_init_188 rfl trivial ?_
  refine g_bipush (pc := 189) (v := 32) dX6_init_189 rfl ?_
  refine g_newarray_int (pc := 191) (len := 32) (n := n) (k := k) dX6_init_191 wd_154 rfl (by decide) x4 ?_
  refine g_putR (pc := 193) dX6_init_193 fp_X6_65 (fun _ => ⟨rfl, _, rfl, rfl⟩) (nK_k k4) (fun _ => ⟨rfl, rfl⟩) (fun _ _ _ _ => rfl) ?_
  refine go_cast h5.symm ?_
  refine g_return (pc := 196) dX6_init_196 rfl ?_
  exact hq
theorem j_X6 (hx : mX M = true) (hk : (mK M)[m]? = some (.inr 6)) : EvR l jX6_init 3 90 197 4149 [.ref m] M (.inl none) (X6M M m) := by
  obtain ⟨c1, h1⟩ : ∃ x, x = nO X4M 4 m 0 M := ⟨_, rfl⟩
  obtain ⟨c2, h2⟩ : ∃ x, x = nO X5M 5 m 1 c1 := ⟨_, rfl⟩
  obtain ⟨c3, h3⟩ : ∃ x, x = nO X5M 5 m 2 c2 := ⟨_, rfl⟩
  obtain ⟨c4, h4⟩ : ∃ x, x = cR c3 m 3 (.inl (.object kSt, 8)) := ⟨_, rfl⟩
  obtain ⟨c5, h5⟩ : ∃ x, x = nOs X5M 5 (mK c3).length c4 8 := ⟨_, rfl⟩
  obtain ⟨c6, h6⟩ : ∃ x, x = cR c5 m 6 (.inl (.object kSt, 2)) := ⟨_, rfl⟩
  obtain ⟨c7, h7⟩ : ∃ x, x = nOs X5M 5 (mK c5).length c6 2 := ⟨_, rfl⟩
  obtain ⟨c8, h8⟩ : ∃ x, x = cR c7 m 7 (.inl (.boolean, 2)) := ⟨_, rfl⟩
  obtain ⟨c9, h9⟩ : ∃ x, x = cR c8 m 8 (.inl (.object kCl, 6)) := ⟨_, rfl⟩
  obtain ⟨d0, e0⟩ : ∃ x, x = nOs X0M 0 (mK c8).length c9 6 := ⟨_, rfl⟩
  obtain ⟨d1, e1⟩ : ∃ x, x = nO X3M 3 m 9 d0 := ⟨_, rfl⟩
  obtain ⟨d2, e2⟩ : ∃ x, x = nO X1M 1 m 10 d1 := ⟨_, rfl⟩
  obtain ⟨d3, e3⟩ : ∃ x, x = cR d2 m 11 (kI 32) := ⟨_, rfl⟩
  obtain ⟨d4, e4⟩ : ∃ x, x = cR d3 m 12 (kI 32) := ⟨_, rfl⟩
  obtain ⟨d5, e5⟩ : ∃ x, x = cR d4 m 13 (kI 32) := ⟨_, rfl⟩
  have hX : X6M M m = d5 := by
    unfold X6M QzM Q9M Q7M Q5M Q4M
    rw [← h1, ← h2, ← h3, ← h4, ← h5, ← h6, ← h7, ← h8, ← h9, ← e0, ← e1, ← e2, ← e3, ← e4, ← e5]
  rw [hX]
  have a1 : Ext m M c1 := h1 ▸ ex_nO (c := 4) X4_e M m 0
  have a2 : Ext m c1 c2 := h2 ▸ ex_nO (c := 5) X5_e c1 m 1
  have a3 : Ext m c2 c3 := h3 ▸ ex_nO (c := 5) X5_e c2 m 2
  have a4 : Ext m c3 c4 := h4 ▸ ex_cR c3 m _ _
  have x3 := a3.1 (a2.1 (a1.1 hx))
  have k3 := a3.2.1 _ _ (a2.2.1 _ _ (a1.2.1 _ _ hk))
  have x4 := a4.1 x3
  have k4 := a4.2.1 _ _ k3
  have n3 : m ≠ (mK c3).length := Nat.ne_of_lt (lenI k3)
  have A4 : (mK c4)[(mK c3).length]? = some (.inl (.object kSt, 8)) := h4 ▸ cR_new
  have R4 : mR c4 m 3 = some (mK c3).length := h4 ▸ cR_f
  have E5 := ex_nOs (c := 5) X5_e c4 (mK c3).length 8
  rw [← h5] at E5
  have x5 := E5.1 x4
  have k5 := E5.2.1 _ _ k4
  have a6 : Ext m c5 c6 := h6 ▸ ex_cR c5 m _ _
  have x6 := a6.1 x5
  have k6 := a6.2.1 _ _ k5
  have n5 : m ≠ (mK c5).length := Nat.ne_of_lt (lenI k5)
  have A6 : (mK c6)[(mK c5).length]? = some (.inl (.object kSt, 2)) := h6 ▸ cR_new
  have R6 : mR c6 m 6 = some (mK c5).length := h6 ▸ cR_f
  have E7 := ex_nOs (c := 5) X5_e c6 (mK c5).length 2
  rw [← h7] at E7
  have x7 := E7.1 x6
  have k7 := E7.2.1 _ _ k6
  have a8 : Ext m c7 c8 := h8 ▸ ex_cR c7 m _ _
  have x8 := a8.1 x7
  have k8 := a8.2.1 _ _ k7
  have a9 : Ext m c8 c9 := h9 ▸ ex_cR c8 m _ _
  have x9 := a9.1 x8
  have k9 := a9.2.1 _ _ k8
  have n8 : m ≠ (mK c8).length := Nat.ne_of_lt (lenI k8)
  have A9 : (mK c9)[(mK c8).length]? = some (.inl (.object kCl, 6)) := h9 ▸ cR_new
  have R9 : mR c9 m 8 = some (mK c8).length := h9 ▸ cR_f
  have E0 := ex_nOs (c := 0) X0_e c9 (mK c8).length 6
  rw [← e0] at E0
  have x0 := E0.1 x9
  have k0 := E0.2.1 _ _ k9
  refine ev_intro rfl (nb rfl) rfl ?_
  refine i6a (k := 166) (n := 3068) h1 h2 h3 h4 hx hk ?_
  refine i6b (k := 54) (n := 1204) x4 k4 n3 A4 R4 h5 ?_
  refine i6c (k := 53) (n := 1202) h6 x5 k5 ?_
  refine i6d (k := 25) (n := 736) x6 k6 n5 A6 R6 h7 ?_
  refine i6e (k := 23) (n := 728) h8 h9 x7 k7 ?_
  refine i6f (k := 11) (n := 524) x9 k9 n8 A9 R9 e0 ?_
  exact i6g (k := 0) (n := 0) e1 e2 e3 e4 e5 x0 k0 ⟨rfl, rfl⟩
end
end
