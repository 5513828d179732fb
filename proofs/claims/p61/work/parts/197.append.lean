section
variable {l : Launch} {M : Mem}
def shI : Nat → Int32
  | 0 => 56
  | k + 1 => shI k + Int32.ofInt (-8)
theorem sh_ge : ∀ i, i < 8 → ¬ shI i < 0 := by decide +kernel
theorem sh_8 : shI 8 < 0 := by decide +kernel
/-- byte k of a long, from the highest on -/
def btX (x : Int64) (k : Nat) : Int64 := (x.toUInt64 >>> ((shI k).toInt64.toUInt64 &&& Int64.toUInt64 63)).toInt64 &&& 255
def bI (x : Int64) (k : Nat) : Int32 := (btX x k).toInt32
def mrN (x : Int64) : Nat → Nat
  | 0 => 0
  | k + 1 => if lg_cmp (btX x k) 0 = 0 then mrN x k else mrN x k + 1
theorem mrN_le (x : Int64) : ∀ k, mrN x k ≤ k
  | 0 => Nat.le_refl _
  | k + 1 => by have := mrN_le x k; unfold mrN; split <;> omega
def apL (len : Nat) (T : Nat → Int32) (x : Int64) : Nat → Nat × (Nat → Int32)
  | 0 => (len, T)
  | k + 1 => if bI x k = 0 then apL len T x k else if (apL len T x k).1 < 600 then ((apL len T x k).1 + 1, fun_set (apL len T x k).2 (apL len T x k).1 (bI x k)) else apL len T x k
theorem apL_le {len : Nat} {T : Nat → Int32} {x : Int64} (h : len ≤ 600) : ∀ k, (apL len T x k).1 ≤ 600
  | 0 => h
  | k + 1 => by
    have := apL_le (T := T) (x := x) h k
    unfold apL
    split
    · exact this
    · split
      · rename_i q; exact q
      · exact this
def apQ (M : Mem) (q : Nat × (Nat → Int32)) : Mem := pI (sI M 2 q.2) 1 1 (nI q.1)
theorem apQ_S (hS : Shp M) (q : Nat × (Nat → Int32)) : Shp (apQ M q) := hS
theorem apQ_1 (q : Nat × (Nat → Int32)) : mI (apQ M q) 1 1 = nI q.1 := by simp [apQ, pI, sI, mI, fun_set]
theorem apQ_2 (q : Nat × (Nat → Int32)) : mI (apQ M q) 2 = q.2 := by simp [apQ, pI, sI, mI, fun_set]
theorem apQ_id {len : Nat} (h : mI M 1 1 = nI len) : M = apQ M (len, mI M 2) := by
  refine mem_extI rfl rfl rfl rfl rfl rfl (fun i => ?_)
  simp only [apQ, sI, mI, pI]
  by_cases i1 : i = 1
  · subst i1; funext j
    by_cases j1 : j = 1
    · subst j1; simp only [fun_set]; exact h
    · simp [fun_set, j1]
  · by_cases i2 : i = 2
    · subst i2; simp [fun_set]
    · simp [fun_set, i1, i2]
theorem apQ_st {q : Nat × (Nat → Int32)} {i : Nat} {x : Int32} (h : i = q.1) : pI (sI (apQ M q) 2 (fun_set (mI (apQ M q) 2) i x)) 1 1 (nI (q.1 + 1)) = apQ M (q.1 + 1, fun_set q.2 q.1 x) := by
  subst h
  rw [apQ_2]
  refine mem_extI rfl rfl rfl rfl rfl rfl (fun i => ?_)
  simp only [apQ, sI, mI, pI]
  by_cases i1 : i = 1
  · subst i1; funext j
    by_cases j1 : j = 1
    · subst j1; simp [fun_set]
    · simp [fun_set, j1]
  · by_cases i2 : i = 2
    · subst i2; simp [fun_set]
    · simp [fun_set, i1, i2]
/-- bytes put to the text -/
def apM (M : Mem) (len : Nat) (x : Int64) : Mem := if 600 < len + mrN x 8 then M else apQ M (apL len (mI M 2) x 8)
def apV (M : Mem) (len : Nat) (x : Int64) : Int32 := if 600 < len + mrN x 8 then -2 else nI (apL len (mI M 2) x 8).1
theorem r_addBytes {x : Int64} {len : Nat} (hS : Shp M) (hl : mI M 1 1 = nI len) (hL : len ≤ 600) : EvR l jX4_addBytes 0 0 0 0 [.ref 1, .long x] M (.inl (some (.int (apV M len x)))) (apM M len x) := by
  have hm := mrN_le x 8
  have hB : Go l jX4_addBytes 0 0 0 0 (fun r' M9 => r' = .inl (some (.int (nI (apL len (mI M 2) x 8).1))) ∧ M9 = apQ M (apL len (mI M 2) x 8)) 48 [(0, .ref 1), (1, .long x), (3, .int (nI (mrN x 8)))] [] 0 0 M := by
    refine g_bipush (pc := 48) (v := 56) dX4_addBytes_48 rfl ?_
    refine g_istore (pc := 50) (lv' := [(0, _), (1, _), (3, _), (4, _)]) dX4_addBytes_50 (nl rfl) rfl ?_
    refine go_loop (pc := 52) 8 (fun i => [(0, .ref 1), (1, .long x), (3, .int (nI (mrN x 8))), (4, .int (shI i))]) (fun i => apQ M (apL len (mI M 2) x i)) ⟨rfl, rfl, rfl, rfl, trivial⟩ (apQ_id hl) ?_ ?_
    · intro i hi ih
      have hle := apL_le (T := mI M 2) (x := x) hL i
      generalize apL len (mI M 2) x 8 = q9 at ih ⊢
      rw [apL] at ih
      generalize apL len (mI M 2) x i = q at *
      have h1 := apQ_1 (M := M) q
      have hS1 := apQ_S hS q
      have e2 := fun (j : Nat) (y : Int32) (h : j = q.1) => apQ_st (M := M) (q := q) (x := y) h
      have hq3 : ∀ f : Nat → Int32, mI (sI (apQ M q) 2 f) 1 1 = nI q.1 := fun f => (congrFun (sI_ne (by decide)) 1).trans h1
      have hS4 : ∀ f : Nat → Int32, Shp (sI (apQ M q) 2 f) := fun f => shp_sI hS1
      generalize hM1 : apQ M q = M1 at *
      refine g_iload (pc := 52) dX4_addBytes_52 rfl ?_
      refine g_if_lt (pc := 54) (tgt := 110) dX4_addBytes_54 rfl (fun h54 => absurd h54 (sh_ge i hi)) (fun _ => ?_)
      refine g_lload_n (pc := 57) dX4_addBytes_57 rfl ?_
      refine g_iload (pc := 58) dX4_addBytes_58 rfl ?_
      refine g_lushr (pc := 60) dX4_addBytes_60 rfl ?_
      refine g_ldc2 (pc := 61) dX4_addBytes_61 wd_343 ?_
      refine g_land (pc := 64) dX4_addBytes_64 ?_
      refine g_l2i (pc := 65) dX4_addBytes_65 rfl ?_
      refine g_istore (pc := 66) (lv' := [(0, _), (1, _), (3, _), (4, _), (5, _)]) dX4_addBytes_66 (nl rfl) rfl ?_
      refine g_iload (pc := 68) dX4_addBytes_68 rfl ?_
      refine g_if_eq (pc := 70) (tgt := 104) dX4_addBytes_70 rfl (fun h70 => ?_) (fun h70 => ?_)
      · rw [if_pos (show bI x i = 0 from h70), hM1] at ih
        refine g_iinc (pc := 104) (lv' := [(0, _), (1, _), (3, _), (4, _), (5, _)]) dX4_addBytes_104 rfl rfl (nl rfl) rfl ?_
        refine g_goto (pc := 107) (tgt := 52) dX4_addBytes_107 rfl ?_
        exact g_sub (lv' := [(0, _), (1, _), (3, _), (4, _)]) ⟨rfl, rfl, rfl, rfl, trivial⟩ ih
      · rw [if_neg (show ¬ bI x i = 0 from h70)] at ih
        refine g_aload_n (pc := 73) dX4_addBytes_73 rfl trivial ?_
        refine g_getf (pc := 74) (v := .int _) dX4_addBytes_74 fk_X4_17 (shK hS1 rfl) (fun _ => congrArg Value.int (h1)) ?_
        refine g_sipush (pc := 77) (v := 600) dX4_addBytes_77 rfl ?_
        refine g_icmp_ge (pc := 80) (tgt := 104) dX4_addBytes_80 rfl (fun h80 => ?_) (fun h80 => ?_)
        · rw [if_neg (fun h => nI_ge (b := 600) h (by decide) h80), hM1] at ih
          refine g_iinc (pc := 104) (lv' := [(0, _), (1, _), (3, _), (4, _), (5, _)]) dX4_addBytes_104 rfl rfl (nl rfl) rfl ?_
          refine g_goto (pc := 107) (tgt := 52) dX4_addBytes_107 rfl ?_
          exact g_sub (lv' := [(0, _), (1, _), (3, _), (4, _)]) ⟨rfl, rfl, rfl, rfl, trivial⟩ ih
        · have hlt : q.1 < 600 := Nat.lt_of_not_le fun h => h80 (nI_le (a := 600) h (by omega))
          rw [if_pos hlt] at ih
          refine g_aload_n (pc := 83) dX4_addBytes_83 rfl trivial ?_
          refine g_getf (pc := 84) dX4_addBytes_84 fk_X4_9 (shK hS1 rfl) (fv_arr (shR hS1 rfl)) ?_
          refine g_aload_n (pc := 87) dX4_addBytes_87 rfl trivial ?_
          refine g_getf (pc := 88) (v := .int _) dX4_addBytes_88 fk_X4_17 (shK hS1 rfl) (fun _ => congrArg Value.int (h1)) ?_
          refine g_iload (pc := 91) dX4_addBytes_91 rfl ?_
          refine g_iastore (pc := 93) dX4_addBytes_93 (shK hS1 rfl) rfl hlt (nl rfl) ?_
          refine g_aload_n (pc := 94) dX4_addBytes_94 rfl trivial ?_
          refine g_dup (pc := 95) dX4_addBytes_95 rfl ?_
          refine g_getf (pc := 96) (v := .int _) dX4_addBytes_96 fk_X4_17 (shK (hS4 _) rfl) (fun _ => congrArg Value.int ((hq3 _))) ?_
          refine g_iconst (pc := 99) (v := 1) dX4_addBytes_99 rfl ?_
          refine g_iadd (pc := 100) dX4_addBytes_100 ?_
          rw [nI_1]
          refine g_putI (pc := 101) dX4_addBytes_101 fp_X4_17 (shK (hS4 _) rfl) ⟨rfl, rfl⟩ (fun _ _ _ _ => rfl) ?_
          refine go_cast (e2 q.1 (bI x i) rfl) ?_
          refine g_iinc (pc := 104) (lv' := [(0, _), (1, _), (3, _), (4, _), (5, _)]) dX4_addBytes_104 rfl rfl (nl rfl) rfl ?_
          refine g_goto (pc := 107) (tgt := 52) dX4_addBytes_107 rfl ?_
          exact g_sub (lv' := [(0, _), (1, _), (3, _), (4, _)]) ⟨rfl, rfl, rfl, rfl, trivial⟩ ih
    · have h1 := apQ_1 (M := M) (apL len (mI M 2) x 8)
      have hS1 := apQ_S hS (apL len (mI M 2) x 8)
      generalize apQ M (apL len (mI M 2) x 8) = M1 at *
      refine g_iload (pc := 52) dX4_addBytes_52 rfl ?_
      refine g_if_lt (pc := 54) (tgt := 110) dX4_addBytes_54 rfl (fun _ => ?_) (fun h54 => absurd (sh_8) h54)
      refine g_aload_n (pc := 110) dX4_addBytes_110 rfl trivial ?_
      refine g_getf (pc := 111) (v := .int _) dX4_addBytes_111 fk_X4_17 (shK hS1 rfl) (fun _ => congrArg Value.int (h1)) ?_
      refine g_ireturn (pc := 114) dX4_addBytes_114 rfl rfl ?_
      exact ⟨rfl, rfl⟩
  refine ev_intro rfl (nb rfl) rfl ?_
  refine g_iconst (pc := 0) (v := 0) dX4_addBytes_0 rfl ?_
  refine g_istore_n (pc := 1) (lv' := [(0, _), (1, _), (3, _)]) dX4_addBytes_1 (nl rfl) rfl ?_
  refine g_bipush (pc := 2) (v := 56) dX4_addBytes_2 rfl ?_
  refine g_istore (pc := 4) (lv' := [(0, _), (1, _), (3, _), (4, _)]) dX4_addBytes_4 (nl rfl) rfl ?_
  refine go_loop (pc := 6) 8 (fun i => [(0, .ref 1), (1, .long x), (3, .int (nI (mrN x i))), (4, .int (shI i))]) (fun i => M) ⟨rfl, rfl, rfl, rfl, trivial⟩ rfl ?_ ?_
  · intro i hi ih
    rw [mrN] at ih
    refine g_iload (pc := 6) dX4_addBytes_6 rfl ?_
    refine g_if_lt (pc := 8) (tgt := 33) dX4_addBytes_8 rfl (fun h8 => absurd h8 (sh_ge i hi)) (fun _ => ?_)
    refine g_lload_n (pc := 11) dX4_addBytes_11 rfl ?_
    refine g_iload (pc := 12) dX4_addBytes_12 rfl ?_
    refine g_lushr (pc := 14) dX4_addBytes_14 rfl ?_
    refine g_ldc2 (pc := 15) dX4_addBytes_15 wd_343 ?_
    refine g_land (pc := 18) dX4_addBytes_18 ?_
    refine g_lconst (pc := 19) (v := 0) dX4_addBytes_19 rfl ?_
    refine g_lcmp (pc := 20) dX4_addBytes_20 ?_
    refine g_if_eq (pc := 21) (tgt := 27) dX4_addBytes_21 rfl (fun h21 => ?_) (fun h21 => ?_)
    · rw [if_pos (show lg_cmp (btX x i) 0 = 0 from h21)] at ih
      refine g_iinc (pc := 27) (lv' := [(0, _), (1, _), (3, _), (4, _)]) dX4_addBytes_27 rfl rfl (nl rfl) rfl ?_
      refine g_goto (pc := 30) (tgt := 6) dX4_addBytes_30 rfl ?_
      exact ih
    · rw [if_neg (show ¬ lg_cmp (btX x i) 0 = 0 from h21)] at ih
      refine g_iinc (pc := 24) (lv' := [(0, _), (1, _), (3, _), (4, _)]) dX4_addBytes_24 rfl (nI_1 _) (nl rfl) rfl ?_
      refine g_iinc (pc := 27) (lv' := [(0, _), (1, _), (3, _), (4, _)]) dX4_addBytes_27 rfl rfl (nl rfl) rfl ?_
      refine g_goto (pc := 30) (tgt := 6) dX4_addBytes_30 rfl ?_
      exact ih
  · unfold apV apM
    refine g_iload (pc := 6) dX4_addBytes_6 rfl ?_
    refine g_if_lt (pc := 8) (tgt := 33) dX4_addBytes_8 rfl (fun _ => ?_) (fun h8 => absurd (sh_8) h8)
    refine g_aload_n (pc := 33) dX4_addBytes_33 rfl trivial ?_
    refine g_getf (pc := 34) (v := .int _) dX4_addBytes_34 fk_X4_17 (shK hS rfl) (fun _ => congrArg Value.int (hl)) ?_
    refine g_iload_n (pc := 37) dX4_addBytes_37 rfl ?_
    refine g_iadd (pc := 38) dX4_addBytes_38 ?_
    rw [nI_add]
    refine g_sipush (pc := 39) (v := 600) dX4_addBytes_39 rfl ?_
    refine g_icmp_le (pc := 42) (tgt := 48) dX4_addBytes_42 rfl (fun h42 => ?_) (fun h42 => ?_)
    · rw [if_neg (fun h => by have := (nI_leI (a := len + mrN x 8) (b := 600) (by omega) (by decide)).mp h42; omega), if_neg (fun h => by have := (nI_leI (a := len + mrN x 8) (b := 600) (by omega) (by decide)).mp h42; omega)]
      exact g_sub (lv' := [(0, _), (1, _), (3, _)]) ⟨rfl, rfl, rfl, trivial⟩ hB
    · rw [if_pos (Nat.lt_of_not_le fun h => h42 (nI_le (b := 600) h (by decide))), if_pos (Nat.lt_of_not_le fun h => h42 (nI_le (b := 600) h (by decide)))]
      refine g_bipush (pc := 45) (v := (-2)) dX4_addBytes_45 rfl ?_
      refine g_ireturn (pc := 47) dX4_addBytes_47 rfl rfl ?_
      exact ⟨rfl, rfl⟩
end
