/-! the multiplier: 187, its table 188, its two matrices 189, 190 -/
section
variable {l : Launch} {M : Mem}
theorem sI_swap {a b : Nat} {f g : Nat → Int32} (h : a ≠ b) : sI (sI M a f) b g = sI (sI M b g) a f := by simp only [sI, fs_comm _ _ _ h]
def jn (f x y : Int32) : Int32 := if f = 0 then x ||| y else x ^^^ y
theorem s_joined {x y : Int32} (hS : Shp M) : EvR l jX3_joined 0 0 0 0 [.ref 187, .int x, .int y] M (.inl (some (.int (jn (mI M 187 5) x y)))) M := by
  refine ev_intro rfl (nb rfl) rfl ?_
  refine g_aload_n (pc := 0) dX3_joined_0 rfl trivial ?_
  refine g_getf (pc := 1) (v := .int (mI _ _ _)) dX3_joined_1 fk_X3_32 (shK hS rfl) (fun _ => rfl) ?_
  refine g_if_eq (pc := 4) (tgt := 13) dX3_joined_4 rfl (fun h4 => ?_) (fun h4 => ?_)
  · refine g_iload_n (pc := 13) dX3_joined_13 rfl ?_
    refine g_iload_n (pc := 14) dX3_joined_14 rfl ?_
    refine g_ior (pc := 15) dX3_joined_15 ?_
    refine g_ireturn (pc := 16) dX3_joined_16 rfl rfl ?_
    exact ⟨by simp [jn, h4], rfl⟩
  · refine g_iload_n (pc := 7) dX3_joined_7 rfl ?_
    refine g_iload_n (pc := 8) dX3_joined_8 rfl ?_
    refine g_ixor (pc := 9) dX3_joined_9 ?_
    refine g_goto (pc := 10) (tgt := 16) dX3_joined_10 rfl ?_
    refine g_ireturn (pc := 16) dX3_joined_16 rfl rfl ?_
    exact ⟨by simp [jn, h4], rfl⟩
theorem pow_sh : ∀ c, c < 9 → (1 : Int32) <<< (nI c &&& 31) = nI (2 ^ c) := by decide +kernel
def ftIn (f : Int32) (tb : Nat → Int32) (v : Int32) (half : Nat) : Nat → Nat → Int32
  | 0 => tb
  | s + 1 => fun_set (ftIn f tb v half s) (half + s) (jn f (ftIn f tb v half s s) v)
def ftOut (f : Int32) (tb b : Nat → Int32) (start : Nat) : Nat → Nat → Int32
  | 0 => tb
  | c + 1 => ftIn f (ftOut f tb b start c) (b (start + c)) (2 ^ c) (2 ^ c)
theorem pow_le {c k : Nat} (h : c < k) : 2 ^ c + 2 ^ c ≤ 2 ^ k := by
  have : 2 ^ (c + 1) ≤ 2 ^ k := Nat.pow_le_pow_right (by decide) h
  rw [Nat.pow_succ] at this
  omega
theorem s_fillTable {r start cols : Nat} (hS : Shp M) (hk : (mK M)[r]? = some (kI 32)) (hr : r ≠ 188) (h1 : start + cols ≤ 32) (h2 : cols ≤ 8) : EvR l jX3_fillTable 1 30 0 0 [.ref 187, .ref r, .int (nI start), .int (nI cols)] M (.inl none) (pI (sI M 188 (ftOut (mI M 187 5) (mI M 188) (mI M r) start cols)) 187 6 (mI M 187 6 + (nI (2 ^ cols) - 1))) := by
  have h8 : 2 ^ cols ≤ 2 ^ 8 := Nat.pow_le_pow_right (by decide) h2
  refine ev_intro rfl (nb rfl) rfl ?_
  refine g_iconst (pc := 0) (v := 0) dX3_fillTable_0 rfl ?_
  refine g_istore (pc := 1) (lv' := [(0, _), (1, _), (2, _), (3, _), (4, _)]) dX3_fillTable_1 (nl rfl) rfl ?_
  refine go_loop (pc := 3) cols (fun c => [(0, .ref 187), (1, .ref r), (2, .int (nI start)), (3, .int (nI cols)), (4, .int (nI c))]) (fun c => sI M 188 (ftOut (mI M 187 5) (mI M 188) (mI M r) start c)) ⟨rfl, rfl, rfl, rfl, rfl, trivial⟩ (sI_id M 188).symm ?_ ?_
  · intro c hc ihc
    have hp := pow_le hc
    refine g_iload (pc := 3) dX3_fillTable_3 rfl ?_
    refine g_iload_n (pc := 5) dX3_fillTable_5 rfl ?_
    refine g_icmp_ge (pc := 6) (tgt := 64) dX3_fillTable_6 rfl (fun h6 => absurd h6 (nI_ge hc (by omega))) (fun _ => ?_)
    refine g_iconst (pc := 9) (v := 1) dX3_fillTable_9 rfl ?_
    refine g_iload (pc := 10) dX3_fillTable_10 rfl ?_
    refine g_ishl (pc := 12) dX3_fillTable_12 ?_
    rw [pow_sh c (by omega)]
    refine g_istore (pc := 13) (lv' := [(0, _), (1, _), (2, _), (3, _), (4, _), (5, _)]) dX3_fillTable_13 (nl rfl) rfl ?_
    refine g_iconst (pc := 15) (v := 0) dX3_fillTable_15 rfl ?_
    refine g_istore (pc := 16) (lv' := [(0, _), (1, _), (2, _), (3, _), (4, _), (5, _), (6, _)]) dX3_fillTable_16 (nl rfl) rfl ?_
    refine go_loop (pc := 18) (2 ^ c) (fun s => [(0, .ref 187), (1, .ref r), (2, .int (nI start)), (3, .int (nI cols)), (4, .int (nI c)), (5, .int (nI (2 ^ c))), (6, .int (nI s))]) (fun s => sI M 188 (ftIn (mI M 187 5) (ftOut (mI M 187 5) (mI M 188) (mI M r) start c) (mI M r (start + c)) (2 ^ c) s)) ⟨rfl, rfl, rfl, rfl, rfl, rfl, rfl, trivial⟩ rfl ?_ ?_
    · intro s hs ih
      have e1 := sI_self M 188 (ftIn (mI M 187 5) (ftOut (mI M 187 5) (mI M 188) (mI M r) start c) (mI M r (start + c)) (2 ^ c) s)
      have e2 : mI (sI M 188 (ftIn (mI M 187 5) (ftOut (mI M 187 5) (mI M 188) (mI M r) start c) (mI M r (start + c)) (2 ^ c) s)) r = mI M r := sI_ne hr
      refine g_iload (pc := 18) dX3_fillTable_18 rfl ?_
      refine g_iload (pc := 20) dX3_fillTable_20 rfl ?_
      refine g_icmp_ge (pc := 22) (tgt := 58) dX3_fillTable_22 rfl (fun h22 => absurd h22 (nI_ge hs (by omega))) (fun _ => ?_)
      refine g_aload_n (pc := 25) dX3_fillTable_25 rfl trivial ?_
      refine g_getf (pc := 26) dX3_fillTable_26 fk_X3_9 (shK hS rfl) (fv_arr (shR hS rfl)) ?_
      refine g_iload (pc := 29) dX3_fillTable_29 rfl ?_
      refine g_iload (pc := 31) dX3_fillTable_31 rfl ?_
      refine g_iadd (pc := 33) dX3_fillTable_33 ?_
      rw [nI_add]
      refine g_aload_n (pc := 34) dX3_fillTable_34 rfl trivial ?_
      refine g_aload_n (pc := 35) dX3_fillTable_35 rfl trivial ?_
      refine g_getf (pc := 36) dX3_fillTable_36 fk_X3_9 (shK hS rfl) (fv_arr (shR hS rfl)) ?_
      refine g_iload (pc := 39) dX3_fillTable_39 rfl ?_
      refine g_iaload (pc := 41) dX3_fillTable_41 (shK hS rfl) rfl (by omega : s < 256) (nl rfl) ?_
      refine g_aload_n (pc := 42) dX3_fillTable_42 rfl trivial ?_
      refine g_iload_n (pc := 43) dX3_fillTable_43 rfl ?_
      refine g_iload (pc := 44) dX3_fillTable_44 rfl ?_
      refine g_iadd (pc := 46) dX3_fillTable_46 ?_
      rw [nI_add]
      refine g_iaload (pc := 47) dX3_fillTable_47 hk rfl (by omega) (nl rfl) ?_
      rw [e1, e2]
      refine g_invV_r (pc := 48) (As := [_, _]) dX3_fillTable_48 rfl (s_joined hS) rfl rfl (shK hS rfl) rfl rfl lk_X3_64 rfl (nb rfl) ⟨nb rfl, nb rfl⟩ rfl ?_
      refine g_iastore (pc := 51) dX3_fillTable_51 (shK hS rfl) rfl (by omega : 2 ^ c + s < 256) (nl rfl) ?_
      refine g_iinc (pc := 52) (lv' := [(0, _), (1, _), (2, _), (3, _), (4, _), (5, _), (6, _)]) dX3_fillTable_52 rfl (nI_1 _) (nl rfl) rfl ?_
      refine g_goto (pc := 55) (tgt := 18) dX3_fillTable_55 rfl ?_
      exact go_cast (sI_st rfl) ih
    · refine g_iload (pc := 18) dX3_fillTable_18 rfl ?_
      refine g_iload (pc := 20) dX3_fillTable_20 rfl ?_
      refine g_icmp_ge (pc := 22) (tgt := 58) dX3_fillTable_22 rfl (fun _ => ?_) (fun h22 => absurd (nI_le (Nat.le_refl _) (by omega)) h22)
      refine g_iinc (pc := 58) (lv' := [(0, _), (1, _), (2, _), (3, _), (4, _), (5, _), (6, _)]) dX3_fillTable_58 rfl (nI_1 _) (nl rfl) rfl ?_
      refine g_goto (pc := 61) (tgt := 3) dX3_fillTable_61 rfl ?_
      exact g_sub (lv' := [(0, _), (1, _), (2, _), (3, _), (4, _)]) ⟨rfl, rfl, rfl, rfl, rfl, trivial⟩ ihc
  · refine g_iload (pc := 3) dX3_fillTable_3 rfl ?_
    refine g_iload_n (pc := 5) dX3_fillTable_5 rfl ?_
    refine g_icmp_ge (pc := 6) (tgt := 64) dX3_fillTable_6 rfl (fun _ => ?_) (fun h6 => absurd (nI_le (Nat.le_refl _) (by omega)) h6)
    refine g_aload_n (pc := 64) dX3_fillTable_64 rfl trivial ?_
    refine g_dup (pc := 65) dX3_fillTable_65 rfl ?_
    refine g_getf (pc := 66) (v := .int (mI _ _ _)) dX3_fillTable_66 fk_X3_36 (shK hS rfl) (fun _ => rfl) ?_
    refine g_iconst (pc := 69) (v := 1) dX3_fillTable_69 rfl ?_
    refine g_iload_n (pc := 70) dX3_fillTable_70 rfl ?_
    refine g_ishl (pc := 71) dX3_fillTable_71 ?_
    rw [pow_sh cols (by omega)]
    refine g_iconst (pc := 72) (v := 1) dX3_fillTable_72 rfl ?_
    refine g_isub (pc := 73) dX3_fillTable_73 ?_
    refine g_iadd (pc := 74) dX3_fillTable_74 ?_
    refine g_putI (pc := 75) dX3_fillTable_75 fp_X3_36 (shK hS rfl) ⟨rfl, rfl⟩ (fun _ _ _ _ => rfl) ?_
    refine g_return (pc := 78) dX3_fillTable_78 rfl ?_
    exact ⟨rfl, rfl⟩
def setI (x : Int32) (st c : Nat) : Int32 := us x (nI st) &&& lowM c
def setN (x : Int32) (st c : Nat) : Nat := (setI x st c).toNatClampNeg
theorem low8 : ∀ c, c < 9 → (lowM c).toBitVec.toNat < 256 := by decide +kernel
theorem setI_n (x : Int32) (st : Nat) {c : Nat} (hc : c ≤ 8) : setI x st c = nI (setN x st c) ∧ setN x st c < 256 := by
  have h : (setI x st c).toBitVec.toNat < 256 := by
    unfold setI
    rw [Int32.toBitVec_and, BitVec.toNat_and]
    exact Nat.lt_of_le_of_lt Nat.and_le_right (low8 c (by omega))
  have h2 : (setI x st c).toInt = ((setI x st c).toBitVec.toNat : Int) := by
    show (setI x st c).toBitVec.toInt = _
    rw [BitVec.toInt_eq_toNat_of_lt (by omega)]
  have h3 : (setI x st c).toInt = (setN x st c : Int) := by
    unfold setN Int32.toNatClampNeg
    show _ = (((setI x st c).toInt.toNat : Nat) : Int)
    omega
  refine ⟨?_, by omega⟩
  apply Int32.toInt_inj.mp
  rw [h3, nI_toInt (by omega)]
def teG (f : Int32) (tb a : Nat → Int32) (st c : Nat) (g : Nat → Int32) : Nat → Nat → Int32
  | 0 => g
  | i + 1 => if setI (a i) st c = 0 then teG f tb a st c g i else fun_set (teG f tb a st c g i) i (jn f (teG f tb a st c g i i) (tb (setN (a i) st c)))
def teC (a : Nat → Int32) (st c : Nat) (t : Int32) : Nat → Int32
  | 0 => t
  | i + 1 => if setI (a i) st c = 0 then teC a st c t i else teC a st c t i + 1
theorem s_takeEntries {ra ri st c n : Nat} (hS : Shp M) (hz : mI M 187 3 = nI n) (hn : n ≤ 32) (ha : (mK M)[ra]? = some (kI 32)) (hi9 : (mK M)[ri]? = some (kI 32)) (h1 : ra ≠ ri) (h2 : ra ≠ 187) (h3 : ri ≠ 187) (h4 : ri ≠ 188) (hc : c ≤ 8) : EvR l jX3_takeEntries 1 40 0 0 [.ref 187, .ref ra, .ref ri, .int (nI st), .int (nI c)] M (.inl none) (pI (sI M ri (teG (mI M 187 5) (mI M 188) (mI M ra) st c (mI M ri) n)) 187 7 (teC (mI M ra) st c (mI M 187 7) n)) := by
  refine ev_intro rfl (nb rfl) rfl ?_
  refine g_iconst (pc := 0) (v := 0) dX3_takeEntries_0 rfl ?_
  refine g_istore (pc := 1) (lv' := [(0, _), (1, _), (2, _), (3, _), (4, _), (5, _)]) dX3_takeEntries_1 (nl rfl) rfl ?_
  refine go_loop (pc := 3) n (fun i => [(0, .ref 187), (1, .ref ra), (2, .ref ri), (3, .int (nI st)), (4, .int (nI c)), (5, .int (nI i))]) (fun i => pI (sI M ri (teG (mI M 187 5) (mI M 188) (mI M ra) st c (mI M ri) i)) 187 7 (teC (mI M ra) st c (mI M 187 7) i)) ⟨rfl, rfl, rfl, rfl, rfl, rfl, trivial⟩ (by simp only [teG, teC, sI_id, pI, fs_same]) ?_ ?_
  · intro i hi ih
    generalize hg : teG (mI M 187 5) (mI M 188) (mI M ra) st c (mI M ri) i = g at ih ⊢
    generalize ht : teC (mI M ra) st c (mI M 187 7) i = t at ih ⊢
    have q1 : mI (pI (sI M ri g) 187 7 t) ra = mI M ra := by rw [pI_i h2, sI_ne h1]
    have q2 : mI (pI (sI M ri g) 187 7 t) ri = g := by rw [pI_i h3, sI_self]
    have q3 : mI (pI (sI M ri g) 187 7 t) 188 = mI M 188 := by rw [pI_i (by decide), sI_ne (Ne.symm h4)]
    have q4 : ∀ j, j ≠ 7 → mI (pI (sI M ri g) 187 7 t) 187 j = mI M 187 j := fun j hj => by rw [pI_k hj, sI_ne (Ne.symm h3)]
    obtain ⟨k1, k2⟩ := setI_n (mI M ra i) st hc
    refine g_iload (pc := 3) dX3_takeEntries_3 rfl ?_
    refine g_aload_n (pc := 5) dX3_takeEntries_5 rfl trivial ?_
    refine g_getf (pc := 6) (v := .int _) dX3_takeEntries_6 fk_X3_27 (shK hS rfl) (fun _ => congrArg Value.int (((q4 3 (by decide)).trans hz))) ?_
    refine g_icmp_ge (pc := 9) (tgt := 66) dX3_takeEntries_9 rfl (fun h9 => absurd h9 (nI_ge hi (by omega))) (fun _ => ?_)
    refine g_aload_n (pc := 12) dX3_takeEntries_12 rfl trivial ?_
    refine g_iload (pc := 13) dX3_takeEntries_13 rfl ?_
    refine g_iaload (pc := 15) dX3_takeEntries_15 ha rfl (by omega) (nl rfl) ?_
    rw [q1]
    refine g_iload_n (pc := 16) dX3_takeEntries_16 rfl ?_
    refine g_iushr (pc := 17) dX3_takeEntries_17 rfl ?_
    refine g_iload (pc := 18) dX3_takeEntries_18 rfl ?_
    refine g_invSN_r (pc := 20) (As := [_]) dX3_takeEntries_20 rfl (s_lowest (by omega)) rfl rfl lk_X3_67 rfl (nb rfl) ⟨nb rfl, nb rfl⟩ rfl ?_
    refine g_iand (pc := 23) dX3_takeEntries_23 ?_
    refine g_istore (pc := 24) (lv' := [(0, _), (1, _), (2, _), (3, _), (4, _), (5, _), (6, _)]) dX3_takeEntries_24 (nl rfl) rfl ?_
    refine g_iload (pc := 26) dX3_takeEntries_26 rfl ?_
    refine g_if_eq (pc := 28) (tgt := 60) dX3_takeEntries_28 rfl (fun h28 => ?_) (fun h28 => ?_)
    · refine g_iinc (pc := 60) (lv' := [(0, _), (1, _), (2, _), (3, _), (4, _), (5, _), (6, _)]) dX3_takeEntries_60 rfl (nI_1 _) (nl rfl) rfl ?_
      refine g_goto (pc := 63) (tgt := 3) dX3_takeEntries_63 rfl ?_
      have h28' : setI (mI M ra i) st c = 0 := h28
      rw [teG, if_pos h28', teC, if_pos h28', hg, ht] at ih
      exact g_sub (lv' := [(0, _), (1, _), (2, _), (3, _), (4, _), (5, _)]) ⟨rfl, rfl, rfl, rfl, rfl, rfl, trivial⟩ ih
    · refine g_aload_n (pc := 31) dX3_takeEntries_31 rfl trivial ?_
      refine g_iload (pc := 32) dX3_takeEntries_32 rfl ?_
      refine g_aload_n (pc := 34) dX3_takeEntries_34 rfl trivial ?_
      refine g_aload_n (pc := 35) dX3_takeEntries_35 rfl trivial ?_
      refine g_iload (pc := 36) dX3_takeEntries_36 rfl ?_
      refine g_iaload (pc := 38) dX3_takeEntries_38 hi9 rfl (by omega) (nl rfl) ?_
      rw [q2]
      refine g_aload_n (pc := 39) dX3_takeEntries_39 rfl trivial ?_
      refine g_getf (pc := 40) dX3_takeEntries_40 fk_X3_9 (shK hS rfl) (fv_arr (shR hS rfl)) ?_
      refine g_iload (pc := 43) dX3_takeEntries_43 rfl ?_
      refine g_iaload (pc := 45) dX3_takeEntries_45 (shK hS rfl) k1 k2 (nl rfl) ?_
      rw [q3]
      refine g_invV_r (pc := 46) (As := [_, _]) dX3_takeEntries_46 rfl (s_joined hS) rfl rfl (shK hS rfl) rfl rfl lk_X3_64 rfl (nb rfl) ⟨nb rfl, nb rfl⟩ rfl ?_
      refine g_iastore (pc := 49) dX3_takeEntries_49 hi9 rfl (by omega) (nl rfl) ?_
      refine g_aload_n (pc := 50) dX3_takeEntries_50 rfl trivial ?_
      refine g_dup (pc := 51) dX3_takeEntries_51 rfl ?_
      refine g_getf (pc := 52) (v := .int (mI _ _ _)) dX3_takeEntries_52 fk_X3_39 (shK hS rfl) (fun _ => rfl) ?_
      refine g_iconst (pc := 55) (v := 1) dX3_takeEntries_55 rfl ?_
      refine g_iadd (pc := 56) dX3_takeEntries_56 ?_
      refine g_putI (pc := 57) dX3_takeEntries_57 fp_X3_39 (shK hS rfl) ⟨rfl, rfl⟩ (fun _ _ _ _ => rfl) ?_
      refine g_iinc (pc := 60) (lv' := [(0, _), (1, _), (2, _), (3, _), (4, _), (5, _), (6, _)]) dX3_takeEntries_60 rfl (nI_1 _) (nl rfl) rfl ?_
      refine g_goto (pc := 63) (tgt := 3) dX3_takeEntries_63 rfl ?_
      have h28' : ¬ setI (mI M ra i) st c = 0 := h28
      rw [teG, if_neg h28', teC, if_neg h28', hg, ht] at ih
      refine go_cast ?_ (g_sub (lv' := [(0, _), (1, _), (2, _), (3, _), (4, _), (5, _)]) ⟨rfl, rfl, rfl, rfl, rfl, rfl, trivial⟩ ih)
      rw [q4 5 (by decide)]
      simp only [pI, sI, mI, fs_self, fs_twice, fs_comm _ _ _ h3, fs_ne _ _ h3, fs_ne _ _ (Ne.symm h3)]
  · have q5 : mI (pI (sI M ri (teG (mI M 187 5) (mI M 188) (mI M ra) st c (mI M ri) n)) 187 7 (teC (mI M ra) st c (mI M 187 7) n)) 187 3 = nI n := by rw [pI_k (by decide), sI_ne (Ne.symm h3)]; exact hz
    refine g_iload (pc := 3) dX3_takeEntries_3 rfl ?_
    refine g_aload_n (pc := 5) dX3_takeEntries_5 rfl trivial ?_
    refine g_getf (pc := 6) (v := .int _) dX3_takeEntries_6 fk_X3_27 (shK hS rfl) (fun _ => congrArg Value.int (q5)) ?_
    refine g_icmp_ge (pc := 9) (tgt := 66) dX3_takeEntries_9 rfl (fun _ => ?_) (fun h9 => absurd (nI_le (Nat.le_refl _) (by omega)) h9)
    refine g_return (pc := 66) dX3_takeEntries_66 rfl ?_
    exact ⟨rfl, rfl⟩
/-- what a product holds: the table, the rows, entries made, entries taken -/
abbrev PS : Type := (Nat → Int32) × (Nat → Int32) × Int32 × Int32
def mulStep (f : Int32) (n bl : Nat) (a b : Nat → Int32) (start : Nat) (s : PS) : PS :=
  (ftOut f s.1 b start (min bl (n - start)), teG f (ftOut f s.1 b start (min bl (n - start))) a start (min bl (n - start)) s.2.1 n, s.2.2.1 + (nI (2 ^ (min bl (n - start))) - 1), teC a start (min bl (n - start)) s.2.2.2 n)
def mulIt (f : Int32) (n bl : Nat) (a b tb g : Nat → Int32) : Nat → PS
  | 0 => (tb, wr g (fun _ => 0) n, 0, 0)
  | k + 1 => mulStep f n bl a b (k * bl) (mulIt f n bl a b tb g k)
def blocks (n bl : Nat) : Nat := (n + bl - 1) / bl
def mulMem (M : Mem) (ri : Nat) (s : PS) : Mem := sI (sI (sI M 188 s.1) ri s.2.1) 187 (fun_set (fun_set (mI M 187) 6 s.2.2.1) 7 s.2.2.2)
def mulEnd (M : Mem) (n bl ra rb ri : Nat) : PS := mulIt (mI M 187 5) n bl (mI M ra) (mI M rb) (mI M 188) (mI M ri) (blocks n bl)
theorem blocks_lt {n bl k : Nat} (hb9 : 0 < bl) (h : k < blocks n bl) : k * bl < n := by
  unfold blocks at h
  have h2 : k + 1 ≤ (n + bl - 1) / bl := h
  rw [Nat.le_div_iff_mul_le hb9, Nat.add_mul] at h2
  omega
theorem blocks_ge {n bl : Nat} (hb9 : 0 < bl) : n ≤ blocks n bl * bl ∧ blocks n bl * bl < n + bl := by
  unfold blocks
  have h1 := Nat.div_add_mod (n + bl - 1) bl
  have h2 := Nat.mod_lt (n + bl - 1) hb9
  rw [Nat.mul_comm] at h1
  omega
theorem s_multiply {n bl ra rb ri : Nat} (hS : Shp M) (hz : mI M 187 3 = nI n) (hbl : mI M 187 4 = nI bl) (hn : n ≤ 32) (hb1 : 1 ≤ bl) (hb8 : bl ≤ 8) (ha : (mK M)[ra]? = some (kI 32)) (hb9 : (mK M)[rb]? = some (kI 32)) (hi9 : (mK M)[ri]? = some (kI 32)) (h1 : ra ≠ ri) (h1' : rb ≠ ri) (h2 : ra ≠ 187) (h2' : rb ≠ 187) (h3 : ri ≠ 187) (h4 : ri ≠ 188) (h5 : ra ≠ 188) (h5' : rb ≠ 188) : EvR l jX3_multiply 2 70 0 0 [.ref 187, .ref ra, .ref rb, .ref ri] M (.inl none) (mulMem M ri (mulEnd M n bl ra rb ri)) := by
  refine ev_intro rfl (nb rfl) rfl ?_
  refine g_aload_n (pc := 0) dX3_multiply_0 rfl trivial ?_
  refine g_iconst (pc := 1) (v := 0) dX3_multiply_1 rfl ?_
  refine g_putI (pc := 2) dX3_multiply_2 fp_X3_36 (shK hS rfl) ⟨rfl, rfl⟩ (fun _ _ _ _ => rfl) ?_
  refine g_aload_n (pc := 5) dX3_multiply_5 rfl trivial ?_
  refine g_iconst (pc := 6) (v := 0) dX3_multiply_6 rfl ?_
  refine g_putI (pc := 7) dX3_multiply_7 fp_X3_39 (shK hS rfl) ⟨rfl, rfl⟩ (fun _ _ _ _ => rfl) ?_
  refine g_iconst (pc := 10) (v := 0) dX3_multiply_10 rfl ?_
  refine g_istore (pc := 11) (lv' := [(0, _), (1, _), (2, _), (3, _), (4, _)]) dX3_multiply_11 (nl rfl) rfl ?_
  refine go_loop (pc := 13) n (fun i => [(0, .ref 187), (1, .ref ra), (2, .ref rb), (3, .ref ri), (4, .int (nI i))]) (fun i => sI (pI (pI M 187 6 0) 187 7 0) ri (wr (mI M ri) (fun _ => 0) i)) ⟨rfl, rfl, rfl, rfl, rfl, trivial⟩ (sI_eq (by rw [wr_0, pI_i h3, pI_i h3])) ?_ ?_
  · intro i hi ih
    have e : mI (sI (pI (pI M 187 6 0) 187 7 0) ri (wr (mI M ri) (fun _ => 0) i)) 187 3 = nI n := by rw [sI_ne (Ne.symm h3), pI_k (by decide), pI_k (by decide)]; exact hz
    refine g_iload (pc := 13) dX3_multiply_13 rfl ?_
    refine g_aload_n (pc := 15) dX3_multiply_15 rfl trivial ?_
    refine g_getf (pc := 16) (v := .int _) dX3_multiply_16 fk_X3_27 (shK hS rfl) (fun _ => congrArg Value.int (e)) ?_
    refine g_icmp_ge (pc := 19) (tgt := 33) dX3_multiply_19 rfl (fun h19 => absurd h19 (nI_ge hi (by omega))) (fun _ => ?_)
    refine g_aload_n (pc := 22) dX3_multiply_22 rfl trivial ?_
    refine g_iload (pc := 23) dX3_multiply_23 rfl ?_
    refine g_iconst (pc := 25) (v := 0) dX3_multiply_25 rfl ?_
    refine g_iastore (pc := 26) dX3_multiply_26 hi9 rfl (by omega) (nl rfl) ?_
    refine g_iinc (pc := 27) (lv' := [(0, _), (1, _), (2, _), (3, _), (4, _)]) dX3_multiply_27 rfl (nI_1 _) (nl rfl) rfl ?_
    refine g_goto (pc := 30) (tgt := 13) dX3_multiply_30 rfl ?_
    exact go_cast (sI_st (wr_s _ _ i)) ih
  · have e : mI (sI (pI (pI M 187 6 0) 187 7 0) ri (wr (mI M ri) (fun _ => 0) n)) 187 3 = nI n := by rw [sI_ne (Ne.symm h3), pI_k (by decide), pI_k (by decide)]; exact hz
    refine g_iload (pc := 13) dX3_multiply_13 rfl ?_
    refine g_aload_n (pc := 15) dX3_multiply_15 rfl trivial ?_
    refine g_getf (pc := 16) (v := .int _) dX3_multiply_16 fk_X3_27 (shK hS rfl) (fun _ => congrArg Value.int (e)) ?_
    refine g_icmp_ge (pc := 19) (tgt := 33) dX3_multiply_19 rfl (fun _ => ?_) (fun h19 => absurd (nI_le (Nat.le_refl _) (by omega)) h19)
    refine g_iconst (pc := 33) (v := 0) dX3_multiply_33 rfl ?_
    refine g_istore (pc := 34) (lv' := [(0, _), (1, _), (2, _), (3, _), (4, _)]) dX3_multiply_34 (nl rfl) rfl ?_
    refine go_loop (pc := 36) (blocks n bl) (fun k => [(0, .ref 187), (1, .ref ra), (2, .ref rb), (3, .ref ri), (4, .int (nI (k * bl)))]) (fun k => mulMem M ri (mulIt (mI M 187 5) n bl (mI M ra) (mI M rb) (mI M 188) (mI M ri) k)) ⟨rfl, rfl, rfl, rfl, by rw [Nat.zero_mul]; rfl, trivial⟩ ?_ ?_ ?_
    · simp only [mulMem, mulIt]
      simp only [pI, sI, mI, fs_same, fs_self, fs_twice, fs_comm _ _ _ h3]
    · intro k hk9 ih
      have hlt := blocks_lt hb1 hk9
      rw [mulIt] at ih
      generalize mulIt (mI M 187 5) n bl (mI M ra) (mI M rb) (mI M 188) (mI M ri) k = s at ih ⊢
      obtain ⟨tb, g, e, t⟩ := s
      have z3 : mI (mulMem M ri (tb, g, e, t)) 187 3 = nI n := by simp only [mulMem, sI, mI, fs_self]; rw [fs_ne _ _ (by decide), fs_ne _ _ (by decide)]; exact hz
      have z4 : mI (mulMem M ri (tb, g, e, t)) 187 4 = nI bl := by simp only [mulMem, sI, mI, fs_self]; rw [fs_ne _ _ (by decide), fs_ne _ _ (by decide)]; exact hbl
      have z5 : mI (mulMem M ri (tb, g, e, t)) 187 5 = mI M 187 5 := by simp only [mulMem, sI, mI, fs_self]; rw [fs_ne _ _ (by decide), fs_ne _ _ (by decide)]
      have z6 : mI (mulMem M ri (tb, g, e, t)) 187 6 = e := by simp only [mulMem, sI, mI, fs_self]; rw [fs_ne _ _ (by decide), fs_self]
      have z7 : mI (mulMem M ri (tb, g, e, t)) 187 7 = t := by simp only [mulMem, sI, mI, fs_self]
      have za : mI (mulMem M ri (tb, g, e, t)) ra = mI M ra := by simp only [mulMem]; rw [sI_ne h2, sI_ne h1, sI_ne h5]
      have zb : mI (mulMem M ri (tb, g, e, t)) rb = mI M rb := by simp only [mulMem]; rw [sI_ne h2', sI_ne h1', sI_ne h5']
      have zi : mI (mulMem M ri (tb, g, e, t)) ri = g := by simp only [mulMem]; rw [sI_ne h3, sI_self]
      have zt : mI (mulMem M ri (tb, g, e, t)) 188 = tb := by simp only [mulMem]; rw [sI_ne (by decide), sI_ne (Ne.symm h4), sI_self]
      have hS1 : Shp (mulMem M ri (tb, g, e, t)) := hS
      have hmin : (if nI n - nI (k * bl) < nI bl then nI n - nI (k * bl) else nI bl) = nI (min bl (n - k * bl)) := by
        have e9 : nI n - nI (k * bl) = nI (n - k * bl) := by
          have h9 := nI_add (n - k * bl) (k * bl)
          rw [Nat.sub_add_cancel (by omega)] at h9
          rw [← h9, Int32.add_sub_cancel]
        rw [e9]
        by_cases h9 : n - k * bl < bl
        · rw [if_pos ((nI_ltI (by omega) (by omega)).mpr h9), Nat.min_eq_right (by omega)]
        · rw [if_neg (fun q => h9 ((nI_ltI (by omega) (by omega)).mp q)), Nat.min_eq_left (by omega)]
      generalize hmm : mulMem M ri (tb, g, e, t) = M0 at *
      have hc1 : k * bl + min bl (n - k * bl) ≤ 32 := by omega
      have hc2 : min bl (n - k * bl) ≤ 8 := by omega
      have hka : (mK M0)[ra]? = some (kI 32) := by rw [← hmm]; exact ha
      have hkb : (mK M0)[rb]? = some (kI 32) := by rw [← hmm]; exact hb9
      have hki : (mK M0)[ri]? = some (kI 32) := by rw [← hmm]; exact hi9
      refine g_iload (pc := 36) dX3_multiply_36 rfl ?_
      refine g_aload_n (pc := 38) dX3_multiply_38 rfl trivial ?_
      refine g_getf (pc := 39) (v := .int _) dX3_multiply_39 fk_X3_27 (shK hS1 rfl) (fun _ => congrArg Value.int (z3)) ?_
      refine g_icmp_ge (pc := 42) (tgt := 92) dX3_multiply_42 rfl (fun h42 => absurd h42 (nI_ge hlt (by omega))) (fun _ => ?_)
      refine g_aload_n (pc := 45) dX3_multiply_45 rfl trivial ?_
      refine g_getf (pc := 46) (v := .int _) dX3_multiply_46 fk_X3_31 (shK hS1 rfl) (fun _ => congrArg Value.int (z4)) ?_
      refine g_aload_n (pc := 49) dX3_multiply_49 rfl trivial ?_
      refine g_getf (pc := 50) (v := .int _) dX3_multiply_50 fk_X3_27 (shK hS1 rfl) (fun _ => congrArg Value.int (z3)) ?_
      refine g_iload (pc := 53) dX3_multiply_53 rfl ?_
      refine g_isub (pc := 55) dX3_multiply_55 ?_
      refine g_mmin (pc := 56) dX3_multiply_56 wd_1085 wd_430 wd_107 wd_431 (nb rfl) (nb rfl) ?_
      rw [hmin]
      refine g_istore (pc := 59) (lv' := [(0, _), (1, _), (2, _), (3, _), (4, _), (5, _)]) dX3_multiply_59 (nl rfl) rfl ?_
      refine g_aload_n (pc := 61) dX3_multiply_61 rfl trivial ?_
      refine g_aload_n (pc := 62) dX3_multiply_62 rfl trivial ?_
      refine g_iload (pc := 63) dX3_multiply_63 rfl ?_
      refine g_iload (pc := 65) dX3_multiply_65 rfl ?_
      refine g_invV_r (pc := 67) (As := [_, _, _]) dX3_multiply_67 rfl (s_fillTable hS1 hkb h5' hc1 hc2) rfl rfl (shK hS1 rfl) rfl rfl lk_X3_48 rfl (nb rfl) ⟨nb rfl, nb rfl⟩ rfl ?_
      refine g_aload_n (pc := 70) dX3_multiply_70 rfl trivial ?_
      refine g_aload_n (pc := 71) dX3_multiply_71 rfl trivial ?_
      refine g_aload_n (pc := 72) dX3_multiply_72 rfl trivial ?_
      refine g_iload (pc := 73) dX3_multiply_73 rfl ?_
      refine g_iload (pc := 75) dX3_multiply_75 rfl ?_
      refine g_invV_r (pc := 77) (As := [_, _, _, _]) dX3_multiply_77 rfl (s_takeEntries hS1 (by rw [pI_k (by decide), sI_ne (by decide)]; exact z3) hn hka hki h1 h2 h3 h4 hc2) rfl rfl (shK hS1 rfl) rfl rfl lk_X3_52 rfl (nb rfl) ⟨nb rfl, nb rfl⟩ rfl ?_
      refine g_iload (pc := 80) dX3_multiply_80 rfl ?_
      refine g_aload_n (pc := 82) dX3_multiply_82 rfl trivial ?_
      refine g_getf (pc := 83) (v := .int _) dX3_multiply_83 fk_X3_31 (shK hS1 rfl) (fun _ => congrArg Value.int ((show _ = nI bl by rw [pI_k (by decide), sI_ne (Ne.symm h3), pI_k (by decide), sI_ne (by decide)]; exact z4))) ?_
      refine g_iadd (pc := 86) dX3_multiply_86 ?_
      rw [nI_add, show k * bl + bl = (k + 1) * bl by rw [Nat.add_mul, Nat.one_mul]]
      refine g_istore (pc := 87) (lv' := [(0, _), (1, _), (2, _), (3, _), (4, _), (5, _)]) dX3_multiply_87 (nl rfl) rfl ?_
      refine g_goto (pc := 89) (tgt := 36) dX3_multiply_89 rfl ?_
      refine go_cast ?_ (g_sub (lv' := [(0, _), (1, _), (2, _), (3, _), (4, _)]) ⟨rfl, rfl, rfl, rfl, rfl, trivial⟩ ih)
      have y5 : mI (pI (sI M0 188 (ftOut (mI M0 187 5) (mI M0 188) (mI M0 rb) (k * bl) (min bl (n - k * bl)))) 187 6 (mI M0 187 6 + (nI (2 ^ min bl (n - k * bl)) - 1))) 187 5 = mI M 187 5 := by rw [pI_k (by decide), sI_ne (by decide)]; exact z5
      have y8 : mI (pI (sI M0 188 (ftOut (mI M0 187 5) (mI M0 188) (mI M0 rb) (k * bl) (min bl (n - k * bl)))) 187 6 (mI M0 187 6 + (nI (2 ^ min bl (n - k * bl)) - 1))) 188 = ftOut (mI M0 187 5) (mI M0 188) (mI M0 rb) (k * bl) (min bl (n - k * bl)) := by rw [pI_i (by decide), sI_self]
      have ya : mI (pI (sI M0 188 (ftOut (mI M0 187 5) (mI M0 188) (mI M0 rb) (k * bl) (min bl (n - k * bl)))) 187 6 (mI M0 187 6 + (nI (2 ^ min bl (n - k * bl)) - 1))) ra = mI M ra := by rw [pI_i h2, sI_ne h5]; exact za
      have yi : mI (pI (sI M0 188 (ftOut (mI M0 187 5) (mI M0 188) (mI M0 rb) (k * bl) (min bl (n - k * bl)))) 187 6 (mI M0 187 6 + (nI (2 ^ min bl (n - k * bl)) - 1))) ri = g := by rw [pI_i h3, sI_ne h4]; exact zi
      have y7 : mI (pI (sI M0 188 (ftOut (mI M0 187 5) (mI M0 188) (mI M0 rb) (k * bl) (min bl (n - k * bl)))) 187 6 (mI M0 187 6 + (nI (2 ^ min bl (n - k * bl)) - 1))) 187 7 = t := by rw [pI_k (by decide), sI_ne (by decide)]; exact z7
      rw [y5, y8, ya, yi, y7, z5, z6, zb, zt, ← hmm]
      refine mem_extI rfl rfl rfl rfl rfl rfl (fun i => ?_)
      simp only [mulMem, mulStep, pI, sI, mI]
      by_cases i1 : i = 187
      · subst i1
        funext j
        by_cases j7 : j = 7
        · subst j7; simp [fun_set, Ne.symm h3]
        · by_cases j6 : j = 6
          · subst j6; simp [fun_set, Ne.symm h3]
          · simp [fun_set, j7, j6, Ne.symm h3]
      · by_cases i2 : i = 188
        · subst i2; simp [fun_set, Ne.symm h4]
        · by_cases i3 : i = ri
          · subst i3; simp [fun_set, h3, h4]
          · simp [fun_set, i1, i2, i3]
    · have hge := blocks_ge (n := n) (bl := bl) hb1
      have z3 : mI (mulMem M ri (mulIt (mI M 187 5) n bl (mI M ra) (mI M rb) (mI M 188) (mI M ri) (blocks n bl))) 187 3 = nI n := by simp only [mulMem, sI, mI, fs_self]; rw [fs_ne _ _ (by decide), fs_ne _ _ (by decide)]; exact hz
      have hS1 : Shp (mulMem M ri (mulIt (mI M 187 5) n bl (mI M ra) (mI M rb) (mI M 188) (mI M ri) (blocks n bl))) := hS
      refine g_iload (pc := 36) dX3_multiply_36 rfl ?_
      refine g_aload_n (pc := 38) dX3_multiply_38 rfl trivial ?_
      refine g_getf (pc := 39) (v := .int _) dX3_multiply_39 fk_X3_27 (shK hS1 rfl) (fun _ => congrArg Value.int (z3)) ?_
      refine g_icmp_ge (pc := 42) (tgt := 92) dX3_multiply_42 rfl (fun _ => ?_) (fun h42 => absurd (nI_le hge.1 (by omega)) h42)
      refine g_return (pc := 92) dX3_multiply_92 rfl ?_
      exact ⟨rfl, rfl⟩
end
