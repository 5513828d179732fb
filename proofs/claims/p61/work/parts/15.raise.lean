/-! powers -/
section
variable {l : Launch} {M : Mem}
def begMem (M : Mem) (f : Int32) : Mem := pI (pI (pI M 187 3 (mI M 3 1)) 187 4 (mI M 3 2)) 187 5 f
theorem s_begin {f : Int32} (hS : Shp M) (hf : k01 f) : EvR l jX3_begin 0 0 0 0 [.ref 187, .ref 3, .int f] M (.inl none) (begMem M f) := by
  refine ev_intro rfl (nb rfl) rfl ?_
  refine g_aload_n (pc := 0) dX3_begin_0 rfl trivial ?_
  refine g_aload_n (pc := 1) dX3_begin_1 rfl trivial ?_
  refine g_getf (pc := 2) (v := .int (mI _ _ _)) dX3_begin_2 fk_X3_21 (shK hS rfl) (fun _ => rfl) ?_
  refine g_putI (pc := 5) dX3_begin_5 fp_X3_27 (shK hS rfl) ⟨rfl, rfl⟩ (fun _ _ _ _ => rfl) ?_
  refine g_aload_n (pc := 8) dX3_begin_8 rfl trivial ?_
  refine g_aload_n (pc := 9) dX3_begin_9 rfl trivial ?_
  refine g_getf (pc := 10) (v := .int _) dX3_begin_10 fk_X3_28 (shK hS rfl) (fun _ => congrArg Value.int ((congrFun (pI_i (by decide)) 2))) ?_
  refine g_putI (pc := 13) dX3_begin_13 fp_X3_31 (shK hS rfl) ⟨rfl, rfl⟩ (fun _ _ _ _ => rfl) ?_
  refine g_aload_n (pc := 16) dX3_begin_16 rfl trivial ?_
  refine g_iload_n (pc := 17) dX3_begin_17 rfl ?_
  refine g_putI (pc := 18) dX3_begin_18 fp_X3_32 (shK hS rfl) (k01_n hf) (fun _ _ _ _ => rfl) ?_
  refine g_return (pc := 21) dX3_begin_21 rfl ?_
  exact ⟨rfl, rfl⟩
/-- a power under way: whether 190 holds it (else 189), the table, 189, 190, entries made, entries taken -/
abbrev RS : Type := Bool × (Nat → Int32) × (Nat → Int32) × (Nat → Int32) × Int32 × Int32
def rsMem (M : Mem) (s : RS) : Mem := sI (sI (sI (sI M 188 s.2.1) 189 s.2.2.1) 190 s.2.2.2.1) 187 (fun_set (fun_set (mI M 187) 6 s.2.2.2.2.1) 7 s.2.2.2.2.2)
def rsP (s : RS) : Nat := match s.1 with
  | true => 190
  | false => 189
def rsN (s : RS) : Nat := match s.1 with
  | true => 189
  | false => 190
/-- the power so far times itself, or a matrix -/
def rsMul (f : Int32) (n bl : Nat) (base : Option (Nat → Int32)) (s : RS) : RS := match s.1 with
  | false => let m := mulIt f n bl s.2.2.1 (base.getD s.2.2.1) s.2.1 s.2.2.2.1 (blocks n bl); (true, m.1, s.2.2.1, m.2.1, m.2.2.1, m.2.2.2)
  | true => let m := mulIt f n bl s.2.2.2.1 (base.getD s.2.2.2.1) s.2.1 s.2.2.1 (blocks n bl); (false, m.1, m.2.1, s.2.2.2.1, m.2.2.1, m.2.2.2)
def rsA (f : Int32) (n bl : Nat) (x : Int32) (b : Nat) (s : RS) : RS := if x >>> (nI b &&& 31) = 0 then s else rsMul f n bl none s
def rsB (f : Int32) (n bl : Nat) (base : Nat → Int32) (x : Int32) (b : Nat) (s : RS) : RS := if hb x b = true then rsMul f n bl (some base) s else s
def rsIt (f : Int32) (n bl : Nat) (base : Nat → Int32) (x : Int32) (s0 : RS) : Nat → RS
  | 0 => s0
  | i + 1 => rsB f n bl base x (19 - i) (rsA f n bl x (19 - i) (rsIt f n bl base x s0 i))
def rs0 (M : Mem) (n : Nat) : RS := (false, mI M 188, wr (mI M 189) bitI n, mI M 190, mI M 187 6, mI M 187 7)
theorem rs_mul {n bl rb : Nat} (s : RS) (base : Option (Nat → Int32)) (h2 : rb ≠ 187) (h3 : rb ≠ 188) (hrb : (base = none ∧ rb = rsP s) ∨ (base = some (mI M rb) ∧ rb ≠ 189 ∧ rb ≠ 190)) :
    mulMem (rsMem M s) (rsN s) (mulEnd (rsMem M s) n bl (rsP s) rb (rsN s)) = rsMem M (rsMul (mI M 187 5) n bl base s) := by
  obtain ⟨sw, tb, f1, f2, e, t⟩ := s
  have z5 : mI (rsMem M (sw, tb, f1, f2, e, t)) 187 5 = mI M 187 5 := by simp [rsMem, sI, mI, fun_set]
  have z1 : mI (rsMem M (sw, tb, f1, f2, e, t)) 189 = f1 := by simp [rsMem, sI, mI, fun_set]
  have z2 : mI (rsMem M (sw, tb, f1, f2, e, t)) 190 = f2 := by simp [rsMem, sI, mI, fun_set]
  have zt : mI (rsMem M (sw, tb, f1, f2, e, t)) 188 = tb := by simp [rsMem, sI, mI, fun_set]
  have zb : rb ≠ 189 → rb ≠ 190 → mI (rsMem M (sw, tb, f1, f2, e, t)) rb = mI M rb := fun a b => by simp [rsMem, sI, mI, fun_set, h2, h3, a, b]
  have fin : ∀ (sw' : Bool) (m : PS), (sw = false → mulMem (rsMem M (sw, tb, f1, f2, e, t)) 190 m = rsMem M (true, m.1, f1, m.2.1, m.2.2.1, m.2.2.2)) ∧ (sw = true → mulMem (rsMem M (sw, tb, f1, f2, e, t)) 189 m = rsMem M (false, m.1, m.2.1, f2, m.2.2.1, m.2.2.2)) := by
    intro sw' m
    constructor <;> intro _ <;> refine mem_extI rfl rfl rfl rfl rfl rfl (fun i => ?_) <;> simp only [mulMem, rsMem, sI, mI] <;> (
      by_cases i1 : i = 187
      · subst i1
        funext j
        by_cases j7 : j = 7
        · subst j7; simp [fun_set]
        · by_cases j6 : j = 6
          · subst j6; simp [fun_set]
          · simp [fun_set, j7, j6]
      · by_cases i2 : i = 188
        · subst i2; simp [fun_set]
        · by_cases i3 : i = 189
          · subst i3; simp [fun_set]
          · by_cases i4 : i = 190
            · subst i4; simp [fun_set]
            · simp [fun_set, i1, i2, i3, i4])
  rcases hrb with ⟨rfl, hr⟩ | ⟨rfl, hr1, hr2⟩
  · cases sw with
    | false =>
      simp only [rsP] at hr
      subst hr
      simp only [rsN, rsP, rsMul, mulEnd, z5, z1, z2, zt, Option.getD]
      exact (fin false _).1 rfl
    | true =>
      simp only [rsP] at hr
      subst hr
      simp only [rsN, rsP, rsMul, mulEnd, z5, z1, z2, zt, Option.getD]
      exact (fin false _).2 rfl
  · cases sw with
    | false =>
      simp only [rsN, rsP, rsMul, mulEnd, z5, z1, z2, zt, zb hr1 hr2, Option.getD]
      exact (fin false _).1 rfl
    | true =>
      simp only [rsN, rsP, rsMul, mulEnd, z5, z1, z2, zt, zb hr1 hr2, Option.getD]
      exact (fin false _).2 rfl
theorem rsMul_P (f : Int32) (n bl : Nat) (base : Option (Nat → Int32)) (s : RS) : rsP (rsMul f n bl base s) = rsN s ∧ rsN (rsMul f n bl base s) = rsP s := by
  obtain ⟨sw, tb, f1, f2, e, t⟩ := s
  cases sw <;> exact ⟨rfl, rfl⟩
theorem rs_get (s : RS) (j : Nat) (h : j ≠ 6) (h' : j ≠ 7) : mI (rsMem M s) 187 j = mI M 187 j := by simp [rsMem, sI, mI, fun_set, h, h']
theorem rs_ids (s : RS) : (rsP s = 189 ∨ rsP s = 190) ∧ (rsN s = 189 ∨ rsN s = 190) ∧ rsP s ≠ rsN s := by
  obtain ⟨sw, tb, f1, f2, e, t⟩ := s
  cases sw <;> simp [rsP, rsN]
theorem rs_lay (hS : Shp M) (s : RS) {i : Nat} (h : i = 189 ∨ i = 190) : (mK (rsMem M s))[i]? = some (kI 32) := by
  have hS' : Shp (rsMem M s) := hS
  rcases h with rfl | rfl
  · exact shK hS' rfl
  · exact shK hS' rfl
def raiseEnd (M : Mem) (n bl rb : Nat) (x : Int32) : RS := rsIt (mI M 187 5) n bl (mI M rb) x (rs0 M n) 20
theorem s_raise {n bl rb : Nat} {x : Int32} (hS : Shp M) (hz : mI M 187 3 = nI n) (hbl : mI M 187 4 = nI bl) (hn : n ≤ 32) (hb1 : 1 ≤ bl) (hb8 : bl ≤ 8) (hk9 : (mK M)[rb]? = some (kI 32)) (h2 : rb ≠ 187) (h3 : rb ≠ 188) (h4 : rb ≠ 189) (h5 : rb ≠ 190) : EvR l jX3_raise 3 100 0 0 [.ref 187, .ref rb, .int x] M (.inl (some (.ref (rsP (raiseEnd M n bl rb x))))) (rsMem M (raiseEnd M n bl rb x)) := by
  refine ev_intro rfl (nb rfl) rfl ?_
  refine g_aload_n (pc := 0) dX3_raise_0 rfl trivial ?_
  refine g_getf (pc := 1) dX3_raise_1 fk_X3_15 (shK hS rfl) (fv_arr (shR hS rfl)) ?_
  refine g_astore_n (pc := 4) (lv' := [(0, _), (1, _), (2, _), (3, _)]) dX3_raise_4 trivial (nl rfl) rfl ?_
  refine g_aload_n (pc := 5) dX3_raise_5 rfl trivial ?_
  refine g_getf (pc := 6) dX3_raise_6 fk_X3_18 (shK hS rfl) (fv_arr (shR hS rfl)) ?_
  refine g_astore (pc := 9) (lv' := [(0, _), (1, _), (2, _), (3, _), (4, _)]) dX3_raise_9 trivial (nl rfl) rfl ?_
  refine g_iconst (pc := 11) (v := 0) dX3_raise_11 rfl ?_
  refine g_istore (pc := 12) (lv' := [(0, _), (1, _), (2, _), (3, _), (4, _), (5, _)]) dX3_raise_12 (nl rfl) rfl ?_
  refine go_loop (pc := 14) n (fun i => [(0, .ref 187), (1, .ref rb), (2, .int x), (3, .ref 189), (4, .ref 190), (5, .int (nI i))]) (fun i => sI M 189 (wr (mI M 189) bitI i)) ⟨rfl, rfl, rfl, rfl, rfl, rfl, trivial⟩ (sI_eq (wr_0 _ _)) ?_ ?_
  · intro i hi ih
    have e : mI (sI M 189 (wr (mI M 189) bitI i)) 187 3 = nI n := by rw [sI_ne (by decide)]; exact hz
    refine g_iload (pc := 14) dX3_raise_14 rfl ?_
    refine g_aload_n (pc := 16) dX3_raise_16 rfl trivial ?_
    refine g_getf (pc := 17) (v := .int _) dX3_raise_17 fk_X3_27 (shK hS rfl) (fun _ => congrArg Value.int (e)) ?_
    refine g_icmp_ge (pc := 20) (tgt := 37) dX3_raise_20 rfl (fun h20 => absurd h20 (nI_ge hi (by omega))) (fun _ => ?_)
    refine g_aload_n (pc := 23) dX3_raise_23 rfl trivial ?_
    refine g_iload (pc := 24) dX3_raise_24 rfl ?_
    refine g_iconst (pc := 26) (v := 1) dX3_raise_26 rfl ?_
    refine g_iload (pc := 27) dX3_raise_27 rfl ?_
    refine g_ishl (pc := 29) dX3_raise_29 ?_
    refine g_iastore (pc := 30) dX3_raise_30 (shK hS rfl) rfl (by omega) (nl rfl) ?_
    refine g_iinc (pc := 31) (lv' := [(0, _), (1, _), (2, _), (3, _), (4, _), (5, _)]) dX3_raise_31 rfl (nI_1 _) (nl rfl) rfl ?_
    refine g_goto (pc := 34) (tgt := 14) dX3_raise_34 rfl ?_
    exact go_cast (sI_st (wr_s _ _ i)) ih
  · have e : mI (sI M 189 (wr (mI M 189) bitI n)) 187 3 = nI n := by rw [sI_ne (by decide)]; exact hz
    refine g_iload (pc := 14) dX3_raise_14 rfl ?_
    refine g_aload_n (pc := 16) dX3_raise_16 rfl trivial ?_
    refine g_getf (pc := 17) (v := .int _) dX3_raise_17 fk_X3_27 (shK hS rfl) (fun _ => congrArg Value.int (e)) ?_
    refine g_icmp_ge (pc := 20) (tgt := 37) dX3_raise_20 rfl (fun _ => ?_) (fun h20 => absurd (nI_le (Nat.le_refl _) (by omega)) h20)
    refine g_bipush (pc := 37) (v := 19) dX3_raise_37 rfl ?_
    refine g_istore (pc := 39) (lv' := [(0, _), (1, _), (2, _), (3, _), (4, _), (5, _)]) dX3_raise_39 (nl rfl) rfl ?_
    refine go_loop (pc := 41) 20 (fun i => [(0, .ref 187), (1, .ref rb), (2, .int x), (3, .ref (rsP (rsIt (mI M 187 5) n bl (mI M rb) x (rs0 M n) i))), (4, .ref (rsN (rsIt (mI M 187 5) n bl (mI M rb) x (rs0 M n) i))), (5, .int (nI (20 - i) - 1))]) (fun i => rsMem M (rsIt (mI M 187 5) n bl (mI M rb) x (rs0 M n) i)) ⟨rfl, rfl, rfl, rfl, rfl, rfl, trivial⟩ ?_ ?_ ?_
    · refine mem_extI rfl rfl rfl rfl rfl rfl (fun i => ?_)
      simp only [rsIt, rs0, rsMem, sI, mI]
      by_cases i1 : i = 187
      · subst i1
        funext j
        by_cases j7 : j = 7
        · subst j7; simp [fun_set]
        · by_cases j6 : j = 6
          · subst j6; simp [fun_set]
          · simp [fun_set, j7, j6]
      · by_cases i2 : i = 188
        · subst i2; simp [fun_set]
        · by_cases i3 : i = 189
          · subst i3; simp [fun_set]
          · by_cases i4 : i = 190
            · subst i4; simp [fun_set]
            · simp [fun_set, i1, i2, i3, i4]
    · intro i hi ih
      have hbit : nI (20 - i) - 1 = nI (19 - i) := by rw [show 20 - i = 19 - i + 1 by omega]; exact nI_pred _
      have hdec : nI (19 - i) + Int32.ofInt (-1) = nI (20 - (i + 1)) - 1 := by
        rw [show 20 - (i + 1) = 19 - i by omega]
        rw [show Int32.ofInt (-1) = -1 by decide +kernel]
        exact (Int32.sub_eq_add_neg _ _).symm
      rw [hbit]
      rw [rsIt] at ih
      generalize rsIt (mI M 187 5) n bl (mI M rb) x (rs0 M n) i = s at ih ⊢
      have p2 : ∀ s1 : RS, rsB (mI M 187 5) n bl (mI M rb) x (19 - i) s1 = rsB (mI M 187 5) n bl (mI M rb) x (19 - i) (rsA (mI M 187 5) n bl x (19 - i) s) → Go l jX3_raise 3 100 0 0 (fun r' M9 => r' = .inl (some (.ref (rsP (raiseEnd M n bl rb x)))) ∧ M9 = rsMem M (raiseEnd M n bl rb x)) 71 [(0, .ref 187), (1, .ref rb), (2, .int x), (3, .ref (rsP s1)), (4, .ref (rsN s1)), (5, .int (nI (19 - i)))] [] 0 0 (rsMem M s1) := by
        intro s1 hs1
        rw [← hs1] at ih
        have hS1 : Shp (rsMem M s1) := hS
        obtain ⟨i1, i2, i3⟩ := rs_ids s1
        by_cases hB : hb x (19 - i) = true
        · rw [rsB, if_pos hB] at ih
          refine g_iload_n (pc := 71) dX3_raise_71 rfl ?_
          refine g_iload (pc := 72) dX3_raise_72 rfl ?_
          refine g_invSN_r (pc := 74) (As := [_, _]) dX3_raise_74 rfl (s_hasOne (by omega)) rfl rfl lk_X3_60 rfl (nb rfl) ⟨nb rfl, nb rfl⟩ rfl ?_
          refine g_if_eq (pc := 77) (tgt := 98) dX3_raise_77 rfl (fun h77 => absurd h77 (by rw [b1_0, hB]; decide)) (fun _ => ?_)
          refine g_aload_n (pc := 80) dX3_raise_80 rfl trivial ?_
          refine g_aload_n (pc := 81) dX3_raise_81 rfl trivial ?_
          refine g_aload_n (pc := 82) dX3_raise_82 rfl trivial ?_
          refine g_aload (pc := 83) dX3_raise_83 rfl trivial ?_
          refine g_invV_r (pc := 85) (As := [_, _, _]) dX3_raise_85 rfl (s_multiply hS1 (by rw [rs_get _ _ (by decide) (by decide)]; exact hz) (by rw [rs_get _ _ (by decide) (by decide)]; exact hbl) hn hb1 hb8 (rs_lay hS _ i1) hk9 (rs_lay hS _ i2) i3 (by omega) (by omega) h2 (by omega) (by omega) (by omega) h3) rfl rfl (shK hS1 rfl) rfl rfl lk_X3_56 rfl (nb rfl) ⟨nb rfl, nb rfl⟩ rfl ?_
          rw [rs_mul s1 (some (mI M rb)) h2 h3 (Or.inr ⟨rfl, h4, h5⟩)]
          refine g_aload (pc := 88) dX3_raise_88 rfl trivial ?_
          refine g_astore (pc := 90) (lv' := [(0, _), (1, _), (2, _), (3, _), (4, _), (5, _), (6, _)]) dX3_raise_90 trivial (nl rfl) rfl ?_
          refine g_aload_n (pc := 92) dX3_raise_92 rfl trivial ?_
          refine g_astore (pc := 93) (lv' := [(0, _), (1, _), (2, _), (3, _), (4, _), (5, _), (6, _)]) dX3_raise_93 trivial (nl rfl) rfl ?_
          refine g_aload (pc := 95) dX3_raise_95 rfl trivial ?_
          refine g_astore_n (pc := 97) (lv' := [(0, _), (1, _), (2, _), (3, _), (4, _), (5, _), (6, _)]) dX3_raise_97 trivial (nl rfl) rfl ?_
          refine g_iinc (pc := 98) (lv' := [(0, _), (1, _), (2, _), (3, _), (4, _), (5, _), (6, _)]) dX3_raise_98 rfl hdec (nl rfl) rfl ?_
          refine g_goto (pc := 101) (tgt := 41) dX3_raise_101 rfl ?_
          obtain ⟨u1, u2⟩ := rsMul_P (mI M 187 5) n bl (some (mI M rb)) s1
          rw [u1, u2] at ih
          exact g_sub (lv' := [(0, _), (1, _), (2, _), (3, _), (4, _), (5, _)]) ⟨rfl, rfl, rfl, rfl, rfl, rfl, trivial⟩ ih
        · rw [rsB, if_neg hB] at ih
          refine g_iload_n (pc := 71) dX3_raise_71 rfl ?_
          refine g_iload (pc := 72) dX3_raise_72 rfl ?_
          refine g_invSN_r (pc := 74) (As := [_, _]) dX3_raise_74 rfl (s_hasOne (by omega)) rfl rfl lk_X3_60 rfl (nb rfl) ⟨nb rfl, nb rfl⟩ rfl ?_
          refine g_if_eq (pc := 77) (tgt := 98) dX3_raise_77 rfl (fun _ => ?_) (fun h77 => absurd (by rw [b1_0]; exact Bool.eq_false_iff.mpr hB) h77)
          refine g_iinc (pc := 98) (lv' := [(0, _), (1, _), (2, _), (3, _), (4, _), (5, _)]) dX3_raise_98 rfl hdec (nl rfl) rfl ?_
          refine g_goto (pc := 101) (tgt := 41) dX3_raise_101 rfl ?_
          exact ih
      have hS1 : Shp (rsMem M s) := hS
      obtain ⟨i1, i2, i3⟩ := rs_ids s
      by_cases hA : x >>> (nI (19 - i) &&& 31) = 0
      · refine g_iload (pc := 41) dX3_raise_41 rfl ?_
        refine g_if_lt (pc := 43) (tgt := 104) dX3_raise_43 rfl (fun h43 => absurd h43 (nI_pos (by omega))) (fun _ => ?_)
        refine g_iload_n (pc := 46) dX3_raise_46 rfl ?_
        refine g_iload (pc := 47) dX3_raise_47 rfl ?_
        refine g_ishr (pc := 49) dX3_raise_49 ?_
        refine g_if_eq (pc := 50) (tgt := 71) dX3_raise_50 rfl (fun _ => ?_) (fun h50 => absurd (hA) h50)
        exact p2 s (by rw [rsA, if_pos hA])
      · refine g_iload (pc := 41) dX3_raise_41 rfl ?_
        refine g_if_lt (pc := 43) (tgt := 104) dX3_raise_43 rfl (fun h43 => absurd h43 (nI_pos (by omega))) (fun _ => ?_)
        refine g_iload_n (pc := 46) dX3_raise_46 rfl ?_
        refine g_iload (pc := 47) dX3_raise_47 rfl ?_
        refine g_ishr (pc := 49) dX3_raise_49 ?_
        refine g_if_eq (pc := 50) (tgt := 71) dX3_raise_50 rfl (fun h50 => absurd h50 (hA)) (fun _ => ?_)
        refine g_aload_n (pc := 53) dX3_raise_53 rfl trivial ?_
        refine g_aload_n (pc := 54) dX3_raise_54 rfl trivial ?_
        refine g_aload_n (pc := 55) dX3_raise_55 rfl trivial ?_
        refine g_aload (pc := 56) dX3_raise_56 rfl trivial ?_
        refine g_invV_r (pc := 58) (As := [_, _, _]) dX3_raise_58 rfl (s_multiply hS1 (by rw [rs_get _ _ (by decide) (by decide)]; exact hz) (by rw [rs_get _ _ (by decide) (by decide)]; exact hbl) hn hb1 hb8 (rs_lay hS _ i1) (rs_lay hS _ i1) (rs_lay hS _ i2) i3 i3 (by omega) (by omega) (by omega) (by omega) (by omega) (by omega)) rfl rfl (shK hS1 rfl) rfl rfl lk_X3_56 rfl (nb rfl) ⟨nb rfl, nb rfl⟩ rfl ?_
        rw [rs_mul s none (by omega) (by omega) (Or.inl ⟨rfl, rfl⟩)]
        refine g_aload (pc := 61) dX3_raise_61 rfl trivial ?_
        refine g_astore (pc := 63) (lv' := [(0, _), (1, _), (2, _), (3, _), (4, _), (5, _), (6, _)]) dX3_raise_63 trivial (nl rfl) rfl ?_
        refine g_aload_n (pc := 65) dX3_raise_65 rfl trivial ?_
        refine g_astore (pc := 66) (lv' := [(0, _), (1, _), (2, _), (3, _), (4, _), (5, _), (6, _)]) dX3_raise_66 trivial (nl rfl) rfl ?_
        refine g_aload (pc := 68) dX3_raise_68 rfl trivial ?_
        refine g_astore_n (pc := 70) (lv' := [(0, _), (1, _), (2, _), (3, _), (4, _), (5, _), (6, _)]) dX3_raise_70 trivial (nl rfl) rfl ?_
        have h9 := p2 (rsMul (mI M 187 5) n bl none s) (by rw [rsA, if_neg hA])
        obtain ⟨u1, u2⟩ := rsMul_P (mI M 187 5) n bl none s
        rw [u1, u2] at h9
        exact g_sub (lv' := [(0, _), (1, _), (2, _), (3, _), (4, _), (5, _)]) ⟨rfl, rfl, rfl, rfl, rfl, rfl, trivial⟩ h9
    · refine g_iload (pc := 41) dX3_raise_41 rfl ?_
      refine g_if_lt (pc := 43) (tgt := 104) dX3_raise_43 rfl (fun _ => ?_) (fun h43 => absurd (by decide) h43)
      refine g_aload_n (pc := 104) dX3_raise_104 rfl trivial ?_
      refine g_areturn (pc := 105) dX3_raise_105 rfl (Or.inr ⟨_, rfl⟩) ?_
      exact ⟨rfl, rfl⟩
end
