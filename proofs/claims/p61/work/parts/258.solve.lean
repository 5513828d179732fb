/-! solving by sums of columns -/
section
variable {f : Nat → Int32} {n : Nat}
def nbN (g : Nat → Bool) : Nat → Nat
  | 0 => 0
  | r + 1 => nbN g r ||| (if g r = true then 2 ^ r else 0)
theorem nb_b {g : Nat → Bool} {i : Nat} : ∀ k, (nbN g k).testBit i = (decide (i < k) && g i)
  | 0 => by
    unfold nbN
    rw [Nat.zero_testBit, decide_eq_false (Nat.not_lt_zero i)]
    rfl
  | k + 1 => by
    unfold nbN
    rw [Nat.testBit_or, nb_b k]
    by_cases e : i = k
    · subst e
      rw [decide_eq_false (Nat.lt_irrefl i), decide_eq_true (Nat.lt_succ_self i)]
      cases h : g i
      · rw [if_neg (by decide), Nat.zero_testBit]
        rfl
      · rw [if_pos rfl, Nat.testBit_two_pow, decide_eq_true rfl]
        rfl
    · have e2 : decide (i < k + 1) = decide (i < k) := decide_eq_decide.mpr (by omega)
      rw [e2]
      split
      · rw [Nat.testBit_two_pow, decide_eq_false (Ne.symm e), Bool.or_false]
      · rw [Nat.zero_testBit, Bool.or_false]
theorem nb_lt {g : Nat → Bool} (k : Nat) : nbN g k < 2 ^ k := Nat.lt_pow_two_of_testBit _ (fun i hi => by
  rw [nb_b, decide_eq_false (by omega)]
  rfl)
abbrev LSt : Type := (Nat → Nat) × (Nat → Nat)
/-- a column taken down by those that are there -/
def zrd (s : LSt) (p : Nat × Nat) : Nat → Nat × Nat
  | 0 => p
  | r + 1 => if (zrd s p r).1.testBit r = true ∧ s.1 r ≠ 0 then ((zrd s p r).1 ^^^ s.1 r, (zrd s p r).2 ^^^ s.2 r) else zrd s p r
def lowB (x : Nat) : Nat → Nat → Nat
  | 0, i => i
  | d + 1, i => if x.testBit i = true then i else lowB x d (i + 1)
theorem lowB_ok {x : Nat} : ∀ d i j, i ≤ j → j < i + d → x.testBit j = true → i ≤ lowB x d i ∧ lowB x d i ≤ j ∧ x.testBit (lowB x d i) = true ∧ ∀ a, i ≤ a → a < lowB x d i → x.testBit a = false
  | 0, i, j, h1, h2, _ => by omega
  | d + 1, i, j, h1, h2, h3 => by
    unfold lowB
    by_cases e : x.testBit i = true
    · rw [if_pos e]
      exact ⟨Nat.le_refl i, h1, e, fun a g1 g2 => by omega⟩
    · rw [if_neg e]
      have hij : i ≠ j := fun q => e (by rw [q]; exact h3)
      obtain ⟨g1, g2, g3, g4⟩ := lowB_ok d (i + 1) j (by omega) (by omega) h3
      refine ⟨by omega, g2, g3, fun a a1 a2 => ?_⟩
      by_cases q : a = i
      · rw [q]
        exact Bool.eq_false_iff.mpr e
      · exact g4 a (by omega) a2
theorem nat_0 {x : Nat} (h : x < 2 ^ n) (hz : ∀ i, i < n → x.testBit i = false) : x = 0 := Nat.eq_of_testBit_eq (fun i => by
  rw [Nat.zero_testBit]
  by_cases e : i < n
  · exact hz i e
  · exact Nat.testBit_lt_two_pow (Nat.lt_of_lt_of_le h (Nat.pow_le_pow_right (by decide) (by omega))))
theorem low_ok {x : Nat} (h : x < 2 ^ n) (h0 : x ≠ 0) : lowB x n 0 < n ∧ x.testBit (lowB x n 0) = true ∧ ∀ a, a < lowB x n 0 → x.testBit a = false := by
  have : ∃ j, j < n ∧ x.testBit j = true := Classical.byContradiction fun q => h0 (nat_0 h fun i hi => by
    rw [Bool.eq_false_iff]
    exact fun e => q ⟨i, hi, e⟩)
  obtain ⟨j, h1, h2⟩ := this
  obtain ⟨g1, g2, g3, g4⟩ := lowB_ok n 0 j (Nat.zero_le j) (by omega) h2
  exact ⟨by omega, g3, fun a ha => g4 a (Nat.zero_le a) ha⟩
def zsv (f : Nat → Int32) (n : Nat) (s : LSt) (c : Nat) : LSt := if (zrd s (nbN (fun r => hb (f r) c) n, 2 ^ c) n).1 = 0 then s else (fun_set s.1 (lowB (zrd s (nbN (fun r => hb (f r) c) n, 2 ^ c) n).1 n 0) (zrd s (nbN (fun r => hb (f r) c) n, 2 ^ c) n).1, fun_set s.2 (lowB (zrd s (nbN (fun r => hb (f r) c) n, 2 ^ c) n).1 n 0) (zrd s (nbN (fun r => hb (f r) c) n, 2 ^ c) n).2)
def zli (f : Nat → Int32) (n : Nat) : Nat → LSt
  | 0 => (fun _ => 0, fun _ => 0)
  | c + 1 => zsv f n (zli f n c) c
/-- the right side taken down: what is left, and what makes the rest -/
abbrev zso (f : Nat → Int32) (n x : Nat) : Nat × Nat := zrd (zli f n n) (x, 0) n
end
def oL (x : Nat) : Int64 := Int64.ofNat x
theorem oL_b {x i : Nat} (hi : i < 64) : hl (oL x) i = x.testBit i := by
  show (BitVec.ofNat 64 x).getLsbD i = _
  rw [BitVec.getLsbD_ofNat, decide_eq_true hi]
  rfl
theorem oL_x (x y : Nat) : oL x ^^^ oL y = oL (x ^^^ y) := hl_ext fun i hi => by rw [hl_xor, oL_b hi, oL_b hi, oL_b hi, Nat.testBit_xor]
theorem oL_o (x y : Nat) : oL x ||| oL y = oL (x ||| y) := hl_ext fun i hi => by rw [hl_or, oL_b hi, oL_b hi, oL_b hi, Nat.testBit_or]
theorem oL_s : ∀ r, r < 9 → (1 : Int64) <<< ((nI r).toInt64 &&& 63) = oL (2 ^ r) := by decide +kernel
theorem oL_t9 : ∀ r, r < 9 → ∀ x, x < 512 → (oL x >>> ((nI r).toInt64 &&& 63)) &&& 1 = if x.testBit r then 1 else 0 := by decide +kernel
theorem oL_0 : ∀ x, x < 512 → (lg_cmp (oL x) 0 = 0 ↔ x = 0) := by decide +kernel
theorem oL_m : ∀ n, n < 10 → ∀ x, x < 512 → x < 2 ^ n → oL x &&& ((1 : Int64) <<< ((nI n).toInt64 &&& 63) - 1) = oL x := by decide +kernel
theorem oL_n1 : ∀ x, x < 512 → x ≠ 0 → (oL x).toInt32 ≠ 0 := by decide +kernel
theorem oL_n2 : ∀ b, b < 9 → ∀ x, x < 512 → x % 2 ^ (b + 1) = 2 ^ b → ((oL x).toInt32 ^^^ (-1)) &&& ((oL x).toInt32 - 1) = nI (2 ^ b - 1) := by decide +kernel
theorem oL_n {b x : Nat} (hb9 : b < 9) (hx : x < 512) (h1 : x.testBit b = true) (h2 : ∀ a, a < b → x.testBit a = false) : (oL x).toInt32 ≠ 0 ∧ ((oL x).toInt32 ^^^ (-1)) &&& ((oL x).toInt32 - 1) = nI (2 ^ b - 1) := by
  refine ⟨oL_n1 x hx (fun e => by rw [e, Nat.zero_testBit] at h1; cases h1), oL_n2 b hb9 x hx (Nat.eq_of_testBit_eq fun i => ?_)⟩
  rw [Nat.testBit_mod_two_pow, Nat.testBit_two_pow]
  rcases Nat.lt_trichotomy i b with e | e | e
  · rw [h2 i e, Bool.and_false, decide_eq_false (show ¬ b = i by omega)]
  · rw [e, h1, decide_eq_true rfl, decide_eq_true (Nat.lt_succ_self b)]
    rfl
  · rw [decide_eq_false (by omega), decide_eq_false (by omega), Bool.false_and]
/-- what solving answers -/
def soR (f : Nat → Int32) (n x : Nat) : Int64 := if (zso f n x).1 = 0 then oL (zso f n x).2 else -1
theorem or_0 (x : Int64) : x ||| 0 = x := Int64.or_zero
section
variable {l : Launch} {M M' Mx : Mem} {m n d x : Nat} {rw9 : Nat → Nat} {f : Nat → Int32}
theorem zrd_lt {s : LSt} {p : Nat × Nat} (hs : ∀ r, r < n → s.1 r < 2 ^ n ∧ s.2 r < 512) (hp : p.1 < 2 ^ n ∧ p.2 < 512) : ∀ k, k ≤ n → (zrd s p k).1 < 2 ^ n ∧ (zrd s p k).2 < 512
  | 0, _ => hp
  | k + 1, hk => by
    obtain ⟨h1, h2⟩ := zrd_lt hs hp k (by omega)
    obtain ⟨h3, h4⟩ := hs k (by omega)
    unfold zrd
    split
    · exact ⟨Nat.xor_lt_two_pow h1 h3, Nat.xor_lt_two_pow (n := 9) h2 h4⟩
    · exact ⟨h1, h2⟩
theorem p2_lt {c : Nat} (h : c < 9) : 2 ^ c < 512 := Nat.lt_of_lt_of_le (Nat.pow_lt_pow_right (by decide) h) (by decide)
/-- the columns so far, in memory -/
def LDm (Mx : Mem) (a b n : Nat) (s : LSt) : Prop := (mK Mx)[a]? = some (.inl (.long, n)) ∧ (mK Mx)[b]? = some (.inl (.long, n)) ∧ ∀ r, r < n → mL Mx a r = oL (s.1 r) ∧ mL Mx b r = oL (s.2 r) ∧ s.1 r < 2 ^ n ∧ s.2 r < 512
theorem LDm.set {a b j v w : Nat} {s : LSt} (h : LDm Mx a b n s) (hab : a ≠ b) (hj : j < n) (hv : v < 2 ^ n) (hw : w < 512) : LDm (sL (sL Mx a (fun_set (mL Mx a) j (oL v))) b (fun_set (mL (sL Mx a (fun_set (mL Mx a) j (oL v))) b) j (oL w))) a b n (fun_set s.1 j v, fun_set s.2 j w) := by
  refine ⟨h.1, h.2.1, fun r hr => ?_⟩
  obtain ⟨h1, h2, h3, h4⟩ := h.2.2 r hr
  rw [sL_ne hab, sL_self, sL_self, sL_ne (Ne.symm hab)]
  show fun_set (mL Mx a) j (oL v) r = oL (fun_set s.1 j v r) ∧ fun_set (mL Mx b) j (oL w) r = oL (fun_set s.2 j w r) ∧ fun_set s.1 j v r < 2 ^ n ∧ fun_set s.2 j w r < 512
  by_cases e : r = j
  · rw [e, fs_self, fs_self, fs_self, fs_self]
    exact ⟨rfl, rfl, hv, hw⟩
  · rw [fs_ne _ _ e, fs_ne _ _ e, fs_ne _ _ e, fs_ne _ _ e]
    exact ⟨h1, h2, h3, h4⟩
theorem k_solve (hd : (mK M)[d]? = some (.inr 7)) (hz : mI M d 0 = nI n) (hm : Mt M m n rw9 (fB f)) (hn : n ≤ 9) (hxn : x < 2 ^ n) (hx : mX M = true) : EvO l jX7_solve 3 90 2 18 [.ref d, .ref m, .long (oL x)] M (fun r M' => r = some (.long (soR f n x)) ∧ (zso f n x).2 < 512 ∧ Xn M M') := by
  have hdl := k_lt hd
  have hml := hm.lt
  have h9 : ∀ {v : Nat}, v < 2 ^ n → v < 512 := fun {v} h => Nat.lt_of_lt_of_le h (Nat.pow_le_pow_right (by decide) hn)
  have h512 := h9 hxn
  generalize hN : (mK M).length = N at *
  refine ev_intro rfl (nb rfl) rfl ?_
  refine g_aload_n (pc := 0) dX7_solve_0 rfl trivial ?_
  refine g_getf (pc := 1) (v := .int _) dX7_solve_1 fk_X7_22 hd (fun _ => congrArg Value.int (hz)) ?_
  refine g_wk (pc := 4) (k := 1 + 1) (n := n + n) (by omega) (by omega) ?_
  have k1 : (mK (nK M (.inl (.long, n))))[N]? = some (.inl (.long, n)) := by rw [← hN]; exact new_at M _
  have i1 : mL (nK M (.inl (.long, n))) N = fun _ => 0 := by rw [← hN]; exact new_L M _
  have l1 : (mK (nK M (.inl (.long, n)))).length = N + 1 := by rw [← hN]; exact new_l M _
  have X1 : Xn M (nK M (.inl (.long, n))) := (Xt.rf _ M).nK _
  have hd1 := X1.k hd
  have hz1 := (congrFun (X1.I (k_lt hd) id) 0).trans hz
  refine g_newarray_long (pc := 4) dX7_solve_4 wd_1292 rfl (by omega) hx ?_
  rw [hN]
  generalize nK M (.inl (.long, n)) = M1 at *
  refine g_astore (pc := 6) (lv' := [(0, _), (1, _), (2, _), (4, _)]) dX7_solve_6 trivial (nl rfl) rfl ?_
  refine g_aload_n (pc := 8) dX7_solve_8 rfl trivial ?_
  refine g_getf (pc := 9) (v := .int _) dX7_solve_9 fk_X7_22 hd1 (fun _ => congrArg Value.int (hz1)) ?_
  refine g_wk (pc := 12) (k := 0 + 1) (n := 0 + n) (by omega) (by omega) ?_
  have k2 : (mK (nK M1 (.inl (.long, n))))[N + 1]? = some (.inl (.long, n)) := by rw [← l1]; exact new_at M1 _
  have i2 : mL (nK M1 (.inl (.long, n))) (N + 1) = fun _ => 0 := by rw [← l1]; exact new_L M1 _
  have X2 : Xn M1 (nK M1 (.inl (.long, n))) := (Xt.rf _ M1).nK _
  have k2' := X2.k k1
  have i2' := (X2.L (k_lt k1) id).trans i1
  have hd2 := X2.k hd1
  have hz2 := (congrFun (X2.I (k_lt hd1) id) 0).trans hz1
  have XM := X1.tr X2
  have hm2 : Mt (nK M1 (.inl (.long, n))) m n rw9 (fB f) := hm.xt XM id (fun _ _ => id)
  refine g_newarray_long (pc := 12) dX7_solve_12 wd_1292 rfl (by omega) (X1.2.1.trans hx) ?_
  rw [l1]
  generalize nK M1 (.inl (.long, n)) = M2 at *
  have cl0 : ∀ {My : Mem}, Xt (fun i => N ≤ i) M2 My → (mK My)[d]? = some (.inr 7) ∧ mI My d 0 = nI n ∧ Mt My m n rw9 (fB f) := fun {My} h => ⟨h.k hd2, (congrFun (h.I (k_lt hd2) (by omega)) 0).trans hz2, hm2.xt h (by omega) (fun r hr => by have := hml.2 r hr; omega)⟩
  have L0 : LDm M2 N (N + 1) n (fun _ => 0, fun _ => 0) := ⟨k2', k2, fun r _ => ⟨congrFun i2' r, congrFun i2 r, Nat.pow_pos (by decide), (show 0 < 512 by decide)⟩⟩
  refine g_astore (pc := 14) (lv' := [(0, _), (1, _), (2, _), (4, _), (5, _)]) dX7_solve_14 trivial (nl rfl) rfl ?_
  refine g_iconst (pc := 16) (v := 0) dX7_solve_16 rfl ?_
  refine g_istore (pc := 17) (lv' := [(0, _), (1, _), (2, _), (4, _), (5, _), (6, _)]) dX7_solve_17 (nl rfl) rfl ?_
  refine go_forS (pc := 19) n (fun c (_ : Mem) => [(0, .ref d), (1, .ref m), (2, .long (oL x)), (4, .ref N), (5, .ref (N + 1)), (6, .int (nI c))]) (fun z => z) (fun c My => Xt (fun i => N ≤ i) M2 My ∧ LDm My N (N + 1) n (zli f n c)) (fun _ => 0) (fun _ => 0) M2 ⟨rfl, rfl, rfl, rfl, rfl, rfl, trivial⟩ rfl rfl rfl ⟨Xt.rf _ M2, L0⟩ ?_ ?_
  · rintro c My hc ⟨g1, g2⟩ ih
    obtain ⟨hd9, hz9, hm9⟩ := cl0 g1
    generalize hs : zli f n c = s at *
    have hsl : ∀ r, r < n → s.1 r < 2 ^ n ∧ s.2 r < 512 := fun r hr => (g2.2.2 r hr).2.2
    have hv0 : nbN (fun r => hb (f r) c) n < 2 ^ n := nb_lt n
    refine g_iload (pc := 19) dX7_solve_19 rfl ?_
    refine g_aload_n (pc := 21) dX7_solve_21 rfl trivial ?_
    refine g_getf (pc := 22) (v := .int _) dX7_solve_22 fk_X7_22 hd9 (fun _ => congrArg Value.int (hz9)) ?_
    refine g_icmp_ge (pc := 25) (tgt := 177) dX7_solve_25 rfl (fun h25 => absurd h25 (nI_ge hc (by omega))) (fun _ => ?_)
    refine g_lconst (pc := 28) (v := 0) dX7_solve_28 rfl ?_
    refine g_lstore (pc := 29) (lv' := [(0, _), (1, _), (2, _), (4, _), (5, _), (6, _), (7, _)]) dX7_solve_29 (nl rfl) rfl ?_
    refine g_iconst (pc := 31) (v := 0) dX7_solve_31 rfl ?_
    refine g_istore (pc := 32) (lv' := [(0, _), (1, _), (2, _), (4, _), (5, _), (6, _), (7, _), (9, _)]) dX7_solve_32 (nl rfl) rfl ?_
    refine go_loop (pc := 34) n (fun r => [(0, .ref d), (1, .ref m), (2, .long (oL x)), (4, .ref N), (5, .ref (N + 1)), (6, .int (nI c)), (7, .long (oL (nbN (fun r => hb (f r) c) r))), (9, .int (nI r))]) (fun _ => My) ⟨rfl, rfl, rfl, rfl, rfl, rfl, rfl, rfl, trivial⟩ rfl ?_ ?_
    · intro r hr ih2
      have hv := (hm9.2 r hr).2.2 c hc
      have e1 : nbN (fun r => hb (f r) c) (r + 1) = nbN (fun r => hb (f r) c) r ||| (if hb (f r) c = true then 2 ^ r else 0) := rfl
      rw [e1] at ih2
      generalize nbN (fun r => hb (f r) c) r = w at *
      cases hf : hb (f r) c
      · rw [show fB f r c = false from hf] at hv
        rw [hf, if_neg (by decide), Nat.or_zero] at ih2
        refine g_iload (pc := 34) dX7_solve_34 rfl ?_
        refine g_aload_n (pc := 36) dX7_solve_36 rfl trivial ?_
        refine g_getf (pc := 37) (v := .int _) dX7_solve_37 fk_X7_22 hd9 (fun _ => congrArg Value.int (hz9)) ?_
        refine g_icmp_ge (pc := 40) (tgt := 72) dX7_solve_40 rfl (fun h40 => absurd h40 (nI_ge hr (by omega))) (fun _ => ?_)
        refine g_lload (pc := 43) dX7_solve_43 rfl ?_
        refine g_aload_n (pc := 45) dX7_solve_45 rfl trivial ?_
        refine g_iload (pc := 46) dX7_solve_46 rfl ?_
        refine g_aaload_Z1 (pc := 48) dX7_solve_48 hm9.1 rfl hr (by omega) (hm9.2 r hr).1 ?_
        refine g_iload (pc := 49) dX7_solve_49 rfl ?_
        refine g_zaload (pc := 51) dX7_solve_51 (hm9.2 r hr).2.1 rfl hc (by omega) ?_
        rw [hv]
        refine g_if_eq (pc := 52) (tgt := 62) dX7_solve_52 rfl (fun _ => ?_) (fun h52 => absurd (rfl) h52)
        refine g_lconst (pc := 62) (v := 0) dX7_solve_62 rfl ?_
        refine g_lor (pc := 63) dX7_solve_63 ?_
        rw [or_0]
        refine g_lstore (pc := 64) (lv' := [(0, _), (1, _), (2, _), (4, _), (5, _), (6, _), (7, _), (9, _)]) dX7_solve_64 (nl rfl) rfl ?_
        refine g_iinc (pc := 66) (lv' := [(0, _), (1, _), (2, _), (4, _), (5, _), (6, _), (7, _), (9, _)]) dX7_solve_66 rfl (nI_1 _) (nl rfl) rfl ?_
        refine g_goto (pc := 69) (tgt := 34) dX7_solve_69 rfl ?_
        exact g_subk ih2 ⟨rfl, rfl, rfl, rfl, rfl, rfl, rfl, rfl, trivial⟩
      · rw [show fB f r c = true from hf] at hv
        rw [hf, if_pos rfl] at ih2
        refine g_iload (pc := 34) dX7_solve_34 rfl ?_
        refine g_aload_n (pc := 36) dX7_solve_36 rfl trivial ?_
        refine g_getf (pc := 37) (v := .int _) dX7_solve_37 fk_X7_22 hd9 (fun _ => congrArg Value.int (hz9)) ?_
        refine g_icmp_ge (pc := 40) (tgt := 72) dX7_solve_40 rfl (fun h40 => absurd h40 (nI_ge hr (by omega))) (fun _ => ?_)
        refine g_lload (pc := 43) dX7_solve_43 rfl ?_
        refine g_aload_n (pc := 45) dX7_solve_45 rfl trivial ?_
        refine g_iload (pc := 46) dX7_solve_46 rfl ?_
        refine g_aaload_Z1 (pc := 48) dX7_solve_48 hm9.1 rfl hr (by omega) (hm9.2 r hr).1 ?_
        refine g_iload (pc := 49) dX7_solve_49 rfl ?_
        refine g_zaload (pc := 51) dX7_solve_51 (hm9.2 r hr).2.1 rfl hc (by omega) ?_
        rw [hv]
        refine g_if_eq (pc := 52) (tgt := 62) dX7_solve_52 rfl (fun h52 => absurd h52 ((by decide))) (fun _ => ?_)
        refine g_lconst (pc := 55) (v := 1) dX7_solve_55 rfl ?_
        refine g_iload (pc := 56) dX7_solve_56 rfl ?_
        refine g_lshl (pc := 58) dX7_solve_58 (oL_s r (by omega)) ?_
        refine g_goto (pc := 59) (tgt := 63) dX7_solve_59 rfl ?_
        refine g_lor (pc := 63) dX7_solve_63 ?_
        rw [oL_o]
        refine g_lstore (pc := 64) (lv' := [(0, _), (1, _), (2, _), (4, _), (5, _), (6, _), (7, _), (9, _)]) dX7_solve_64 (nl rfl) rfl ?_
        refine g_iinc (pc := 66) (lv' := [(0, _), (1, _), (2, _), (4, _), (5, _), (6, _), (7, _), (9, _)]) dX7_solve_66 rfl (nI_1 _) (nl rfl) rfl ?_
        refine g_goto (pc := 69) (tgt := 34) dX7_solve_69 rfl ?_
        exact g_subk ih2 ⟨rfl, rfl, rfl, rfl, rfl, rfl, rfl, rfl, trivial⟩
    · refine g_iload (pc := 34) dX7_solve_34 rfl ?_
      refine g_aload_n (pc := 36) dX7_solve_36 rfl trivial ?_
      refine g_getf (pc := 37) (v := .int _) dX7_solve_37 fk_X7_22 hd9 (fun _ => congrArg Value.int (hz9)) ?_
      refine g_icmp_ge (pc := 40) (tgt := 72) dX7_solve_40 rfl (fun _ => ?_) (fun h40 => absurd (nI_le (Nat.le_refl _) (by omega)) h40)
      refine g_lconst (pc := 72) (v := 1) dX7_solve_72 rfl ?_
      refine g_iload (pc := 73) dX7_solve_73 rfl ?_
      refine g_lshl (pc := 75) dX7_solve_75 (oL_s c (by omega)) ?_
      refine g_lstore (pc := 76) (lv' := [(0, _), (1, _), (2, _), (4, _), (5, _), (6, _), (7, _), (9, _)]) dX7_solve_76 (nl rfl) rfl ?_
      refine g_iconst (pc := 78) (v := 0) dX7_solve_78 rfl ?_
      refine g_istore (pc := 79) (lv' := [(0, _), (1, _), (2, _), (4, _), (5, _), (6, _), (7, _), (9, _), (11, _)]) dX7_solve_79 (nl rfl) rfl ?_
      refine go_loop (pc := 81) n (fun r => [(0, .ref d), (1, .ref m), (2, .long (oL x)), (4, .ref N), (5, .ref (N + 1)), (6, .int (nI c)), (7, .long (oL (zrd s (nbN (fun r => hb (f r) c) n, 2 ^ c) r).1)), (9, .long (oL (zrd s (nbN (fun r => hb (f r) c) n, 2 ^ c) r).2)), (11, .int (nI r))]) (fun _ => My) ⟨rfl, rfl, rfl, rfl, rfl, rfl, rfl, rfl, rfl, trivial⟩ rfl ?_ ?_
      · intro r hr ih2
        obtain ⟨b1', b2⟩ := zrd_lt hsl ⟨hv0, p2_lt (by omega)⟩ r (Nat.le_of_lt hr) (p := (nbN (fun r => hb (f r) c) n, 2 ^ c))
        obtain ⟨v1, v2, v3, v4⟩ := g2.2.2 r hr
        have e1 : zrd s (nbN (fun r => hb (f r) c) n, 2 ^ c) (r + 1) = if (zrd s (nbN (fun r => hb (f r) c) n, 2 ^ c) r).1.testBit r = true ∧ s.1 r ≠ 0 then ((zrd s (nbN (fun r => hb (f r) c) n, 2 ^ c) r).1 ^^^ s.1 r, (zrd s (nbN (fun r => hb (f r) c) n, 2 ^ c) r).2 ^^^ s.2 r) else zrd s (nbN (fun r => hb (f r) c) n, 2 ^ c) r := rfl
        rw [e1] at ih2
        generalize zrd s (nbN (fun r => hb (f r) c) n, 2 ^ c) r = p at *
        have hbit := oL_t9 r (by omega) p.1 (h9 b1')
        cases hf : p.1.testBit r
        · rw [hf, if_neg (by decide)] at hbit
          rw [hf, if_neg (fun z => by cases z.1)] at ih2
          refine g_iload (pc := 81) dX7_solve_81 rfl ?_
          refine g_aload_n (pc := 83) dX7_solve_83 rfl trivial ?_
          refine g_getf (pc := 84) (v := .int _) dX7_solve_84 fk_X7_22 hd9 (fun _ => congrArg Value.int (hz9)) ?_
          refine g_icmp_ge (pc := 87) (tgt := 141) dX7_solve_87 rfl (fun h87 => absurd h87 (nI_ge hr (by omega))) (fun _ => ?_)
          refine g_lload (pc := 90) dX7_solve_90 rfl ?_
          refine g_iload (pc := 92) dX7_solve_92 rfl ?_
          refine g_lshr (pc := 94) dX7_solve_94 rfl ?_
          refine g_lconst (pc := 95) (v := 1) dX7_solve_95 rfl ?_
          refine g_land (pc := 96) dX7_solve_96 ?_
          rw [hbit]
          refine g_lconst (pc := 97) (v := 0) dX7_solve_97 rfl ?_
          refine g_lcmp (pc := 98) dX7_solve_98 ?_
          refine g_if_eq (pc := 99) (tgt := 135) dX7_solve_99 rfl (fun _ => ?_) (fun h99 => absurd ((by decide)) h99)
          refine g_iinc (pc := 135) (lv' := [(0, _), (1, _), (2, _), (4, _), (5, _), (6, _), (7, _), (9, _), (11, _)]) dX7_solve_135 rfl (nI_1 _) (nl rfl) rfl ?_
          refine g_goto (pc := 138) (tgt := 81) dX7_solve_138 rfl ?_
          exact g_subk ih2 ⟨rfl, rfl, rfl, rfl, rfl, rfl, rfl, rfl, rfl, trivial⟩
        · rw [hf, if_pos rfl] at hbit
          by_cases h0 : s.1 r = 0
          · rw [if_neg (fun z => z.2 h0)] at ih2
            rw [h0] at v1
            refine g_iload (pc := 81) dX7_solve_81 rfl ?_
            refine g_aload_n (pc := 83) dX7_solve_83 rfl trivial ?_
            refine g_getf (pc := 84) (v := .int _) dX7_solve_84 fk_X7_22 hd9 (fun _ => congrArg Value.int (hz9)) ?_
            refine g_icmp_ge (pc := 87) (tgt := 141) dX7_solve_87 rfl (fun h87 => absurd h87 (nI_ge hr (by omega))) (fun _ => ?_)
            refine g_lload (pc := 90) dX7_solve_90 rfl ?_
            refine g_iload (pc := 92) dX7_solve_92 rfl ?_
            refine g_lshr (pc := 94) dX7_solve_94 rfl ?_
            refine g_lconst (pc := 95) (v := 1) dX7_solve_95 rfl ?_
            refine g_land (pc := 96) dX7_solve_96 ?_
            rw [hbit]
            refine g_lconst (pc := 97) (v := 0) dX7_solve_97 rfl ?_
            refine g_lcmp (pc := 98) dX7_solve_98 ?_
            refine g_if_eq (pc := 99) (tgt := 135) dX7_solve_99 rfl (fun h99 => absurd h99 ((by decide))) (fun _ => ?_)
            refine g_aload (pc := 102) dX7_solve_102 rfl trivial ?_
            refine g_iload (pc := 104) dX7_solve_104 rfl ?_
            refine g_laload (pc := 106) dX7_solve_106 g2.1 rfl hr (by omega) ?_
            rw [v1]
            refine g_lconst (pc := 107) (v := 0) dX7_solve_107 rfl ?_
            refine g_lcmp (pc := 108) dX7_solve_108 ?_
            refine g_if_ne (pc := 109) (tgt := 115) dX7_solve_109 rfl (fun h109 => absurd h109 ((fun z => z ((oL_0 0 (by decide)).mpr rfl)))) (fun _ => ?_)
            refine g_goto (pc := 112) (tgt := 135) dX7_solve_112 rfl ?_
            refine g_iinc (pc := 135) (lv' := [(0, _), (1, _), (2, _), (4, _), (5, _), (6, _), (7, _), (9, _), (11, _)]) dX7_solve_135 rfl (nI_1 _) (nl rfl) rfl ?_
            refine g_goto (pc := 138) (tgt := 81) dX7_solve_138 rfl ?_
            exact g_subk ih2 ⟨rfl, rfl, rfl, rfl, rfl, rfl, rfl, rfl, rfl, trivial⟩
          · rw [hf, if_pos ⟨rfl, h0⟩] at ih2
            refine g_iload (pc := 81) dX7_solve_81 rfl ?_
            refine g_aload_n (pc := 83) dX7_solve_83 rfl trivial ?_
            refine g_getf (pc := 84) (v := .int _) dX7_solve_84 fk_X7_22 hd9 (fun _ => congrArg Value.int (hz9)) ?_
            refine g_icmp_ge (pc := 87) (tgt := 141) dX7_solve_87 rfl (fun h87 => absurd h87 (nI_ge hr (by omega))) (fun _ => ?_)
            refine g_lload (pc := 90) dX7_solve_90 rfl ?_
            refine g_iload (pc := 92) dX7_solve_92 rfl ?_
            refine g_lshr (pc := 94) dX7_solve_94 rfl ?_
            refine g_lconst (pc := 95) (v := 1) dX7_solve_95 rfl ?_
            refine g_land (pc := 96) dX7_solve_96 ?_
            rw [hbit]
            refine g_lconst (pc := 97) (v := 0) dX7_solve_97 rfl ?_
            refine g_lcmp (pc := 98) dX7_solve_98 ?_
            refine g_if_eq (pc := 99) (tgt := 135) dX7_solve_99 rfl (fun h99 => absurd h99 ((by decide))) (fun _ => ?_)
            refine g_aload (pc := 102) dX7_solve_102 rfl trivial ?_
            refine g_iload (pc := 104) dX7_solve_104 rfl ?_
            refine g_laload (pc := 106) dX7_solve_106 g2.1 rfl hr (by omega) ?_
            rw [v1]
            refine g_lconst (pc := 107) (v := 0) dX7_solve_107 rfl ?_
            refine g_lcmp (pc := 108) dX7_solve_108 ?_
            refine g_if_ne (pc := 109) (tgt := 115) dX7_solve_109 rfl (fun _ => ?_) (fun h109 => absurd ((fun z => h0 ((oL_0 _ (h9 v3)).mp z))) h109)
            refine g_lload (pc := 115) dX7_solve_115 rfl ?_
            refine g_aload (pc := 117) dX7_solve_117 rfl trivial ?_
            refine g_iload (pc := 119) dX7_solve_119 rfl ?_
            refine g_laload (pc := 121) dX7_solve_121 g2.1 rfl hr (by omega) ?_
            rw [v1]
            refine g_lxor (pc := 122) dX7_solve_122 ?_
            rw [oL_x]
            refine g_lstore (pc := 123) (lv' := [(0, _), (1, _), (2, _), (4, _), (5, _), (6, _), (7, _), (9, _), (11, _)]) dX7_solve_123 (nl rfl) rfl ?_
            refine g_lload (pc := 125) dX7_solve_125 rfl ?_
            refine g_aload (pc := 127) dX7_solve_127 rfl trivial ?_
            refine g_iload (pc := 129) dX7_solve_129 rfl ?_
            refine g_laload (pc := 131) dX7_solve_131 g2.2.1 rfl hr (by omega) ?_
            rw [v2]
            refine g_lxor (pc := 132) dX7_solve_132 ?_
            rw [oL_x]
            refine g_lstore (pc := 133) (lv' := [(0, _), (1, _), (2, _), (4, _), (5, _), (6, _), (7, _), (9, _), (11, _)]) dX7_solve_133 (nl rfl) rfl ?_
            refine g_iinc (pc := 135) (lv' := [(0, _), (1, _), (2, _), (4, _), (5, _), (6, _), (7, _), (9, _), (11, _)]) dX7_solve_135 rfl (nI_1 _) (nl rfl) rfl ?_
            refine g_goto (pc := 138) (tgt := 81) dX7_solve_138 rfl ?_
            exact g_subk ih2 ⟨rfl, rfl, rfl, rfl, rfl, rfl, rfl, rfl, rfl, trivial⟩
      · obtain ⟨b1', b2⟩ := zrd_lt hsl ⟨hv0, p2_lt (by omega)⟩ n (Nat.le_refl n) (p := (nbN (fun r => hb (f r) c) n, 2 ^ c))
        have hlt9 := fun e => low_ok (n := n) (x := (zrd s (nbN (fun r => hb (f r) c) n, 2 ^ c) n).1) e
        have e1 : zli f n (c + 1) = if (zrd s (nbN (fun r => hb (f r) c) n, 2 ^ c) n).1 = 0 then s else (fun_set s.1 (lowB (zrd s (nbN (fun r => hb (f r) c) n, 2 ^ c) n).1 n 0) (zrd s (nbN (fun r => hb (f r) c) n, 2 ^ c) n).1, fun_set s.2 (lowB (zrd s (nbN (fun r => hb (f r) c) n, 2 ^ c) n).1 n 0) (zrd s (nbN (fun r => hb (f r) c) n, 2 ^ c) n).2) := by
          show zsv f n (zli f n c) c = _
          rw [hs]
          rfl
        generalize zrd s (nbN (fun r => hb (f r) c) n, 2 ^ c) n = p at *
        by_cases h0 : p.1 = 0
        · rw [if_pos h0] at e1
          rw [h0]
          refine g_iload (pc := 81) dX7_solve_81 rfl ?_
          refine g_aload_n (pc := 83) dX7_solve_83 rfl trivial ?_
          refine g_getf (pc := 84) (v := .int _) dX7_solve_84 fk_X7_22 hd9 (fun _ => congrArg Value.int (hz9)) ?_
          refine g_icmp_ge (pc := 87) (tgt := 141) dX7_solve_87 rfl (fun _ => ?_) (fun h87 => absurd (nI_le (Nat.le_refl _) (by omega)) h87)
          refine g_lload (pc := 141) dX7_solve_141 rfl ?_
          refine g_lconst (pc := 143) (v := 0) dX7_solve_143 rfl ?_
          refine g_lcmp (pc := 144) dX7_solve_144 ?_
          refine g_if_ne (pc := 145) (tgt := 151) dX7_solve_145 rfl (fun h145 => absurd h145 ((fun z => z ((oL_0 0 (by decide)).mpr rfl)))) (fun _ => ?_)
          refine g_goto (pc := 148) (tgt := 171) dX7_solve_148 rfl ?_
          refine g_iinc (pc := 171) (lv' := [(0, _), (1, _), (2, _), (4, _), (5, _), (6, _), (7, _), (9, _), (11, _)]) dX7_solve_171 rfl (nI_1 _) (nl rfl) rfl ?_
          refine g_goto (pc := 174) (tgt := 19) dX7_solve_174 rfl ?_
          exact g_subk (ih My ⟨g1, by rw [e1]; exact g2⟩) ⟨rfl, rfl, rfl, rfl, rfl, rfl, trivial⟩
        · rw [if_neg h0] at e1
          obtain ⟨q1, q2, q3⟩ := hlt9 b1' h0
          obtain ⟨q4, q5⟩ := oL_n (show lowB p.1 n 0 < 9 by omega) (h9 b1') q2 q3
          have hset := g2.set (Nat.ne_of_lt (Nat.lt_succ_self N)) q1 b1' b2
          refine g_iload (pc := 81) dX7_solve_81 rfl ?_
          refine g_aload_n (pc := 83) dX7_solve_83 rfl trivial ?_
          refine g_getf (pc := 84) (v := .int _) dX7_solve_84 fk_X7_22 hd9 (fun _ => congrArg Value.int (hz9)) ?_
          refine g_icmp_ge (pc := 87) (tgt := 141) dX7_solve_87 rfl (fun _ => ?_) (fun h87 => absurd (nI_le (Nat.le_refl _) (by omega)) h87)
          refine g_lload (pc := 141) dX7_solve_141 rfl ?_
          refine g_lconst (pc := 143) (v := 0) dX7_solve_143 rfl ?_
          refine g_lcmp (pc := 144) dX7_solve_144 ?_
          refine g_if_ne (pc := 145) (tgt := 151) dX7_solve_145 rfl (fun _ => ?_) (fun h145 => absurd ((fun z => h0 ((oL_0 _ (h9 b1')).mp z))) h145)
          refine g_aload (pc := 151) dX7_solve_151 rfl trivial ?_
          refine g_lload (pc := 153) dX7_solve_153 rfl ?_
          refine g_invS_r (pc := 155) (As := [_]) dX7_solve_155 rfl (k_ntz (by omega) q4 q5) rfl rfl lk_X7_77 rfl (nb rfl) ⟨nb rfl, nb rfl⟩ rfl ?_
          refine g_lload (pc := 158) dX7_solve_158 rfl ?_
          refine g_lastore (pc := 160) dX7_solve_160 g2.1 rfl q1 (by omega) ?_
          refine g_aload (pc := 161) dX7_solve_161 rfl trivial ?_
          refine g_lload (pc := 163) dX7_solve_163 rfl ?_
          refine g_invS_r (pc := 165) (As := [_]) dX7_solve_165 rfl (k_ntz (by omega) q4 q5) rfl rfl lk_X7_77 rfl (nb rfl) ⟨nb rfl, nb rfl⟩ rfl ?_
          refine g_lload (pc := 168) dX7_solve_168 rfl ?_
          refine g_lastore (pc := 170) dX7_solve_170 g2.2.1 rfl q1 (by omega) ?_
          refine g_iinc (pc := 171) (lv' := [(0, _), (1, _), (2, _), (4, _), (5, _), (6, _), (7, _), (9, _), (11, _)]) dX7_solve_171 rfl (nI_1 _) (nl rfl) rfl ?_
          refine g_goto (pc := 174) (tgt := 19) dX7_solve_174 rfl ?_
          exact g_subk (ih _ ⟨(g1.sL (fun _ => Nat.le_refl N)).sL (fun _ => Nat.le_succ N), by rw [e1]; exact hset⟩) ⟨rfl, rfl, rfl, rfl, rfl, rfl, trivial⟩
  · rintro My ⟨g1, g2⟩
    obtain ⟨hd9, hz9, hm9⟩ := cl0 g1
    have hsl : ∀ r, r < n → (zli f n n).1 r < 2 ^ n ∧ (zli f n n).2 r < 512 := fun r hr => (g2.2.2 r hr).2.2
    refine g_iload (pc := 19) dX7_solve_19 rfl ?_
    refine g_aload_n (pc := 21) dX7_solve_21 rfl trivial ?_
    refine g_getf (pc := 22) (v := .int _) dX7_solve_22 fk_X7_22 hd9 (fun _ => congrArg Value.int (hz9)) ?_
    refine g_icmp_ge (pc := 25) (tgt := 177) dX7_solve_25 rfl (fun _ => ?_) (fun h25 => absurd (nI_le (Nat.le_refl _) (by omega)) h25)
    refine g_lload_n (pc := 177) dX7_solve_177 rfl ?_
    refine g_lconst (pc := 178) (v := 1) dX7_solve_178 rfl ?_
    refine g_aload_n (pc := 179) dX7_solve_179 rfl trivial ?_
    refine g_getf (pc := 180) (v := .int _) dX7_solve_180 fk_X7_22 hd9 (fun _ => congrArg Value.int (hz9)) ?_
    refine g_lshl (pc := 183) dX7_solve_183 rfl ?_
    refine g_lconst (pc := 184) (v := 1) dX7_solve_184 rfl ?_
    refine g_lsub (pc := 185) dX7_solve_185 ?_
    refine g_land (pc := 186) dX7_solve_186 ?_
    rw [oL_m n (by omega) x h512 hxn]
    refine g_lstore (pc := 187) (lv' := [(0, _), (1, _), (2, _), (4, _), (5, _), (6, _)]) dX7_solve_187 (nl rfl) rfl ?_
    refine g_lconst (pc := 189) (v := 0) dX7_solve_189 rfl ?_
    refine g_lstore (pc := 190) (lv' := [(0, _), (1, _), (2, _), (4, _), (5, _), (6, _), (8, _)]) dX7_solve_190 (nl rfl) rfl ?_
    refine g_iconst (pc := 192) (v := 0) dX7_solve_192 rfl ?_
    refine g_istore (pc := 193) (lv' := [(0, _), (1, _), (2, _), (4, _), (5, _), (6, _), (8, _), (10, _)]) dX7_solve_193 (nl rfl) rfl ?_
    refine go_loop (pc := 195) n (fun r => [(0, .ref d), (1, .ref m), (4, .ref N), (5, .ref (N + 1)), (6, .long (oL (zrd (zli f n n) (x, 0) r).1)), (8, .long (oL (zrd (zli f n n) (x, 0) r).2)), (10, .int (nI r))]) (fun _ => My) ⟨rfl, rfl, rfl, rfl, rfl, rfl, rfl, trivial⟩ rfl ?_ ?_
    · intro r hr ih2
      obtain ⟨b1', b2⟩ := zrd_lt hsl ⟨hxn, (show 0 < 512 by decide)⟩ r (Nat.le_of_lt hr) (p := (x, 0))
      obtain ⟨v1, v2, v3, v4⟩ := g2.2.2 r hr
      have e1 : zrd (zli f n n) (x, 0) (r + 1) = if (zrd (zli f n n) (x, 0) r).1.testBit r = true ∧ (zli f n n).1 r ≠ 0 then ((zrd (zli f n n) (x, 0) r).1 ^^^ (zli f n n).1 r, (zrd (zli f n n) (x, 0) r).2 ^^^ (zli f n n).2 r) else zrd (zli f n n) (x, 0) r := rfl
      rw [e1] at ih2
      generalize zrd (zli f n n) (x, 0) r = p at *
      have hbit := oL_t9 r (by omega) p.1 (h9 b1')
      cases hf : p.1.testBit r
      · rw [hf, if_neg (by decide)] at hbit
        rw [hf, if_neg (fun z => by cases z.1)] at ih2
        refine g_iload (pc := 195) dX7_solve_195 rfl ?_
        refine g_aload_n (pc := 197) dX7_solve_197 rfl trivial ?_
        refine g_getf (pc := 198) (v := .int _) dX7_solve_198 fk_X7_22 hd9 (fun _ => congrArg Value.int (hz9)) ?_
        refine g_icmp_ge (pc := 201) (tgt := 255) dX7_solve_201 rfl (fun h201 => absurd h201 (nI_ge hr (by omega))) (fun _ => ?_)
        refine g_lload (pc := 204) dX7_solve_204 rfl ?_
        refine g_iload (pc := 206) dX7_solve_206 rfl ?_
        refine g_lshr (pc := 208) dX7_solve_208 rfl ?_
        refine g_lconst (pc := 209) (v := 1) dX7_solve_209 rfl ?_
        refine g_land (pc := 210) dX7_solve_210 ?_
        rw [hbit]
        refine g_lconst (pc := 211) (v := 0) dX7_solve_211 rfl ?_
        refine g_lcmp (pc := 212) dX7_solve_212 ?_
        refine g_if_eq (pc := 213) (tgt := 249) dX7_solve_213 rfl (fun _ => ?_) (fun h213 => absurd ((by decide)) h213)
        refine g_iinc (pc := 249) (lv' := [(0, _), (1, _), (4, _), (5, _), (6, _), (8, _), (10, _)]) dX7_solve_249 rfl (nI_1 _) (nl rfl) rfl ?_
        refine g_goto (pc := 252) (tgt := 195) dX7_solve_252 rfl ?_
        exact g_subk ih2 ⟨rfl, rfl, rfl, rfl, rfl, rfl, rfl, trivial⟩
      · rw [hf, if_pos rfl] at hbit
        by_cases h0 : (zli f n n).1 r = 0
        · rw [if_neg (fun z => z.2 h0)] at ih2
          rw [h0] at v1
          refine g_iload (pc := 195) dX7_solve_195 rfl ?_
          refine g_aload_n (pc := 197) dX7_solve_197 rfl trivial ?_
          refine g_getf (pc := 198) (v := .int _) dX7_solve_198 fk_X7_22 hd9 (fun _ => congrArg Value.int (hz9)) ?_
          refine g_icmp_ge (pc := 201) (tgt := 255) dX7_solve_201 rfl (fun h201 => absurd h201 (nI_ge hr (by omega))) (fun _ => ?_)
          refine g_lload (pc := 204) dX7_solve_204 rfl ?_
          refine g_iload (pc := 206) dX7_solve_206 rfl ?_
          refine g_lshr (pc := 208) dX7_solve_208 rfl ?_
          refine g_lconst (pc := 209) (v := 1) dX7_solve_209 rfl ?_
          refine g_land (pc := 210) dX7_solve_210 ?_
          rw [hbit]
          refine g_lconst (pc := 211) (v := 0) dX7_solve_211 rfl ?_
          refine g_lcmp (pc := 212) dX7_solve_212 ?_
          refine g_if_eq (pc := 213) (tgt := 249) dX7_solve_213 rfl (fun h213 => absurd h213 ((by decide))) (fun _ => ?_)
          refine g_aload (pc := 216) dX7_solve_216 rfl trivial ?_
          refine g_iload (pc := 218) dX7_solve_218 rfl ?_
          refine g_laload (pc := 220) dX7_solve_220 g2.1 rfl hr (by omega) ?_
          rw [v1]
          refine g_lconst (pc := 221) (v := 0) dX7_solve_221 rfl ?_
          refine g_lcmp (pc := 222) dX7_solve_222 ?_
          refine g_if_ne (pc := 223) (tgt := 229) dX7_solve_223 rfl (fun h223 => absurd h223 ((fun z => z ((oL_0 0 (by decide)).mpr rfl)))) (fun _ => ?_)
          refine g_goto (pc := 226) (tgt := 249) dX7_solve_226 rfl ?_
          refine g_iinc (pc := 249) (lv' := [(0, _), (1, _), (4, _), (5, _), (6, _), (8, _), (10, _)]) dX7_solve_249 rfl (nI_1 _) (nl rfl) rfl ?_
          refine g_goto (pc := 252) (tgt := 195) dX7_solve_252 rfl ?_
          exact g_subk ih2 ⟨rfl, rfl, rfl, rfl, rfl, rfl, rfl, trivial⟩
        · rw [hf, if_pos ⟨rfl, h0⟩] at ih2
          refine g_iload (pc := 195) dX7_solve_195 rfl ?_
          refine g_aload_n (pc := 197) dX7_solve_197 rfl trivial ?_
          refine g_getf (pc := 198) (v := .int _) dX7_solve_198 fk_X7_22 hd9 (fun _ => congrArg Value.int (hz9)) ?_
          refine g_icmp_ge (pc := 201) (tgt := 255) dX7_solve_201 rfl (fun h201 => absurd h201 (nI_ge hr (by omega))) (fun _ => ?_)
          refine g_lload (pc := 204) dX7_solve_204 rfl ?_
          refine g_iload (pc := 206) dX7_solve_206 rfl ?_
          refine g_lshr (pc := 208) dX7_solve_208 rfl ?_
          refine g_lconst (pc := 209) (v := 1) dX7_solve_209 rfl ?_
          refine g_land (pc := 210) dX7_solve_210 ?_
          rw [hbit]
          refine g_lconst (pc := 211) (v := 0) dX7_solve_211 rfl ?_
          refine g_lcmp (pc := 212) dX7_solve_212 ?_
          refine g_if_eq (pc := 213) (tgt := 249) dX7_solve_213 rfl (fun h213 => absurd h213 ((by decide))) (fun _ => ?_)
          refine g_aload (pc := 216) dX7_solve_216 rfl trivial ?_
          refine g_iload (pc := 218) dX7_solve_218 rfl ?_
          refine g_laload (pc := 220) dX7_solve_220 g2.1 rfl hr (by omega) ?_
          rw [v1]
          refine g_lconst (pc := 221) (v := 0) dX7_solve_221 rfl ?_
          refine g_lcmp (pc := 222) dX7_solve_222 ?_
          refine g_if_ne (pc := 223) (tgt := 229) dX7_solve_223 rfl (fun _ => ?_) (fun h223 => absurd ((fun z => h0 ((oL_0 _ (h9 v3)).mp z))) h223)
          refine g_lload (pc := 229) dX7_solve_229 rfl ?_
          refine g_aload (pc := 231) dX7_solve_231 rfl trivial ?_
          refine g_iload (pc := 233) dX7_solve_233 rfl ?_
          refine g_laload (pc := 235) dX7_solve_235 g2.1 rfl hr (by omega) ?_
          rw [v1]
          refine g_lxor (pc := 236) dX7_solve_236 ?_
          rw [oL_x]
          refine g_lstore (pc := 237) (lv' := [(0, _), (1, _), (4, _), (5, _), (6, _), (8, _), (10, _)]) dX7_solve_237 (nl rfl) rfl ?_
          refine g_lload (pc := 239) dX7_solve_239 rfl ?_
          refine g_aload (pc := 241) dX7_solve_241 rfl trivial ?_
          refine g_iload (pc := 243) dX7_solve_243 rfl ?_
          refine g_laload (pc := 245) dX7_solve_245 g2.2.1 rfl hr (by omega) ?_
          rw [v2]
          refine g_lxor (pc := 246) dX7_solve_246 ?_
          rw [oL_x]
          refine g_lstore (pc := 247) (lv' := [(0, _), (1, _), (4, _), (5, _), (6, _), (8, _), (10, _)]) dX7_solve_247 (nl rfl) rfl ?_
          refine g_iinc (pc := 249) (lv' := [(0, _), (1, _), (4, _), (5, _), (6, _), (8, _), (10, _)]) dX7_solve_249 rfl (nI_1 _) (nl rfl) rfl ?_
          refine g_goto (pc := 252) (tgt := 195) dX7_solve_252 rfl ?_
          exact g_subk ih2 ⟨rfl, rfl, rfl, rfl, rfl, rfl, rfl, trivial⟩
    · obtain ⟨b1', b2⟩ := zrd_lt hsl ⟨hxn, (show 0 < 512 by decide)⟩ n (Nat.le_refl n) (p := (x, 0))
      have XF := XM.tr' (g1.up (W' := fun i => N ≤ i) (fun _ _ z => z)) (fun i hi z => absurd hi (by omega))
      by_cases h0 : (zrd (zli f n n) (x, 0) n).1 = 0
      · refine g_iload (pc := 195) dX7_solve_195 rfl ?_
        refine g_aload_n (pc := 197) dX7_solve_197 rfl trivial ?_
        refine g_getf (pc := 198) (v := .int _) dX7_solve_198 fk_X7_22 hd9 (fun _ => congrArg Value.int (hz9)) ?_
        refine g_icmp_ge (pc := 201) (tgt := 255) dX7_solve_201 rfl (fun _ => ?_) (fun h201 => absurd (nI_le (Nat.le_refl _) (by omega)) h201)
        refine g_lload (pc := 255) dX7_solve_255 rfl ?_
        rw [h0]
        refine g_lconst (pc := 257) (v := 0) dX7_solve_257 rfl ?_
        refine g_lcmp (pc := 258) dX7_solve_258 ?_
        refine g_if_ne (pc := 259) (tgt := 267) dX7_solve_259 rfl (fun h259 => absurd h259 ((fun z => z ((oL_0 0 (by decide)).mpr rfl)))) (fun _ => ?_)
        refine g_lload (pc := 262) dX7_solve_262 rfl ?_
        refine g_goto (pc := 264) (tgt := 270) dX7_solve_264 rfl ?_
        refine g_lreturn (pc := 270) dX7_solve_270 rfl ?_
        exact ⟨_, rfl, congrArg (fun z => some (Value.long z)) (if_pos h0).symm, b2, XF⟩
      · refine g_iload (pc := 195) dX7_solve_195 rfl ?_
        refine g_aload_n (pc := 197) dX7_solve_197 rfl trivial ?_
        refine g_getf (pc := 198) (v := .int _) dX7_solve_198 fk_X7_22 hd9 (fun _ => congrArg Value.int (hz9)) ?_
        refine g_icmp_ge (pc := 201) (tgt := 255) dX7_solve_201 rfl (fun _ => ?_) (fun h201 => absurd (nI_le (Nat.le_refl _) (by omega)) h201)
        refine g_lload (pc := 255) dX7_solve_255 rfl ?_
        refine g_lconst (pc := 257) (v := 0) dX7_solve_257 rfl ?_
        refine g_lcmp (pc := 258) dX7_solve_258 ?_
        refine g_if_ne (pc := 259) (tgt := 267) dX7_solve_259 rfl (fun _ => ?_) (fun h259 => absurd ((fun z => h0 ((oL_0 _ (h9 b1')).mp z))) h259)
        refine g_ldc2 (pc := 267) dX7_solve_267 wd_x1069 ?_
        refine g_lreturn (pc := 270) dX7_solve_270 rfl ?_
        exact ⟨_, rfl, congrArg (fun z => some (Value.long z)) (if_neg h0).symm, b2, XF⟩
end

