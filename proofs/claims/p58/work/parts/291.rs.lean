/-! the reference: ranks, solutions -/
theorem b1_xor (a b : Bool) : b1 a ^^^ b1 b = b1 (Bool.xor a b) := by cases a <;> cases b <;> decide
/-- right sides are bits, pivots are columns -/
def eOk (n : Nat) (s : ES) : Prop := (∀ r, r < n → ∃ b, s.2.1 r = b1 b) ∧ ∀ j, j < s.2.2.2 → ∃ c, c < n ∧ s.2.2.1 j = nI c
theorem swp_ok {n a b : Nat} {f : Nat → Int32} (ha : a < n) (hb9 : b < n) (h : ∀ r, r < n → ∃ z, f r = b1 z) : ∀ r, r < n → ∃ z, swp f a b r = b1 z := by
  intro r hr
  unfold swp fun_set
  by_cases h1 : r = b
  · rw [if_pos h1]; exact h a ha
  · rw [if_neg h1]
    by_cases h2 : r = a
    · rw [if_pos h2]; exact h b hb9
    · rw [if_neg h2]; exact h r hr
theorem clG_ok {n t c : Nat} {lf rt : Nat → Int32} (ht : t < n) (h : ∀ r, r < n → ∃ b, rt r = b1 b) : ∀ k, ∀ r, r < n → ∃ b, (clG t c lf rt k).2 r = b1 b
  | 0, r, hr => h r hr
  | k + 1, r, hr => by
    rw [clG]
    by_cases h1 : k ≠ t ∧ hb ((clG t c lf rt k).1 k) c = true
    · rw [if_pos h1]
      simp only [fun_set]
      by_cases h2 : r = k
      · rw [if_pos h2]
        obtain ⟨b, hb1⟩ := clG_ok (c := c) (lf := lf) ht h k k (by omega)
        obtain ⟨b', hb2⟩ := clG_ok (c := c) (lf := lf) ht h k t ht
        exact ⟨_, by rw [hb1, hb2, b1_xor]⟩
      · rw [if_neg h2]; exact clG_ok ht h k r hr
    · rw [if_neg h1]; exact clG_ok ht h k r hr
theorem elStep_ok {n c : Nat} {s : ES} (hc : c < n) (h : eOk n s) (hcnt : s.2.2.2 ≤ c) : eOk n (elStep n c s) := by
  unfold elStep
  have hq := rnt_lt s.1 c (n - s.2.2.2) s.2.2.2
  cases hr9 : rnt s.1 c (n - s.2.2.2) s.2.2.2 with
  | none => exact h
  | some q =>
    have := hq q hr9
    refine ⟨clG_ok (by omega) (swp_ok (by omega) (by omega) h.1) n, fun j hj => ?_⟩
    simp only [fun_set] at hj ⊢
    by_cases h1 : j = s.2.2.2
    · rw [if_pos h1]; exact ⟨c, hc, rfl⟩
    · rw [if_neg h1]; exact h.2 j (by omega)
theorem elIt_ok {n : Nat} {s : ES} (h : eOk n s) (h0 : s.2.2.2 = 0) : ∀ c, c ≤ n → eOk n (elIt n s c)
  | 0, _ => h
  | c + 1, hc => by
    have := elIt_c n s c
    rw [elIt]; exact elStep_ok (by omega) (elIt_ok h h0 c (by omega)) (by omega)
theorem sh_b1' : ∀ b : Bool, ∀ c, c < 32 → uL (b1 b) <<< ((nI c).toInt64 &&& 63) = uL (b1 b <<< (nI c &&& 31)) := by decide +kernel
theorem hl_one (y : Int64) {c : Nat} (hc : c < 32) : y >>> ((nI c).toInt64 &&& 63) &&& 1 = uL (b1 (hb y.toInt32 c)) := hl_ext fun i hi => by
  have e : hb y.toInt32 c = hl y c := by
    unfold hb hl
    rw [Int64.toBitVec_toInt32, BitVec.getLsbD_signExtend]
    simp [hc, show c < 64 by omega]
  rw [hl_and, hl_shr _ (by omega) i hi, hl_uL, hb_b1, e]
  by_cases h0 : i = 0
  · subst h0
    rw [if_pos (by omega), show hl 1 0 = true by decide]
    simp
  · rw [(by decide +kernel : ∀ i, i < 64 → i ≠ 0 → hl 1 i = false) i hi h0]
    simp [h0]
theorem uL_m1 (x : Int32) : uL x ≠ -1 := fun h => by
  have h1 := msb_uL x
  rw [h] at h1
  exact absurd h1 (by decide)
section
variable {l : Launch} {M : Mem} {n : Nat} {A : Nat → Nat → Int32}
theorem rb_sL {f : Nat → Int64} {s : ES} : rbM (sL M 209 (wr (mL M 209) f n)) n s = rbM M n s := by
  unfold rbM
  rw [sL_self, sL_ne (show 205 ≠ 209 by decide), wr_wr, sL_comm (show 209 ≠ 205 by decide), sL_2]
def solR (M : Mem) (n : Nat) (f : Nat → Int32) (x : Int32) : ES := elIt n (f, fun i => us x (nI i) &&& 1, mI M 210, 0) n
theorem solR_ok (M : Mem) {n : Nat} (f : Nat → Int32) (x : Int32) (hn : n ≤ 32) : eOk n (solR M n f x) := elIt_ok ⟨fun r hr => ⟨_, bit32 x (by omega)⟩, fun j hj => by simp at hj⟩ rfl n (Nat.le_refl _)
theorem r_solved {s : Nat} {y : Int64} (h : Rr M n A) (hs : s < 6) : EvR l jX7_solved 3 90 0 0 [.ref 198, .int (nI s), .long y] M (.inl (some (.long (if solvB (solR M n (A s) y.toInt32) (n - (solR M n (A s) y.toInt32).2.2.2) (solR M n (A s) y.toInt32).2.2.2 = true then uL (solF (solR M n (A s) y.toInt32) (solR M n (A s) y.toInt32).2.2.2) else -1)))) (rbM M n (solR M n (A s) y.toInt32)) := by
  have hn := h.2.2.2.1
  have hS := h.1
  have hok := solR_ok M (A s) y.toInt32 hn
  have hcnt : (solR M n (A s) y.toInt32).2.2.2 ≤ n := by have := elIt_c n (A s, fun i => us y.toInt32 (nI i) &&& 1, mI M 210, 0) n; unfold solR; simp only at this; omega
  obtain ⟨R, hR⟩ : ∃ R : Nat → Int32, R = fun i => us y.toInt32 (nI i) &&& 1 := ⟨_, rfl⟩
  have hRi : ∀ i, i < n → R i = b1 (hb y.toInt32 i) := fun i hi => by rw [hR]; exact bit32 _ (by omega)
  have h1 : Rr (sL M 209 (wr (mL M 209) (uR R) n)) n A := h.sL (by decide)
  have q1 := r_reduces (l := l) (R := R) h1 hs (fun i hi => by rw [sL_self, wr_lt hi]; rfl)
  rw [rb_sL] at q1
  have q1 : EvR l jX7_reduces 2 60 0 0 [.ref 198, .int (nI s)] (sL M 209 (wr (mL M 209) (uR R) n)) (.inl none) (rbM M n (solR M n (A s) y.toInt32)) := by rw [hR] at q1 ⊢; exact q1
  have h2 := rb_R h (solR M n (A s) y.toInt32)
  generalize solR M n (A s) y.toInt32 = E at *
  have el2 := fun i (hi : i < n) => rb_r (M := M) (s := E) hi
  have ep := rb_p (M := M) (n := n) E
  have ec := rb_c (M := M) (n := n) E
  generalize rbM M n E = M2 at *
  refine ev_intro rfl (nb rfl) rfl ?_
  refine g_iconst (pc := 0) (v := 0) dX7_solved_0 rfl ?_
  refine g_istore (pc := 1) (lv' := [(0, _), (1, _), (2, _), (4, _)]) dX7_solved_1 (nl rfl) rfl ?_
  refine go_loop (pc := 3) n (fun i => [(0, .ref 198), (1, .int (nI s)), (2, .long y), (4, .int (nI i))]) (fun i => sL M 209 (wr (mL M 209) (uR R) i)) ⟨rfl, rfl, rfl, rfl, trivial⟩ (sL_eq (wr_0 _ _)) ?_ ?_
  · intro i hi ih
    have h3 : Rr (sL M 209 (wr (mL M 209) (uR R) i)) n A := h.sL (by decide)
    refine g_iload (pc := 3) dX7_solved_3 rfl ?_
    refine g_aload_n (pc := 5) dX7_solved_5 rfl trivial ?_
    refine g_invV_r (pc := 6) (As := []) dX7_solved_6 rfl (r_size h3) rfl rfl (shK hS rfl) rfl rfl lk_X7_71 rfl (nb rfl) ⟨nb rfl, nb rfl⟩ rfl ?_
    refine g_icmp_ge (pc := 9) (tgt := 31) dX7_solved_9 rfl (fun h9 => absurd h9 (nI_ge hi (by omega))) (fun _ => ?_)
    refine g_aload_n (pc := 12) dX7_solved_12 rfl trivial ?_
    refine g_getf (pc := 13) dX7_solved_13 fk_X7_47 (shK h3.1 rfl) (fv_arr (shR h3.1 rfl)) ?_
    refine g_iload (pc := 16) dX7_solved_16 rfl ?_
    refine g_lload_n (pc := 18) dX7_solved_18 rfl ?_
    refine g_iload (pc := 19) dX7_solved_19 rfl ?_
    refine g_lshr (pc := 21) dX7_solved_21 rfl ?_
    refine g_lconst (pc := 22) (v := 1) dX7_solved_22 rfl ?_
    refine g_land (pc := 23) dX7_solved_23 ?_
    rw [hl_one y (by omega), ← hRi i hi]
    refine g_lastore (pc := 24) dX7_solved_24 (shK h3.1 rfl) rfl (by omega) (nl rfl) ?_
    refine g_iinc (pc := 25) (lv' := [(0, _), (1, _), (2, _), (4, _)]) dX7_solved_25 rfl (nI_1 _) (nl rfl) rfl ?_
    refine g_goto (pc := 28) (tgt := 3) dX7_solved_28 rfl ?_
    exact go_cast (sL_st (wr_s _ (uR R) i)) ih
  · refine g_iload (pc := 3) dX7_solved_3 rfl ?_
    refine g_aload_n (pc := 5) dX7_solved_5 rfl trivial ?_
    refine g_invV_r (pc := 6) (As := []) dX7_solved_6 rfl (r_size h1) rfl rfl (shK hS rfl) rfl rfl lk_X7_71 rfl (nb rfl) ⟨nb rfl, nb rfl⟩ rfl ?_
    refine g_icmp_ge (pc := 9) (tgt := 31) dX7_solved_9 rfl (fun _ => ?_) (fun h9 => absurd (nI_le (Nat.le_refl _) (by omega)) h9)
    refine g_aload_n (pc := 31) dX7_solved_31 rfl trivial ?_
    refine g_iload_n (pc := 32) dX7_solved_32 rfl ?_
    refine g_invV_r (pc := 33) (As := [_]) dX7_solved_33 rfl (q1) rfl rfl (shK h1.1 rfl) rfl rfl lk_X7_303 rfl (nb rfl) ⟨nb rfl, nb rfl⟩ rfl ?_
    refine g_lconst (pc := 36) (v := 0) dX7_solved_36 rfl ?_
    refine g_lstore (pc := 37) (lv' := [(0, _), (1, _), (2, _), (4, _)]) dX7_solved_37 (nl rfl) rfl ?_
    refine g_iconst (pc := 39) (v := 0) dX7_solved_39 rfl ?_
    refine g_istore (pc := 40) (lv' := [(0, _), (1, _), (2, _), (4, _), (6, _)]) dX7_solved_40 (nl rfl) rfl ?_
    refine go_loop (pc := 42) E.2.2.2 (fun i => [(0, .ref 198), (1, .int (nI s)), (4, .long (uL (solF E i))), (6, .int (nI i))]) (fun _ => M2) ⟨rfl, rfl, by show some (Value.long 0) = some (.long (uL 0)); rw [uL_0], rfl, trivial⟩ rfl ?_ ?_
    · intro i hi ih
      obtain ⟨b, hb1⟩ := hok.1 i (by omega)
      obtain ⟨c, hc, hpc⟩ := hok.2 i hi
      rw [solF, hpc, hb1] at ih
      refine g_iload (pc := 42) dX7_solved_42 rfl ?_
      refine g_aload_n (pc := 44) dX7_solved_44 rfl trivial ?_
      refine g_invV_r (pc := 45) (As := []) dX7_solved_45 rfl (r_size h2) rfl rfl (shK h2.1 rfl) rfl rfl lk_X7_71 rfl (nb rfl) ⟨nb rfl, nb rfl⟩ rfl ?_
      refine g_icmp_ge (pc := 48) (tgt := 105) dX7_solved_48 rfl (fun h48 => absurd h48 (nI_ge (show i < n by omega) (by omega))) (fun _ => ?_)
      refine g_iload (pc := 51) dX7_solved_51 rfl ?_
      refine g_aload_n (pc := 53) dX7_solved_53 rfl trivial ?_
      refine g_getf (pc := 54) (v := .int _) dX7_solved_54 fk_X7_297 (shK h2.1 rfl) (fun _ => congrArg Value.int (ec)) ?_
      refine g_icmp_ge (pc := 57) (tgt := 83) dX7_solved_57 rfl (fun h57 => absurd h57 (nI_ge hi (by omega))) (fun _ => ?_)
      refine g_lload (pc := 60) dX7_solved_60 rfl ?_
      refine g_aload_n (pc := 62) dX7_solved_62 rfl trivial ?_
      refine g_getf (pc := 63) dX7_solved_63 fk_X7_47 (shK h2.1 rfl) (fv_arr (shR h2.1 rfl)) ?_
      refine g_iload (pc := 66) dX7_solved_66 rfl ?_
      refine g_laload (pc := 68) dX7_solved_68 (shK h2.1 rfl) rfl (by omega) (nl rfl) ?_
      rw [el2 i (by omega), hb1]
      refine g_aload_n (pc := 69) dX7_solved_69 rfl trivial ?_
      refine g_getf (pc := 70) dX7_solved_70 fk_X7_50 (shK h2.1 rfl) (fv_arr (shR h2.1 rfl)) ?_
      refine g_iload (pc := 73) dX7_solved_73 rfl ?_
      refine g_iaload (pc := 75) dX7_solved_75 (shK h2.1 rfl) rfl (by omega) (nl rfl) ?_
      rw [ep, hpc]
      refine g_lshl (pc := 76) dX7_solved_76 rfl ?_
      rw [sh_b1' b c (by omega)]
      refine g_lor (pc := 77) dX7_solved_77 ?_
      rw [uL_or]
      refine g_lstore (pc := 78) (lv' := [(0, _), (1, _), (4, _), (6, _)]) dX7_solved_78 (nl rfl) rfl ?_
      refine g_goto (pc := 80) (tgt := 99) dX7_solved_80 rfl ?_
      refine g_iinc (pc := 99) (lv' := [(0, _), (1, _), (4, _), (6, _)]) dX7_solved_99 rfl (nI_1 _) (nl rfl) rfl ?_
      refine g_goto (pc := 102) (tgt := 42) dX7_solved_102 rfl ?_
      exact ih
    · generalize uL (solF E E.2.2.2) = X at *
      refine go_while (pc := 42) (σ := Nat) (fun q => E.2.2.2 ≤ q ∧ q ≤ n ∧ solvB E (n - q) q = solvB E (n - E.2.2.2) E.2.2.2) (fun q => n - q) (fun q => [(0, .ref 198), (1, .int (nI s)), (4, .long X), (6, .int (nI q))]) (fun _ => M2) E.2.2.2 ⟨rfl, rfl, rfl, rfl, trivial⟩ rfl ⟨Nat.le_refl _, hcnt, rfl⟩ ?_
      rintro q ⟨a0, a1, a2⟩ ih
      rw [← a2]
      by_cases hq : q < n
      · obtain ⟨d, hd⟩ : ∃ d, n - q = d + 1 := ⟨n - q - 1, by omega⟩
        have hd' : n - (q + 1) = d := by omega
        rw [hd, solvB] at a2 ⊢
        obtain ⟨b, hb1⟩ := hok.1 q hq
        cases b with
        | false =>
          have hb0 : E.2.1 q = 0 := hb1
          rw [if_pos hb0] at a2 ⊢
          rw [← a2] at ih
          refine g_iload (pc := 42) dX7_solved_42 rfl ?_
          refine g_aload_n (pc := 44) dX7_solved_44 rfl trivial ?_
          refine g_invV_r (pc := 45) (As := []) dX7_solved_45 rfl (r_size h2) rfl rfl (shK h2.1 rfl) rfl rfl lk_X7_71 rfl (nb rfl) ⟨nb rfl, nb rfl⟩ rfl ?_
          refine g_icmp_ge (pc := 48) (tgt := 105) dX7_solved_48 rfl (fun h48 => absurd h48 (nI_ge hq (by omega))) (fun _ => ?_)
          refine g_iload (pc := 51) dX7_solved_51 rfl ?_
          refine g_aload_n (pc := 53) dX7_solved_53 rfl trivial ?_
          refine g_getf (pc := 54) (v := .int _) dX7_solved_54 fk_X7_297 (shK h2.1 rfl) (fun _ => congrArg Value.int (ec)) ?_
          refine g_icmp_ge (pc := 57) (tgt := 83) dX7_solved_57 rfl (fun _ => ?_) (fun h57 => absurd (nI_le a0 (by omega)) h57)
          refine g_aload_n (pc := 83) dX7_solved_83 rfl trivial ?_
          refine g_getf (pc := 84) dX7_solved_84 fk_X7_47 (shK h2.1 rfl) (fv_arr (shR h2.1 rfl)) ?_
          refine g_iload (pc := 87) dX7_solved_87 rfl ?_
          refine g_laload (pc := 89) dX7_solved_89 (shK h2.1 rfl) rfl (by omega) (nl rfl) ?_
          rw [el2 q hq, hb1]
          refine g_lconst (pc := 90) (v := 1) dX7_solved_90 rfl ?_
          refine g_lcmp (pc := 91) dX7_solved_91 ?_
          refine g_if_ne (pc := 92) (tgt := 99) dX7_solved_92 rfl (fun _ => ?_) (fun h92 => absurd ((by decide)) h92)
          refine g_iinc (pc := 99) (lv' := [(0, _), (1, _), (4, _), (6, _)]) dX7_solved_99 rfl (nI_1 _) (nl rfl) rfl ?_
          refine g_goto (pc := 102) (tgt := 42) dX7_solved_102 rfl ?_
          exact ih (q + 1) ⟨by omega, by omega, by rw [hd']⟩ (by omega)
        | true =>
          have hb0 : ¬ E.2.1 q = 0 := by rw [hb1]; decide
          rw [if_neg hb0]
          refine g_iload (pc := 42) dX7_solved_42 rfl ?_
          refine g_aload_n (pc := 44) dX7_solved_44 rfl trivial ?_
          refine g_invV_r (pc := 45) (As := []) dX7_solved_45 rfl (r_size h2) rfl rfl (shK h2.1 rfl) rfl rfl lk_X7_71 rfl (nb rfl) ⟨nb rfl, nb rfl⟩ rfl ?_
          refine g_icmp_ge (pc := 48) (tgt := 105) dX7_solved_48 rfl (fun h48 => absurd h48 (nI_ge hq (by omega))) (fun _ => ?_)
          refine g_iload (pc := 51) dX7_solved_51 rfl ?_
          refine g_aload_n (pc := 53) dX7_solved_53 rfl trivial ?_
          refine g_getf (pc := 54) (v := .int _) dX7_solved_54 fk_X7_297 (shK h2.1 rfl) (fun _ => congrArg Value.int (ec)) ?_
          refine g_icmp_ge (pc := 57) (tgt := 83) dX7_solved_57 rfl (fun _ => ?_) (fun h57 => absurd (nI_le a0 (by omega)) h57)
          refine g_aload_n (pc := 83) dX7_solved_83 rfl trivial ?_
          refine g_getf (pc := 84) dX7_solved_84 fk_X7_47 (shK h2.1 rfl) (fv_arr (shR h2.1 rfl)) ?_
          refine g_iload (pc := 87) dX7_solved_87 rfl ?_
          refine g_laload (pc := 89) dX7_solved_89 (shK h2.1 rfl) rfl (by omega) (nl rfl) ?_
          rw [el2 q hq, hb1]
          refine g_lconst (pc := 90) (v := 1) dX7_solved_90 rfl ?_
          refine g_lcmp (pc := 91) dX7_solved_91 ?_
          refine g_if_ne (pc := 92) (tgt := 99) dX7_solved_92 rfl (fun h92 => absurd h92 ((by decide))) (fun _ => ?_)
          refine g_ldc2 (pc := 95) dX7_solved_95 wd_1657 ?_
          refine g_lreturn (pc := 98) dX7_solved_98 rfl ?_
          exact ⟨rfl, rfl⟩
      · have hq' : q = n := by omega
        subst hq'
        rw [Nat.sub_self, solvB, if_pos rfl]
        refine g_iload (pc := 42) dX7_solved_42 rfl ?_
        refine g_aload_n (pc := 44) dX7_solved_44 rfl trivial ?_
        refine g_invV_r (pc := 45) (As := []) dX7_solved_45 rfl (r_size h2) rfl rfl (shK h2.1 rfl) rfl rfl lk_X7_71 rfl (nb rfl) ⟨nb rfl, nb rfl⟩ rfl ?_
        refine g_icmp_ge (pc := 48) (tgt := 105) dX7_solved_48 rfl (fun _ => ?_) (fun h48 => absurd (nI_le (Nat.le_refl _) (by omega)) h48)
        refine g_lload (pc := 105) dX7_solved_105 rfl ?_
        refine g_lreturn (pc := 107) dX7_solved_107 rfl ?_
        exact ⟨rfl, rfl⟩
theorem n_solve {s : Nat} {y : Int64} (h : Rr M n A) (hs : s < 6) : EvR l jX7_solve 4 160 0 0 [.ref 198, .int (nI s), .long y] M (.inl (some (.long (if solvB (solR (thr M 0) n (A s) y.toInt32) (n - (solR (thr M 0) n (A s) y.toInt32).2.2.2) (solR (thr M 0) n (A s) y.toInt32).2.2.2 = true then uL (solF (solR (thr M 0) n (A s) y.toInt32) (solR (thr M 0) n (A s) y.toInt32).2.2.2) else -1)))) (rbM (thr M 0) n (solR (thr M 0) n (A s) y.toInt32)) := by
  have hS := h.1
  have q1 := r_solved (l := l) (y := y) (h.thr (x := 0)) hs
  generalize solR (thr M 0) n (A s) y.toInt32 = E at *
  refine ev_intro rfl (nb rfl) rfl ?_
  refine g_aload_n (pc := 0) dX7_solve_0 rfl trivial ?_
  refine g_iload_n (pc := 1) dX7_solve_1 rfl ?_
  refine g_invS_r (pc := 2) (As := [_]) dX7_solve_2 rfl (r_isSlot_t (in6 hs)) rfl rfl lk_X7_216 rfl (nb rfl) ⟨nb rfl, nb rfl⟩ rfl ?_
  refine g_iconst (pc := 5) (v := 1) dX7_solve_5 rfl ?_
  refine g_invV_r (pc := 6) (As := [_, _]) dX7_solve_6 rfl (r_isThrown_0 hS) rfl rfl (shK hS rfl) rfl rfl lk_X7_209 rfl (nb rfl) ⟨nb rfl, nb rfl⟩ rfl ?_
  refine g_if_eq (pc := 9) (tgt := 16) dX7_solve_9 rfl (fun _ => ?_) (fun h9 => absurd (rfl) h9)
  refine g_aload_n (pc := 16) dX7_solve_16 rfl trivial ?_
  refine g_iload_n (pc := 17) dX7_solve_17 rfl ?_
  refine g_lload_n (pc := 18) dX7_solve_18 rfl ?_
  refine g_invV_r (pc := 19) (As := [_, _]) dX7_solve_19 rfl (q1) rfl rfl (shK (h.thr (x := 0)).1 rfl) rfl rfl lk_X7_308 rfl (nb rfl) ⟨nb rfl, nb rfl⟩ rfl ?_
  refine g_lreturn (pc := 22) dX7_solve_22 rfl ?_
  exact ⟨rfl, rfl⟩
theorem t_solve {v : Int32} {y : Int64} (h : Rr M n A) (hx : ¬ inR v 6) : EvR l jX7_solve 4 160 0 0 [.ref 198, .int v, .long y] M (.inl (some (.long 0))) (thr M 1) := by
  have hS := h.1
  refine ev_intro rfl (nb rfl) rfl ?_
  refine g_aload_n (pc := 0) dX7_solve_0 rfl trivial ?_
  refine g_iload_n (pc := 1) dX7_solve_1 rfl ?_
  refine g_invS_r (pc := 2) (As := [_]) dX7_solve_2 rfl (r_isSlot_f hx) rfl rfl lk_X7_216 rfl (nb rfl) ⟨nb rfl, nb rfl⟩ rfl ?_
  refine g_iconst (pc := 5) (v := 1) dX7_solve_5 rfl ?_
  refine g_invV_r (pc := 6) (As := [_, _]) dX7_solve_6 rfl (r_isThrown_1 hS) rfl rfl (shK hS rfl) rfl rfl lk_X7_209 rfl (nb rfl) ⟨nb rfl, nb rfl⟩ rfl ?_
  refine g_if_eq (pc := 9) (tgt := 16) dX7_solve_9 rfl (fun h9 => absurd h9 ((by decide))) (fun _ => ?_)
  refine g_lconst (pc := 12) (v := 0) dX7_solve_12 rfl ?_
  refine g_goto (pc := 13) (tgt := 22) dX7_solve_13 rfl ?_
  refine g_lreturn (pc := 22) dX7_solve_22 rfl ?_
  exact ⟨rfl, rfl⟩
theorem n_freedom {s : Nat} {y : Int64} (h : Rr M n A) (hs : s < 6) : EvR l jX7_freedom 4 160 0 0 [.ref 198, .int (nI s), .long y] M (.inl (some (.int (if solvB (solR (thr M 0) n (A s) y.toInt32) (n - (solR (thr M 0) n (A s) y.toInt32).2.2.2) (solR (thr M 0) n (A s) y.toInt32).2.2.2 = true then nI n - nI (solR (thr M 0) n (A s) y.toInt32).2.2.2 else -1)))) (rbM (thr M 0) n (solR (thr M 0) n (A s) y.toInt32)) := by
  have hS := h.1
  have q1 := r_solved (l := l) (y := y) (h.thr (x := 0)) hs
  have h2 := rb_R (h.thr (x := 0)) (solR (thr M 0) n (A s) y.toInt32)
  have ec := rb_c (M := thr M 0) (n := n) (solR (thr M 0) n (A s) y.toInt32)
  generalize solR (thr M 0) n (A s) y.toInt32 = E at *
  generalize rbM (thr M 0) n E = M2 at *
  refine ev_intro rfl (nb rfl) rfl ?_
  cases hb9 : solvB E (n - E.2.2.2) E.2.2.2 with
  | true =>
    rw [hb9, if_pos rfl] at q1
    rw [if_pos rfl]
    refine g_aload_n (pc := 0) dX7_freedom_0 rfl trivial ?_
    refine g_iload_n (pc := 1) dX7_freedom_1 rfl ?_
    refine g_invS_r (pc := 2) (As := [_]) dX7_freedom_2 rfl (r_isSlot_t (in6 hs)) rfl rfl lk_X7_216 rfl (nb rfl) ⟨nb rfl, nb rfl⟩ rfl ?_
    refine g_iconst (pc := 5) (v := 1) dX7_freedom_5 rfl ?_
    refine g_invV_r (pc := 6) (As := [_, _]) dX7_freedom_6 rfl (r_isThrown_0 hS) rfl rfl (shK hS rfl) rfl rfl lk_X7_209 rfl (nb rfl) ⟨nb rfl, nb rfl⟩ rfl ?_
    refine g_if_eq (pc := 9) (tgt := 14) dX7_freedom_9 rfl (fun _ => ?_) (fun h9 => absurd (rfl) h9)
    refine g_aload_n (pc := 14) dX7_freedom_14 rfl trivial ?_
    refine g_iload_n (pc := 15) dX7_freedom_15 rfl ?_
    refine g_lload_n (pc := 16) dX7_freedom_16 rfl ?_
    refine g_invV_r (pc := 17) (As := [_, _]) dX7_freedom_17 rfl (q1) rfl rfl (shK (h.thr (x := 0)).1 rfl) rfl rfl lk_X7_308 rfl (nb rfl) ⟨nb rfl, nb rfl⟩ rfl ?_
    refine g_ldc2 (pc := 20) dX7_freedom_20 wd_1657 ?_
    refine g_lcmp (pc := 23) dX7_freedom_23 ?_
    refine g_if_ne (pc := 24) (tgt := 31) dX7_freedom_24 rfl (fun _ => ?_) (fun h24 => absurd ((fun z => uL_m1 _ ((lg_cmp_eq _ _).mp z))) h24)
    refine g_aload_n (pc := 31) dX7_freedom_31 rfl trivial ?_
    refine g_invV_r (pc := 32) (As := []) dX7_freedom_32 rfl (r_size h2) rfl rfl (shK h2.1 rfl) rfl rfl lk_X7_71 rfl (nb rfl) ⟨nb rfl, nb rfl⟩ rfl ?_
    refine g_aload_n (pc := 35) dX7_freedom_35 rfl trivial ?_
    refine g_getf (pc := 36) (v := .int _) dX7_freedom_36 fk_X7_297 (shK h2.1 rfl) (fun _ => congrArg Value.int (ec)) ?_
    refine g_isub (pc := 39) dX7_freedom_39 ?_
    refine g_ireturn (pc := 40) dX7_freedom_40 rfl rfl ?_
    exact ⟨rfl, rfl⟩
  | false =>
    rw [hb9, if_neg (by decide)] at q1
    rw [if_neg (by decide)]
    refine g_aload_n (pc := 0) dX7_freedom_0 rfl trivial ?_
    refine g_iload_n (pc := 1) dX7_freedom_1 rfl ?_
    refine g_invS_r (pc := 2) (As := [_]) dX7_freedom_2 rfl (r_isSlot_t (in6 hs)) rfl rfl lk_X7_216 rfl (nb rfl) ⟨nb rfl, nb rfl⟩ rfl ?_
    refine g_iconst (pc := 5) (v := 1) dX7_freedom_5 rfl ?_
    refine g_invV_r (pc := 6) (As := [_, _]) dX7_freedom_6 rfl (r_isThrown_0 hS) rfl rfl (shK hS rfl) rfl rfl lk_X7_209 rfl (nb rfl) ⟨nb rfl, nb rfl⟩ rfl ?_
    refine g_if_eq (pc := 9) (tgt := 14) dX7_freedom_9 rfl (fun _ => ?_) (fun h9 => absurd (rfl) h9)
    refine g_aload_n (pc := 14) dX7_freedom_14 rfl trivial ?_
    refine g_iload_n (pc := 15) dX7_freedom_15 rfl ?_
    refine g_lload_n (pc := 16) dX7_freedom_16 rfl ?_
    refine g_invV_r (pc := 17) (As := [_, _]) dX7_freedom_17 rfl (q1) rfl rfl (shK (h.thr (x := 0)).1 rfl) rfl rfl lk_X7_308 rfl (nb rfl) ⟨nb rfl, nb rfl⟩ rfl ?_
    refine g_ldc2 (pc := 20) dX7_freedom_20 wd_1657 ?_
    refine g_lcmp (pc := 23) dX7_freedom_23 ?_
    refine g_if_ne (pc := 24) (tgt := 31) dX7_freedom_24 rfl (fun h24 => absurd h24 ((by decide))) (fun _ => ?_)
    refine g_iconst (pc := 27) (v := (-1)) dX7_freedom_27 rfl ?_
    refine g_goto (pc := 28) (tgt := 40) dX7_freedom_28 rfl ?_
    refine g_ireturn (pc := 40) dX7_freedom_40 rfl rfl ?_
    exact ⟨rfl, rfl⟩
theorem t_freedom {v : Int32} {y : Int64} (h : Rr M n A) (hx : ¬ inR v 6) : EvR l jX7_freedom 4 160 0 0 [.ref 198, .int v, .long y] M (.inl (some (.int 0))) (thr M 1) := by
  have hS := h.1
  refine ev_intro rfl (nb rfl) rfl ?_
  refine g_aload_n (pc := 0) dX7_freedom_0 rfl trivial ?_
  refine g_iload_n (pc := 1) dX7_freedom_1 rfl ?_
  refine g_invS_r (pc := 2) (As := [_]) dX7_freedom_2 rfl (r_isSlot_f hx) rfl rfl lk_X7_216 rfl (nb rfl) ⟨nb rfl, nb rfl⟩ rfl ?_
  refine g_iconst (pc := 5) (v := 1) dX7_freedom_5 rfl ?_
  refine g_invV_r (pc := 6) (As := [_, _]) dX7_freedom_6 rfl (r_isThrown_1 hS) rfl rfl (shK hS rfl) rfl rfl lk_X7_209 rfl (nb rfl) ⟨nb rfl, nb rfl⟩ rfl ?_
  refine g_if_eq (pc := 9) (tgt := 14) dX7_freedom_9 rfl (fun h9 => absurd h9 ((by decide))) (fun _ => ?_)
  refine g_iconst (pc := 12) (v := 0) dX7_freedom_12 rfl ?_
  refine g_ireturn (pc := 13) dX7_freedom_13 rfl rfl ?_
  exact ⟨rfl, rfl⟩
/-- what lies beside holds rows -/
def bsOk (M : Mem) : Prop := ∀ i, i < 32 → mL M 209 i = uL (mL M 209 i).toInt32
def bsR (M : Mem) : Nat → Int32 := fun i => (mL M 209 i).toInt32
def rkR (M : Mem) (n : Nat) (f : Nat → Int32) : ES := elIt n (f, bsR M, mI M 210, 0) n
theorem rkR_c (M : Mem) (n : Nat) (f : Nat → Int32) : (rkR M n f).2.2.2 ≤ n := by
  have := elIt_c n (f, bsR M, mI M 210, 0) n
  unfold rkR; simp only at this; omega
theorem n_fieldRank {s : Nat} (h : Rr M n A) (hbs : bsOk M) (hs : s < 6) : EvR l jX7_fieldRank 4 160 0 0 [.ref 198, .int (nI s)] M (.inl (some (.int (nI (rkR (thr M 0) n (A s)).2.2.2)))) (rbM (thr M 0) n (rkR (thr M 0) n (A s))) := by
  have hS := h.1
  have hn := h.2.2.2.1
  have q1 : EvR l jX7_reduces 2 60 0 0 [.ref 198, .int (nI s)] (thr M 0) (.inl none) (rbM (thr M 0) n (rkR (thr M 0) n (A s))) := r_reduces (R := bsR M) (h.thr (x := 0)) hs (fun i hi => hbs i (by omega))
  have h2 := rb_R (h.thr (x := 0)) (rkR (thr M 0) n (A s))
  have ec := rb_c (M := thr M 0) (n := n) (rkR (thr M 0) n (A s))
  generalize rkR (thr M 0) n (A s) = E at *
  generalize rbM (thr M 0) n E = M2 at *
  refine ev_intro rfl (nb rfl) rfl ?_
  refine g_aload_n (pc := 0) dX7_fieldRank_0 rfl trivial ?_
  refine g_iload_n (pc := 1) dX7_fieldRank_1 rfl ?_
  refine g_invS_r (pc := 2) (As := [_]) dX7_fieldRank_2 rfl (r_isSlot_t (in6 hs)) rfl rfl lk_X7_216 rfl (nb rfl) ⟨nb rfl, nb rfl⟩ rfl ?_
  refine g_iconst (pc := 5) (v := 1) dX7_fieldRank_5 rfl ?_
  refine g_invV_r (pc := 6) (As := [_, _]) dX7_fieldRank_6 rfl (r_isThrown_0 hS) rfl rfl (shK hS rfl) rfl rfl lk_X7_209 rfl (nb rfl) ⟨nb rfl, nb rfl⟩ rfl ?_
  refine g_if_eq (pc := 9) (tgt := 14) dX7_fieldRank_9 rfl (fun _ => ?_) (fun h9 => absurd (rfl) h9)
  refine g_aload_n (pc := 14) dX7_fieldRank_14 rfl trivial ?_
  refine g_iload_n (pc := 15) dX7_fieldRank_15 rfl ?_
  refine g_invV_r (pc := 16) (As := [_]) dX7_fieldRank_16 rfl (q1) rfl rfl (shK (h.thr (x := 0)).1 rfl) rfl rfl lk_X7_303 rfl (nb rfl) ⟨nb rfl, nb rfl⟩ rfl ?_
  refine g_aload_n (pc := 19) dX7_fieldRank_19 rfl trivial ?_
  refine g_getf (pc := 20) (v := .int _) dX7_fieldRank_20 fk_X7_297 (shK h2.1 rfl) (fun _ => congrArg Value.int (ec)) ?_
  refine g_ireturn (pc := 23) dX7_fieldRank_23 rfl rfl ?_
  exact ⟨rfl, rfl⟩
theorem t_fieldRank {v : Int32} (h : Rr M n A) (hx : ¬ inR v 6) : EvR l jX7_fieldRank 4 160 0 0 [.ref 198, .int v] M (.inl (some (.int 0))) (thr M 1) := by
  have hS := h.1
  refine ev_intro rfl (nb rfl) rfl ?_
  refine g_aload_n (pc := 0) dX7_fieldRank_0 rfl trivial ?_
  refine g_iload_n (pc := 1) dX7_fieldRank_1 rfl ?_
  refine g_invS_r (pc := 2) (As := [_]) dX7_fieldRank_2 rfl (r_isSlot_f hx) rfl rfl lk_X7_216 rfl (nb rfl) ⟨nb rfl, nb rfl⟩ rfl ?_
  refine g_iconst (pc := 5) (v := 1) dX7_fieldRank_5 rfl ?_
  refine g_invV_r (pc := 6) (As := [_, _]) dX7_fieldRank_6 rfl (r_isThrown_1 hS) rfl rfl (shK hS rfl) rfl rfl lk_X7_209 rfl (nb rfl) ⟨nb rfl, nb rfl⟩ rfl ?_
  refine g_if_eq (pc := 9) (tgt := 14) dX7_fieldRank_9 rfl (fun h9 => absurd h9 ((by decide))) (fun _ => ?_)
  refine g_iconst (pc := 12) (v := 0) dX7_fieldRank_12 rfl ?_
  refine g_ireturn (pc := 13) dX7_fieldRank_13 rfl rfl ?_
  exact ⟨rfl, rfl⟩
theorem n_pivot {s : Nat} {x : Int32} (h : Rr M n A) (hbs : bsOk M) (hs : s < 6) : EvR l jX7_pivot 4 160 0 0 [.ref 198, .int (nI s), .int x] M (.inl (some (.int (if ¬ x < 0 ∧ x < nI (rkR (thr M 0) n (A s)).2.2.2 then (rkR (thr M 0) n (A s)).2.2.1 x.toNatClampNeg else -1)))) (rbM (thr M 0) n (rkR (thr M 0) n (A s))) := by
  have hS := h.1
  have hn := h.2.2.2.1
  have q1 : EvR l jX7_reduces 2 60 0 0 [.ref 198, .int (nI s)] (thr M 0) (.inl none) (rbM (thr M 0) n (rkR (thr M 0) n (A s))) := r_reduces (R := bsR M) (h.thr (x := 0)) hs (fun i hi => hbs i (by omega))
  have h2 := rb_R (h.thr (x := 0)) (rkR (thr M 0) n (A s))
  have hcn := rkR_c (thr M 0) n (A s)
  have ec := rb_c (M := thr M 0) (n := n) (rkR (thr M 0) n (A s))
  have ep := rb_p (M := thr M 0) (n := n) (rkR (thr M 0) n (A s))
  generalize rkR (thr M 0) n (A s) = E at *
  generalize rbM (thr M 0) n E = M2 at *
  have hlim : (¬ x < 0 ∧ x < nI E.2.2.2) ↔ (0 ≤ x.toInt64 ∧ x.toInt64 ≤ (nI E.2.2.2 - 1).toInt64) := by
    rw [show (0 : Int64) = (0 : Int32).toInt64 from rfl, le_long, le_long, Int32.not_lt]
    refine and_congr Iff.rfl ?_
    cases hE : E.2.2.2 with
    | zero => rw [show nI 0 - 1 = -1 from rfl, show nI 0 = 0 from rfl, Int32.lt_iff_toInt_lt, Int32.le_iff_toInt_le, show (0 : Int32).toInt = 0 from rfl, show (-1 : Int32).toInt = -1 from rfl]; omega
    | succ c => rw [nI_pred, Int32.lt_iff_toInt_lt, Int32.le_iff_toInt_le, nI_toInt (by omega), nI_toInt (by omega)]; omega
  refine ev_intro rfl (nb rfl) rfl ?_
  by_cases hx : ¬ x < 0 ∧ x < nI E.2.2.2
  · rw [if_pos hx]
    have h9 := hlim.mp hx
    obtain ⟨i, hi, rfl⟩ := inR_of hx (by omega)
    rw [nI_clamp (by omega)]
    refine g_aload_n (pc := 0) dX7_pivot_0 rfl trivial ?_
    refine g_iload_n (pc := 1) dX7_pivot_1 rfl ?_
    refine g_invS_r (pc := 2) (As := [_]) dX7_pivot_2 rfl (r_isSlot_t (in6 hs)) rfl rfl lk_X7_216 rfl (nb rfl) ⟨nb rfl, nb rfl⟩ rfl ?_
    refine g_iconst (pc := 5) (v := 1) dX7_pivot_5 rfl ?_
    refine g_invV_r (pc := 6) (As := [_, _]) dX7_pivot_6 rfl (r_isThrown_0 hS) rfl rfl (shK hS rfl) rfl rfl lk_X7_209 rfl (nb rfl) ⟨nb rfl, nb rfl⟩ rfl ?_
    refine g_if_eq (pc := 9) (tgt := 14) dX7_pivot_9 rfl (fun _ => ?_) (fun h9 => absurd (rfl) h9)
    refine g_aload_n (pc := 14) dX7_pivot_14 rfl trivial ?_
    refine g_iload_n (pc := 15) dX7_pivot_15 rfl ?_
    refine g_invV_r (pc := 16) (As := [_]) dX7_pivot_16 rfl (q1) rfl rfl (shK (h.thr (x := 0)).1 rfl) rfl rfl lk_X7_303 rfl (nb rfl) ⟨nb rfl, nb rfl⟩ rfl ?_
    refine g_iload_n (pc := 19) dX7_pivot_19 rfl ?_
    refine g_i2l (pc := 20) dX7_pivot_20 rfl ?_
    refine g_lconst (pc := 21) (v := 0) dX7_pivot_21 rfl ?_
    refine g_aload_n (pc := 22) dX7_pivot_22 rfl trivial ?_
    refine g_getf (pc := 23) (v := .int _) dX7_pivot_23 fk_X7_297 (shK h2.1 rfl) (fun _ => congrArg Value.int (ec)) ?_
    refine g_iconst (pc := 26) (v := 1) dX7_pivot_26 rfl ?_
    refine g_isub (pc := 27) dX7_pivot_27 ?_
    refine g_i2l (pc := 28) dX7_pivot_28 rfl ?_
    refine g_invS_r (pc := 29) (As := [_, _, _]) dX7_pivot_29 rfl (r_in_t h9.1 h9.2) rfl rfl lk_X7_67 rfl (nb rfl) ⟨nb rfl, nb rfl⟩ rfl ?_
    refine g_if_eq (pc := 32) (tgt := 44) dX7_pivot_32 rfl (fun h32 => absurd h32 ((by decide))) (fun _ => ?_)
    refine g_aload_n (pc := 35) dX7_pivot_35 rfl trivial ?_
    refine g_getf (pc := 36) dX7_pivot_36 fk_X7_50 (shK h2.1 rfl) (fv_arr (shR h2.1 rfl)) ?_
    refine g_iload_n (pc := 39) dX7_pivot_39 rfl ?_
    refine g_iaload (pc := 40) dX7_pivot_40 (shK h2.1 rfl) rfl (by omega) (nl rfl) ?_
    rw [ep]
    refine g_goto (pc := 41) (tgt := 45) dX7_pivot_41 rfl ?_
    refine g_ireturn (pc := 45) dX7_pivot_45 rfl rfl ?_
    exact ⟨rfl, rfl⟩
  · rw [if_neg hx]
    refine g_aload_n (pc := 0) dX7_pivot_0 rfl trivial ?_
    refine g_iload_n (pc := 1) dX7_pivot_1 rfl ?_
    refine g_invS_r (pc := 2) (As := [_]) dX7_pivot_2 rfl (r_isSlot_t (in6 hs)) rfl rfl lk_X7_216 rfl (nb rfl) ⟨nb rfl, nb rfl⟩ rfl ?_
    refine g_iconst (pc := 5) (v := 1) dX7_pivot_5 rfl ?_
    refine g_invV_r (pc := 6) (As := [_, _]) dX7_pivot_6 rfl (r_isThrown_0 hS) rfl rfl (shK hS rfl) rfl rfl lk_X7_209 rfl (nb rfl) ⟨nb rfl, nb rfl⟩ rfl ?_
    refine g_if_eq (pc := 9) (tgt := 14) dX7_pivot_9 rfl (fun _ => ?_) (fun h9 => absurd (rfl) h9)
    refine g_aload_n (pc := 14) dX7_pivot_14 rfl trivial ?_
    refine g_iload_n (pc := 15) dX7_pivot_15 rfl ?_
    refine g_invV_r (pc := 16) (As := [_]) dX7_pivot_16 rfl (q1) rfl rfl (shK (h.thr (x := 0)).1 rfl) rfl rfl lk_X7_303 rfl (nb rfl) ⟨nb rfl, nb rfl⟩ rfl ?_
    refine g_iload_n (pc := 19) dX7_pivot_19 rfl ?_
    refine g_i2l (pc := 20) dX7_pivot_20 rfl ?_
    refine g_lconst (pc := 21) (v := 0) dX7_pivot_21 rfl ?_
    refine g_aload_n (pc := 22) dX7_pivot_22 rfl trivial ?_
    refine g_getf (pc := 23) (v := .int _) dX7_pivot_23 fk_X7_297 (shK h2.1 rfl) (fun _ => congrArg Value.int (ec)) ?_
    refine g_iconst (pc := 26) (v := 1) dX7_pivot_26 rfl ?_
    refine g_isub (pc := 27) dX7_pivot_27 ?_
    refine g_i2l (pc := 28) dX7_pivot_28 rfl ?_
    refine g_invS_r (pc := 29) (As := [_, _, _]) dX7_pivot_29 rfl (r_in_f (fun z => hx (hlim.mpr z))) rfl rfl lk_X7_67 rfl (nb rfl) ⟨nb rfl, nb rfl⟩ rfl ?_
    refine g_if_eq (pc := 32) (tgt := 44) dX7_pivot_32 rfl (fun _ => ?_) (fun h32 => absurd (rfl) h32)
    refine g_iconst (pc := 44) (v := (-1)) dX7_pivot_44 rfl ?_
    refine g_ireturn (pc := 45) dX7_pivot_45 rfl rfl ?_
    exact ⟨rfl, rfl⟩
theorem t_pivot {v x : Int32} (h : Rr M n A) (hx : ¬ inR v 6) : EvR l jX7_pivot 4 160 0 0 [.ref 198, .int v, .int x] M (.inl (some (.int 0))) (thr M 1) := by
  have hS := h.1
  refine ev_intro rfl (nb rfl) rfl ?_
  refine g_aload_n (pc := 0) dX7_pivot_0 rfl trivial ?_
  refine g_iload_n (pc := 1) dX7_pivot_1 rfl ?_
  refine g_invS_r (pc := 2) (As := [_]) dX7_pivot_2 rfl (r_isSlot_f hx) rfl rfl lk_X7_216 rfl (nb rfl) ⟨nb rfl, nb rfl⟩ rfl ?_
  refine g_iconst (pc := 5) (v := 1) dX7_pivot_5 rfl ?_
  refine g_invV_r (pc := 6) (As := [_, _]) dX7_pivot_6 rfl (r_isThrown_1 hS) rfl rfl (shK hS rfl) rfl rfl lk_X7_209 rfl (nb rfl) ⟨nb rfl, nb rfl⟩ rfl ?_
  refine g_if_eq (pc := 9) (tgt := 14) dX7_pivot_9 rfl (fun h9 => absurd h9 ((by decide))) (fun _ => ?_)
  refine g_iconst (pc := 12) (v := 0) dX7_pivot_12 rfl ?_
  refine g_ireturn (pc := 13) dX7_pivot_13 rfl rfl ?_
  exact ⟨rfl, rfl⟩
end

