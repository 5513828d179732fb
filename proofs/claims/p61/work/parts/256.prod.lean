/-! products -/
def mdN (n bl : Nat) : Nat → Nat
  | 0 => 0
  | k + 1 => mdN n bl k + (2 ^ (min bl (n - k * bl)) - 1)
/-- a one among some columns -/
def anyB (h : Nat → Bool) (a : Nat) : Nat → Bool
  | 0 => false
  | j + 1 => anyB h a j || h (a + j)
def tkR (f : Nat → Nat → Bool) (a w t : Nat) : Nat → Nat
  | 0 => t
  | i + 1 => tkR f a w t i + (match anyB (f i) a w with | true => 1 | false => 0)
def tkB (f : Nat → Nat → Bool) (n bl : Nat) : Nat → Nat
  | 0 => 0
  | k + 1 => tkR f (k * bl) (min bl (n - k * bl)) (tkB f n bl k) n
/-- an entry of a product -/
def mlB (is : Bool) (f g : Nat → Nat → Bool) (n r c : Nat) : Bool := match is with
  | true => decide (cR (fun k => f r k && g k c) n % 2 = 1)
  | false => decide (0 < cR (fun k => f r k && g k c) n)
/-- a desk's numbers under way -/
def FI (M Mx : Mem) (d n bl md tk : Nat) : Prop := Xt (fun i => i = d) M Mx ∧ mR Mx d = mR M d ∧ mI Mx d 0 = nI n ∧ mI Mx d 1 = nI bl ∧ mI Mx d 2 = nI md ∧ mI Mx d 3 = nI tk
section
variable {l : Launch} {M M' Mx : Mem} {m n d s t a b bl ma mb : Nat} {ra rb : Nat → Nat} {f g : Nat → Nat → Bool} {W : Nat → Prop} {is : Bool}
theorem sh_w : ∀ w, w < 9 → (1 : Int32) <<< (nI w &&& 31) - 1 = nI (2 ^ w - 1) := by decide +kernel
theorem rem_2 : ∀ w, w < 10 → (nI w - nI w / 2 * 2 = 1 ↔ w % 2 = 1) := by decide +kernel
theorem b1_or (x y : Bool) : b1 x ||| b1 y = b1 (x || y) := by cases x <;> cases y <;> decide
theorem nI_min {x y : Nat} (hx : x < 2147483648) (hy : y < 2147483648) : (if nI y < nI x then nI y else nI x) = nI (min x y) := by
  by_cases h : y < x
  · rw [if_pos (nI_gt h hx), Nat.min_eq_right (Nat.le_of_lt h)]
  · rw [if_neg (nI_ngt (Nat.not_lt.mp h) hy), Nat.min_eq_left (Nat.not_lt.mp h)]
theorem nI_ngt9 {w : Nat} (h : 0 < w) (hw : w < 2147483648) : ¬ nI w ≤ 0 := fun z => Int32.lt_irrefl (Int32.lt_of_lt_of_le (nI_gt h hw) z)
theorem cR_le (h : Nat → Bool) : ∀ k, cR h k ≤ k
  | 0 => Nat.le_refl 0
  | k + 1 => by
    have := cR_le h k
    rw [cR]
    cases h k with
    | false => exact Nat.le_succ_of_le this
    | true => exact Nat.succ_le_succ this
theorem FI.set2 {md tk x : Nat} (h : FI M Mx d n bl md tk) : FI M (sI Mx d (fun_set (mI Mx d) 2 (nI x))) d n bl x tk := by
  obtain ⟨h1, h2, h3, h4, h5, h6⟩ := h
  refine ⟨h1.sI (fun _ => rfl), h2, ?_, ?_, ?_, ?_⟩
  · rw [sI_self, fs_ne _ _ (by decide)]
    exact h3
  · rw [sI_self, fs_ne _ _ (by decide)]
    exact h4
  · rw [sI_self, fs_self]
  · rw [sI_self, fs_ne _ _ (by decide)]
    exact h6
theorem FI.set3 {md tk x : Nat} (h : FI M Mx d n bl md tk) : FI M (sI Mx d (fun_set (mI Mx d) 3 (nI x))) d n bl md x := by
  obtain ⟨h1, h2, h3, h4, h5, h6⟩ := h
  refine ⟨h1.sI (fun _ => rfl), h2, ?_, ?_, ?_, ?_⟩
  · rw [sI_self, fs_ne _ _ (by decide)]
    exact h3
  · rw [sI_self, fs_ne _ _ (by decide)]
    exact h4
  · rw [sI_self, fs_ne _ _ (by decide)]
    exact h5
  · rw [sI_self, fs_self]
theorem k_product (hd : (mK M)[d]? = some (.inr 7)) (hz : mI M d 0 = nI n) (hbl : mI M d 1 = nI bl) (h1 : 1 ≤ bl) (h8 : bl ≤ 8) (hA : Mt M ma n ra f) (hB : Mt M mb n rb g) (hn : n ≤ 9) (hx : mX M = true) : EvO l jX7_product 1 40 10 90 [.ref d, .ref ma, .ref mb, .int (b1 is)] M (fun r M' => ∃ m b K, r = some (.ref m) ∧ Mt M' m n (fun r => b + r) (mlB is f g n) ∧ (mK M).length ≤ m ∧ (mK M).length ≤ b ∧ (n ≤ K * bl ∧ ∀ j, j < K → j * bl < n) ∧ FI M M' d n bl (mdN n bl K) (tkB f n bl K)) := by
  have hdl := k_lt hd
  have dA : ma ≠ d := fun e => by have h9 := hA.1; rw [e, hd] at h9; cases h9
  have dAr : ∀ r, r < n → ra r ≠ d := fun r hr e => by have h9 := (hA.2 r hr).2.1; rw [e, hd] at h9; cases h9
  have dB : mb ≠ d := fun e => by have h9 := hB.1; rw [e, hd] at h9; cases h9
  have dBr : ∀ r, r < n → rb r ≠ d := fun r hr e => by have h9 := (hB.2 r hr).2.1; rw [e, hd] at h9; cases h9
  have F0 : FI M (sI (sI M d (fun_set (mI M d) 2 0)) d (fun_set (mI (sI M d (fun_set (mI M d) 2 0)) d) 3 0)) d n bl 0 0 := by
    refine ⟨((Xt.rf (fun i => i = d) M).sI (fun _ => rfl)).sI (fun _ => rfl), rfl, ?_, ?_, ?_, ?_⟩
    · rw [sI_self, fs_ne _ _ (by decide), sI_self, fs_ne _ _ (by decide)]
      exact hz
    · rw [sI_self, fs_ne _ _ (by decide), sI_self, fs_ne _ _ (by decide)]
      exact hbl
    · rw [sI_self, fs_ne _ _ (by decide), sI_self, fs_self]
      rfl
    · rw [sI_self, fs_self]
      rfl
  refine ev_intro rfl (nb rfl) rfl ?_
  refine g_aload_n (pc := 0) dX7_product_0 rfl trivial ?_
  refine g_iconst (pc := 1) (v := 0) dX7_product_1 rfl ?_
  refine g_putI (pc := 2) dX7_product_2 fp_X7_33 hd ⟨rfl, rfl⟩ (fun _ _ _ _ => rfl) ?_
  refine g_aload_n (pc := 5) dX7_product_5 rfl trivial ?_
  refine g_iconst (pc := 6) (v := 0) dX7_product_6 rfl ?_
  refine g_putI (pc := 7) dX7_product_7 fp_X7_36 hd ⟨rfl, rfl⟩ (fun _ _ _ _ => rfl) ?_
  refine g_iconst (pc := 10) (v := 0) dX7_product_10 rfl ?_
  refine g_istore (pc := 11) (lv' := [(0, _), (1, _), (2, _), (3, _), (4, _)]) dX7_product_11 (nl rfl) rfl ?_
  refine go_whileS (pc := 13) n (fun k (_ : Mem) => [(0, .ref d), (1, .ref ma), (2, .ref mb), (3, .int (b1 is)), (4, .int (nI (k * bl)))]) (fun z => z) (fun k Mx => k ≤ n ∧ (∀ j, j < k → j * bl < n) ∧ FI M Mx d n bl (mdN n bl k) (tkB f n bl k)) _ ⟨rfl, rfl, rfl, rfl, congrArg (fun z => some (Value.int (nI z))) (Nat.zero_mul bl).symm, trivial⟩ rfl ⟨Nat.zero_le n, fun j hj => absurd hj (Nat.not_lt_zero j), F0⟩ (fun k Mx h => h.1) ?_
  rintro k Mx ⟨hk, hlt, hF⟩ ih
  obtain ⟨f1, f2, f3, f4, f5, f6⟩ := hF
  have hF : FI M Mx d n bl (mdN n bl k) (tkB f n bl k) := ⟨f1, f2, f3, f4, f5, f6⟩
  have hkb : k * bl ≤ 9 * 8 := Nat.mul_le_mul (by omega) h8
  rcases Nat.lt_or_ge (k * bl) n with hkn | hkn
  · have hkn' : k < n := by
      have : k * 1 ≤ k * bl := Nat.mul_le_mul_left k h1
      omega
    have hto : min n (k * bl + bl) = k * bl + min bl (n - k * bl) := by omega
    have hw : min bl (n - k * bl) < 9 := by omega
    generalize hwe : min bl (n - k * bl) = w at *
    have em : mdN n bl (k + 1) = mdN n bl k + (2 ^ w - 1) := by rw [mdN, hwe]
    have et : tkB f n bl (k + 1) = tkR f (k * bl) w (tkB f n bl k) n := by rw [tkB, hwe]
    refine g_iload (pc := 13) dX7_product_13 rfl ?_
    refine g_aload_n (pc := 15) dX7_product_15 rfl trivial ?_
    refine g_getf (pc := 16) (v := .int _) dX7_product_16 fk_X7_22 (f1.k hd) (fun _ => congrArg Value.int (f3)) ?_
    refine g_icmp_ge (pc := 19) (tgt := 137) dX7_product_19 rfl (fun h19 => absurd h19 (nI_ge hkn (by omega))) (fun _ => ?_)
    refine g_aload_n (pc := 22) dX7_product_22 rfl trivial ?_
    refine g_getf (pc := 23) (v := .int _) dX7_product_23 fk_X7_22 (f1.k hd) (fun _ => congrArg Value.int (f3)) ?_
    refine g_iload (pc := 26) dX7_product_26 rfl ?_
    refine g_aload_n (pc := 28) dX7_product_28 rfl trivial ?_
    refine g_getf (pc := 29) (v := .int _) dX7_product_29 fk_X7_7 (f1.k hd) (fun _ => congrArg Value.int (f4)) ?_
    refine g_iadd (pc := 32) dX7_product_32 ?_
    rw [show nI (k * bl) + nI bl = nI (k * bl + bl) from nI_add _ _]
    refine g_mmin (pc := 33) dX7_product_33 wd_x1002 wd_430 wd_107 wd_431 (nb rfl) (nb rfl) ?_
    rw [nI_min (x := n) (y := k * bl + bl) (by omega) (by omega), hto]
    refine g_istore (pc := 36) (lv' := [(0, _), (1, _), (2, _), (3, _), (4, _), (5, _)]) dX7_product_36 (nl rfl) rfl ?_
    refine g_aload_n (pc := 38) dX7_product_38 rfl trivial ?_
    refine g_dup (pc := 39) dX7_product_39 rfl ?_
    refine g_getf (pc := 40) (v := .int _) dX7_product_40 fk_X7_33 (f1.k hd) (fun _ => congrArg Value.int (f5)) ?_
    refine g_iconst (pc := 43) (v := 1) dX7_product_43 rfl ?_
    refine g_iload (pc := 44) dX7_product_44 rfl ?_
    refine g_iload (pc := 46) dX7_product_46 rfl ?_
    refine g_isub (pc := 48) dX7_product_48 ?_
    rw [nI_sub' (show k * bl ≤ k * bl + w by omega), show k * bl + w - k * bl = w by omega]
    refine g_ishl (pc := 49) dX7_product_49 ?_
    refine g_iconst (pc := 50) (v := 1) dX7_product_50 rfl ?_
    refine g_isub (pc := 51) dX7_product_51 ?_
    rw [sh_w w hw]
    refine g_iadd (pc := 52) dX7_product_52 ?_
    rw [show nI (mdN n bl k) + nI (2 ^ w - 1) = nI (mdN n bl (k + 1)) by rw [em]; exact nI_add _ _]
    refine g_putI (pc := 53) dX7_product_53 fp_X7_33 (f1.k hd) ⟨rfl, rfl⟩ (fun _ _ _ _ => rfl) ?_
    refine g_iconst (pc := 56) (v := 0) dX7_product_56 rfl ?_
    refine g_istore (pc := 57) (lv' := [(0, _), (1, _), (2, _), (3, _), (4, _), (5, _), (6, _)]) dX7_product_57 (nl rfl) rfl ?_
    refine go_forS (pc := 59) n (fun i (_ : Mem) => [(0, .ref d), (1, .ref ma), (2, .ref mb), (3, .int (b1 is)), (4, .int (nI (k * bl))), (5, .int (nI (k * bl + w))), (6, .int (nI i))]) (fun z => z) (fun i My => FI M My d n bl (mdN n bl (k + 1)) (tkR f (k * bl) w (tkB f n bl k) i)) (fun _ => 10) (fun _ => 90) _ ⟨rfl, rfl, rfl, rfl, rfl, rfl, rfl, trivial⟩ rfl rfl rfl hF.set2 ?_ ?_
    · rintro i My hi hG ih2
      obtain ⟨g1, g2, g3, g4, g5, g6⟩ := hG
      have hG : FI M My d n bl (mdN n bl (k + 1)) (tkR f (k * bl) w (tkB f n bl k) i) := ⟨g1, g2, g3, g4, g5, g6⟩
      have hA9 := hA.xt g1 dA dAr
      refine g_iload (pc := 59) dX7_product_59 rfl ?_
      refine g_aload_n (pc := 61) dX7_product_61 rfl trivial ?_
      refine g_getf (pc := 62) (v := .int _) dX7_product_62 fk_X7_22 (g1.k hd) (fun _ => congrArg Value.int (g3)) ?_
      refine g_icmp_ge (pc := 65) (tgt := 125) dX7_product_65 rfl (fun h65 => absurd h65 (nI_ge hi (by omega))) (fun _ => ?_)
      refine g_iconst (pc := 68) (v := 0) dX7_product_68 rfl ?_
      refine g_istore (pc := 69) (lv' := [(0, _), (1, _), (2, _), (3, _), (4, _), (5, _), (6, _), (7, _)]) dX7_product_69 (nl rfl) rfl ?_
      refine g_iload (pc := 71) dX7_product_71 rfl ?_
      refine g_istore (pc := 73) (lv' := [(0, _), (1, _), (2, _), (3, _), (4, _), (5, _), (6, _), (7, _), (8, _)]) dX7_product_73 (nl rfl) rfl ?_
      refine go_loop (pc := 75) w (fun j => [(0, .ref d), (1, .ref ma), (2, .ref mb), (3, .int (b1 is)), (4, .int (nI (k * bl))), (5, .int (nI (k * bl + w))), (6, .int (nI i)), (7, .int (b1 (anyB (f i) (k * bl) j))), (8, .int (nI (k * bl + j)))]) (fun _ => My) ⟨rfl, rfl, rfl, rfl, rfl, rfl, rfl, rfl, rfl, trivial⟩ rfl ?_ ?_
      · intro j hj ih3
        have hjn : k * bl + j < n := by omega
        refine g_iload (pc := 75) dX7_product_75 rfl ?_
        refine g_iload (pc := 77) dX7_product_77 rfl ?_
        refine g_icmp_ge (pc := 79) (tgt := 100) dX7_product_79 rfl (fun h79 => absurd h79 (nI_ge (show k * bl + j < k * bl + w by omega) (by omega))) (fun _ => ?_)
        refine g_iload (pc := 82) dX7_product_82 rfl ?_
        refine g_aload_n (pc := 84) dX7_product_84 rfl trivial ?_
        refine g_iload (pc := 85) dX7_product_85 rfl ?_
        refine g_aaload_Z1 (pc := 87) dX7_product_87 hA9.1 rfl hi (by omega) (hA9.2 i hi).1 ?_
        refine g_iload (pc := 88) dX7_product_88 rfl ?_
        refine g_zaload (pc := 90) dX7_product_90 (hA9.2 i hi).2.1 rfl hjn (by omega) ?_
        rw [(hA9.2 i hi).2.2 _ hjn]
        refine g_ior (pc := 91) dX7_product_91 ?_
        rw [b1_or]
        refine g_istore (pc := 92) (lv' := [(0, _), (1, _), (2, _), (3, _), (4, _), (5, _), (6, _), (7, _), (8, _)]) dX7_product_92 (nl rfl) rfl ?_
        refine g_iinc (pc := 94) (lv' := [(0, _), (1, _), (2, _), (3, _), (4, _), (5, _), (6, _), (7, _), (8, _)]) dX7_product_94 rfl (nI_1 _) (nl rfl) rfl ?_
        refine g_goto (pc := 97) (tgt := 75) dX7_product_97 rfl ?_
        exact g_subk ih3 ⟨rfl, rfl, rfl, rfl, rfl, rfl, rfl, rfl, rfl, trivial⟩
      · have e9 : tkR f (k * bl) w (tkB f n bl k) (i + 1) = tkR f (k * bl) w (tkB f n bl k) i + (match anyB (f i) (k * bl) w with | true => 1 | false => 0) := rfl
        cases ha : anyB (f i) (k * bl) w
        · rw [ha] at e9
          refine g_iload (pc := 75) dX7_product_75 rfl ?_
          refine g_iload (pc := 77) dX7_product_77 rfl ?_
          refine g_icmp_ge (pc := 79) (tgt := 100) dX7_product_79 rfl (fun _ => ?_) (fun h79 => absurd (nI_le (Nat.le_refl _) (by omega)) h79)
          refine g_aload_n (pc := 100) dX7_product_100 rfl trivial ?_
          refine g_dup (pc := 101) dX7_product_101 rfl ?_
          refine g_getf (pc := 102) (v := .int _) dX7_product_102 fk_X7_36 (g1.k hd) (fun _ => congrArg Value.int (g6)) ?_
          refine g_iload (pc := 105) dX7_product_105 rfl ?_
          refine g_if_eq (pc := 107) (tgt := 114) dX7_product_107 rfl (fun _ => ?_) (fun h107 => absurd (rfl) h107)
          refine g_iconst (pc := 114) (v := 0) dX7_product_114 rfl ?_
          refine g_iadd (pc := 115) dX7_product_115 ?_
          rw [show nI (tkR f (k * bl) w (tkB f n bl k) i) + 0 = nI (tkR f (k * bl) w (tkB f n bl k) (i + 1)) by rw [e9]; exact nI_add _ 0]
          refine g_putI (pc := 116) dX7_product_116 fp_X7_36 (g1.k hd) ⟨rfl, rfl⟩ (fun _ _ _ _ => rfl) ?_
          refine g_iinc (pc := 119) (lv' := [(0, _), (1, _), (2, _), (3, _), (4, _), (5, _), (6, _), (7, _), (8, _)]) dX7_product_119 rfl (nI_1 _) (nl rfl) rfl ?_
          refine g_goto (pc := 122) (tgt := 59) dX7_product_122 rfl ?_
          exact g_subk (ih2 _ hG.set3) ⟨rfl, rfl, rfl, rfl, rfl, rfl, rfl, trivial⟩
        · rw [ha] at e9
          refine g_iload (pc := 75) dX7_product_75 rfl ?_
          refine g_iload (pc := 77) dX7_product_77 rfl ?_
          refine g_icmp_ge (pc := 79) (tgt := 100) dX7_product_79 rfl (fun _ => ?_) (fun h79 => absurd (nI_le (Nat.le_refl _) (by omega)) h79)
          refine g_aload_n (pc := 100) dX7_product_100 rfl trivial ?_
          refine g_dup (pc := 101) dX7_product_101 rfl ?_
          refine g_getf (pc := 102) (v := .int _) dX7_product_102 fk_X7_36 (g1.k hd) (fun _ => congrArg Value.int (g6)) ?_
          refine g_iload (pc := 105) dX7_product_105 rfl ?_
          refine g_if_eq (pc := 107) (tgt := 114) dX7_product_107 rfl (fun h107 => absurd h107 ((by decide))) (fun _ => ?_)
          refine g_iconst (pc := 110) (v := 1) dX7_product_110 rfl ?_
          refine g_goto (pc := 111) (tgt := 115) dX7_product_111 rfl ?_
          refine g_iadd (pc := 115) dX7_product_115 ?_
          rw [show nI (tkR f (k * bl) w (tkB f n bl k) i) + 1 = nI (tkR f (k * bl) w (tkB f n bl k) (i + 1)) by rw [e9]; exact nI_add _ 1]
          refine g_putI (pc := 116) dX7_product_116 fp_X7_36 (g1.k hd) ⟨rfl, rfl⟩ (fun _ _ _ _ => rfl) ?_
          refine g_iinc (pc := 119) (lv' := [(0, _), (1, _), (2, _), (3, _), (4, _), (5, _), (6, _), (7, _), (8, _)]) dX7_product_119 rfl (nI_1 _) (nl rfl) rfl ?_
          refine g_goto (pc := 122) (tgt := 59) dX7_product_122 rfl ?_
          exact g_subk (ih2 _ hG.set3) ⟨rfl, rfl, rfl, rfl, rfl, rfl, rfl, trivial⟩
    · rintro My hG
      obtain ⟨g1, g2, g3, g4, g5, g6⟩ := hG
      refine g_iload (pc := 59) dX7_product_59 rfl ?_
      refine g_aload_n (pc := 61) dX7_product_61 rfl trivial ?_
      refine g_getf (pc := 62) (v := .int _) dX7_product_62 fk_X7_22 (g1.k hd) (fun _ => congrArg Value.int (g3)) ?_
      refine g_icmp_ge (pc := 65) (tgt := 125) dX7_product_65 rfl (fun _ => ?_) (fun h65 => absurd (nI_le (Nat.le_refl _) (by omega)) h65)
      refine g_iload (pc := 125) dX7_product_125 rfl ?_
      refine g_aload_n (pc := 127) dX7_product_127 rfl trivial ?_
      refine g_getf (pc := 128) (v := .int _) dX7_product_128 fk_X7_7 (g1.k hd) (fun _ => congrArg Value.int (g4)) ?_
      refine g_iadd (pc := 131) dX7_product_131 ?_
      rw [show nI (k * bl) + nI bl = nI ((k + 1) * bl) by rw [Nat.succ_mul]; exact nI_add _ _]
      refine g_istore (pc := 132) (lv' := [(0, _), (1, _), (2, _), (3, _), (4, _), (5, _), (6, _)]) dX7_product_132 (nl rfl) rfl ?_
      refine g_goto (pc := 134) (tgt := 13) dX7_product_134 rfl ?_
      refine g_subk (pc := 13) (ih My ⟨hkn', fun j hj => ?_, g1, g2, g3, g4, g5, by rw [et]; exact g6⟩) ⟨rfl, rfl, rfl, rfl, rfl, trivial⟩
      rcases Nat.lt_succ_iff_lt_or_eq.mp hj with z | z
      · exact hlt j z
      · rw [z]
        exact hkn
  · have hx1 := f1.2.1.trans hx
    have hd1 := f1.k hd
    have hA1 := hA.xt f1 dA dAr
    have hB1 := hB.xt f1 dB dBr
    have hFr := fresh_Mt Mx n
    have hX := os2_xt Mx .boolean n n
    have hle := f1.len
    refine g_iload (pc := 13) dX7_product_13 rfl ?_
    refine g_aload_n (pc := 15) dX7_product_15 rfl trivial ?_
    refine g_getf (pc := 16) (v := .int _) dX7_product_16 fk_X7_22 hd1 (fun _ => congrArg Value.int (f3)) ?_
    refine g_icmp_ge (pc := 19) (tgt := 137) dX7_product_19 rfl (fun _ => ?_) (fun h19 => absurd (nI_le hkn (by omega)) h19)
    refine g_aload_n (pc := 137) dX7_product_137 rfl trivial ?_
    refine g_invV_r (pc := 138) (As := []) dX7_product_138 rfl (k_fresh hd1 f3 hn hx1) rfl rfl hd1 rfl rfl lk_X7_56 rfl (nb rfl) ⟨nb rfl, nb rfl⟩ rfl ?_
    show Go l _ _ _ _ _ _ _ _ ([.ref (mK Mx).length] : List Value) _ _ (opsM Mx (os2 .boolean n n (mK Mx).length))
    have hd2 := hX.k hd1
    have hI2 := hX.I (k_lt hd1) id
    have hR2 := hX.R (k_lt hd1) id
    have hA2 := hA1.xt hX id (fun _ _ => id)
    have hB2 := hB1.xt hX id (fun _ _ => id)
    generalize hN : (mK Mx).length = N at *
    generalize opsM Mx (os2 .boolean n n N) = M2 at *
    have hlA := hA1.lt
    have hlB := hB1.lt
    have hdN := k_lt hd1
    rw [hN] at hlA hlB hdN
    have cl0 : ∀ {My : Mem}, Xt (fun i => N < i) M2 My → (mK My)[d]? = some (.inr 7) ∧ mI My d = mI Mx d ∧ Mt My ma n ra f ∧ Mt My mb n rb g := fun {My} h => ⟨h.k hd2, (h.I (k_lt hd2) (by omega)).trans hI2, hA2.xt h (by omega) (fun r hr => by have := hlA.2 r hr; omega), hB2.xt h (by omega) (fun r hr => by have := hlB.2 r hr; omega)⟩
    refine g_astore (pc := 141) (lv' := [(0, _), (1, _), (2, _), (3, _), (4, _)]) dX7_product_141 trivial (nl rfl) rfl ?_
    refine g_iconst (pc := 143) (v := 0) dX7_product_143 rfl ?_
    refine g_istore (pc := 144) (lv' := [(0, _), (1, _), (2, _), (3, _), (4, _), (5, _)]) dX7_product_144 (nl rfl) rfl ?_
    refine go_forS (pc := 146) n (fun i (_ : Mem) => [(0, .ref d), (1, .ref ma), (2, .ref mb), (3, .int (b1 is)), (4, .ref N), (5, .int (nI i))]) (fun z => z) (fun i My => Xt (fun j => N < j) M2 My ∧ Mt My N n (fun r => N + 1 + r) (fun r c => if r < i then mlB is f g n r c else false)) (fun _ => 0) (fun _ => 0) M2 ⟨rfl, rfl, rfl, rfl, rfl, rfl, trivial⟩ rfl rfl rfl ⟨Xt.rf _ M2, hFr.cg (fun r c _ _ => (if_neg (Nat.not_lt_zero r)).symm)⟩ ?_ ?_
    · rintro i My hi ⟨g1, g2⟩ ih2
      obtain ⟨hd9, hI9, -, -⟩ := cl0 g1
      refine g_iload (pc := 146) dX7_product_146 rfl ?_
      refine g_aload_n (pc := 148) dX7_product_148 rfl trivial ?_
      refine g_getf (pc := 149) (v := .int _) dX7_product_149 fk_X7_22 hd9 (fun _ => congrArg Value.int (((congrFun hI9 0).trans f3))) ?_
      refine g_icmp_ge (pc := 152) (tgt := 268) dX7_product_152 rfl (fun h152 => absurd h152 (nI_ge hi (by omega))) (fun _ => ?_)
      refine g_iconst (pc := 155) (v := 0) dX7_product_155 rfl ?_
      refine g_istore (pc := 156) (lv' := [(0, _), (1, _), (2, _), (3, _), (4, _), (5, _), (6, _)]) dX7_product_156 (nl rfl) rfl ?_
      refine go_forS (pc := 158) n (fun j (_ : Mem) => [(0, .ref d), (1, .ref ma), (2, .ref mb), (3, .int (b1 is)), (4, .ref N), (5, .int (nI i)), (6, .int (nI j))]) (fun z => z) (fun j My => Xt (fun j => N < j) M2 My ∧ Mt My N n (fun r => N + 1 + r) (fun r c => if r < i ∨ (r = i ∧ c < j) then mlB is f g n r c else false)) (fun _ => 0) (fun _ => 0) My ⟨rfl, rfl, rfl, rfl, rfl, rfl, rfl, trivial⟩ rfl rfl rfl ⟨g1, g2.cg (fun r c _ _ => ?_)⟩ ?_ ?_
      · by_cases e : r < i
        · rw [if_pos e, if_pos (Or.inl e)]
        · rw [if_neg e, if_neg (fun z => by omega)]
      · rintro j Mz hj ⟨g3, g4⟩ ih3
        obtain ⟨hd8, hI8, hA8, hB8⟩ := cl0 g3
        have hput : ∀ v : Bool, v = mlB is f g n i j → Mt (sI Mz (N + 1 + i) (fun_set (mI Mz (N + 1 + i)) j (vp_nar .boolean (b1 v)))) N n (fun r => N + 1 + r) (fun r c => if r < i ∨ (r = i ∧ c < j + 1) then mlB is f g n r c else false) := fun v hv => (g4.put (v := v) (j := j) hi (fun r _ e => by omega)).cg (fun r c _ _ => by
          by_cases e : r = i ∧ c = j
          · rw [if_pos e, if_pos (Or.inr ⟨e.1, by omega⟩), hv, e.1, e.2]
          · rw [if_neg e]
            by_cases e2 : r < i ∨ (r = i ∧ c < j)
            · rw [if_pos e2, if_pos (by omega)]
            · rw [if_neg e2, if_neg (by omega)])
        have hpx : ∀ v : Bool, Xt (fun j => N < j) M2 (sI Mz (N + 1 + i) (fun_set (mI Mz (N + 1 + i)) j (vp_nar .boolean (b1 v)))) := fun v => g3.sI (fun _ => by omega)
        refine g_iload (pc := 158) dX7_product_158 rfl ?_
        refine g_aload_n (pc := 160) dX7_product_160 rfl trivial ?_
        refine g_getf (pc := 161) (v := .int _) dX7_product_161 fk_X7_22 hd8 (fun _ => congrArg Value.int (((congrFun hI8 0).trans f3))) ?_
        refine g_icmp_ge (pc := 164) (tgt := 262) dX7_product_164 rfl (fun h164 => absurd h164 (nI_ge hj (by omega))) (fun _ => ?_)
        refine g_iconst (pc := 167) (v := 0) dX7_product_167 rfl ?_
        refine g_istore (pc := 168) (lv' := [(0, _), (1, _), (2, _), (3, _), (4, _), (5, _), (6, _), (7, _)]) dX7_product_168 (nl rfl) rfl ?_
        refine g_iconst (pc := 170) (v := 0) dX7_product_170 rfl ?_
        refine g_istore (pc := 171) (lv' := [(0, _), (1, _), (2, _), (3, _), (4, _), (5, _), (6, _), (7, _), (8, _)]) dX7_product_171 (nl rfl) rfl ?_
        refine go_loop (pc := 173) n (fun k => [(0, .ref d), (1, .ref ma), (2, .ref mb), (3, .int (b1 is)), (4, .ref N), (5, .int (nI i)), (6, .int (nI j)), (7, .int (nI (cR (fun k => f i k && g k j) k))), (8, .int (nI k))]) (fun _ => Mz) ⟨rfl, rfl, rfl, rfl, rfl, rfl, rfl, rfl, rfl, trivial⟩ rfl ?_ ?_
        · intro k9 hk9 ih4
          have hvA := (hA8.2 i hi).2.2 k9 hk9
          have hvB := (hB8.2 k9 hk9).2.2 j hj
          have e1 : cR (fun k => f i k && g k j) (k9 + 1) = cR (fun k => f i k && g k j) k9 + (match f i k9 && g k9 j with | true => 1 | false => 0) := rfl
          rw [e1] at ih4
          generalize cR (fun k => f i k && g k j) k9 = w at *
          cases hf : f i k9
          · rw [hf] at hvA ih4
            refine g_iload (pc := 173) dX7_product_173 rfl ?_
            refine g_aload_n (pc := 175) dX7_product_175 rfl trivial ?_
            refine g_getf (pc := 176) (v := .int _) dX7_product_176 fk_X7_22 hd8 (fun _ => congrArg Value.int (((congrFun hI8 0).trans f3))) ?_
            refine g_icmp_ge (pc := 179) (tgt := 218) dX7_product_179 rfl (fun h179 => absurd h179 (nI_ge hk9 (by omega))) (fun _ => ?_)
            refine g_iload (pc := 182) dX7_product_182 rfl ?_
            refine g_aload_n (pc := 184) dX7_product_184 rfl trivial ?_
            refine g_iload (pc := 185) dX7_product_185 rfl ?_
            refine g_aaload_Z1 (pc := 187) dX7_product_187 hA8.1 rfl hi (by omega) (hA8.2 i hi).1 ?_
            refine g_iload (pc := 188) dX7_product_188 rfl ?_
            refine g_zaload (pc := 190) dX7_product_190 (hA8.2 i hi).2.1 rfl hk9 (by omega) ?_
            rw [hvA]
            refine g_if_eq (pc := 191) (tgt := 208) dX7_product_191 rfl (fun _ => ?_) (fun h191 => absurd (rfl) h191)
            refine g_iconst (pc := 208) (v := 0) dX7_product_208 rfl ?_
            refine g_iadd (pc := 209) dX7_product_209 ?_
            rw [show nI w + 0 = nI (w + 0) from nI_add _ 0]
            refine g_istore (pc := 210) (lv' := [(0, _), (1, _), (2, _), (3, _), (4, _), (5, _), (6, _), (7, _), (8, _)]) dX7_product_210 (nl rfl) rfl ?_
            refine g_iinc (pc := 212) (lv' := [(0, _), (1, _), (2, _), (3, _), (4, _), (5, _), (6, _), (7, _), (8, _)]) dX7_product_212 rfl (nI_1 _) (nl rfl) rfl ?_
            refine g_goto (pc := 215) (tgt := 173) dX7_product_215 rfl ?_
            exact g_subk ih4 ⟨rfl, rfl, rfl, rfl, rfl, rfl, rfl, rfl, rfl, trivial⟩
          · cases hg : g k9 j
            · rw [hf, hg] at ih4
              rw [hf] at hvA
              rw [hg] at hvB
              refine g_iload (pc := 173) dX7_product_173 rfl ?_
              refine g_aload_n (pc := 175) dX7_product_175 rfl trivial ?_
              refine g_getf (pc := 176) (v := .int _) dX7_product_176 fk_X7_22 hd8 (fun _ => congrArg Value.int (((congrFun hI8 0).trans f3))) ?_
              refine g_icmp_ge (pc := 179) (tgt := 218) dX7_product_179 rfl (fun h179 => absurd h179 (nI_ge hk9 (by omega))) (fun _ => ?_)
              refine g_iload (pc := 182) dX7_product_182 rfl ?_
              refine g_aload_n (pc := 184) dX7_product_184 rfl trivial ?_
              refine g_iload (pc := 185) dX7_product_185 rfl ?_
              refine g_aaload_Z1 (pc := 187) dX7_product_187 hA8.1 rfl hi (by omega) (hA8.2 i hi).1 ?_
              refine g_iload (pc := 188) dX7_product_188 rfl ?_
              refine g_zaload (pc := 190) dX7_product_190 (hA8.2 i hi).2.1 rfl hk9 (by omega) ?_
              rw [hvA]
              refine g_if_eq (pc := 191) (tgt := 208) dX7_product_191 rfl (fun h191 => absurd h191 ((by decide))) (fun _ => ?_)
              refine g_aload_n (pc := 194) dX7_product_194 rfl trivial ?_
              refine g_iload (pc := 195) dX7_product_195 rfl ?_
              refine g_aaload_Z1 (pc := 197) dX7_product_197 hB8.1 rfl hk9 (by omega) (hB8.2 k9 hk9).1 ?_
              refine g_iload (pc := 198) dX7_product_198 rfl ?_
              refine g_zaload (pc := 200) dX7_product_200 (hB8.2 k9 hk9).2.1 rfl hj (by omega) ?_
              rw [hvB]
              refine g_if_eq (pc := 201) (tgt := 208) dX7_product_201 rfl (fun _ => ?_) (fun h201 => absurd (rfl) h201)
              refine g_iconst (pc := 208) (v := 0) dX7_product_208 rfl ?_
              refine g_iadd (pc := 209) dX7_product_209 ?_
              rw [show nI w + 0 = nI (w + 0) from nI_add _ 0]
              refine g_istore (pc := 210) (lv' := [(0, _), (1, _), (2, _), (3, _), (4, _), (5, _), (6, _), (7, _), (8, _)]) dX7_product_210 (nl rfl) rfl ?_
              refine g_iinc (pc := 212) (lv' := [(0, _), (1, _), (2, _), (3, _), (4, _), (5, _), (6, _), (7, _), (8, _)]) dX7_product_212 rfl (nI_1 _) (nl rfl) rfl ?_
              refine g_goto (pc := 215) (tgt := 173) dX7_product_215 rfl ?_
              exact g_subk ih4 ⟨rfl, rfl, rfl, rfl, rfl, rfl, rfl, rfl, rfl, trivial⟩
            · rw [hf, hg] at ih4
              rw [hf] at hvA
              rw [hg] at hvB
              refine g_iload (pc := 173) dX7_product_173 rfl ?_
              refine g_aload_n (pc := 175) dX7_product_175 rfl trivial ?_
              refine g_getf (pc := 176) (v := .int _) dX7_product_176 fk_X7_22 hd8 (fun _ => congrArg Value.int (((congrFun hI8 0).trans f3))) ?_
              refine g_icmp_ge (pc := 179) (tgt := 218) dX7_product_179 rfl (fun h179 => absurd h179 (nI_ge hk9 (by omega))) (fun _ => ?_)
              refine g_iload (pc := 182) dX7_product_182 rfl ?_
              refine g_aload_n (pc := 184) dX7_product_184 rfl trivial ?_
              refine g_iload (pc := 185) dX7_product_185 rfl ?_
              refine g_aaload_Z1 (pc := 187) dX7_product_187 hA8.1 rfl hi (by omega) (hA8.2 i hi).1 ?_
              refine g_iload (pc := 188) dX7_product_188 rfl ?_
              refine g_zaload (pc := 190) dX7_product_190 (hA8.2 i hi).2.1 rfl hk9 (by omega) ?_
              rw [hvA]
              refine g_if_eq (pc := 191) (tgt := 208) dX7_product_191 rfl (fun h191 => absurd h191 ((by decide))) (fun _ => ?_)
              refine g_aload_n (pc := 194) dX7_product_194 rfl trivial ?_
              refine g_iload (pc := 195) dX7_product_195 rfl ?_
              refine g_aaload_Z1 (pc := 197) dX7_product_197 hB8.1 rfl hk9 (by omega) (hB8.2 k9 hk9).1 ?_
              refine g_iload (pc := 198) dX7_product_198 rfl ?_
              refine g_zaload (pc := 200) dX7_product_200 (hB8.2 k9 hk9).2.1 rfl hj (by omega) ?_
              rw [hvB]
              refine g_if_eq (pc := 201) (tgt := 208) dX7_product_201 rfl (fun h201 => absurd h201 ((by decide))) (fun _ => ?_)
              refine g_iconst (pc := 204) (v := 1) dX7_product_204 rfl ?_
              refine g_goto (pc := 205) (tgt := 209) dX7_product_205 rfl ?_
              refine g_iadd (pc := 209) dX7_product_209 ?_
              rw [show nI w + 1 = nI (w + 1) from nI_add _ 1]
              refine g_istore (pc := 210) (lv' := [(0, _), (1, _), (2, _), (3, _), (4, _), (5, _), (6, _), (7, _), (8, _)]) dX7_product_210 (nl rfl) rfl ?_
              refine g_iinc (pc := 212) (lv' := [(0, _), (1, _), (2, _), (3, _), (4, _), (5, _), (6, _), (7, _), (8, _)]) dX7_product_212 rfl (nI_1 _) (nl rfl) rfl ?_
              refine g_goto (pc := 215) (tgt := 173) dX7_product_215 rfl ?_
              exact g_subk ih4 ⟨rfl, rfl, rfl, rfl, rfl, rfl, rfl, rfl, rfl, trivial⟩
        · have hwn := cR_le (fun k => f i k && g k j) n
          have hml : mlB is f g n i j = cond is (decide (cR (fun k => f i k && g k j) n % 2 = 1)) (decide (0 < cR (fun k => f i k && g k j) n)) := by cases is <;> rfl
          generalize cR (fun k => f i k && g k j) n = w at *
          cases is
          · by_cases hw : 0 < w
            · have hv : true = mlB false f g n i j := by rw [hml]; exact (decide_eq_true hw).symm
              refine g_iload (pc := 173) dX7_product_173 rfl ?_
              refine g_aload_n (pc := 175) dX7_product_175 rfl trivial ?_
              refine g_getf (pc := 176) (v := .int _) dX7_product_176 fk_X7_22 hd8 (fun _ => congrArg Value.int (((congrFun hI8 0).trans f3))) ?_
              refine g_icmp_ge (pc := 179) (tgt := 218) dX7_product_179 rfl (fun _ => ?_) (fun h179 => absurd (nI_le (Nat.le_refl _) (by omega)) h179)
              refine g_aload (pc := 218) dX7_product_218 rfl trivial ?_
              refine g_iload (pc := 220) dX7_product_220 rfl ?_
              refine g_aaload_Z1 (pc := 222) dX7_product_222 g4.1 rfl hi (by omega) (g4.2 i hi).1 ?_
              refine g_iload (pc := 223) dX7_product_223 rfl ?_
              refine g_iload_n (pc := 225) dX7_product_225 rfl ?_
              refine g_if_eq (pc := 226) (tgt := 245) dX7_product_226 rfl (fun _ => ?_) (fun h226 => absurd (rfl) h226)
              refine g_iload (pc := 245) dX7_product_245 rfl ?_
              refine g_if_le (pc := 247) (tgt := 254) dX7_product_247 rfl (fun h247 => absurd h247 ((nI_ngt9 hw (by omega)))) (fun _ => ?_)
              refine g_iconst (pc := 250) (v := 1) dX7_product_250 rfl ?_
              refine g_goto (pc := 251) (tgt := 255) dX7_product_251 rfl ?_
              refine g_zastore (pc := 255) dX7_product_255 (g4.2 i hi).2.1 rfl hj (by omega) ?_
              refine g_iinc (pc := 256) (lv' := [(0, _), (1, _), (2, _), (3, _), (4, _), (5, _), (6, _), (7, _), (8, _)]) dX7_product_256 rfl (nI_1 _) (nl rfl) rfl ?_
              refine g_goto (pc := 259) (tgt := 158) dX7_product_259 rfl ?_
              exact g_subk (ih3 _ ⟨hpx true, hput true hv⟩) ⟨rfl, rfl, rfl, rfl, rfl, rfl, rfl, trivial⟩
            · have hv : false = mlB false f g n i j := by rw [hml]; exact (decide_eq_false hw).symm
              have hw0 : w = 0 := by omega
              refine g_iload (pc := 173) dX7_product_173 rfl ?_
              refine g_aload_n (pc := 175) dX7_product_175 rfl trivial ?_
              refine g_getf (pc := 176) (v := .int _) dX7_product_176 fk_X7_22 hd8 (fun _ => congrArg Value.int (((congrFun hI8 0).trans f3))) ?_
              refine g_icmp_ge (pc := 179) (tgt := 218) dX7_product_179 rfl (fun _ => ?_) (fun h179 => absurd (nI_le (Nat.le_refl _) (by omega)) h179)
              refine g_aload (pc := 218) dX7_product_218 rfl trivial ?_
              refine g_iload (pc := 220) dX7_product_220 rfl ?_
              refine g_aaload_Z1 (pc := 222) dX7_product_222 g4.1 rfl hi (by omega) (g4.2 i hi).1 ?_
              refine g_iload (pc := 223) dX7_product_223 rfl ?_
              refine g_iload_n (pc := 225) dX7_product_225 rfl ?_
              refine g_if_eq (pc := 226) (tgt := 245) dX7_product_226 rfl (fun _ => ?_) (fun h226 => absurd (rfl) h226)
              refine g_iload (pc := 245) dX7_product_245 rfl ?_
              refine g_if_le (pc := 247) (tgt := 254) dX7_product_247 rfl (fun _ => ?_) (fun h247 => absurd ((by rw [hw0]; decide)) h247)
              refine g_iconst (pc := 254) (v := 0) dX7_product_254 rfl ?_
              refine g_zastore (pc := 255) dX7_product_255 (g4.2 i hi).2.1 rfl hj (by omega) ?_
              refine g_iinc (pc := 256) (lv' := [(0, _), (1, _), (2, _), (3, _), (4, _), (5, _), (6, _), (7, _), (8, _)]) dX7_product_256 rfl (nI_1 _) (nl rfl) rfl ?_
              refine g_goto (pc := 259) (tgt := 158) dX7_product_259 rfl ?_
              exact g_subk (ih3 _ ⟨hpx false, hput false hv⟩) ⟨rfl, rfl, rfl, rfl, rfl, rfl, rfl, trivial⟩
          · by_cases hw : w % 2 = 1
            · have hv : true = mlB true f g n i j := by rw [hml]; exact (decide_eq_true hw).symm
              refine g_iload (pc := 173) dX7_product_173 rfl ?_
              refine g_aload_n (pc := 175) dX7_product_175 rfl trivial ?_
              refine g_getf (pc := 176) (v := .int _) dX7_product_176 fk_X7_22 hd8 (fun _ => congrArg Value.int (((congrFun hI8 0).trans f3))) ?_
              refine g_icmp_ge (pc := 179) (tgt := 218) dX7_product_179 rfl (fun _ => ?_) (fun h179 => absurd (nI_le (Nat.le_refl _) (by omega)) h179)
              refine g_aload (pc := 218) dX7_product_218 rfl trivial ?_
              refine g_iload (pc := 220) dX7_product_220 rfl ?_
              refine g_aaload_Z1 (pc := 222) dX7_product_222 g4.1 rfl hi (by omega) (g4.2 i hi).1 ?_
              refine g_iload (pc := 223) dX7_product_223 rfl ?_
              refine g_iload_n (pc := 225) dX7_product_225 rfl ?_
              refine g_if_eq (pc := 226) (tgt := 245) dX7_product_226 rfl (fun h226 => absurd h226 ((by decide))) (fun _ => ?_)
              refine g_iload (pc := 229) dX7_product_229 rfl ?_
              refine g_iconst (pc := 231) (v := 2) dX7_product_231 rfl ?_
              refine g_irem (pc := 232) dX7_product_232 (by decide) ?_
              refine g_iconst (pc := 233) (v := 1) dX7_product_233 rfl ?_
              refine g_icmp_ne (pc := 234) (tgt := 241) dX7_product_234 rfl (fun h234 => absurd h234 ((fun z => z ((rem_2 w (by omega)).mpr hw)))) (fun _ => ?_)
              refine g_iconst (pc := 237) (v := 1) dX7_product_237 rfl ?_
              refine g_goto (pc := 238) (tgt := 255) dX7_product_238 rfl ?_
              refine g_zastore (pc := 255) dX7_product_255 (g4.2 i hi).2.1 rfl hj (by omega) ?_
              refine g_iinc (pc := 256) (lv' := [(0, _), (1, _), (2, _), (3, _), (4, _), (5, _), (6, _), (7, _), (8, _)]) dX7_product_256 rfl (nI_1 _) (nl rfl) rfl ?_
              refine g_goto (pc := 259) (tgt := 158) dX7_product_259 rfl ?_
              exact g_subk (ih3 _ ⟨hpx true, hput true hv⟩) ⟨rfl, rfl, rfl, rfl, rfl, rfl, rfl, trivial⟩
            · have hv : false = mlB true f g n i j := by rw [hml]; exact (decide_eq_false hw).symm
              refine g_iload (pc := 173) dX7_product_173 rfl ?_
              refine g_aload_n (pc := 175) dX7_product_175 rfl trivial ?_
              refine g_getf (pc := 176) (v := .int _) dX7_product_176 fk_X7_22 hd8 (fun _ => congrArg Value.int (((congrFun hI8 0).trans f3))) ?_
              refine g_icmp_ge (pc := 179) (tgt := 218) dX7_product_179 rfl (fun _ => ?_) (fun h179 => absurd (nI_le (Nat.le_refl _) (by omega)) h179)
              refine g_aload (pc := 218) dX7_product_218 rfl trivial ?_
              refine g_iload (pc := 220) dX7_product_220 rfl ?_
              refine g_aaload_Z1 (pc := 222) dX7_product_222 g4.1 rfl hi (by omega) (g4.2 i hi).1 ?_
              refine g_iload (pc := 223) dX7_product_223 rfl ?_
              refine g_iload_n (pc := 225) dX7_product_225 rfl ?_
              refine g_if_eq (pc := 226) (tgt := 245) dX7_product_226 rfl (fun h226 => absurd h226 ((by decide))) (fun _ => ?_)
              refine g_iload (pc := 229) dX7_product_229 rfl ?_
              refine g_iconst (pc := 231) (v := 2) dX7_product_231 rfl ?_
              refine g_irem (pc := 232) dX7_product_232 (by decide) ?_
              refine g_iconst (pc := 233) (v := 1) dX7_product_233 rfl ?_
              refine g_icmp_ne (pc := 234) (tgt := 241) dX7_product_234 rfl (fun _ => ?_) (fun h234 => absurd ((fun z => hw ((rem_2 w (by omega)).mp z))) h234)
              refine g_iconst (pc := 241) (v := 0) dX7_product_241 rfl ?_
              refine g_goto (pc := 242) (tgt := 255) dX7_product_242 rfl ?_
              refine g_zastore (pc := 255) dX7_product_255 (g4.2 i hi).2.1 rfl hj (by omega) ?_
              refine g_iinc (pc := 256) (lv' := [(0, _), (1, _), (2, _), (3, _), (4, _), (5, _), (6, _), (7, _), (8, _)]) dX7_product_256 rfl (nI_1 _) (nl rfl) rfl ?_
              refine g_goto (pc := 259) (tgt := 158) dX7_product_259 rfl ?_
              exact g_subk (ih3 _ ⟨hpx false, hput false hv⟩) ⟨rfl, rfl, rfl, rfl, rfl, rfl, rfl, trivial⟩
      · rintro Mz ⟨g3, g4⟩
        obtain ⟨hd8, hI8, hA8, hB8⟩ := cl0 g3
        refine g_iload (pc := 158) dX7_product_158 rfl ?_
        refine g_aload_n (pc := 160) dX7_product_160 rfl trivial ?_
        refine g_getf (pc := 161) (v := .int _) dX7_product_161 fk_X7_22 hd8 (fun _ => congrArg Value.int (((congrFun hI8 0).trans f3))) ?_
        refine g_icmp_ge (pc := 164) (tgt := 262) dX7_product_164 rfl (fun _ => ?_) (fun h164 => absurd (nI_le (Nat.le_refl _) (by omega)) h164)
        refine g_iinc (pc := 262) (lv' := [(0, _), (1, _), (2, _), (3, _), (4, _), (5, _), (6, _)]) dX7_product_262 rfl (nI_1 _) (nl rfl) rfl ?_
        refine g_goto (pc := 265) (tgt := 146) dX7_product_265 rfl ?_
        refine g_subk (pc := 146) (ih2 Mz ⟨g3, g4.cg (fun r c _ hc => ?_)⟩) ⟨rfl, rfl, rfl, rfl, rfl, rfl, trivial⟩
        by_cases e : r < i + 1
        · rw [if_pos e, if_pos (by omega)]
        · rw [if_neg e, if_neg (by omega)]
    · rintro My ⟨g1, g2⟩
      obtain ⟨hd9, hI9, -, -⟩ := cl0 g1
      have hRd : mR My d = mR M d := ((g1.R (k_lt hd2) (by omega)).trans hR2).trans f2
      refine g_iload (pc := 146) dX7_product_146 rfl ?_
      refine g_aload_n (pc := 148) dX7_product_148 rfl trivial ?_
      refine g_getf (pc := 149) (v := .int _) dX7_product_149 fk_X7_22 hd9 (fun _ => congrArg Value.int (((congrFun hI9 0).trans f3))) ?_
      refine g_icmp_ge (pc := 152) (tgt := 268) dX7_product_152 rfl (fun _ => ?_) (fun h152 => absurd (nI_le (Nat.le_refl _) (by omega)) h152)
      refine g_aload (pc := 268) dX7_product_268 rfl trivial ?_
      refine g_areturn (pc := 270) dX7_product_270 rfl (Or.inr ⟨_, rfl⟩) ?_
      refine ⟨_, rfl, N, N + 1, k, rfl, g2.cg (fun r c hr _ => if_pos hr), by omega, by omega, ⟨hkn, hlt⟩, (f1.tr' hX (fun _ _ z => z.elim)).tr' g1 (fun i hi z => by omega), hRd, (congrFun hI9 0).trans f3, (congrFun hI9 1).trans f4, (congrFun hI9 2).trans f5, (congrFun hI9 3).trans f6⟩
end

