/-! the reference reads: rows, fillings -/
def rbB (T : Nat → Int32) (b : Nat) : Nat → Int32
  | 0 => 0
  | k + 1 => rbB T b k ||| (if k < 32 ∧ T (b + k) = 49 then bitI k else 0)
def isB (T : Nat → Int32) (b : Nat) : Nat → Bool
  | 0 => true
  | k + 1 => isB T b k && decide (T (b + k) ≤ 49)
theorem lN_iq {a b : Nat} (ha : a < 2147483648) (hb9 : b < 2147483648) (h : lN a = lN b) : a = b := by
  have := congrArg Int64.toInt h
  rw [lN_toInt (by omega), lN_toInt (by omega)] at this
  omega
section
variable {T : Nat → Int32} {b k : Nat}
theorem isB_t (h : T (b + k) ≤ 49) : b1 (isB T b k) &&& 1 = b1 (isB T b (k + 1)) := by
  rw [isB, decide_eq_true h]; cases isB T b k <;> rfl
theorem isB_f (h : ¬ T (b + k) ≤ 49) : b1 (isB T b k) &&& 0 = b1 (isB T b (k + 1)) := by
  rw [isB, decide_eq_false h]; cases isB T b k <;> rfl
theorem rbB_t (h : k < 32) (h2 : T (b + k) = 49) : uL (rbB T b k) ||| 1 <<< ((nI k).toInt64 &&& 63) = uL (rbB T b (k + 1)) := by
  rw [rbB, if_pos ⟨h, h2⟩, sh_bit k h, uL_or]
theorem rbB_f (h : ¬ (k < 32 ∧ T (b + k) = 49)) : uL (rbB T b k) ||| 0 = uL (rbB T b (k + 1)) := by
  rw [rbB, if_neg h, ← uL_or, uL_0]
end
/-- a row read: the rows, the numbers -/
def gRb (T : Nat → Int32) (len n a r : Nat) (u : Nat → Int64) (s : RP) (b : Nat) : (Nat → Int64) × RP :=
  if b < len ∧ isDi (T b) = true then
    (if isB T b (digP T len b - b) = true ∧ digP T len b - b = n then (fun_set u (28 + 32 * a + r) (uL (rbB T b n)), (digP T len b, nI b, s.2.2))
     else (u, rFail 2 (nI b) (digP T len b, nI b, s.2.2)))
  else (u, rFail 1 (nI b) (b, nI b, s.2.2))
def gR (T : Nat → Int32) (len n : Nat) (u : Nat → Int64) (s : RP) : (Nat → Int64) × RP :=
  if (nmS T len 0 (nI (n - 1)) (nmS T len 0 (nI 5) s)).2.2.2.1 = 0 then gRb T len n (nmN T len 5 s) (nmN T len (n - 1) (nmS T len 0 (nI 5) s)) u (nmS T len 0 (nI (n - 1)) (nmS T len 0 (nI 5) s)) (skipP T len (nmS T len 0 (nI (n - 1)) (nmS T len 0 (nI 5) s)).1)
  else (u, nmS T len 0 (nI (n - 1)) (nmS T len 0 (nI 5) s))
section
variable {l : Launch} {M : Mem} {s : RP} {len n : Nat} {T : Nat → Int32}
theorem r_rowPart (hS : Shp M) (hT : txt M T len) (hl : mI M 198 8 = nI len) (hL : len ≤ 600) (hp : s.1 ≤ len) (hz : mL M 200 0 = lN n) (hn : 1 ≤ n) (hn9 : n ≤ 32) : EvR l jX7_rowPart 4 130 0 0 [.ref 198] (psM M s) (.inl none) (psM (sL M 200 (gR T len n (mL M 200) s).1) (gR T len n (mL M 200) s).2) := by
  have q1 := r_readSlot (l := l) (s := s) hS hT hl hL hp
  have ha := (nmN_ok (T := T) (len := len) (s := s) (h := 5) (by decide)).2
  unfold gR
  generalize nmN T len 5 s = a at *
  have hp1 := nmS_le (T := T) (lo := 0) (hi := nI 5) hp
  generalize nmS T len 0 (nI 5) s = s1 at *
  have q2 := r_readNode (l := l) (s := s1) hS hT hl hL hp1 hz hn hn9
  have hr := (nmN_ok (T := T) (len := len) (s := s1) (h := n - 1) (by omega)).2
  generalize nmN T len (n - 1) s1 = r at *
  have hp2 := nmS_le (T := T) (lo := 0) (hi := nI (n - 1)) hp1
  generalize nmS T len 0 (nI (n - 1)) s1 = s2 at *
  have h11 : mI (psM M s2) 198 11 = s2.2.2.2.1 := ps_11
  have hS0 : Shp (psM M s) := hS
  have hS1 : Shp (psM M s1) := hS
  have hS2 : Shp (psM M s2) := hS
  have eP : ∀ w t, psM (sL M 200 w) t = sL (psM M t) 200 w := fun w t => ps_sL.symm
  refine ev_intro rfl (nb rfl) rfl ?_
  by_cases he : s2.2.2.2.1 = 0
  · rw [if_pos he]
    have q3 := r_next (l := l) (s := s2) hS hT hl hL hp2
    have hsk := (skipP_le (T := T) hp2).2
    unfold nxS at q3
    unfold gRb
    obtain ⟨b, hb⟩ : ∃ b, b = skipP T len s2.1 := ⟨_, rfl⟩
    rw [← hb] at q3 hsk
    rw [← hb]
    have hin := hv_in (T := T) (len := len) (p := b) (a := 48) (b := 57) (c := isDi) (by decide) isDi_iff
    have hS3 : Shp (psM M (b, nI b, s2.2.2)) := hS
    have h113 : mI (psM M (b, nI b, s2.2.2)) 198 11 = 0 := ps_11.trans he
    by_cases hd : b < len ∧ isDi (T b) = true
    · rw [if_pos hd]
      have hh := hin.mpr hd
      have hdle := digP_le (T := T) (show b ≤ len by omega)
      obtain ⟨S, hs⟩ : ∃ S, S = digP T len b := ⟨_, rfl⟩
      rw [← hs] at hdle
      rw [← hs]
      refine g_aload_n (pc := 0) dX7_rowPart_0 rfl trivial ?_
      refine g_invV_r (pc := 1) (As := []) dX7_rowPart_1 rfl (q1) rfl rfl (shK hS0 rfl) rfl rfl lk_X7_140 rfl (nb rfl) ⟨nb rfl, nb rfl⟩ rfl ?_
      refine g_istore_n (pc := 4) (lv' := [(0, _), (1, _)]) dX7_rowPart_4 (nl rfl) rfl ?_
      refine g_aload_n (pc := 5) dX7_rowPart_5 rfl trivial ?_
      refine g_invV_r (pc := 6) (As := []) dX7_rowPart_6 rfl (q2) rfl rfl (shK hS1 rfl) rfl rfl lk_X7_143 rfl (nb rfl) ⟨nb rfl, nb rfl⟩ rfl ?_
      refine g_istore_n (pc := 9) (lv' := [(0, _), (1, _), (2, _)]) dX7_rowPart_9 (nl rfl) rfl ?_
      refine g_aload_n (pc := 10) dX7_rowPart_10 rfl trivial ?_
      refine g_getf (pc := 11) (v := .int _) dX7_rowPart_11 fk_X7_93 (shK hS2 rfl) (fun _ => congrArg Value.int (h11)) ?_
      refine g_if_ne (pc := 14) (tgt := 39) dX7_rowPart_14 rfl (fun h14 => absurd h14 ((fun z => z he))) (fun _ => ?_)
      refine g_aload_n (pc := 17) dX7_rowPart_17 rfl trivial ?_
      refine g_invV_r (pc := 18) (As := []) dX7_rowPart_18 rfl (q3) rfl rfl (shK hS2 rfl) rfl rfl lk_X7_99 rfl (nb rfl) ⟨nb rfl, nb rfl⟩ rfl ?_
      refine g_i2l (pc := 21) dX7_rowPart_21 rfl ?_
      refine g_ldc2 (pc := 22) dX7_rowPart_22 wd_1345 ?_
      refine g_ldc2 (pc := 25) dX7_rowPart_25 wd_1346 ?_
      refine g_invS_r (pc := 28) (As := [_, _, _]) dX7_rowPart_28 rfl (r_in_t hh.1 hh.2) rfl rfl lk_X7_67 rfl (nb rfl) ⟨nb rfl, nb rfl⟩ rfl ?_
      refine g_if_ne (pc := 31) (tgt := 39) dX7_rowPart_31 rfl (fun _ => ?_) (fun h31 => absurd ((by decide)) h31)
      refine g_aload_n (pc := 39) dX7_rowPart_39 rfl trivial ?_
      refine g_getf (pc := 40) (v := .int _) dX7_rowPart_40 fk_X7_93 (shK hS3 rfl) (fun _ => congrArg Value.int (h113)) ?_
      refine g_if_eq (pc := 43) (tgt := 47) dX7_rowPart_43 rfl (fun _ => ?_) (fun h43 => absurd (rfl) h43)
      refine g_lconst (pc := 47) (v := 0) dX7_rowPart_47 rfl ?_
      refine g_lstore_n (pc := 48) (lv' := [(0, _), (1, _), (2, _), (3, _)]) dX7_rowPart_48 (nl rfl) rfl ?_
      rw [← uL_0]
      refine g_iconst (pc := 49) (v := 0) dX7_rowPart_49 rfl ?_
      refine g_istore (pc := 50) (lv' := [(0, _), (1, _), (2, _), (3, _), (5, _)]) dX7_rowPart_50 (nl rfl) rfl ?_
      refine g_iconst (pc := 52) (v := 1) dX7_rowPart_52 rfl ?_
      refine g_istore (pc := 53) (lv' := [(0, _), (1, _), (2, _), (3, _), (5, _), (6, _)]) dX7_rowPart_53 (nl rfl) rfl ?_
      refine go_while (pc := 55) (σ := Nat) (fun p => b ≤ p ∧ p ≤ len ∧ digP T len p = S) (fun p => len - p) (fun p => [(0, .ref 198), (1, .int (nI a)), (2, .int (nI r)), (3, .long (uL (rbB T b (p - b)))), (5, .int (nI (p - b))), (6, .int (b1 (isB T b (p - b))))]) (fun p => psM M (p, nI b, s2.2.2)) b ⟨rfl, rfl, rfl, by rw [Nat.sub_self]; rfl, by rw [Nat.sub_self]; rfl, by rw [Nat.sub_self]; rfl, trivial⟩ rfl ⟨Nat.le_refl _, hsk, hs.symm⟩ ?_
      rintro p ⟨h0, h1, h2⟩ ih
      have hS1 : Shp (psM M (p, nI b, s2.2.2)) := hS
      have q2 := r_here (l := l) (s := (p, nI b, s2.2.2)) hS hT hl hL h1
      have h9 : mI (psM M (p, nI b, s2.2.2)) 198 9 = nI p := ps_9
      have hin2 := hv_in (T := T) (len := len) (p := p) (a := 48) (b := 57) (c := isDi) (by decide) isDi_iff
      by_cases hp2 : p < len ∧ isDi (T p) = true
      · have hh2 := hin2.mpr hp2
        rw [digP_s hp2.1 hp2.2] at h2
        have e9 : pI (psM M (p, nI b, s2.2.2)) 198 9 (nI (p + 1)) = psM M (p + 1, nI b, s2.2.2) := ps_p9 rfl
        have ih2 := ih (p + 1) ⟨by omega, hp2.1, h2⟩ (by omega)
        have ehv : hvF T len p = T (b + (p - b)) := by unfold hvF; rw [if_pos hp2.1]; congr 1; omega
        rw [show p + 1 - b = (p - b) + 1 by omega] at ih2
        have hkn : p - b < 600 := by omega
        generalize p - b = k at *
        rw [ehv] at q2 hh2
        generalize psM M (p + 1, nI b, s2.2.2) = M2 at *
        generalize psM M (p, nI b, s2.2.2) = M1 at *
        refine g_aload_n (pc := 55) dX7_rowPart_55 rfl trivial ?_
        refine g_invV_r (pc := 56) (As := []) dX7_rowPart_56 rfl (q2) rfl rfl (shK hS1 rfl) rfl rfl lk_X7_87 rfl (nb rfl) ⟨nb rfl, nb rfl⟩ rfl ?_
        refine g_i2l (pc := 59) dX7_rowPart_59 rfl ?_
        refine g_ldc2 (pc := 60) dX7_rowPart_60 wd_1345 ?_
        refine g_ldc2 (pc := 63) dX7_rowPart_63 wd_1346 ?_
        refine g_invS_r (pc := 66) (As := [_, _, _]) dX7_rowPart_66 rfl (r_in_t hh2.1 hh2.2) rfl rfl lk_X7_67 rfl (nb rfl) ⟨nb rfl, nb rfl⟩ rfl ?_
        refine g_if_eq (pc := 69) (tgt := 134) dX7_rowPart_69 rfl (fun h69 => absurd h69 ((by decide))) (fun _ => ?_)
        refine g_iload (pc := 72) dX7_rowPart_72 rfl ?_
        refine g_aload_n (pc := 74) dX7_rowPart_74 rfl trivial ?_
        refine g_invV_r (pc := 75) (As := []) dX7_rowPart_75 rfl (q2) rfl rfl (shK hS1 rfl) rfl rfl lk_X7_87 rfl (nb rfl) ⟨nb rfl, nb rfl⟩ rfl ?_
        refine g_bipush (pc := 78) (v := 49) dX7_rowPart_78 rfl ?_
        refine g_icmp_gt (pc := 80) (tgt := 87) dX7_rowPart_80 rfl (fun h80 => ?_) (fun h80 => ?_)
        · refine g_iconst (pc := 87) (v := 0) dX7_rowPart_87 rfl ?_
          refine g_iand (pc := 88) dX7_rowPart_88 ?_
          rw [isB_f (Int32.not_le.mpr h80)]
          refine g_istore (pc := 89) (lv' := [(0, _), (1, _), (2, _), (3, _), (5, _), (6, _)]) dX7_rowPart_89 (nl rfl) rfl ?_
          refine g_lload_n (pc := 91) dX7_rowPart_91 rfl ?_
          refine g_iload (pc := 92) dX7_rowPart_92 rfl ?_
          refine g_bipush (pc := 94) (v := 32) dX7_rowPart_94 rfl ?_
          refine g_icmp_ge (pc := 96) (tgt := 115) dX7_rowPart_96 rfl (fun h96 => ?_) (fun h96 => ?_)
          · refine g_lconst (pc := 115) (v := 0) dX7_rowPart_115 rfl ?_
            refine g_lor (pc := 116) dX7_rowPart_116 ?_
            rw [rbB_f (fun z => Int32.not_lt.mpr h96 (nI_lt (b := 32) z.1 (by decide)))]
            refine g_lstore_n (pc := 117) (lv' := [(0, _), (1, _), (2, _), (3, _), (5, _), (6, _)]) dX7_rowPart_117 (nl rfl) rfl ?_
            refine g_iinc (pc := 118) (lv' := [(0, _), (1, _), (2, _), (3, _), (5, _), (6, _)]) dX7_rowPart_118 rfl (nI_1 _) (nl rfl) rfl ?_
            refine g_aload_n (pc := 121) dX7_rowPart_121 rfl trivial ?_
            refine g_dup (pc := 122) dX7_rowPart_122 rfl ?_
            refine g_getf (pc := 123) (v := .int _) dX7_rowPart_123 fk_X7_84 (shK hS1 rfl) (fun _ => congrArg Value.int (h9)) ?_
            refine g_iconst (pc := 126) (v := 1) dX7_rowPart_126 rfl ?_
            refine g_iadd (pc := 127) dX7_rowPart_127 ?_
            rw [nI_1]
            refine g_putI (pc := 128) dX7_rowPart_128 fp_X7_84 (shK hS1 rfl) ⟨rfl, rfl⟩ (fun _ _ _ _ => rfl) ?_
            refine go_cast e9 ?_
            refine g_goto (pc := 131) (tgt := 55) dX7_rowPart_131 rfl ?_
            exact ih2
          · refine g_aload_n (pc := 99) dX7_rowPart_99 rfl trivial ?_
            refine g_invV_r (pc := 100) (As := []) dX7_rowPart_100 rfl (q2) rfl rfl (shK hS1 rfl) rfl rfl lk_X7_87 rfl (nb rfl) ⟨nb rfl, nb rfl⟩ rfl ?_
            refine g_bipush (pc := 103) (v := 49) dX7_rowPart_103 rfl ?_
            refine g_icmp_ne (pc := 105) (tgt := 115) dX7_rowPart_105 rfl (fun h105 => ?_) (fun h105 => ?_)
            · refine g_lconst (pc := 115) (v := 0) dX7_rowPart_115 rfl ?_
              refine g_lor (pc := 116) dX7_rowPart_116 ?_
              rw [rbB_f (fun z => h105 z.2)]
              refine g_lstore_n (pc := 117) (lv' := [(0, _), (1, _), (2, _), (3, _), (5, _), (6, _)]) dX7_rowPart_117 (nl rfl) rfl ?_
              refine g_iinc (pc := 118) (lv' := [(0, _), (1, _), (2, _), (3, _), (5, _), (6, _)]) dX7_rowPart_118 rfl (nI_1 _) (nl rfl) rfl ?_
              refine g_aload_n (pc := 121) dX7_rowPart_121 rfl trivial ?_
              refine g_dup (pc := 122) dX7_rowPart_122 rfl ?_
              refine g_getf (pc := 123) (v := .int _) dX7_rowPart_123 fk_X7_84 (shK hS1 rfl) (fun _ => congrArg Value.int (h9)) ?_
              refine g_iconst (pc := 126) (v := 1) dX7_rowPart_126 rfl ?_
              refine g_iadd (pc := 127) dX7_rowPart_127 ?_
              rw [nI_1]
              refine g_putI (pc := 128) dX7_rowPart_128 fp_X7_84 (shK hS1 rfl) ⟨rfl, rfl⟩ (fun _ _ _ _ => rfl) ?_
              refine go_cast e9 ?_
              refine g_goto (pc := 131) (tgt := 55) dX7_rowPart_131 rfl ?_
              exact ih2
            · refine g_lconst (pc := 108) (v := 1) dX7_rowPart_108 rfl ?_
              refine g_iload (pc := 109) dX7_rowPart_109 rfl ?_
              refine g_lshl (pc := 111) dX7_rowPart_111 rfl ?_
              refine g_goto (pc := 112) (tgt := 116) dX7_rowPart_112 rfl ?_
              refine g_lor (pc := 116) dX7_rowPart_116 ?_
              rw [rbB_t (Nat.lt_of_not_le (fun z => h96 (nI_le (a := 32) z (by omega)))) (Classical.byContradiction h105)]
              refine g_lstore_n (pc := 117) (lv' := [(0, _), (1, _), (2, _), (3, _), (5, _), (6, _)]) dX7_rowPart_117 (nl rfl) rfl ?_
              refine g_iinc (pc := 118) (lv' := [(0, _), (1, _), (2, _), (3, _), (5, _), (6, _)]) dX7_rowPart_118 rfl (nI_1 _) (nl rfl) rfl ?_
              refine g_aload_n (pc := 121) dX7_rowPart_121 rfl trivial ?_
              refine g_dup (pc := 122) dX7_rowPart_122 rfl ?_
              refine g_getf (pc := 123) (v := .int _) dX7_rowPart_123 fk_X7_84 (shK hS1 rfl) (fun _ => congrArg Value.int (h9)) ?_
              refine g_iconst (pc := 126) (v := 1) dX7_rowPart_126 rfl ?_
              refine g_iadd (pc := 127) dX7_rowPart_127 ?_
              rw [nI_1]
              refine g_putI (pc := 128) dX7_rowPart_128 fp_X7_84 (shK hS1 rfl) ⟨rfl, rfl⟩ (fun _ _ _ _ => rfl) ?_
              refine go_cast e9 ?_
              refine g_goto (pc := 131) (tgt := 55) dX7_rowPart_131 rfl ?_
              exact ih2
        · refine g_iconst (pc := 83) (v := 1) dX7_rowPart_83 rfl ?_
          refine g_goto (pc := 84) (tgt := 88) dX7_rowPart_84 rfl ?_
          refine g_iand (pc := 88) dX7_rowPart_88 ?_
          rw [isB_t (Int32.not_lt.mp h80)]
          refine g_istore (pc := 89) (lv' := [(0, _), (1, _), (2, _), (3, _), (5, _), (6, _)]) dX7_rowPart_89 (nl rfl) rfl ?_
          refine g_lload_n (pc := 91) dX7_rowPart_91 rfl ?_
          refine g_iload (pc := 92) dX7_rowPart_92 rfl ?_
          refine g_bipush (pc := 94) (v := 32) dX7_rowPart_94 rfl ?_
          refine g_icmp_ge (pc := 96) (tgt := 115) dX7_rowPart_96 rfl (fun h96 => ?_) (fun h96 => ?_)
          · refine g_lconst (pc := 115) (v := 0) dX7_rowPart_115 rfl ?_
            refine g_lor (pc := 116) dX7_rowPart_116 ?_
            rw [rbB_f (fun z => Int32.not_lt.mpr h96 (nI_lt (b := 32) z.1 (by decide)))]
            refine g_lstore_n (pc := 117) (lv' := [(0, _), (1, _), (2, _), (3, _), (5, _), (6, _)]) dX7_rowPart_117 (nl rfl) rfl ?_
            refine g_iinc (pc := 118) (lv' := [(0, _), (1, _), (2, _), (3, _), (5, _), (6, _)]) dX7_rowPart_118 rfl (nI_1 _) (nl rfl) rfl ?_
            refine g_aload_n (pc := 121) dX7_rowPart_121 rfl trivial ?_
            refine g_dup (pc := 122) dX7_rowPart_122 rfl ?_
            refine g_getf (pc := 123) (v := .int _) dX7_rowPart_123 fk_X7_84 (shK hS1 rfl) (fun _ => congrArg Value.int (h9)) ?_
            refine g_iconst (pc := 126) (v := 1) dX7_rowPart_126 rfl ?_
            refine g_iadd (pc := 127) dX7_rowPart_127 ?_
            rw [nI_1]
            refine g_putI (pc := 128) dX7_rowPart_128 fp_X7_84 (shK hS1 rfl) ⟨rfl, rfl⟩ (fun _ _ _ _ => rfl) ?_
            refine go_cast e9 ?_
            refine g_goto (pc := 131) (tgt := 55) dX7_rowPart_131 rfl ?_
            exact ih2
          · refine g_aload_n (pc := 99) dX7_rowPart_99 rfl trivial ?_
            refine g_invV_r (pc := 100) (As := []) dX7_rowPart_100 rfl (q2) rfl rfl (shK hS1 rfl) rfl rfl lk_X7_87 rfl (nb rfl) ⟨nb rfl, nb rfl⟩ rfl ?_
            refine g_bipush (pc := 103) (v := 49) dX7_rowPart_103 rfl ?_
            refine g_icmp_ne (pc := 105) (tgt := 115) dX7_rowPart_105 rfl (fun h105 => ?_) (fun h105 => ?_)
            · refine g_lconst (pc := 115) (v := 0) dX7_rowPart_115 rfl ?_
              refine g_lor (pc := 116) dX7_rowPart_116 ?_
              rw [rbB_f (fun z => h105 z.2)]
              refine g_lstore_n (pc := 117) (lv' := [(0, _), (1, _), (2, _), (3, _), (5, _), (6, _)]) dX7_rowPart_117 (nl rfl) rfl ?_
              refine g_iinc (pc := 118) (lv' := [(0, _), (1, _), (2, _), (3, _), (5, _), (6, _)]) dX7_rowPart_118 rfl (nI_1 _) (nl rfl) rfl ?_
              refine g_aload_n (pc := 121) dX7_rowPart_121 rfl trivial ?_
              refine g_dup (pc := 122) dX7_rowPart_122 rfl ?_
              refine g_getf (pc := 123) (v := .int _) dX7_rowPart_123 fk_X7_84 (shK hS1 rfl) (fun _ => congrArg Value.int (h9)) ?_
              refine g_iconst (pc := 126) (v := 1) dX7_rowPart_126 rfl ?_
              refine g_iadd (pc := 127) dX7_rowPart_127 ?_
              rw [nI_1]
              refine g_putI (pc := 128) dX7_rowPart_128 fp_X7_84 (shK hS1 rfl) ⟨rfl, rfl⟩ (fun _ _ _ _ => rfl) ?_
              refine go_cast e9 ?_
              refine g_goto (pc := 131) (tgt := 55) dX7_rowPart_131 rfl ?_
              exact ih2
            · refine g_lconst (pc := 108) (v := 1) dX7_rowPart_108 rfl ?_
              refine g_iload (pc := 109) dX7_rowPart_109 rfl ?_
              refine g_lshl (pc := 111) dX7_rowPart_111 rfl ?_
              refine g_goto (pc := 112) (tgt := 116) dX7_rowPart_112 rfl ?_
              refine g_lor (pc := 116) dX7_rowPart_116 ?_
              rw [rbB_t (Nat.lt_of_not_le (fun z => h96 (nI_le (a := 32) z (by omega)))) (Classical.byContradiction h105)]
              refine g_lstore_n (pc := 117) (lv' := [(0, _), (1, _), (2, _), (3, _), (5, _), (6, _)]) dX7_rowPart_117 (nl rfl) rfl ?_
              refine g_iinc (pc := 118) (lv' := [(0, _), (1, _), (2, _), (3, _), (5, _), (6, _)]) dX7_rowPart_118 rfl (nI_1 _) (nl rfl) rfl ?_
              refine g_aload_n (pc := 121) dX7_rowPart_121 rfl trivial ?_
              refine g_dup (pc := 122) dX7_rowPart_122 rfl ?_
              refine g_getf (pc := 123) (v := .int _) dX7_rowPart_123 fk_X7_84 (shK hS1 rfl) (fun _ => congrArg Value.int (h9)) ?_
              refine g_iconst (pc := 126) (v := 1) dX7_rowPart_126 rfl ?_
              refine g_iadd (pc := 127) dX7_rowPart_127 ?_
              rw [nI_1]
              refine g_putI (pc := 128) dX7_rowPart_128 fp_X7_84 (shK hS1 rfl) ⟨rfl, rfl⟩ (fun _ _ _ _ => rfl) ?_
              refine go_cast e9 ?_
              refine g_goto (pc := 131) (tgt := 55) dX7_rowPart_131 rfl ?_
              exact ih2
      · rw [digP_0 hp2] at h2
        subst h2
        have qf := r_fails (l := l) (M := M) (s := (p, nI b, s2.2.2)) (k := 2) hS
        simp only at qf
        have hz1 : mL (psM M (p, nI b, s2.2.2)) 200 0 = lN n := hz
        have eu : mL (psM M (p, nI b, s2.2.2)) 200 = mL M 200 := rfl
        have hkn : p - b < 601 := by omega
        by_cases hB : isB T b (p - b) = true
        · by_cases hk : p - b = n
          · rw [if_pos ⟨hB, hk⟩, hB]
            simp only
            rw [eP, ← eu, hk]
            generalize psM M (p, nI b, s2.2.2) = M1 at *
            refine g_aload_n (pc := 55) dX7_rowPart_55 rfl trivial ?_
            refine g_invV_r (pc := 56) (As := []) dX7_rowPart_56 rfl (q2) rfl rfl (shK hS1 rfl) rfl rfl lk_X7_87 rfl (nb rfl) ⟨nb rfl, nb rfl⟩ rfl ?_
            refine g_i2l (pc := 59) dX7_rowPart_59 rfl ?_
            refine g_ldc2 (pc := 60) dX7_rowPart_60 wd_1345 ?_
            refine g_ldc2 (pc := 63) dX7_rowPart_63 wd_1346 ?_
            refine g_invS_r (pc := 66) (As := [_, _, _]) dX7_rowPart_66 rfl (r_in_f (fun z => hp2 (hin2.mp z))) rfl rfl lk_X7_67 rfl (nb rfl) ⟨nb rfl, nb rfl⟩ rfl ?_
            refine g_if_eq (pc := 69) (tgt := 134) dX7_rowPart_69 rfl (fun _ => ?_) (fun h69 => absurd (rfl) h69)
            refine g_iload (pc := 134) dX7_rowPart_134 rfl ?_
            refine g_if_eq (pc := 136) (tgt := 152) dX7_rowPart_136 rfl (fun h136 => absurd h136 ((by decide))) (fun _ => ?_)
            refine g_iload (pc := 139) dX7_rowPart_139 rfl ?_
            refine g_i2l (pc := 141) dX7_rowPart_141 rfl ?_
            refine g_aload_n (pc := 142) dX7_rowPart_142 rfl trivial ?_
            refine g_getf (pc := 143) dX7_rowPart_143 fk_X7_13 (shK hS1 rfl) (fv_arr (shR hS1 rfl)) ?_
            refine g_iconst (pc := 146) (v := 0) dX7_rowPart_146 rfl ?_
            refine g_laload (pc := 147) dX7_rowPart_147 (shK hS1 rfl) rfl (by decide) (nl rfl) ?_
            rw [hz1, lN_nI (by omega)]
            refine g_lcmp (pc := 148) dX7_rowPart_148 ?_
            refine g_if_eq (pc := 149) (tgt := 158) dX7_rowPart_149 rfl (fun _ => ?_) (fun h149 => absurd (((lg_cmp_eq _ _).mpr rfl)) h149)
            refine g_aload_n (pc := 158) dX7_rowPart_158 rfl trivial ?_
            refine g_getf (pc := 159) dX7_rowPart_159 fk_X7_13 (shK hS1 rfl) (fv_arr (shR hS1 rfl)) ?_
            refine g_bipush (pc := 162) (v := 28) dX7_rowPart_162 rfl ?_
            refine g_bipush (pc := 164) (v := 32) dX7_rowPart_164 rfl ?_
            refine g_iload_n (pc := 166) dX7_rowPart_166 rfl ?_
            refine g_imul (pc := 167) dX7_rowPart_167 ?_
            refine g_iadd (pc := 168) dX7_rowPart_168 ?_
            refine g_iload_n (pc := 169) dX7_rowPart_169 rfl ?_
            refine g_iadd (pc := 170) dX7_rowPart_170 ?_
            rw [ixR]
            refine g_lload_n (pc := 171) dX7_rowPart_171 rfl ?_
            refine g_lastore (pc := 172) dX7_rowPart_172 (shK hS1 rfl) rfl (show 28 + 32 * a + r < 220 by omega) (nl rfl) ?_
            refine g_return (pc := 173) dX7_rowPart_173 rfl ?_
            exact ⟨rfl, rfl⟩
          · rw [if_neg (fun z => hk z.2), hB]
            simp only
            rw [sL_id]
            generalize psM M (p, nI b, s2.2.2) = M1 at *
            refine g_aload_n (pc := 55) dX7_rowPart_55 rfl trivial ?_
            refine g_invV_r (pc := 56) (As := []) dX7_rowPart_56 rfl (q2) rfl rfl (shK hS1 rfl) rfl rfl lk_X7_87 rfl (nb rfl) ⟨nb rfl, nb rfl⟩ rfl ?_
            refine g_i2l (pc := 59) dX7_rowPart_59 rfl ?_
            refine g_ldc2 (pc := 60) dX7_rowPart_60 wd_1345 ?_
            refine g_ldc2 (pc := 63) dX7_rowPart_63 wd_1346 ?_
            refine g_invS_r (pc := 66) (As := [_, _, _]) dX7_rowPart_66 rfl (r_in_f (fun z => hp2 (hin2.mp z))) rfl rfl lk_X7_67 rfl (nb rfl) ⟨nb rfl, nb rfl⟩ rfl ?_
            refine g_if_eq (pc := 69) (tgt := 134) dX7_rowPart_69 rfl (fun _ => ?_) (fun h69 => absurd (rfl) h69)
            refine g_iload (pc := 134) dX7_rowPart_134 rfl ?_
            refine g_if_eq (pc := 136) (tgt := 152) dX7_rowPart_136 rfl (fun h136 => absurd h136 ((by decide))) (fun _ => ?_)
            refine g_iload (pc := 139) dX7_rowPart_139 rfl ?_
            refine g_i2l (pc := 141) dX7_rowPart_141 rfl ?_
            refine g_aload_n (pc := 142) dX7_rowPart_142 rfl trivial ?_
            refine g_getf (pc := 143) dX7_rowPart_143 fk_X7_13 (shK hS1 rfl) (fv_arr (shR hS1 rfl)) ?_
            refine g_iconst (pc := 146) (v := 0) dX7_rowPart_146 rfl ?_
            refine g_laload (pc := 147) dX7_rowPart_147 (shK hS1 rfl) rfl (by decide) (nl rfl) ?_
            rw [hz1, lN_nI (by omega)]
            refine g_lcmp (pc := 148) dX7_rowPart_148 ?_
            refine g_if_eq (pc := 149) (tgt := 158) dX7_rowPart_149 rfl (fun h149 => absurd h149 ((fun z => hk (lN_iq (by omega) (by omega) ((lg_cmp_eq _ _).mp z))))) (fun _ => ?_)
            refine g_aload_n (pc := 152) dX7_rowPart_152 rfl trivial ?_
            refine g_iconst (pc := 153) (v := 2) dX7_rowPart_153 rfl ?_
            refine g_invV_r (pc := 154) (As := [_]) dX7_rowPart_154 rfl (qf) rfl rfl (shK hS1 rfl) rfl rfl lk_X7_118 rfl (nb rfl) ⟨nb rfl, nb rfl⟩ rfl ?_
            refine g_return (pc := 157) dX7_rowPart_157 rfl ?_
            exact ⟨rfl, rfl⟩
        · rw [if_neg (fun z => hB z.1), Bool.eq_false_iff.mpr hB]
          simp only
          rw [sL_id]
          generalize psM M (p, nI b, s2.2.2) = M1 at *
          refine g_aload_n (pc := 55) dX7_rowPart_55 rfl trivial ?_
          refine g_invV_r (pc := 56) (As := []) dX7_rowPart_56 rfl (q2) rfl rfl (shK hS1 rfl) rfl rfl lk_X7_87 rfl (nb rfl) ⟨nb rfl, nb rfl⟩ rfl ?_
          refine g_i2l (pc := 59) dX7_rowPart_59 rfl ?_
          refine g_ldc2 (pc := 60) dX7_rowPart_60 wd_1345 ?_
          refine g_ldc2 (pc := 63) dX7_rowPart_63 wd_1346 ?_
          refine g_invS_r (pc := 66) (As := [_, _, _]) dX7_rowPart_66 rfl (r_in_f (fun z => hp2 (hin2.mp z))) rfl rfl lk_X7_67 rfl (nb rfl) ⟨nb rfl, nb rfl⟩ rfl ?_
          refine g_if_eq (pc := 69) (tgt := 134) dX7_rowPart_69 rfl (fun _ => ?_) (fun h69 => absurd (rfl) h69)
          refine g_iload (pc := 134) dX7_rowPart_134 rfl ?_
          refine g_if_eq (pc := 136) (tgt := 152) dX7_rowPart_136 rfl (fun _ => ?_) (fun h136 => absurd (rfl) h136)
          refine g_aload_n (pc := 152) dX7_rowPart_152 rfl trivial ?_
          refine g_iconst (pc := 153) (v := 2) dX7_rowPart_153 rfl ?_
          refine g_invV_r (pc := 154) (As := [_]) dX7_rowPart_154 rfl (qf) rfl rfl (shK hS1 rfl) rfl rfl lk_X7_118 rfl (nb rfl) ⟨nb rfl, nb rfl⟩ rfl ?_
          refine g_return (pc := 157) dX7_rowPart_157 rfl ?_
          exact ⟨rfl, rfl⟩
    · rw [if_neg hd]
      simp only
      have qf := r_fails (l := l) (M := M) (s := (b, nI b, s2.2.2)) (k := 1) hS
      simp only at qf
      have hS4 : Shp (psM M (rFail 1 (nI b) (b, nI b, s2.2.2))) := hS
      have h114 : mI (psM M (rFail 1 (nI b) (b, nI b, s2.2.2))) 198 11 = 1 := by rw [ps_11, rFail_0 (show (b, nI b, s2.2.2).2.2.2.1 = 0 from he)]
      rw [sL_id]
      refine g_aload_n (pc := 0) dX7_rowPart_0 rfl trivial ?_
      refine g_invV_r (pc := 1) (As := []) dX7_rowPart_1 rfl (q1) rfl rfl (shK hS0 rfl) rfl rfl lk_X7_140 rfl (nb rfl) ⟨nb rfl, nb rfl⟩ rfl ?_
      refine g_istore_n (pc := 4) (lv' := [(0, _), (1, _)]) dX7_rowPart_4 (nl rfl) rfl ?_
      refine g_aload_n (pc := 5) dX7_rowPart_5 rfl trivial ?_
      refine g_invV_r (pc := 6) (As := []) dX7_rowPart_6 rfl (q2) rfl rfl (shK hS1 rfl) rfl rfl lk_X7_143 rfl (nb rfl) ⟨nb rfl, nb rfl⟩ rfl ?_
      refine g_istore_n (pc := 9) (lv' := [(0, _), (1, _), (2, _)]) dX7_rowPart_9 (nl rfl) rfl ?_
      refine g_aload_n (pc := 10) dX7_rowPart_10 rfl trivial ?_
      refine g_getf (pc := 11) (v := .int _) dX7_rowPart_11 fk_X7_93 (shK hS2 rfl) (fun _ => congrArg Value.int (h11)) ?_
      refine g_if_ne (pc := 14) (tgt := 39) dX7_rowPart_14 rfl (fun h14 => absurd h14 ((fun z => z he))) (fun _ => ?_)
      refine g_aload_n (pc := 17) dX7_rowPart_17 rfl trivial ?_
      refine g_invV_r (pc := 18) (As := []) dX7_rowPart_18 rfl (q3) rfl rfl (shK hS2 rfl) rfl rfl lk_X7_99 rfl (nb rfl) ⟨nb rfl, nb rfl⟩ rfl ?_
      refine g_i2l (pc := 21) dX7_rowPart_21 rfl ?_
      refine g_ldc2 (pc := 22) dX7_rowPart_22 wd_1345 ?_
      refine g_ldc2 (pc := 25) dX7_rowPart_25 wd_1346 ?_
      refine g_invS_r (pc := 28) (As := [_, _, _]) dX7_rowPart_28 rfl (r_in_f (fun z => hd (hin.mp z))) rfl rfl lk_X7_67 rfl (nb rfl) ⟨nb rfl, nb rfl⟩ rfl ?_
      refine g_if_ne (pc := 31) (tgt := 39) dX7_rowPart_31 rfl (fun h31 => absurd h31 ((fun z => z rfl))) (fun _ => ?_)
      refine g_aload_n (pc := 34) dX7_rowPart_34 rfl trivial ?_
      refine g_iconst (pc := 35) (v := 1) dX7_rowPart_35 rfl ?_
      refine g_invV_r (pc := 36) (As := [_]) dX7_rowPart_36 rfl (qf) rfl rfl (shK hS3 rfl) rfl rfl lk_X7_118 rfl (nb rfl) ⟨nb rfl, nb rfl⟩ rfl ?_
      refine g_aload_n (pc := 39) dX7_rowPart_39 rfl trivial ?_
      refine g_getf (pc := 40) (v := .int _) dX7_rowPart_40 fk_X7_93 (shK hS4 rfl) (fun _ => congrArg Value.int (h114)) ?_
      refine g_if_eq (pc := 43) (tgt := 47) dX7_rowPart_43 rfl (fun h43 => absurd h43 ((by decide))) (fun _ => ?_)
      refine g_return (pc := 46) dX7_rowPart_46 rfl ?_
      exact ⟨rfl, rfl⟩
  · rw [if_neg he]
    simp only
    rw [sL_id]
    refine g_aload_n (pc := 0) dX7_rowPart_0 rfl trivial ?_
    refine g_invV_r (pc := 1) (As := []) dX7_rowPart_1 rfl (q1) rfl rfl (shK hS0 rfl) rfl rfl lk_X7_140 rfl (nb rfl) ⟨nb rfl, nb rfl⟩ rfl ?_
    refine g_istore_n (pc := 4) (lv' := [(0, _), (1, _)]) dX7_rowPart_4 (nl rfl) rfl ?_
    refine g_aload_n (pc := 5) dX7_rowPart_5 rfl trivial ?_
    refine g_invV_r (pc := 6) (As := []) dX7_rowPart_6 rfl (q2) rfl rfl (shK hS1 rfl) rfl rfl lk_X7_143 rfl (nb rfl) ⟨nb rfl, nb rfl⟩ rfl ?_
    refine g_istore_n (pc := 9) (lv' := [(0, _), (1, _), (2, _)]) dX7_rowPart_9 (nl rfl) rfl ?_
    refine g_aload_n (pc := 10) dX7_rowPart_10 rfl trivial ?_
    refine g_getf (pc := 11) (v := .int _) dX7_rowPart_11 fk_X7_93 (shK hS2 rfl) (fun _ => congrArg Value.int (h11)) ?_
    refine g_if_ne (pc := 14) (tgt := 39) dX7_rowPart_14 rfl (fun _ => ?_) (fun h14 => absurd (he) h14)
    refine g_aload_n (pc := 39) dX7_rowPart_39 rfl trivial ?_
    refine g_getf (pc := 40) (v := .int _) dX7_rowPart_40 fk_X7_93 (shK hS2 rfl) (fun _ => congrArg Value.int (h11)) ?_
    refine g_if_eq (pc := 43) (tgt := 47) dX7_rowPart_43 rfl (fun h43 => absurd h43 (he)) (fun _ => ?_)
    refine g_return (pc := 46) dX7_rowPart_46 rfl ?_
    exact ⟨rfl, rfl⟩
end

