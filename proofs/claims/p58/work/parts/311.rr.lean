/-! the reference reads: is it a word; a number -/
def lowW (w : List Int32) : Bool := w.all fun x => decide (97 ≤ x) && decide (x ≤ 122)
theorem sx_low : ∀ j, j < 256 → ∀ c, c < 26 → (sx (nI j) = nI (97 + c) ↔ nI j = nI (97 + c)) := by decide +kernel
theorem sx_w {w : List Int32} (hw : lowW w = true) {i j : Nat} (hi : i < w.length) (hj : j < 256) : sx (nI j) = w.getD i 0 ↔ nI j = w.getD i 0 := by
  have h := List.all_eq_true.mp hw _ (getD_mem hi)
  rw [Bool.and_eq_true, decide_eq_true_iff, decide_eq_true_iff] at h
  obtain ⟨h1, h2⟩ := h
  generalize w.getD i 0 = x at *
  obtain ⟨c, hc, rfl⟩ : ∃ c, c < 26 ∧ x = nI (97 + c) := by
    rw [Int32.le_iff_toInt_le] at h1 h2
    have a1 : (97 : Int32).toInt = 97 := rfl
    have a2 : (122 : Int32).toInt = 122 := rfl
    rw [a1] at h1
    rw [a2] at h2
    refine ⟨(x.toInt - 97).toNat, by omega, Int32.toInt_inj.mp ?_⟩
    rw [nI_toInt (by omega)]
    omega
  exact sx_low j hj c hc
theorem strW_low : ∀ k, k < 23 → 13 ≤ k → lowW (strW k) = true := by decide +kernel
section
variable {l : Launch} {M : Mem} {s : RP} {len : Nat} {T : Nat → Int32}
theorem r_isWordR {kS b : Nat} {q0 : String × Nat × String × List Int32} (hS : Shp M) (hT : txt M T len) (hL : len ≤ 600) (hp : s.1 ≤ len) (hb9 : s.2.1 = nI b) (hb : b ≤ s.1) (hq9 : strT[kS]? = some q0) (hw : lowW q0.2.2.2 = true) : EvR l jX7_isWord 4 110 0 0 [.ref 198, .retAddr (2 * kS + 2)] (psM M s) (.inl (some (.int (b1 (wdQ T b s.1 q0.2.2.2))))) (psM M s) := by
  have h9 : mI (psM M s) 198 9 = nI s.1 := ps_9
  have h10 : mI (psM M s) 198 10 = nI b := ps_10.trans hb9
  have eb : mI (psM M s) 204 = mI M 204 := ps_ne (by decide)
  have hS1 : Shp (psM M s) := hS
  generalize psM M s = M1 at *
  have hlen := str_len hq9
  have esub : nI s.1 - nI b = nI (s.1 - b) := nI_sub' hb
  unfold wdQ
  have hsw := fun i j => sx_w hw (i := i) (j := j)
  have qlen := t_length (l := l) (M := M1) hq9
  have qchr := fun i => t_charAt (l := l) (M := M1) (i := i) hq9
  generalize q0.2.2.2 = w at *
  refine ev_intro rfl (nb rfl) rfl ?_
  by_cases hlw : s.1 - b = w.length
  · rw [if_pos hlw]
    obtain ⟨S, hS9⟩ : ∃ S, S = wdL T b w w.length 0 := ⟨_, rfl⟩
    rw [← hS9]
    refine g_aload_n (pc := 0) dX7_isWord_0 rfl trivial ?_
    refine g_getf (pc := 1) (v := .int _) dX7_isWord_1 fk_X7_84 (shK hS1 rfl) (fun _ => congrArg Value.int (h9)) ?_
    refine g_aload_n (pc := 4) dX7_isWord_4 rfl trivial ?_
    refine g_getf (pc := 5) (v := .int _) dX7_isWord_5 fk_X7_90 (shK hS1 rfl) (fun _ => congrArg Value.int (h10)) ?_
    refine g_isub (pc := 8) dX7_isWord_8 ?_
    rw [esub]
    refine g_aload_n (pc := 9) dX7_isWord_9 rfl (isA_s _) ?_
    refine g_invVT_r (pc := 10) (As := []) dX7_isWord_10 rfl (qlen) rfl rfl (hq9) lk_X7_106 rfl (nb rfl) ⟨nb rfl, nb rfl⟩ rfl ?_
    refine g_icmp_ne (pc := 13) (tgt := 20) dX7_isWord_13 rfl (fun h13 => absurd h13 ((fun z => z (by rw [hlw])))) (fun _ => ?_)
    refine g_iconst (pc := 16) (v := 1) dX7_isWord_16 rfl ?_
    refine g_goto (pc := 17) (tgt := 21) dX7_isWord_17 rfl ?_
    refine g_istore_n (pc := 21) (lv' := [(0, _), (1, _), (2, _)]) dX7_isWord_21 (nl rfl) rfl ?_
    refine g_iconst (pc := 22) (v := 0) dX7_isWord_22 rfl ?_
    refine g_istore_n (pc := 23) (lv' := [(0, _), (1, _), (2, _), (3, _)]) dX7_isWord_23 (nl rfl) rfl ?_
    refine go_while (pc := 24) (σ := Nat) (fun q => q ≤ w.length ∧ wdL T b w (w.length - q) q = S) (fun q => w.length - q) (fun q => [(0, .ref 198), (1, .retAddr (2 * kS + 2)), (2, .int 1), (3, .int (nI q))]) (fun _ => M1) 0 ⟨rfl, rfl, rfl, rfl, trivial⟩ rfl ⟨Nat.zero_le _, hS9.symm⟩ ?_
    rintro q ⟨h1, h2⟩ ih
    by_cases hq : q < w.length
    · obtain ⟨d, hd⟩ : ∃ d, w.length - q = d + 1 := ⟨w.length - q - 1, by omega⟩
      have hd' : w.length - (q + 1) = d := by omega
      rw [hd, wdL] at h2
      obtain ⟨j, j1, j2, j3⟩ := hT (b + q) (by omega)
      have hsj := hsw q j hq j1
      by_cases hc : T (b + q) = w.getD q 0
      · rw [if_pos hc] at h2
        have hc2 : mI M1 204 (b + q) = w.getD q 0 := by rw [eb, j3, hsj, ← j2]; exact hc
        refine g_iload_n (pc := 24) dX7_isWord_24 rfl ?_
        refine g_if_eq (pc := 25) (tgt := 67) dX7_isWord_25 rfl (fun h25 => absurd h25 ((by decide))) (fun _ => ?_)
        refine g_iload_n (pc := 28) dX7_isWord_28 rfl ?_
        refine g_aload_n (pc := 29) dX7_isWord_29 rfl (isA_s _) ?_
        refine g_invVT_r (pc := 30) (As := []) dX7_isWord_30 rfl (qlen) rfl rfl (hq9) lk_X7_106 rfl (nb rfl) ⟨nb rfl, nb rfl⟩ rfl ?_
        refine g_icmp_ge (pc := 33) (tgt := 67) dX7_isWord_33 rfl (fun h33 => absurd h33 (nI_ge hq (by omega))) (fun _ => ?_)
        refine g_aload_n (pc := 36) dX7_isWord_36 rfl trivial ?_
        refine g_getf (pc := 37) dX7_isWord_37 fk_X7_26 (shK hS1 rfl) (fv_arr (shR hS1 rfl)) ?_
        refine g_aload_n (pc := 40) dX7_isWord_40 rfl trivial ?_
        refine g_getf (pc := 41) (v := .int _) dX7_isWord_41 fk_X7_90 (shK hS1 rfl) (fun _ => congrArg Value.int (h10)) ?_
        refine g_iload_n (pc := 44) dX7_isWord_44 rfl ?_
        refine g_iadd (pc := 45) dX7_isWord_45 ?_
        rw [nI_add]
        refine g_baload (pc := 46) dX7_isWord_46 (shK hS1 rfl) rfl (by omega) (nl rfl) ?_
        rw [hc2]
        refine g_aload_n (pc := 47) dX7_isWord_47 rfl (isA_s _) ?_
        refine g_iload_n (pc := 48) dX7_isWord_48 rfl ?_
        refine g_invVT_r (pc := 49) (As := [_]) dX7_isWord_49 rfl ((qchr q hq)) rfl rfl (hq9) lk_X7_110 rfl (nb rfl) ⟨nb rfl, nb rfl⟩ rfl ?_
        refine g_icmp_ne (pc := 52) (tgt := 59) dX7_isWord_52 rfl (fun h52 => absurd h52 ((fun z => z rfl))) (fun _ => ?_)
        refine g_iconst (pc := 55) (v := 1) dX7_isWord_55 rfl ?_
        refine g_goto (pc := 56) (tgt := 60) dX7_isWord_56 rfl ?_
        refine g_istore_n (pc := 60) (lv' := [(0, _), (1, _), (2, _), (3, _)]) dX7_isWord_60 (nl rfl) rfl ?_
        refine g_iinc (pc := 61) (lv' := [(0, _), (1, _), (2, _), (3, _)]) dX7_isWord_61 rfl (nI_1 _) (nl rfl) rfl ?_
        refine g_goto (pc := 64) (tgt := 24) dX7_isWord_64 rfl ?_
        exact ih (q + 1) ⟨hq, by rw [hd']; exact h2⟩ (by omega)
      · rw [if_neg hc] at h2
        have hc2 : ¬ mI M1 204 (b + q) = w.getD q 0 := by rw [eb, j3, hsj, ← j2]; exact hc
        have hend : Go l jX7_isWord 4 110 0 0 (fun r' M' => r' = .inl (some (.int (b1 S))) ∧ M' = M1) 24 [(0, .ref 198), (1, .retAddr (2 * kS + 2)), (2, .int 0), (3, .int (nI (q + 1)))] [] 0 0 M1 := by
          refine g_iload_n (pc := 24) dX7_isWord_24 rfl ?_
          refine g_if_eq (pc := 25) (tgt := 67) dX7_isWord_25 rfl (fun _ => ?_) (fun h25 => absurd (rfl) h25)
          refine g_iload_n (pc := 67) dX7_isWord_67 rfl ?_
          refine g_ireturn (pc := 68) dX7_isWord_68 rfl rfl ?_
          exact ⟨by rw [← h2]; rfl, rfl⟩
        refine g_iload_n (pc := 24) dX7_isWord_24 rfl ?_
        refine g_if_eq (pc := 25) (tgt := 67) dX7_isWord_25 rfl (fun h25 => absurd h25 ((by decide))) (fun _ => ?_)
        refine g_iload_n (pc := 28) dX7_isWord_28 rfl ?_
        refine g_aload_n (pc := 29) dX7_isWord_29 rfl (isA_s _) ?_
        refine g_invVT_r (pc := 30) (As := []) dX7_isWord_30 rfl (qlen) rfl rfl (hq9) lk_X7_106 rfl (nb rfl) ⟨nb rfl, nb rfl⟩ rfl ?_
        refine g_icmp_ge (pc := 33) (tgt := 67) dX7_isWord_33 rfl (fun h33 => absurd h33 (nI_ge hq (by omega))) (fun _ => ?_)
        refine g_aload_n (pc := 36) dX7_isWord_36 rfl trivial ?_
        refine g_getf (pc := 37) dX7_isWord_37 fk_X7_26 (shK hS1 rfl) (fv_arr (shR hS1 rfl)) ?_
        refine g_aload_n (pc := 40) dX7_isWord_40 rfl trivial ?_
        refine g_getf (pc := 41) (v := .int _) dX7_isWord_41 fk_X7_90 (shK hS1 rfl) (fun _ => congrArg Value.int (h10)) ?_
        refine g_iload_n (pc := 44) dX7_isWord_44 rfl ?_
        refine g_iadd (pc := 45) dX7_isWord_45 ?_
        rw [nI_add]
        refine g_baload (pc := 46) dX7_isWord_46 (shK hS1 rfl) rfl (by omega) (nl rfl) ?_
        refine g_aload_n (pc := 47) dX7_isWord_47 rfl (isA_s _) ?_
        refine g_iload_n (pc := 48) dX7_isWord_48 rfl ?_
        refine g_invVT_r (pc := 49) (As := [_]) dX7_isWord_49 rfl ((qchr q hq)) rfl rfl (hq9) lk_X7_110 rfl (nb rfl) ⟨nb rfl, nb rfl⟩ rfl ?_
        refine g_icmp_ne (pc := 52) (tgt := 59) dX7_isWord_52 rfl (fun _ => ?_) (fun h52 => absurd (hc2) h52)
        refine g_iconst (pc := 59) (v := 0) dX7_isWord_59 rfl ?_
        refine g_istore_n (pc := 60) (lv' := [(0, _), (1, _), (2, _), (3, _)]) dX7_isWord_60 (nl rfl) rfl ?_
        refine g_iinc (pc := 61) (lv' := [(0, _), (1, _), (2, _), (3, _)]) dX7_isWord_61 rfl (nI_1 _) (nl rfl) rfl ?_
        refine g_goto (pc := 64) (tgt := 24) dX7_isWord_64 rfl ?_
        exact hend
    · have hq' : q = w.length := by omega
      subst hq'
      rw [Nat.sub_self, wdL] at h2
      refine g_iload_n (pc := 24) dX7_isWord_24 rfl ?_
      refine g_if_eq (pc := 25) (tgt := 67) dX7_isWord_25 rfl (fun h25 => absurd h25 ((by decide))) (fun _ => ?_)
      refine g_iload_n (pc := 28) dX7_isWord_28 rfl ?_
      refine g_aload_n (pc := 29) dX7_isWord_29 rfl (isA_s _) ?_
      refine g_invVT_r (pc := 30) (As := []) dX7_isWord_30 rfl (qlen) rfl rfl (hq9) lk_X7_106 rfl (nb rfl) ⟨nb rfl, nb rfl⟩ rfl ?_
      refine g_icmp_ge (pc := 33) (tgt := 67) dX7_isWord_33 rfl (fun _ => ?_) (fun h33 => absurd (nI_le (Nat.le_refl _) (by omega)) h33)
      refine g_iload_n (pc := 67) dX7_isWord_67 rfl ?_
      refine g_ireturn (pc := 68) dX7_isWord_68 rfl rfl ?_
      exact ⟨by rw [← h2]; rfl, rfl⟩
  · rw [if_neg hlw]
    have hend : Go l jX7_isWord 4 110 0 0 (fun r' M' => r' = .inl (some (.int (b1 false))) ∧ M' = M1) 24 [(0, .ref 198), (1, .retAddr (2 * kS + 2)), (2, .int 0), (3, .int 0)] [] 0 0 M1 := by
      refine g_iload_n (pc := 24) dX7_isWord_24 rfl ?_
      refine g_if_eq (pc := 25) (tgt := 67) dX7_isWord_25 rfl (fun _ => ?_) (fun h25 => absurd (rfl) h25)
      refine g_iload_n (pc := 67) dX7_isWord_67 rfl ?_
      refine g_ireturn (pc := 68) dX7_isWord_68 rfl rfl ?_
      exact ⟨rfl, rfl⟩
    refine g_aload_n (pc := 0) dX7_isWord_0 rfl trivial ?_
    refine g_getf (pc := 1) (v := .int _) dX7_isWord_1 fk_X7_84 (shK hS1 rfl) (fun _ => congrArg Value.int (h9)) ?_
    refine g_aload_n (pc := 4) dX7_isWord_4 rfl trivial ?_
    refine g_getf (pc := 5) (v := .int _) dX7_isWord_5 fk_X7_90 (shK hS1 rfl) (fun _ => congrArg Value.int (h10)) ?_
    refine g_isub (pc := 8) dX7_isWord_8 ?_
    rw [esub]
    refine g_aload_n (pc := 9) dX7_isWord_9 rfl (isA_s _) ?_
    refine g_invVT_r (pc := 10) (As := []) dX7_isWord_10 rfl (qlen) rfl rfl (hq9) lk_X7_106 rfl (nb rfl) ⟨nb rfl, nb rfl⟩ rfl ?_
    refine g_icmp_ne (pc := 13) (tgt := 20) dX7_isWord_13 rfl (fun _ => ?_) (fun h13 => absurd ((fun z => hlw ((nI_eq (by omega) (by omega)).mp z))) h13)
    refine g_iconst (pc := 20) (v := 0) dX7_isWord_20 rfl ?_
    refine g_istore_n (pc := 21) (lv' := [(0, _), (1, _), (2, _)]) dX7_isWord_21 (nl rfl) rfl ?_
    refine g_iconst (pc := 22) (v := 0) dX7_isWord_22 rfl ?_
    refine g_istore_n (pc := 23) (lv' := [(0, _), (1, _), (2, _), (3, _)]) dX7_isWord_23 (nl rfl) rfl ?_
    exact hend
theorem r_isWR {b : Nat} (k : Nat) (hS : Shp M) (hT : txt M T len) (hL : len ≤ 600) (hp : s.1 ≤ len) (hb9 : s.2.1 = nI b) (hb : b ≤ s.1) (hk : k < strT.length) (hk2 : 13 ≤ k) : EvR l jX7_isWord 4 110 0 0 [.ref 198, .retAddr (2 * k + 2)] (psM M s) (.inl (some (.int (b1 (wdQ T b s.1 (strW k)))))) (psM M s) := by
  have h : strT[k]? = some (strT[k]?.getD ("", 0, "", [])) := by rw [List.getElem?_eq_getElem hk]; rfl
  exact r_isWordR hS hT hL hp hb9 hb h (strW_low k hk hk2)
/-- a number's value, capped higher -/
def valG (T : Nat → Int32) (q : Nat) : Nat → Int32
  | 0 => 0
  | k + 1 => least9 10000000 (10 * valG T q k + T (q + k) - 48)
def numG (T : Nat → Int32) (len p : Nat) : Int32 := valG T (skipP T len p) (digP T len (skipP T len p) - skipP T len p)
theorem r_number_e {lo hi : Int32} (hS : Shp M) (he : s.2.2.2.1 ≠ 0) : EvR l jX7_number 2 60 0 0 [.ref 198, .int lo, .int hi] (psM M s) (.inl (some (.int lo))) (psM M s) := by
  have h11 : mI (psM M s) 198 11 = s.2.2.2.1 := ps_11
  have hS1 : Shp (psM M s) := hS
  generalize psM M s = M1 at *
  refine ev_intro rfl (nb rfl) rfl ?_
  refine g_aload_n (pc := 0) dX7_number_0 rfl trivial ?_
  refine g_getf (pc := 1) (v := .int _) dX7_number_1 fk_X7_93 (shK hS1 rfl) (fun _ => congrArg Value.int (h11)) ?_
  refine g_if_eq (pc := 4) (tgt := 9) dX7_number_4 rfl (fun h4 => absurd h4 (he)) (fun _ => ?_)
  refine g_iload_n (pc := 7) dX7_number_7 rfl ?_
  refine g_ireturn (pc := 8) dX7_number_8 rfl rfl ?_
  exact ⟨rfl, rfl⟩
theorem r_numberG {lo hi : Int32} (hS : Shp M) (hT : txt M T len) (hl : mI M 198 8 = nI len) (hL : len ≤ 600) (hp : s.1 ≤ len) (he : s.2.2.2.1 = 0) : EvR l jX7_number 2 60 0 0 [.ref 198, .int lo, .int hi] (psM M s) (.inl (some (.int (if skipP T len s.1 = digP T len (skipP T len s.1) then lo else if lo ≤ numG T len s.1 ∧ numG T len s.1 ≤ hi then numG T len s.1 else lo)))) (psM M (if skipP T len s.1 = digP T len (skipP T len s.1) then rFail 1 (nI (skipP T len s.1)) (tdg0 T len s) else if lo ≤ numG T len s.1 ∧ numG T len s.1 ≤ hi then tdg0 T len s else rFail 2 (nI (skipP T len s.1)) (tdg0 T len s))) := by
  have hsk := skipP_le (T := T) hp
  have h11 : mI (psM M s) 198 11 = 0 := ps_11.trans he
  have q1 := r_next (l := l) (s := s) hS hT hl hL hp
  obtain ⟨b, hb⟩ : ∃ b, b = skipP T len s.1 := ⟨_, rfl⟩
  obtain ⟨S, hs⟩ : ∃ S, S = digP T len b := ⟨_, rfl⟩
  have e0 : nxS T len s = (b, nI b, s.2.2) := by rw [hb]; rfl
  have eE : tdg0 T len s = (S, nI b, s.2.2) := by rw [hs, hb]; rfl
  have hv : numG T len s.1 = valG T b (S - b) := by unfold numG; rw [← hb, ← hs]
  rw [hv, eE, ← hb, ← hs]
  rw [← hb] at hsk
  rw [e0, ← hb] at q1
  have hin := hv_in (T := T) (len := len) (p := b) (a := 48) (b := 57) (c := isDi) (by decide) isDi_iff
  have hS0 : Shp (psM M (b, nI b, s.2.2)) := hS
  have hSs : Shp (psM M s) := hS
  have hdle := digP_le (T := T) hsk.2
  rw [← hs] at hdle
  refine ev_intro rfl (nb rfl) rfl ?_
  by_cases hd : b < len ∧ isDi (T b) = true
  · have hh := hin.mpr hd
    have hne : ¬ b = S := by
      intro e
      have := digP_s hd.1 hd.2
      rw [← hs] at this
      have h2 := digP_le (T := T) (show b + 1 ≤ len by omega)
      omega
    rw [if_neg hne, if_neg hne]
    refine g_aload_n (pc := 0) dX7_number_0 rfl trivial ?_
    refine g_getf (pc := 1) (v := .int _) dX7_number_1 fk_X7_93 (shK hSs rfl) (fun _ => congrArg Value.int (h11)) ?_
    refine g_if_eq (pc := 4) (tgt := 9) dX7_number_4 rfl (fun _ => ?_) (fun h4 => absurd (rfl) h4)
    refine g_aload_n (pc := 9) dX7_number_9 rfl trivial ?_
    refine g_invV_r (pc := 10) (As := []) dX7_number_10 rfl (q1) rfl rfl (shK hSs rfl) rfl rfl lk_X7_99 rfl (nb rfl) ⟨nb rfl, nb rfl⟩ rfl ?_
    refine g_i2l (pc := 13) dX7_number_13 rfl ?_
    refine g_ldc2 (pc := 14) dX7_number_14 wd_1345 ?_
    refine g_ldc2 (pc := 17) dX7_number_17 wd_1346 ?_
    refine g_invS_r (pc := 20) (As := [_, _, _]) dX7_number_20 rfl (r_in_t hh.1 hh.2) rfl rfl lk_X7_67 rfl (nb rfl) ⟨nb rfl, nb rfl⟩ rfl ?_
    refine g_if_ne (pc := 23) (tgt := 33) dX7_number_23 rfl (fun _ => ?_) (fun h23 => absurd ((by decide)) h23)
    refine g_iconst (pc := 33) (v := 0) dX7_number_33 rfl ?_
    refine g_istore_n (pc := 34) (lv' := [(0, _), (1, _), (2, _), (3, _)]) dX7_number_34 (nl rfl) rfl ?_
    refine go_while (pc := 35) (σ := Nat) (fun p => b ≤ p ∧ p ≤ len ∧ digP T len p = S) (fun p => len - p) (fun p => [(0, .ref 198), (1, .int lo), (2, .int hi), (3, .int (valG T b (p - b)))]) (fun p => psM M (p, nI b, s.2.2)) b ⟨rfl, rfl, rfl, by rw [Nat.sub_self]; rfl, trivial⟩ rfl ⟨Nat.le_refl _, hsk.2, hs.symm⟩ ?_
    rintro p ⟨h0, h1, h2⟩ ih
    have hS1 : Shp (psM M (p, nI b, s.2.2)) := hS
    have q2 := r_here (l := l) (s := (p, nI b, s.2.2)) hS hT hl hL h1
    have h9 : mI (psM M (p, nI b, s.2.2)) 198 9 = nI p := ps_9
    have hin2 := hv_in (T := T) (len := len) (p := p) (a := 48) (b := 57) (c := isDi) (by decide) isDi_iff
    by_cases hp2 : p < len ∧ isDi (T p) = true
    · have hh2 := hin2.mpr hp2
      rw [digP_s hp2.1 hp2.2] at h2
      have e9 : pI (psM M (p, nI b, s.2.2)) 198 9 (nI (p + 1)) = psM M (p + 1, nI b, s.2.2) := ps_p9 rfl
      have ih2 := ih (p + 1) ⟨by omega, hp2.1, h2⟩ (by omega)
      have ehv : hvF T len p = T (b + (p - b)) := by unfold hvF; rw [if_pos hp2.1]; congr 1; omega
      rw [show p + 1 - b = (p - b) + 1 by omega, valG] at ih2
      unfold least9 at ih2
      rw [ehv] at q2 hh2
      generalize psM M (p + 1, nI b, s.2.2) = M2 at *
      generalize psM M (p, nI b, s.2.2) = M1 at *
      refine g_aload_n (pc := 35) dX7_number_35 rfl trivial ?_
      refine g_invV_r (pc := 36) (As := []) dX7_number_36 rfl (q2) rfl rfl (shK hS1 rfl) rfl rfl lk_X7_87 rfl (nb rfl) ⟨nb rfl, nb rfl⟩ rfl ?_
      refine g_i2l (pc := 39) dX7_number_39 rfl ?_
      refine g_ldc2 (pc := 40) dX7_number_40 wd_1345 ?_
      refine g_ldc2 (pc := 43) dX7_number_43 wd_1346 ?_
      refine g_invS_r (pc := 46) (As := [_, _, _]) dX7_number_46 rfl (r_in_t hh2.1 hh2.2) rfl rfl lk_X7_67 rfl (nb rfl) ⟨nb rfl, nb rfl⟩ rfl ?_
      refine g_if_eq (pc := 49) (tgt := 83) dX7_number_49 rfl (fun h49 => absurd h49 ((by decide))) (fun _ => ?_)
      refine g_ldc (pc := 52) dX7_number_52 wd_1347 ?_
      refine g_bipush (pc := 54) (v := 10) dX7_number_54 rfl ?_
      refine g_iload_n (pc := 56) dX7_number_56 rfl ?_
      refine g_imul (pc := 57) dX7_number_57 ?_
      refine g_aload_n (pc := 58) dX7_number_58 rfl trivial ?_
      refine g_invV_r (pc := 59) (As := []) dX7_number_59 rfl (q2) rfl rfl (shK hS1 rfl) rfl rfl lk_X7_87 rfl (nb rfl) ⟨nb rfl, nb rfl⟩ rfl ?_
      refine g_iadd (pc := 62) dX7_number_62 ?_
      refine g_bipush (pc := 63) (v := 48) dX7_number_63 rfl ?_
      refine g_isub (pc := 65) dX7_number_65 ?_
      refine g_mmin (pc := 66) dX7_number_66 wd_1348 wd_430 wd_107 wd_431 (nb rfl) (nb rfl) ?_
      refine g_istore_n (pc := 69) (lv' := [(0, _), (1, _), (2, _), (3, _)]) dX7_number_69 (nl rfl) rfl ?_
      refine g_aload_n (pc := 70) dX7_number_70 rfl trivial ?_
      refine g_dup (pc := 71) dX7_number_71 rfl ?_
      refine g_getf (pc := 72) (v := .int _) dX7_number_72 fk_X7_84 (shK hS1 rfl) (fun _ => congrArg Value.int (h9)) ?_
      refine g_iconst (pc := 75) (v := 1) dX7_number_75 rfl ?_
      refine g_iadd (pc := 76) dX7_number_76 ?_
      rw [nI_1]
      refine g_putI (pc := 77) dX7_number_77 fp_X7_84 (shK hS1 rfl) ⟨rfl, rfl⟩ (fun _ _ _ _ => rfl) ?_
      refine go_cast e9 ?_
      refine g_goto (pc := 80) (tgt := 35) dX7_number_80 rfl ?_
      exact ih2
    · rw [digP_0 hp2] at h2
      subst h2
      have qf := r_fails (l := l) (M := M) (s := (p, nI b, s.2.2)) (k := 2) hS
      simp only at qf
      generalize valG T b (p - b) = v at *
      by_cases hr : lo ≤ v ∧ v ≤ hi
      · rw [if_pos hr, if_pos hr]
        have hr2 : lo.toInt64 ≤ v.toInt64 ∧ v.toInt64 ≤ hi.toInt64 := by rw [le_long, le_long]; exact hr
        generalize psM M (p, nI b, s.2.2) = M1 at *
        refine g_aload_n (pc := 35) dX7_number_35 rfl trivial ?_
        refine g_invV_r (pc := 36) (As := []) dX7_number_36 rfl (q2) rfl rfl (shK hS1 rfl) rfl rfl lk_X7_87 rfl (nb rfl) ⟨nb rfl, nb rfl⟩ rfl ?_
        refine g_i2l (pc := 39) dX7_number_39 rfl ?_
        refine g_ldc2 (pc := 40) dX7_number_40 wd_1345 ?_
        refine g_ldc2 (pc := 43) dX7_number_43 wd_1346 ?_
        refine g_invS_r (pc := 46) (As := [_, _, _]) dX7_number_46 rfl (r_in_f (fun z => hp2 (hin2.mp z))) rfl rfl lk_X7_67 rfl (nb rfl) ⟨nb rfl, nb rfl⟩ rfl ?_
        refine g_if_eq (pc := 49) (tgt := 83) dX7_number_49 rfl (fun _ => ?_) (fun h49 => absurd (rfl) h49)
        refine g_iload_n (pc := 83) dX7_number_83 rfl ?_
        refine g_i2l (pc := 84) dX7_number_84 rfl ?_
        refine g_iload_n (pc := 85) dX7_number_85 rfl ?_
        refine g_i2l (pc := 86) dX7_number_86 rfl ?_
        refine g_iload_n (pc := 87) dX7_number_87 rfl ?_
        refine g_i2l (pc := 88) dX7_number_88 rfl ?_
        refine g_invS_r (pc := 89) (As := [_, _, _]) dX7_number_89 rfl (r_in_t hr2.1 hr2.2) rfl rfl lk_X7_67 rfl (nb rfl) ⟨nb rfl, nb rfl⟩ rfl ?_
        refine g_if_ne (pc := 92) (tgt := 102) dX7_number_92 rfl (fun _ => ?_) (fun h92 => absurd ((by decide)) h92)
        refine g_iload_n (pc := 102) dX7_number_102 rfl ?_
        refine g_ireturn (pc := 103) dX7_number_103 rfl rfl ?_
        exact ⟨rfl, rfl⟩
      · rw [if_neg hr, if_neg hr]
        have hr2 : ¬ (lo.toInt64 ≤ v.toInt64 ∧ v.toInt64 ≤ hi.toInt64) := by rw [le_long, le_long]; exact hr
        generalize psM M (rFail 2 (nI b) (p, nI b, s.2.2)) = M3 at *
        generalize psM M (p, nI b, s.2.2) = M1 at *
        refine g_aload_n (pc := 35) dX7_number_35 rfl trivial ?_
        refine g_invV_r (pc := 36) (As := []) dX7_number_36 rfl (q2) rfl rfl (shK hS1 rfl) rfl rfl lk_X7_87 rfl (nb rfl) ⟨nb rfl, nb rfl⟩ rfl ?_
        refine g_i2l (pc := 39) dX7_number_39 rfl ?_
        refine g_ldc2 (pc := 40) dX7_number_40 wd_1345 ?_
        refine g_ldc2 (pc := 43) dX7_number_43 wd_1346 ?_
        refine g_invS_r (pc := 46) (As := [_, _, _]) dX7_number_46 rfl (r_in_f (fun z => hp2 (hin2.mp z))) rfl rfl lk_X7_67 rfl (nb rfl) ⟨nb rfl, nb rfl⟩ rfl ?_
        refine g_if_eq (pc := 49) (tgt := 83) dX7_number_49 rfl (fun _ => ?_) (fun h49 => absurd (rfl) h49)
        refine g_iload_n (pc := 83) dX7_number_83 rfl ?_
        refine g_i2l (pc := 84) dX7_number_84 rfl ?_
        refine g_iload_n (pc := 85) dX7_number_85 rfl ?_
        refine g_i2l (pc := 86) dX7_number_86 rfl ?_
        refine g_iload_n (pc := 87) dX7_number_87 rfl ?_
        refine g_i2l (pc := 88) dX7_number_88 rfl ?_
        refine g_invS_r (pc := 89) (As := [_, _, _]) dX7_number_89 rfl (r_in_f hr2) rfl rfl lk_X7_67 rfl (nb rfl) ⟨nb rfl, nb rfl⟩ rfl ?_
        refine g_if_ne (pc := 92) (tgt := 102) dX7_number_92 rfl (fun h92 => absurd h92 ((fun z => z rfl))) (fun _ => ?_)
        refine g_aload_n (pc := 95) dX7_number_95 rfl trivial ?_
        refine g_iconst (pc := 96) (v := 2) dX7_number_96 rfl ?_
        refine g_invV_r (pc := 97) (As := [_]) dX7_number_97 rfl (qf) rfl rfl (shK hS1 rfl) rfl rfl lk_X7_118 rfl (nb rfl) ⟨nb rfl, nb rfl⟩ rfl ?_
        refine g_iload_n (pc := 100) dX7_number_100 rfl ?_
        refine g_ireturn (pc := 101) dX7_number_101 rfl rfl ?_
        exact ⟨rfl, rfl⟩
  · have e9 : b = S := by rw [hs]; exact (digP_0 hd).symm
    rw [if_pos e9, if_pos e9]
    subst e9
    have qf := r_fails (l := l) (M := M) (s := (b, nI b, s.2.2)) (k := 1) hS
    simp only at qf
    generalize psM M (rFail 1 (nI b) (b, nI b, s.2.2)) = M3 at *
    generalize psM M (b, nI b, s.2.2) = M1 at *
    refine g_aload_n (pc := 0) dX7_number_0 rfl trivial ?_
    refine g_getf (pc := 1) (v := .int _) dX7_number_1 fk_X7_93 (shK hSs rfl) (fun _ => congrArg Value.int (h11)) ?_
    refine g_if_eq (pc := 4) (tgt := 9) dX7_number_4 rfl (fun _ => ?_) (fun h4 => absurd (rfl) h4)
    refine g_aload_n (pc := 9) dX7_number_9 rfl trivial ?_
    refine g_invV_r (pc := 10) (As := []) dX7_number_10 rfl (q1) rfl rfl (shK hSs rfl) rfl rfl lk_X7_99 rfl (nb rfl) ⟨nb rfl, nb rfl⟩ rfl ?_
    refine g_i2l (pc := 13) dX7_number_13 rfl ?_
    refine g_ldc2 (pc := 14) dX7_number_14 wd_1345 ?_
    refine g_ldc2 (pc := 17) dX7_number_17 wd_1346 ?_
    refine g_invS_r (pc := 20) (As := [_, _, _]) dX7_number_20 rfl (r_in_f (fun z => hd (hin.mp z))) rfl rfl lk_X7_67 rfl (nb rfl) ⟨nb rfl, nb rfl⟩ rfl ?_
    refine g_if_ne (pc := 23) (tgt := 33) dX7_number_23 rfl (fun h23 => absurd h23 ((fun z => z rfl))) (fun _ => ?_)
    refine g_aload_n (pc := 26) dX7_number_26 rfl trivial ?_
    refine g_iconst (pc := 27) (v := 1) dX7_number_27 rfl ?_
    refine g_invV_r (pc := 28) (As := [_]) dX7_number_28 rfl (qf) rfl rfl (shK hS0 rfl) rfl rfl lk_X7_118 rfl (nb rfl) ⟨nb rfl, nb rfl⟩ rfl ?_
    refine g_iload_n (pc := 31) dX7_number_31 rfl ?_
    refine g_ireturn (pc := 32) dX7_number_32 rfl rfl ?_
    exact ⟨rfl, rfl⟩
end

