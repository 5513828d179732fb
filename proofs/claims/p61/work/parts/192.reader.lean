section
variable {l : Launch} {M : Mem} {s : RP} {len : Nat}
theorem nI_sub' {a b : Nat} (h : b ≤ a) : nI a - nI b = nI (a - b) := by
  obtain ⟨d, rfl⟩ : ∃ d, a = d + b := ⟨a - b, by omega⟩
  rw [← nI_add, Nat.add_sub_cancel]; simp
def wdL (T : Nat → Int32) (b : Nat) (w : List Int32) : Nat → Nat → Bool
  | 0, _ => true
  | d + 1, i => if T (b + i) = w.getD i 0 then wdL T b w d (i + 1) else false
/-- from b to p the text is the word -/
def wdQ (T : Nat → Int32) (b p : Nat) (w : List Int32) : Bool := if p - b = w.length then wdL T b w w.length 0 else false
theorem r_isWord {kS b : Nat} {q0 : String × Nat × String × List Int32} (hS : Shp M) (hL : s.1 ≤ 600) (hb9 : s.2.1 = nI b) (hb : b ≤ s.1) (hq9 : strT[kS]? = some q0) : EvR l jX4_isWord 4 100 0 0 [.ref 1, .retAddr (2 * kS + 2)] (rdM M s) (.inl (some (.int (b1 (wdQ (mI M 2) b s.1 q0.2.2.2))))) (rdM M s) := by
  have hS1 : Shp (rdM M s) := rd_S hS
  have hr2 : mI (rdM M s) 1 2 = nI s.1 := rd_2
  have hr3 : mI (rdM M s) 1 3 = nI b := rd_3.trans hb9
  have er : mI (rdM M s) 2 = mI M 2 := rd_ne (by decide)
  have hlen := str_len hq9
  unfold wdQ
  generalize rdM M s = M1 at *
  generalize s.1 = p at *
  refine ev_intro rfl (nb rfl) rfl ?_
  by_cases h9 : p - b = q0.2.2.2.length
  · rw [if_pos h9]
    obtain ⟨S, hs⟩ : ∃ S, S = wdL (mI M 2) b q0.2.2.2 q0.2.2.2.length 0 := ⟨_, rfl⟩
    rw [← hs]
    refine g_aload_n (pc := 0) dX4_isWord_0 rfl trivial ?_
    refine g_getf (pc := 1) (v := .int _) dX4_isWord_1 fk_X4_21 (shK hS1 rfl) (fun _ => congrArg Value.int (hr2)) ?_
    refine g_aload_n (pc := 4) dX4_isWord_4 rfl trivial ?_
    refine g_getf (pc := 5) (v := .int _) dX4_isWord_5 fk_X4_70 (shK hS1 rfl) (fun _ => congrArg Value.int (hr3)) ?_
    refine g_isub (pc := 8) dX4_isWord_8 ?_
    rw [nI_sub' hb, h9]
    refine g_aload_n (pc := 9) dX4_isWord_9 rfl (isA_s _) ?_
    refine g_invVT_r (pc := 10) (As := []) dX4_isWord_10 rfl (t_length hq9) rfl rfl (hq9) lk_X4_144 rfl (nb rfl) ⟨nb rfl, nb rfl⟩ rfl ?_
    refine g_icmp_eq (pc := 13) (tgt := 18) dX4_isWord_13 rfl (fun _ => ?_) (fun h13 => absurd (rfl) h13)
    refine g_iconst (pc := 18) (v := 0) dX4_isWord_18 rfl ?_
    refine g_istore_n (pc := 19) (lv' := [(0, _), (1, _), (2, _)]) dX4_isWord_19 (nl rfl) rfl ?_
    refine go_while (pc := 20) (σ := Nat) (fun i => i ≤ q0.2.2.2.length ∧ wdL (mI M 2) b q0.2.2.2 (q0.2.2.2.length - i) i = S) (fun i => q0.2.2.2.length - i) (fun i => [(0, .ref 1), (1, .retAddr (2 * kS + 2)), (2, .int (nI i))]) (fun _ => M1) 0 ⟨rfl, rfl, rfl, trivial⟩ rfl ⟨Nat.zero_le _, hs.symm⟩ ?_
    rintro i ⟨h1, h2⟩ ih
    by_cases hi : i < q0.2.2.2.length
    · rw [show q0.2.2.2.length - i = (q0.2.2.2.length - (i + 1)) + 1 by omega, wdL] at h2
      refine g_iload_n (pc := 20) dX4_isWord_20 rfl ?_
      refine g_aload_n (pc := 21) dX4_isWord_21 rfl (isA_s _) ?_
      refine g_invVT_r (pc := 22) (As := []) dX4_isWord_22 rfl (t_length hq9) rfl rfl (hq9) lk_X4_144 rfl (nb rfl) ⟨nb rfl, nb rfl⟩ rfl ?_
      refine g_icmp_ge (pc := 25) (tgt := 55) dX4_isWord_25 rfl (fun h25 => absurd h25 (nI_ge hi (by omega))) (fun _ => ?_)
      refine g_aload_n (pc := 28) dX4_isWord_28 rfl trivial ?_
      refine g_getf (pc := 29) dX4_isWord_29 fk_X4_9 (shK hS1 rfl) (fv_arr (shR hS1 rfl)) ?_
      refine g_aload_n (pc := 32) dX4_isWord_32 rfl trivial ?_
      refine g_getf (pc := 33) (v := .int _) dX4_isWord_33 fk_X4_70 (shK hS1 rfl) (fun _ => congrArg Value.int (hr3)) ?_
      refine g_iload_n (pc := 36) dX4_isWord_36 rfl ?_
      refine g_iadd (pc := 37) dX4_isWord_37 ?_
      rw [nI_add]
      refine g_iaload (pc := 38) dX4_isWord_38 (shK hS1 rfl) rfl (show b + i < 600 by omega) (nl rfl) ?_
      rw [er]
      refine g_aload_n (pc := 39) dX4_isWord_39 rfl (isA_s _) ?_
      refine g_iload_n (pc := 40) dX4_isWord_40 rfl ?_
      refine g_invVT_r (pc := 41) (As := [_]) dX4_isWord_41 rfl (t_charAt hq9 hi) rfl rfl (hq9) lk_X4_149 rfl (nb rfl) ⟨nb rfl, nb rfl⟩ rfl ?_
      refine g_icmp_eq (pc := 44) (tgt := 49) dX4_isWord_44 rfl (fun h44 => ?_) (fun h44 => ?_)
      · rw [if_pos h44] at h2
        refine g_iinc (pc := 49) (lv' := [(0, _), (1, _), (2, _)]) dX4_isWord_49 rfl (nI_1 _) (nl rfl) rfl ?_
        refine g_goto (pc := 52) (tgt := 20) dX4_isWord_52 rfl ?_
        exact ih (i + 1) ⟨by omega, h2⟩ (by omega)
      · rw [if_neg h44] at h2
        refine g_iconst (pc := 47) (v := 0) dX4_isWord_47 rfl ?_
        refine g_ireturn (pc := 48) dX4_isWord_48 rfl rfl ?_
        exact ⟨by rw [← h2]; rfl, rfl⟩
    · have hi' : i = q0.2.2.2.length := by omega
      rw [hi', Nat.sub_self] at h2
      rw [hi']
      refine g_iload_n (pc := 20) dX4_isWord_20 rfl ?_
      refine g_aload_n (pc := 21) dX4_isWord_21 rfl (isA_s _) ?_
      refine g_invVT_r (pc := 22) (As := []) dX4_isWord_22 rfl (t_length hq9) rfl rfl (hq9) lk_X4_144 rfl (nb rfl) ⟨nb rfl, nb rfl⟩ rfl ?_
      refine g_icmp_ge (pc := 25) (tgt := 55) dX4_isWord_25 rfl (fun _ => ?_) (fun h25 => absurd (nI_le (Nat.le_refl _) (by omega)) h25)
      refine g_iconst (pc := 55) (v := 1) dX4_isWord_55 rfl ?_
      refine g_ireturn (pc := 56) dX4_isWord_56 rfl rfl ?_
      exact ⟨by rw [← h2]; rfl, rfl⟩
  · rw [if_neg h9]
    refine g_aload_n (pc := 0) dX4_isWord_0 rfl trivial ?_
    refine g_getf (pc := 1) (v := .int _) dX4_isWord_1 fk_X4_21 (shK hS1 rfl) (fun _ => congrArg Value.int (hr2)) ?_
    refine g_aload_n (pc := 4) dX4_isWord_4 rfl trivial ?_
    refine g_getf (pc := 5) (v := .int _) dX4_isWord_5 fk_X4_70 (shK hS1 rfl) (fun _ => congrArg Value.int (hr3)) ?_
    refine g_isub (pc := 8) dX4_isWord_8 ?_
    rw [nI_sub' hb]
    refine g_aload_n (pc := 9) dX4_isWord_9 rfl (isA_s _) ?_
    refine g_invVT_r (pc := 10) (As := []) dX4_isWord_10 rfl (t_length hq9) rfl rfl (hq9) lk_X4_144 rfl (nb rfl) ⟨nb rfl, nb rfl⟩ rfl ?_
    refine g_icmp_eq (pc := 13) (tgt := 18) dX4_isWord_13 rfl (fun h13 => absurd h13 (fun h => h9 ((nI_eq (by omega) (by omega)).mp h))) (fun _ => ?_)
    refine g_iconst (pc := 16) (v := 0) dX4_isWord_16 rfl ?_
    refine g_ireturn (pc := 17) dX4_isWord_17 rfl rfl ?_
    exact ⟨rfl, rfl⟩
/-- bits from text at b; s as it becomes -/
def tbI (T : Nat → Int32) (b : Nat) (a : Int32) (s : RP) : Nat → RP × Int32
  | 0 => (s, 0)
  | k + 1 => if 49 < T (b + k) then (rFail 2 a (tbI T b a s k).1, (tbI T b a s k).2) else if T (b + k) = 49 then ((tbI T b a s k).1, (tbI T b a s k).2 ||| bitI k) else tbI T b a s k
theorem tbI_1 (T : Nat → Int32) (b : Nat) (a : Int32) (s : RP) : ∀ k, (tbI T b a s k).1.1 = s.1 ∧ (tbI T b a s k).1.2.1 = s.2.1
  | 0 => ⟨rfl, rfl⟩
  | k + 1 => by
    rw [tbI]
    split
    · rw [(rFail_1 _ _ _).1, (rFail_1 _ _ _).2]; exact tbI_1 T b a s k
    · split
      · exact tbI_1 T b a s k
      · exact tbI_1 T b a s k
def tbs (T : Nat → Int32) (len n : Nat) (s : RP) : RP × Int32 := if digP T len (skipP T len s.1) - skipP T len s.1 = n then tbI T (skipP T len s.1) (nI (skipP T len s.1)) (tdg T len s) n else (rFail 2 (nI (skipP T len s.1)) (tdg T len s), 0)
theorem tbs_1 (T : Nat → Int32) (len n : Nat) (s : RP) : (tbs T len n s).1.1 = digP T len (skipP T len s.1) ∧ (tbs T len n s).1.2.1 = nI (skipP T len s.1) := by
  unfold tbs; split
  · rw [(tbI_1 _ _ _ _ _).1, (tbI_1 _ _ _ _ _).2]; exact tdg_1 T len s
  · rw [(rFail_1 _ _ _).1, (rFail_1 _ _ _).2]; exact tdg_1 T len s
theorem r_takeBits {n : Nat} (hS : Shp M) (hl : mI M 1 1 = nI len) (hL : len ≤ 600) (hp : s.1 ≤ len) (hn : n ≤ 32) : EvR l jX4_takeBits 2 60 0 0 [.ref 1, .int (nI n)] (rdM M s) (.inl (some (.int (tbs (mI M 2) len n s).2))) (rdM M (tbs (mI M 2) len n s).1) := by
  have hsk := skipP_le (T := mI M 2) hp
  have hdg := digP_le (T := mI M 2) hsk.2
  have hS9 : Shp (rdM M s) := rd_S hS
  have hS1 : ∀ s, Shp (rdM M s) := fun s => rd_S hS
  have hr2 : mI (rdM M (tdg (mI M 2) len s)) 1 2 = nI (digP (mI M 2) len (skipP (mI M 2) len s.1)) := by rw [rd_2, (tdg_1 _ _ _).1]
  have hr3 : mI (rdM M (tdg (mI M 2) len s)) 1 3 = nI (skipP (mI M 2) len s.1) := by rw [rd_3, (tdg_1 _ _ _).2]
  have er : ∀ s, mI (rdM M s) 2 = mI M 2 := fun s => rd_ne (by decide)
  have ht := (tdg_1 (mI M 2) len s).2
  obtain ⟨S, hs⟩ : ∃ S, S = tbs (mI M 2) len n s := ⟨_, rfl⟩
  rw [← hs]
  unfold tbs at hs
  refine ev_intro rfl (nb rfl) rfl ?_
  refine g_aload_n (pc := 0) dX4_takeBits_0 rfl trivial ?_
  refine g_invV_r (pc := 1) (As := []) dX4_takeBits_1 rfl (r_takeDigits hS hl hL hp) rfl rfl (shK hS9 rfl) rfl rfl lk_X4_136 rfl (nb rfl) ⟨nb rfl, nb rfl⟩ rfl ?_
  skip
  generalize digP (mI M 2) len (skipP (mI M 2) len s.1) = p at *
  generalize skipP (mI M 2) len s.1 = q at *
  generalize tdg (mI M 2) len s = s1 at *
  by_cases h9 : p - q = n
  · rw [if_pos h9] at hs
    refine g_aload_n (pc := 4) dX4_takeBits_4 rfl trivial ?_
    refine g_getf (pc := 5) (v := .int _) dX4_takeBits_5 fk_X4_21 (shK (hS1 _) rfl) (fun _ => congrArg Value.int (hr2)) ?_
    refine g_aload_n (pc := 8) dX4_takeBits_8 rfl trivial ?_
    refine g_getf (pc := 9) (v := .int _) dX4_takeBits_9 fk_X4_70 (shK (hS1 _) rfl) (fun _ => congrArg Value.int (hr3)) ?_
    refine g_isub (pc := 12) dX4_takeBits_12 ?_
    rw [nI_sub' hdg.1, h9]
    refine g_iload_n (pc := 13) dX4_takeBits_13 rfl ?_
    refine g_icmp_eq (pc := 14) (tgt := 28) dX4_takeBits_14 rfl (fun _ => ?_) (fun h14 => absurd (rfl) h14)
    refine g_iconst (pc := 28) (v := 0) dX4_takeBits_28 rfl ?_
    refine g_istore_n (pc := 29) (lv' := [(0, _), (1, _), (2, _)]) dX4_takeBits_29 (nl rfl) rfl ?_
    refine g_iconst (pc := 30) (v := 0) dX4_takeBits_30 rfl ?_
    refine g_istore_n (pc := 31) (lv' := [(0, _), (1, _), (2, _), (3, _)]) dX4_takeBits_31 (nl rfl) rfl ?_
    refine go_loop (pc := 32) n (fun i => [(0, .ref 1), (1, .int (nI n)), (2, .int (tbI (mI M 2) q (nI q) s1 i).2), (3, .int (nI i))]) (fun i => rdM M (tbI (mI M 2) q (nI q) s1 i).1) ⟨rfl, rfl, rfl, rfl, trivial⟩ rfl ?_ ?_
    · intro i hi ih
      rw [tbI] at ih
      have hr3 : mI (rdM M (tbI (mI M 2) q (nI q) s1 i).1) 1 3 = nI q := by rw [rd_3, (tbI_1 _ _ _ _ _).2]; exact ht
      generalize tbI (mI M 2) q (nI q) s1 i = s2 at *
      refine g_iload_n (pc := 32) dX4_takeBits_32 rfl ?_
      refine g_iload_n (pc := 33) dX4_takeBits_33 rfl ?_
      refine g_icmp_ge (pc := 34) (tgt := 88) dX4_takeBits_34 rfl (fun h34 => absurd h34 (nI_ge hi (by omega))) (fun _ => ?_)
      refine g_aload_n (pc := 37) dX4_takeBits_37 rfl trivial ?_
      refine g_getf (pc := 38) dX4_takeBits_38 fk_X4_9 (shK (hS1 _) rfl) (fv_arr (shR (hS1 _) rfl)) ?_
      refine g_aload_n (pc := 41) dX4_takeBits_41 rfl trivial ?_
      refine g_getf (pc := 42) (v := .int _) dX4_takeBits_42 fk_X4_70 (shK (hS1 _) rfl) (fun _ => congrArg Value.int (hr3)) ?_
      refine g_iload_n (pc := 45) dX4_takeBits_45 rfl ?_
      refine g_iadd (pc := 46) dX4_takeBits_46 ?_
      rw [nI_add]
      refine g_iaload (pc := 47) dX4_takeBits_47 (shK (hS1 _) rfl) rfl (show q + i < 600 by omega) (nl rfl) ?_
      rw [er]
      refine g_istore (pc := 48) (lv' := [(0, _), (1, _), (2, _), (3, _), (4, _)]) dX4_takeBits_48 (nl rfl) rfl ?_
      refine g_iload (pc := 50) dX4_takeBits_50 rfl ?_
      refine g_bipush (pc := 52) (v := 49) dX4_takeBits_52 rfl ?_
      refine g_icmp_le (pc := 54) (tgt := 69) dX4_takeBits_54 rfl (fun h54 => ?_) (fun h54 => ?_)
      · rw [if_neg (Int32.not_lt.mpr h54)] at ih
        refine g_iload (pc := 69) dX4_takeBits_69 rfl ?_
        refine g_bipush (pc := 71) (v := 49) dX4_takeBits_71 rfl ?_
        refine g_icmp_ne (pc := 73) (tgt := 82) dX4_takeBits_73 rfl (fun h73 => ?_) (fun h73 => ?_)
        · rw [if_neg h73] at ih
          refine g_iinc (pc := 82) (lv' := [(0, _), (1, _), (2, _), (3, _), (4, _)]) dX4_takeBits_82 rfl (nI_1 _) (nl rfl) rfl ?_
          refine g_goto (pc := 85) (tgt := 32) dX4_takeBits_85 rfl ?_
          exact g_sub (lv' := [(0, _), (1, _), (2, _), (3, _)]) ⟨rfl, rfl, rfl, rfl, trivial⟩ ih
        · rw [if_pos (Decidable.not_not.mp h73)] at ih
          refine g_iload_n (pc := 76) dX4_takeBits_76 rfl ?_
          refine g_iconst (pc := 77) (v := 1) dX4_takeBits_77 rfl ?_
          refine g_iload_n (pc := 78) dX4_takeBits_78 rfl ?_
          refine g_ishl (pc := 79) dX4_takeBits_79 ?_
          refine g_ior (pc := 80) dX4_takeBits_80 ?_
          refine g_istore_n (pc := 81) (lv' := [(0, _), (1, _), (2, _), (3, _), (4, _)]) dX4_takeBits_81 (nl rfl) rfl ?_
          refine g_iinc (pc := 82) (lv' := [(0, _), (1, _), (2, _), (3, _), (4, _)]) dX4_takeBits_82 rfl (nI_1 _) (nl rfl) rfl ?_
          refine g_goto (pc := 85) (tgt := 32) dX4_takeBits_85 rfl ?_
          exact g_sub (lv' := [(0, _), (1, _), (2, _), (3, _)]) ⟨rfl, rfl, rfl, rfl, trivial⟩ ih
      · rw [if_pos (Int32.not_le.mp h54)] at ih
        refine g_aload_n (pc := 57) dX4_takeBits_57 rfl trivial ?_
        refine g_iconst (pc := 58) (v := 2) dX4_takeBits_58 rfl ?_
        refine g_aload_n (pc := 59) dX4_takeBits_59 rfl trivial ?_
        refine g_getf (pc := 60) (v := .int _) dX4_takeBits_60 fk_X4_70 (shK (hS1 _) rfl) (fun _ => congrArg Value.int (hr3)) ?_
        refine g_invV_r (pc := 63) (As := [_, _]) dX4_takeBits_63 rfl (r_fail hS) rfl rfl (shK (hS1 _) rfl) rfl rfl lk_X4_73 rfl (nb rfl) ⟨nb rfl, nb rfl⟩ rfl ?_
        refine g_goto (pc := 66) (tgt := 82) dX4_takeBits_66 rfl ?_
        refine g_iinc (pc := 82) (lv' := [(0, _), (1, _), (2, _), (3, _), (4, _)]) dX4_takeBits_82 rfl (nI_1 _) (nl rfl) rfl ?_
        refine g_goto (pc := 85) (tgt := 32) dX4_takeBits_85 rfl ?_
        exact g_sub (lv' := [(0, _), (1, _), (2, _), (3, _)]) ⟨rfl, rfl, rfl, rfl, trivial⟩ ih
    · rw [hs]
      refine g_iload_n (pc := 32) dX4_takeBits_32 rfl ?_
      refine g_iload_n (pc := 33) dX4_takeBits_33 rfl ?_
      refine g_icmp_ge (pc := 34) (tgt := 88) dX4_takeBits_34 rfl (fun _ => ?_) (fun h34 => absurd (nI_le (Nat.le_refl _) (by omega)) h34)
      refine g_iload_n (pc := 88) dX4_takeBits_88 rfl ?_
      refine g_ireturn (pc := 89) dX4_takeBits_89 rfl rfl ?_
      exact ⟨rfl, rfl⟩
  · rw [if_neg h9] at hs
    rw [hs]
    refine g_aload_n (pc := 4) dX4_takeBits_4 rfl trivial ?_
    refine g_getf (pc := 5) (v := .int _) dX4_takeBits_5 fk_X4_21 (shK (hS1 _) rfl) (fun _ => congrArg Value.int (hr2)) ?_
    refine g_aload_n (pc := 8) dX4_takeBits_8 rfl trivial ?_
    refine g_getf (pc := 9) (v := .int _) dX4_takeBits_9 fk_X4_70 (shK (hS1 _) rfl) (fun _ => congrArg Value.int (hr3)) ?_
    refine g_isub (pc := 12) dX4_takeBits_12 ?_
    rw [nI_sub' hdg.1]
    refine g_iload_n (pc := 13) dX4_takeBits_13 rfl ?_
    refine g_icmp_eq (pc := 14) (tgt := 28) dX4_takeBits_14 rfl (fun h14 => absurd h14 (fun h => h9 ((nI_eq (by omega) (by omega)).mp h))) (fun _ => ?_)
    refine g_aload_n (pc := 17) dX4_takeBits_17 rfl trivial ?_
    refine g_iconst (pc := 18) (v := 2) dX4_takeBits_18 rfl ?_
    refine g_aload_n (pc := 19) dX4_takeBits_19 rfl trivial ?_
    refine g_getf (pc := 20) (v := .int _) dX4_takeBits_20 fk_X4_70 (shK (hS1 _) rfl) (fun _ => congrArg Value.int (hr3)) ?_
    refine g_invV_r (pc := 23) (As := [_, _]) dX4_takeBits_23 rfl (r_fail hS) rfl rfl (shK (hS1 _) rfl) rfl rfl lk_X4_73 rfl (nb rfl) ⟨nb rfl, nb rfl⟩ rfl ?_
    refine g_iconst (pc := 26) (v := 0) dX4_takeBits_26 rfl ?_
    refine g_ireturn (pc := 27) dX4_takeBits_27 rfl rfl ?_
    exact ⟨rfl, rfl⟩
theorem r_hasMore (hS : Shp M) (hl : mI M 1 1 = nI len) (hL : len ≤ 600) (hp : s.1 ≤ len) : EvR l jX4_hasMore 1 30 0 0 [.ref 1] (rdM M s) (.inl (some (.int (b1 (decide (s.2.2.2.1 = 0) && decide (skipP (mI M 2) len s.1 < len)))))) (rdM M (skp (mI M 2) len s)) := by
  have hsk := skipP_le (T := mI M 2) hp
  have hS9 : Shp (rdM M s) := rd_S hS
  have hS1 : Shp (rdM M (skp (mI M 2) len s)) := rd_S hS
  have hr2 : mI (rdM M (skp (mI M 2) len s)) 1 2 = nI (skipP (mI M 2) len s.1) := rd_2
  have hr5 : mI (rdM M (skp (mI M 2) len s)) 1 5 = s.2.2.2.1 := rd_5
  have hr1 : mI (rdM M (skp (mI M 2) len s)) 1 1 = nI len := rd_1.trans hl
  refine ev_intro rfl (nb rfl) rfl ?_
  refine g_aload_n (pc := 0) dX4_hasMore_0 rfl trivial ?_
  refine g_invV_r (pc := 1) (As := []) dX4_hasMore_1 rfl (r_skipSpaces hS hl hL hp) rfl rfl (shK hS9 rfl) rfl rfl lk_X4_133 rfl (nb rfl) ⟨nb rfl, nb rfl⟩ rfl ?_
  refine g_aload_n (pc := 4) dX4_hasMore_4 rfl trivial ?_
  refine g_getf (pc := 5) (v := .int _) dX4_hasMore_5 fk_X4_27 (shK hS1 rfl) (fun _ => congrArg Value.int (hr5)) ?_
  refine g_if_ne (pc := 8) (tgt := 26) dX4_hasMore_8 rfl (fun h8 => ?_) (fun h8 => ?_)
  · rw [decide_eq_false h8, Bool.false_and]
    refine g_iconst (pc := 26) (v := 0) dX4_hasMore_26 rfl ?_
    refine g_ireturn (pc := 27) dX4_hasMore_27 rfl rfl ?_
    exact ⟨rfl, rfl⟩
  · rw [decide_eq_true (Decidable.not_not.mp h8), Bool.true_and]
    refine g_aload_n (pc := 11) dX4_hasMore_11 rfl trivial ?_
    refine g_getf (pc := 12) (v := .int _) dX4_hasMore_12 fk_X4_21 (shK hS1 rfl) (fun _ => congrArg Value.int (hr2)) ?_
    refine g_aload_n (pc := 15) dX4_hasMore_15 rfl trivial ?_
    refine g_getf (pc := 16) (v := .int _) dX4_hasMore_16 fk_X4_17 (shK hS1 rfl) (fun _ => congrArg Value.int (hr1)) ?_
    refine g_icmp_ge (pc := 19) (tgt := 26) dX4_hasMore_19 rfl (fun h19 => ?_) (fun h19 => ?_)
    · rw [decide_eq_false (fun h => nI_ge h (by omega) h19)]
      refine g_iconst (pc := 26) (v := 0) dX4_hasMore_26 rfl ?_
      refine g_ireturn (pc := 27) dX4_hasMore_27 rfl rfl ?_
      exact ⟨rfl, rfl⟩
    · rw [decide_eq_true (Nat.lt_of_not_le fun h => h19 (nI_le h (by omega)))]
      refine g_iconst (pc := 22) (v := 1) dX4_hasMore_22 rfl ?_
      refine g_goto (pc := 23) (tgt := 27) dX4_hasMore_23 rfl ?_
      refine g_ireturn (pc := 27) dX4_hasMore_27 rfl rfl ?_
      exact ⟨rfl, rfl⟩
def tsc (T : Nat → Int32) (len : Nat) (s : RP) : RP := if s.1 < len ∧ T s.1 = 59 then (s.1 + 1, s.2.1, s.2.2.1 + 1, s.2.2.2) else rFail 1 (nI s.1) s
theorem r_takeSemicolon (hS : Shp M) (hl : mI M 1 1 = nI len) (hL : len ≤ 600) (hp : s.1 ≤ len) : EvR l jX4_takeSemicolon 1 30 0 0 [.ref 1] (rdM M s) (.inl none) (rdM M (tsc (mI M 2) len s)) := by
  have hS1 : ∀ s, Shp (rdM M s) := fun s => rd_S hS
  have hr2 : mI (rdM M s) 1 2 = nI s.1 := rd_2
  have hr1 : mI (rdM M s) 1 1 = nI len := rd_1.trans hl
  have hr4 : mI (rdM M (s.1 + 1, s.2)) 1 4 = s.2.2.1 := rd_4
  refine ev_intro rfl (nb rfl) rfl ?_
  unfold tsc
  refine g_aload_n (pc := 0) dX4_takeSemicolon_0 rfl trivial ?_
  refine g_getf (pc := 1) (v := .int _) dX4_takeSemicolon_1 fk_X4_21 (shK (hS1 _) rfl) (fun _ => congrArg Value.int (hr2)) ?_
  refine g_aload_n (pc := 4) dX4_takeSemicolon_4 rfl trivial ?_
  refine g_getf (pc := 5) (v := .int _) dX4_takeSemicolon_5 fk_X4_17 (shK (hS1 _) rfl) (fun _ => congrArg Value.int (hr1)) ?_
  refine g_icmp_ge (pc := 8) (tgt := 48) dX4_takeSemicolon_8 rfl (fun h8 => ?_) (fun h8 => ?_)
  · rw [if_neg (fun h => nI_ge h.1 (by omega) h8)]
    refine g_aload_n (pc := 48) dX4_takeSemicolon_48 rfl trivial ?_
    refine g_iconst (pc := 49) (v := 1) dX4_takeSemicolon_49 rfl ?_
    refine g_aload_n (pc := 50) dX4_takeSemicolon_50 rfl trivial ?_
    refine g_getf (pc := 51) (v := .int _) dX4_takeSemicolon_51 fk_X4_21 (shK (hS1 _) rfl) (fun _ => congrArg Value.int (hr2)) ?_
    refine g_invV_r (pc := 54) (As := [_, _]) dX4_takeSemicolon_54 rfl (r_fail hS) rfl rfl (shK (hS1 _) rfl) rfl rfl lk_X4_73 rfl (nb rfl) ⟨nb rfl, nb rfl⟩ rfl ?_
    refine g_return (pc := 57) dX4_takeSemicolon_57 rfl ?_
    exact ⟨rfl, rfl⟩
  · have hlt : s.1 < len := Nat.lt_of_not_le fun h => h8 (nI_le h (by omega))
    refine g_aload_n (pc := 11) dX4_takeSemicolon_11 rfl trivial ?_
    refine g_getf (pc := 12) dX4_takeSemicolon_12 fk_X4_9 (shK (hS1 _) rfl) (fv_arr (shR (hS1 _) rfl)) ?_
    refine g_aload_n (pc := 15) dX4_takeSemicolon_15 rfl trivial ?_
    refine g_getf (pc := 16) (v := .int _) dX4_takeSemicolon_16 fk_X4_21 (shK (hS1 _) rfl) (fun _ => congrArg Value.int (hr2)) ?_
    refine g_iaload (pc := 19) dX4_takeSemicolon_19 (shK (hS1 _) rfl) rfl (show s.1 < 600 by omega) (nl rfl) ?_
    rw [rd_ne (by decide)]
    refine g_bipush (pc := 20) (v := 59) dX4_takeSemicolon_20 rfl ?_
    refine g_icmp_ne (pc := 22) (tgt := 48) dX4_takeSemicolon_22 rfl (fun h22 => ?_) (fun h22 => ?_)
    · rw [if_neg (fun h => h22 h.2)]
      refine g_aload_n (pc := 48) dX4_takeSemicolon_48 rfl trivial ?_
      refine g_iconst (pc := 49) (v := 1) dX4_takeSemicolon_49 rfl ?_
      refine g_aload_n (pc := 50) dX4_takeSemicolon_50 rfl trivial ?_
      refine g_getf (pc := 51) (v := .int _) dX4_takeSemicolon_51 fk_X4_21 (shK (hS1 _) rfl) (fun _ => congrArg Value.int (hr2)) ?_
      refine g_invV_r (pc := 54) (As := [_, _]) dX4_takeSemicolon_54 rfl (r_fail hS) rfl rfl (shK (hS1 _) rfl) rfl rfl lk_X4_73 rfl (nb rfl) ⟨nb rfl, nb rfl⟩ rfl ?_
      refine g_return (pc := 57) dX4_takeSemicolon_57 rfl ?_
      exact ⟨rfl, rfl⟩
    · rw [if_pos ⟨hlt, Decidable.not_not.mp h22⟩]
      refine g_aload_n (pc := 25) dX4_takeSemicolon_25 rfl trivial ?_
      refine g_dup (pc := 26) dX4_takeSemicolon_26 rfl ?_
      refine g_getf (pc := 27) (v := .int _) dX4_takeSemicolon_27 fk_X4_21 (shK (hS1 _) rfl) (fun _ => congrArg Value.int (hr2)) ?_
      refine g_iconst (pc := 30) (v := 1) dX4_takeSemicolon_30 rfl ?_
      refine g_iadd (pc := 31) dX4_takeSemicolon_31 ?_
      refine g_putI (pc := 32) dX4_takeSemicolon_32 fp_X4_21 (shK (hS1 _) rfl) ⟨rfl, rfl⟩ (fun _ _ _ _ => rfl) ?_
      refine go_cast (rd_p2 (nI_1 _)) ?_
      refine g_aload_n (pc := 35) dX4_takeSemicolon_35 rfl trivial ?_
      refine g_dup (pc := 36) dX4_takeSemicolon_36 rfl ?_
      refine g_getf (pc := 37) (v := .int _) dX4_takeSemicolon_37 fk_X4_24 (shK (hS1 _) rfl) (fun _ => congrArg Value.int (hr4)) ?_
      refine g_iconst (pc := 40) (v := 1) dX4_takeSemicolon_40 rfl ?_
      refine g_iadd (pc := 41) dX4_takeSemicolon_41 ?_
      refine g_putI (pc := 42) dX4_takeSemicolon_42 fp_X4_24 (shK (hS1 _) rfl) ⟨rfl, rfl⟩ (fun _ _ _ _ => rfl) ?_
      refine go_cast rd_p4 ?_
      refine g_goto (pc := 45) (tgt := 57) dX4_takeSemicolon_45 rfl ?_
      refine g_return (pc := 57) dX4_takeSemicolon_57 rfl ?_
      exact ⟨rfl, rfl⟩
end
