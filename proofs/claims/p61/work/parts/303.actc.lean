/-! an action of the law: nodes exchanged -/
section
variable {l : Launch} {M : Mem} {A P n p d x s t o a b w MC MS : Nat} {is : Bool} {u : Nat → Int64} {ρ : Nat → Nat × Nat} {eo : Option Nat} {os : List OD} {nb : OD} {q : DQ}
theorem act_11 (hZ : AZ M A P n p os.length d u (usO os) ρ eo os nb) (hu : nb.2.2 = u) (hD : DK M d n q u) (hO : OW ρ d n q) (hs : s < 6) (ha : a < n) (hb9 : b < n) : Go l jL_act 12 400 MC MS (QA A P n (mS M)) 1081 [(0, .ref 0), (2, .ref P), (4, .ref d), (7, .int (nI s)), (10, .int (nI a)), (11, .int (nI b)), (13, .ref nb.1), (16, .int 1), (17, .ref (q.2.2.2.1 s))] [] 1100 9000 M := by
  have hn := hZ.2.2.2.2.2.2
  have hx := hZ.x
  have hz := hD.z
  have hn32 : n ≤ 32 := by omega
  obtain ⟨-, hm⟩ := hD.m hZ.1 hs
  have hg9 : ∃ g : Nat → Int32, g = exF (Am M s) a b := ⟨_, rfl⟩
  obtain ⟨g, hg⟩ := hg9
  have hF := fresh_Mt M n
  have hX := os2_xt M .boolean n n
  have hdl := k_lt hD.1.1
  have hml := hm.lt
  refine g_aload (pc := 1081) dL_act_1081 rfl trivial ?_
  refine g_invV_r (pc := 1083) (As := []) dL_act_1083 rfl (k_fresh hD.1.1 hz hn hx) rfl rfl hD.1.1 rfl rfl lk_L_151 rfl (nb rfl) ⟨nb rfl, nb rfl⟩ rfl ?_
  show Go l _ _ _ _ _ _ _ _ ([.ref (mK M).length] : List Value) _ _ (opsM M (os2 .boolean n n (mK M).length))
  generalize hN : (mK M).length = N at *
  generalize opsM M (os2 .boolean n n N) = M1 at *
  have cl : ∀ {My : Mem}, Xt (fun y => N ≤ y) M My → (mK My)[d]? = some (.inr 7) ∧ mI My d 0 = nI n ∧ Mt My (q.2.2.2.1 s) n (q.2.2.2.2.1 s) (fB (Am M s)) := fun {My} h => ⟨h.k hD.1.1, (congrFun (h.I (k_lt hD.1.1) (by omega)) 0).trans hz, hm.xt h (by omega) (fun r hr => by have := hml.2 r hr; omega)⟩

  refine g_astore (pc := 1086) (lv' := [(0, _), (2, _), (4, _), (7, _), (10, _), (11, _), (13, _), (16, _), (17, _), (18, _)]) dL_act_1086 trivial (nl rfl) rfl ?_
  refine g_iconst (pc := 1088) (v := 0) dL_act_1088 rfl ?_
  refine g_istore (pc := 1089) (lv' := [(0, _), (2, _), (4, _), (7, _), (10, _), (11, _), (13, _), (16, _), (17, _), (18, _), (19, _)]) dL_act_1089 (nl rfl) rfl ?_
  refine go_forS (pc := 1091) n (fun i (_ : Mem) => [(0, .ref 0), (2, .ref P), (4, .ref d), (7, .int (nI s)), (10, .int (nI a)), (11, .int (nI b)), (13, .ref nb.1), (16, .int 1), (17, .ref (q.2.2.2.1 s)), (18, .ref N), (19, .int (nI i))]) (fun z => z) (fun i My => Xt (fun y => N ≤ y) M My ∧ Mt My N n (fun r => N + 1 + r) (fun r c => if srcN a b r < i ∨ (srcN a b r = i ∧ srcN a b c < 0) then hb (g r) c else false)) (fun _ => 1090) (fun _ => 8910) M1 ⟨rfl, rfl, rfl, rfl, rfl, rfl, rfl, rfl, rfl, rfl, rfl, trivial⟩ rfl rfl rfl ⟨hX.up (fun _ _ z => z.elim), hF.cg (fun r c _ _ => (if_neg (by omega)).symm)⟩ ?_ ?_
  · rintro i My hi ⟨g1, g2⟩ ih
    obtain ⟨hd9, hz9, hm9⟩ := cl g1
    refine g_iload (pc := 1091) dL_act_1091 rfl ?_
    refine g_aload (pc := 1093) dL_act_1093 rfl trivial ?_
    refine g_getf (pc := 1095) (v := .int _) dL_act_1095 fk_L_45 hd9 (fun _ => congrArg Value.int (hz9)) ?_
    refine g_icmp_ge (pc := 1098) (tgt := 1190) dL_act_1098 rfl (fun h1098 => absurd h1098 (nI_ge hi (by omega))) (fun _ => ?_)
    refine g_iconst (pc := 1101) (v := 0) dL_act_1101 rfl ?_
    refine g_istore (pc := 1102) (lv' := [(0, _), (2, _), (4, _), (7, _), (10, _), (11, _), (13, _), (16, _), (17, _), (18, _), (19, _), (20, _)]) dL_act_1102 (nl rfl) rfl ?_
    refine g_wk (pc := 1104) (Nat.le_refl 1090) (Nat.le_refl 8910) ?_
    refine go_forS (pc := 1104) n (fun j (_ : Mem) => [(0, .ref 0), (2, .ref P), (4, .ref d), (7, .int (nI s)), (10, .int (nI a)), (11, .int (nI b)), (13, .ref nb.1), (16, .int 1), (17, .ref (q.2.2.2.1 s)), (18, .ref N), (19, .int (nI i)), (20, .int (nI j))]) (fun z => z) (fun j My => Xt (fun y => N ≤ y) M My ∧ Mt My N n (fun r => N + 1 + r) (fun r c => if srcN a b r < i ∨ (srcN a b r = i ∧ srcN a b c < j) then hb (g r) c else false)) (fun _ => 1090) (fun _ => 8910) My ⟨rfl, rfl, rfl, rfl, rfl, rfl, rfl, rfl, rfl, rfl, rfl, rfl, trivial⟩ rfl rfl rfl ⟨g1, g2⟩ ?_ ?_
    · rintro j Mz hj ⟨f1, f2⟩ ih2
      obtain ⟨hd8, hz8, hm8⟩ := cl f1
      have hput : ∀ v : Bool, v = hb (g (srcN a b i)) (srcN a b j) → _ := fun v hv => ih2 (sI Mz (N + 1 + srcN a b i) (fun_set (mI Mz (N + 1 + srcN a b i)) (srcN a b j) (vp_nar .boolean (b1 v)))) ⟨f1.sI (fun _ => by omega), Mt.fill (τ := fun r => srcN a b r) (σ := fun i => srcN a b i) f2 hi hj (fun _ h => src_lt ha hb9 h) (fun _ _ => src_src) (fun _ _ => src_src) v hv⟩
      have hv : hb (Am M s i) j = hb (g (srcN a b i)) (srcN a b j) := by
        rw [hg, ex_w hn32 ha hb9, src_src, src_src]
      have si := src_lt ha hb9 hi
      have sj := src_lt ha hb9 hj
      have key2 : Go l jL_act 12 400 MC MS (QA A P n (mS M)) 1169 [(0, .ref 0), (2, .ref P), (4, .ref d), (7, .int (nI s)), (10, .int (nI a)), (11, .int (nI b)), (13, .ref nb.1), (16, .int 1), (17, .ref (q.2.2.2.1 s)), (18, .ref N), (19, .int (nI i)), (20, .int (nI j))] [.int (nI (srcN a b j)), .ref (N + 1 + srcN a b i)] 1090 8910 Mz := by
        refine g_aload (pc := 1169) dL_act_1169 rfl trivial ?_
        refine g_iload (pc := 1171) dL_act_1171 rfl ?_
        refine g_aaload_Z1 (pc := 1173) dL_act_1173 hm8.1 rfl hi (by omega) (hm8.2 i hi).1 ?_
        refine g_iload (pc := 1174) dL_act_1174 rfl ?_
        refine g_zaload (pc := 1176) dL_act_1176 (hm8.2 i hi).2.1 rfl hj (by omega) ?_
        rw [show mI Mz (q.2.2.2.2.1 s i) j = b1 (hb (Am M s i) j) from (hm8.2 i hi).2.2 j hj]
        refine g_zastore (pc := 1177) dL_act_1177 (f2.2 (srcN a b i) si).2.1 rfl sj (by omega) ?_
        refine g_iinc (pc := 1178) (lv' := [(0, _), (2, _), (4, _), (7, _), (10, _), (11, _), (13, _), (16, _), (17, _), (18, _), (19, _), (20, _)]) dL_act_1178 rfl (nI_1 _) (nl rfl) rfl ?_
        refine g_goto (pc := 1181) (tgt := 1104) dL_act_1181 rfl ?_
        exact g_subk (hput _ hv) ⟨rfl, rfl, rfl, rfl, rfl, rfl, rfl, rfl, rfl, rfl, rfl, rfl, trivial⟩
      have key1 : Go l jL_act 12 400 MC MS (QA A P n (mS M)) 1142 [(0, .ref 0), (2, .ref P), (4, .ref d), (7, .int (nI s)), (10, .int (nI a)), (11, .int (nI b)), (13, .ref nb.1), (16, .int 1), (17, .ref (q.2.2.2.1 s)), (18, .ref N), (19, .int (nI i)), (20, .int (nI j))] [.int (nI (srcN a b i)), .ref N] 1090 8910 Mz := by
        have hsj : srcN a b j = if j = a then b else if j = b then a else j := rfl
        by_cases e1 : j = a
        · rw [hsj, if_pos e1] at key2
          refine g_aaload_Z1 (pc := 1142) dL_act_1142 f2.1 rfl si (by omega) (f2.2 (srcN a b i) si).1 ?_
          refine g_iload (pc := 1143) dL_act_1143 rfl ?_
          refine g_iload (pc := 1145) dL_act_1145 rfl ?_
          refine g_icmp_ne (pc := 1147) (tgt := 1155) dL_act_1147 rfl (fun h1147 => absurd h1147 ((fun z => z (by rw [e1])))) (fun _ => ?_)
          refine g_iload (pc := 1150) dL_act_1150 rfl ?_
          refine g_goto (pc := 1152) (tgt := 1169) dL_act_1152 rfl ?_
          exact key2
        · have n1 : ¬ nI j = nI a := fun z => e1 (nI_inj9 (by omega) (by omega) z)
          by_cases e2 : j = b
          · rw [hsj, if_neg e1, if_pos e2] at key2
            refine g_aaload_Z1 (pc := 1142) dL_act_1142 f2.1 rfl si (by omega) (f2.2 (srcN a b i) si).1 ?_
            refine g_iload (pc := 1143) dL_act_1143 rfl ?_
            refine g_iload (pc := 1145) dL_act_1145 rfl ?_
            refine g_icmp_ne (pc := 1147) (tgt := 1155) dL_act_1147 rfl (fun _ => ?_) (fun h1147 => absurd (n1) h1147)
            refine g_iload (pc := 1155) dL_act_1155 rfl ?_
            refine g_iload (pc := 1157) dL_act_1157 rfl ?_
            refine g_icmp_ne (pc := 1159) (tgt := 1167) dL_act_1159 rfl (fun h1159 => absurd h1159 ((fun z => z (by rw [e2])))) (fun _ => ?_)
            refine g_iload (pc := 1162) dL_act_1162 rfl ?_
            refine g_goto (pc := 1164) (tgt := 1169) dL_act_1164 rfl ?_
            exact key2
          · have n2 : ¬ nI j = nI b := fun z => e2 (nI_inj9 (by omega) (by omega) z)
            rw [hsj, if_neg e1, if_neg e2] at key2
            refine g_aaload_Z1 (pc := 1142) dL_act_1142 f2.1 rfl si (by omega) (f2.2 (srcN a b i) si).1 ?_
            refine g_iload (pc := 1143) dL_act_1143 rfl ?_
            refine g_iload (pc := 1145) dL_act_1145 rfl ?_
            refine g_icmp_ne (pc := 1147) (tgt := 1155) dL_act_1147 rfl (fun _ => ?_) (fun h1147 => absurd (n1) h1147)
            refine g_iload (pc := 1155) dL_act_1155 rfl ?_
            refine g_iload (pc := 1157) dL_act_1157 rfl ?_
            refine g_icmp_ne (pc := 1159) (tgt := 1167) dL_act_1159 rfl (fun _ => ?_) (fun h1159 => absurd (n2) h1159)
            refine g_iload (pc := 1167) dL_act_1167 rfl ?_
            exact key2
      have hsi : srcN a b i = if i = a then b else if i = b then a else i := rfl
      by_cases e1 : i = a
      · rw [hsi, if_pos e1] at key1
        refine g_iload (pc := 1104) dL_act_1104 rfl ?_
        refine g_aload (pc := 1106) dL_act_1106 rfl trivial ?_
        refine g_getf (pc := 1108) (v := .int _) dL_act_1108 fk_L_45 hd8 (fun _ => congrArg Value.int (hz8)) ?_
        refine g_icmp_ge (pc := 1111) (tgt := 1184) dL_act_1111 rfl (fun h1111 => absurd h1111 (nI_ge hj (by omega))) (fun _ => ?_)
        refine g_aload (pc := 1114) dL_act_1114 rfl trivial ?_
        refine g_iload (pc := 1116) dL_act_1116 rfl ?_
        refine g_iload (pc := 1118) dL_act_1118 rfl ?_
        refine g_icmp_ne (pc := 1120) (tgt := 1128) dL_act_1120 rfl (fun h1120 => absurd h1120 ((fun z => z (by rw [e1])))) (fun _ => ?_)
        refine g_iload (pc := 1123) dL_act_1123 rfl ?_
        refine g_goto (pc := 1125) (tgt := 1142) dL_act_1125 rfl ?_
        exact key1
      · have n1 : ¬ nI i = nI a := fun z => e1 (nI_inj9 (by omega) (by omega) z)
        by_cases e2 : i = b
        · rw [hsi, if_neg e1, if_pos e2] at key1
          refine g_iload (pc := 1104) dL_act_1104 rfl ?_
          refine g_aload (pc := 1106) dL_act_1106 rfl trivial ?_
          refine g_getf (pc := 1108) (v := .int _) dL_act_1108 fk_L_45 hd8 (fun _ => congrArg Value.int (hz8)) ?_
          refine g_icmp_ge (pc := 1111) (tgt := 1184) dL_act_1111 rfl (fun h1111 => absurd h1111 (nI_ge hj (by omega))) (fun _ => ?_)
          refine g_aload (pc := 1114) dL_act_1114 rfl trivial ?_
          refine g_iload (pc := 1116) dL_act_1116 rfl ?_
          refine g_iload (pc := 1118) dL_act_1118 rfl ?_
          refine g_icmp_ne (pc := 1120) (tgt := 1128) dL_act_1120 rfl (fun _ => ?_) (fun h1120 => absurd (n1) h1120)
          refine g_iload (pc := 1128) dL_act_1128 rfl ?_
          refine g_iload (pc := 1130) dL_act_1130 rfl ?_
          refine g_icmp_ne (pc := 1132) (tgt := 1140) dL_act_1132 rfl (fun h1132 => absurd h1132 ((fun z => z (by rw [e2])))) (fun _ => ?_)
          refine g_iload (pc := 1135) dL_act_1135 rfl ?_
          refine g_goto (pc := 1137) (tgt := 1142) dL_act_1137 rfl ?_
          exact key1
        · have n2 : ¬ nI i = nI b := fun z => e2 (nI_inj9 (by omega) (by omega) z)
          rw [hsi, if_neg e1, if_neg e2] at key1
          refine g_iload (pc := 1104) dL_act_1104 rfl ?_
          refine g_aload (pc := 1106) dL_act_1106 rfl trivial ?_
          refine g_getf (pc := 1108) (v := .int _) dL_act_1108 fk_L_45 hd8 (fun _ => congrArg Value.int (hz8)) ?_
          refine g_icmp_ge (pc := 1111) (tgt := 1184) dL_act_1111 rfl (fun h1111 => absurd h1111 (nI_ge hj (by omega))) (fun _ => ?_)
          refine g_aload (pc := 1114) dL_act_1114 rfl trivial ?_
          refine g_iload (pc := 1116) dL_act_1116 rfl ?_
          refine g_iload (pc := 1118) dL_act_1118 rfl ?_
          refine g_icmp_ne (pc := 1120) (tgt := 1128) dL_act_1120 rfl (fun _ => ?_) (fun h1120 => absurd (n1) h1120)
          refine g_iload (pc := 1128) dL_act_1128 rfl ?_
          refine g_iload (pc := 1130) dL_act_1130 rfl ?_
          refine g_icmp_ne (pc := 1132) (tgt := 1140) dL_act_1132 rfl (fun _ => ?_) (fun h1132 => absurd (n2) h1132)
          refine g_iload (pc := 1140) dL_act_1140 rfl ?_
          exact key1
    · rintro Mz ⟨f1, f2⟩
      obtain ⟨hd8, hz8, hm8⟩ := cl f1
      refine g_iload (pc := 1104) dL_act_1104 rfl ?_
      refine g_aload (pc := 1106) dL_act_1106 rfl trivial ?_
      refine g_getf (pc := 1108) (v := .int _) dL_act_1108 fk_L_45 hd8 (fun _ => congrArg Value.int (hz8)) ?_
      refine g_icmp_ge (pc := 1111) (tgt := 1184) dL_act_1111 rfl (fun _ => ?_) (fun h1111 => absurd (nI_le (Nat.le_refl _) (by omega)) h1111)
      refine g_iinc (pc := 1184) (lv' := [(0, _), (2, _), (4, _), (7, _), (10, _), (11, _), (13, _), (16, _), (17, _), (18, _), (19, _), (20, _)]) dL_act_1184 rfl (nI_1 _) (nl rfl) rfl ?_
      refine g_goto (pc := 1187) (tgt := 1091) dL_act_1187 rfl ?_
      exact g_subk (ih Mz ⟨f1, Mt.next (τ := fun r => srcN a b r) f2 (fun _ h => src_lt ha hb9 h)⟩) ⟨rfl, rfl, rfl, rfl, rfl, rfl, rfl, rfl, rfl, rfl, rfl, trivial⟩
  · rintro My ⟨g1, g2⟩
    obtain ⟨hd9, hz9, hm9⟩ := cl g1
    have gM : Mt My N n (fun r => N + 1 + r) (fB g) := g2.cg (fun r c hr hc => if_pos (Or.inl (src_lt ha hb9 hr)))
    have gd : Xt (fun i => i = d) M My := g1.up (fun i hi z => by omega)
    have gD : DK My d n q u := hD.xt hO g1 (fun i hi z => by omega)
    refine g_wk (Nat.le_refl 1090) (Nat.le_refl 8910) ?_

    obtain ⟨M2, e1, e2, e3, e4, e5, e6, e7⟩ := st_law (l := l) (t := s) (g := g) hD hO gd gD gM (Nat.le_of_eq hN) (by omega) hs (fun _ _ _ _ => rfl) hn32
    have hZ2 := hZ.xt e4 e6 e5
    have hS2 : mS M2 = mS M := e4.2.2.1
    obtain ⟨M3, c1, c2, c3⟩ := c_exchange (l := l) hZ2.1 hs ha hb9
    rw [hZ.am e4 e6 hs] at c1 c3
    rw [ex_c hn32 (hZ.1.wf hs) ha hb9, ← hg] at c1
    rw [← hg] at c3
    rw [← hS2]
    refine g_iload (pc := 1091) dL_act_1091 rfl ?_
    refine g_aload (pc := 1093) dL_act_1093 rfl trivial ?_
    refine g_getf (pc := 1095) (v := .int _) dL_act_1095 fk_L_45 hd9 (fun _ => congrArg Value.int (hz9)) ?_
    refine g_icmp_ge (pc := 1098) (tgt := 1190) dL_act_1098 rfl (fun _ => ?_) (fun h1098 => absurd (nI_le (Nat.le_refl _) (by omega)) h1098)
    refine g_aload (pc := 1190) dL_act_1190 rfl trivial ?_
    refine g_aload (pc := 1192) dL_act_1192 rfl trivial ?_
    refine g_aload (pc := 1194) dL_act_1194 rfl trivial ?_
    refine g_invV_r (pc := 1196) (As := [_, _]) dL_act_1196 rfl (k_differ hd9 hz9 hm9 gM hn) rfl rfl hd9 rfl rfl lk_L_139 rfl (nb rfl) ⟨nb rfl, nb rfl⟩ rfl ?_
    refine g_istore (pc := 1199) (lv' := [(0, _), (2, _), (4, _), (7, _), (10, _), (11, _), (13, _), (16, _), (17, _), (18, _), (19, _), (14, _)]) dL_act_1199 (nl rfl) rfl ?_
    refine g_aload (pc := 1201) dL_act_1201 rfl trivial ?_
    refine g_iload (pc := 1203) dL_act_1203 rfl ?_
    refine g_aload (pc := 1205) dL_act_1205 rfl trivial ?_
    refine g_invV_r (pc := 1207) (As := [_, _]) dL_act_1207 rfl (e1) rfl rfl hd9 rfl rfl lk_L_155 rfl (nb rfl) ⟨nb rfl, nb rfl⟩ rfl ?_
    refine g_aload_n (pc := 1210) dL_act_1210 rfl trivial ?_
    refine g_iload (pc := 1211) dL_act_1211 rfl ?_
    refine g_iload (pc := 1213) dL_act_1213 rfl ?_
    refine g_iload (pc := 1215) dL_act_1215 rfl ?_
    refine g_invV_r (pc := 1217) (As := [_, _, _]) dL_act_1217 rfl (c1) rfl rfl (shK hZ2.1.S rfl) rfl rfl lk_L_199 rfl (nb rfl) ⟨nb rfl, nb rfl⟩ rfl ?_
    refine g_istore (pc := 1220) (lv' := [(0, _), (2, _), (4, _), (7, _), (10, _), (11, _), (13, _), (16, _), (17, _), (18, _), (19, _), (14, _), (15, _)]) dL_act_1220 (nl rfl) rfl ?_
    refine g_goto (pc := 1222) (tgt := 1338) dL_act_1222 rfl ?_
    refine g_wk (pc := 1338) (k := 2) (n := 16) (by decide) (by decide) ?_
    exact g_subk (k_fin hZ2 hu e2 e3 c2 c3) ⟨rfl, rfl, rfl, rfl, rfl, rfl, trivial⟩
end

