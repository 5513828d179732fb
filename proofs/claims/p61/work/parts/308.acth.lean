/-! an action of the law, whole -/
section
variable {l : Launch} {M : Mem} {A P n p d x s t o a b w v MC MS : Nat} {is : Bool} {u : Nat → Int64} {ρ : Nat → Nat × Nat} {eo : Option Nat} {os : List OD} {nb : OD} {q : DQ}
theorem usO_l {os1 : List OD} {o1 : OD} {i : Nat} (hi : i < os1.length) : usO (os1 ++ [o1]) i = usO os1 i := by
  unfold usO
  rw [List.getElem?_append_left hi]
theorem usO_e {os1 : List OD} {o1 : OD} : usO (os1 ++ [o1]) os1.length = o1.2.2 := by
  unfold usO
  rw [List.getElem?_append_right (Nat.le_refl _), Nat.sub_self]
  rfl
theorem act_14 (h1 : CV M n p os.length u (usO os)) (h2 : AR M A d) (h3 : AL M P eo (os.map (fun o => o.1))) (hD : DK M d n q u) (hO : OW ρ d n q) (hd : 198 ≤ d) (hoo : OO M ρ n os) (hnd : (d :: os.map (fun o => o.1)).Nodup) (hN : NO ρ A P eo) (hn : n ≤ 9) : Go l jL_act 12 400 MC MS (QA A P n (mS M)) 96 [(0, .ref 0), (1, .ref A), (2, .ref P)] [] 1250 10400 M := by
  rcases List.eq_nil_or_concat os with e | ⟨os1, o1, e⟩
  · subst e
    refine g_aload_n (pc := 96) dL_act_96 rfl trivial ?_
    refine g_invV_r (pc := 97) (As := []) dL_act_97 rfl (k_alSize h3) rfl rfl h3.1.1 rfl rfl lk_L_116 rfl (nb rfl) ⟨nb rfl, nb rfl⟩ rfl ?_
    refine g_iconst (pc := 100) (v := 1) dL_act_100 rfl ?_
    refine g_isub (pc := 101) dL_act_101 ?_
    rw [show nI (List.map (fun o : OD => o.1) []).length - 1 = -1 by decide]
    refine g_istore (pc := 102) (lv' := [(0, _), (1, _), (2, _), (13, _)]) dL_act_102 (nl rfl) rfl ?_
    refine g_iload (pc := 104) dL_act_104 rfl ?_
    refine g_if_lt (pc := 106) (tgt := 121) dL_act_106 rfl (fun _ => ?_) (fun h106 => absurd ((by decide)) h106)
    refine g_aload_n (pc := 121) dL_act_121 rfl trivial ?_
    refine g_invV_r (pc := 122) (As := []) dL_act_122 rfl (c_undo0 h1) rfl rfl (shK h1.S rfl) rfl rfl lk_L_124 rfl (nb rfl) ⟨nb rfl, nb rfl⟩ rfl ?_
    refine g_iload (pc := 125) dL_act_125 rfl ?_
    refine g_icmp_ne (pc := 127) (tgt := 134) dL_act_127 rfl (fun h127 => absurd h127 ((fun z => z rfl))) (fun _ => ?_)
    refine g_iconst (pc := 130) (v := 1) dL_act_130 rfl ?_
    refine g_goto (pc := 131) (tgt := 135) dL_act_131 rfl ?_
    refine g_ireturn (pc := 135) dL_act_135 rfl rfl ?_
    exact ⟨_, rfl, rfl, ⟨p, u, d, q, ρ, eo, [], h1, ⟨h2, h3⟩, ⟨hD, hO, hd⟩, hoo, hnd, hN, hn⟩, rfl⟩
  · subst e
    have hl : (os1 ++ [o1]).length = os1.length + 1 := by rw [List.length_append]; rfl
    have hm : (os1 ++ [o1]).map (fun o => o.1) = os1.map (fun o => o.1) ++ [o1.1] := by rw [List.map_append]; rfl
    have hml : (os1.map (fun o => o.1)).length = os1.length := List.length_map _
    rw [hm] at h3 hnd
    rw [hl] at h1
    have h8 := h1.c8
    cases eo with
    | none => exact absurd (congrArg List.length h3.2.1.1) (by rw [List.length_append]; exact Nat.succ_ne_zero _)
    | some e9 =>
      refine g_aload_n (pc := 96) dL_act_96 rfl trivial ?_
      refine g_invV_r (pc := 97) (As := []) dL_act_97 rfl (k_alSize h3) rfl rfl h3.1.1 rfl rfl lk_L_116 rfl (nb rfl) ⟨nb rfl, nb rfl⟩ rfl ?_
      refine g_iconst (pc := 100) (v := 1) dL_act_100 rfl ?_
      refine g_isub (pc := 101) dL_act_101 ?_
      rw [show (os1.map (fun o => o.1) ++ [o1.1]).length = (os1.map (fun o => o.1)).length + 1 by rw [List.length_append]; rfl, show nI ((os1.map (fun o => o.1)).length + 1) - 1 = nI (os1.map (fun o => o.1)).length from (nI_m1 (Nat.succ_pos _)).trans rfl]
      refine g_istore (pc := 102) (lv' := [(0, _), (1, _), (2, _), (13, _)]) dL_act_102 (nl rfl) rfl ?_
      refine g_iload (pc := 104) dL_act_104 rfl ?_
      refine g_if_lt (pc := 106) (tgt := 121) dL_act_106 rfl (fun h106 => absurd h106 (nI_pos (by omega))) (fun _ => ?_)
      refine g_aload_n (pc := 109) dL_act_109 rfl trivial ?_
      refine g_iconst (pc := 110) (v := 0) dL_act_110 rfl ?_
      refine g_aload_n (pc := 111) dL_act_111 rfl trivial ?_
      refine g_iload (pc := 112) dL_act_112 rfl ?_
      refine g_invV_o (pc := 114) (As := [_]) dL_act_114 rfl (k_alLast h3) rfl rfl h3.1.1 rfl rfl lk_L_120 rfl (nb rfl) ⟨nb rfl, nb rfl⟩ rfl (fun v1 M1 hq => ?_)
      obtain ⟨rfl, b1', b2⟩ := hq
      show Go l _ _ _ _ _ _ _ _ ([.ref o1.1, .int 0, .ref A] : List Value) _ _ _
      have c1 := h1.xt b2 (fun i hi w => by have := (alc_no hN w).1; omega)
      have c2 : AR M1 A d := h2.xt b2 (ar_no h2 h3)
      have c3 : OO M1 ρ n (os1 ++ [o1]) := hoo.xt b2 (fun i _ hi o ho => by
        rw [(alc_no hN hi).2]
        have := (hoo o ho).2.2
        omega) (fun _ _ => rfl)
      have hko : (mK M1)[o1.1]? = some (.inr 7) := (c3 o1 (List.mem_append_right _ (List.mem_singleton.mpr rfl))).1.1.1
      have hx2 : Xt (fun i => i = A) M1 (sR M1 A (fun_set (mR M1 A) 0 (some o1.1))) := (Xt.rf (fun i => i = A) M1).sR (fun _ => rfl)
      have hS2 : mS (sR M1 A (fun_set (mR M1 A) 0 (some o1.1))) = mS M := hx2.2.2.1.trans b2.2.2.1
      have d1 := c1.xt hx2 (fun i hi e => by have := hN.2.1.1.1; omega)
      have d2 : AR (sR M1 A (fun_set (mR M1 A) 0 (some o1.1))) A o1.1 := ⟨c2.1, by rw [sR_self, fs_self]⟩
      have hnA := ar_no c2 b1'
      have d3 : AL (sR M1 A (fun_set (mR M1 A) 0 (some o1.1))) P (some e9) (os1.map (fun o => o.1)) := b1'.xt hx2 (fun e => hnA (Or.inl e.symm)) (fun e he z => hnA (Or.inr (by rw [he, z])))
      have d4 : OO (sR M1 A (fun_set (mR M1 A) 0 (some o1.1))) ρ n (os1 ++ [o1]) := c3.xt hx2 (fun i _ hi o ho => by
        rw [hi, hN.2.1.1.2]
        have := (c3 o ho).2.2
        omega) (fun _ _ => rfl)
      refine g_castC (pc := 117) dL_act_117 wd_x400 (hko) rfl rfl ?_
      refine g_aastore_Desk (pc := 120) dL_act_120 c2.1 rfl (by decide) (by decide) hko rfl rfl ?_
      show Go l _ _ _ _ _ _ _ _ _ _ _ (sR M1 A (fun_set (mR M1 A) 0 (some o1.1)))
      rw [← hS2]
      generalize sR M1 A (fun_set (mR M1 A) 0 (some o1.1)) = M2 at *
      obtain ⟨M3, e1, e2, e3⟩ := c_undo (l := l) d1 (Nat.succ_pos _)
      have hw : nI (os1.length + 1 - 1) = nI (os1.map (fun o => o.1)).length := by rw [hml]; rfl
      rw [hw] at e1
      have hS3 : mS M3 = mS M2 := e2.2.2.2.2.2.1
      have hno : (o1.1 :: os1.map (fun o => o.1)).Nodup := by
        have h9 := (List.nodup_cons.mp hnd).2
        rw [List.nodup_append] at h9
        exact List.nodup_cons.mpr ⟨fun z => h9.2.2 _ z _ (List.mem_singleton.mpr rfl) rfl, h9.1⟩
      have hlast := d4 o1 (List.mem_append_right _ (List.mem_singleton.mpr rfl))
      have f4 : OO M3 ρ n (os1 ++ [o1]) := d4.xt e2.x (fun i _ hi o ho => by
        rw [hN.1 i hi]
        have := (d4 o ho).2.2
        omega) (fun _ _ => rfl)
      have f1 : CV M3 n (unP p) os1.length o1.2.2 (usO os1) := by
        have h9 : CV M3 n (unP p) os1.length (usO (os1 ++ [o1]) os1.length) (usO (os1 ++ [o1])) := e3
        rw [usO_e] at h9
        exact h9.us (fun i hi => usO_l hi)
      have f2 := d2.xt e2.x (fun w => by have := hN.2.1.1.1; omega)
      have f3 := d3.xt e2.x (fun w => by have := hN.2.1.2.1; omega) (fun e he w => by have := (hN.2.2 e he).1; omega)
      have f5 := f4 o1 (List.mem_append_right _ (List.mem_singleton.mpr rfl))
      refine g_aload_n (pc := 121) dL_act_121 rfl trivial ?_
      refine g_invV_r (pc := 122) (As := []) dL_act_122 rfl (e1) rfl rfl (shK d1.S rfl) rfl rfl lk_L_124 rfl (nb rfl) ⟨nb rfl, nb rfl⟩ rfl ?_
      refine g_iload (pc := 125) dL_act_125 rfl ?_
      refine g_icmp_ne (pc := 127) (tgt := 134) dL_act_127 rfl (fun h127 => absurd h127 ((fun z => z rfl))) (fun _ => ?_)
      refine g_iconst (pc := 130) (v := 1) dL_act_130 rfl ?_
      refine g_goto (pc := 131) (tgt := 135) dL_act_131 rfl ?_
      refine g_ireturn (pc := 135) dL_act_135 rfl rfl ?_
      exact ⟨_, rfl, rfl, ⟨unP p, o1.2.2, o1.1, o1.2.1, ρ, some e9, os1, f1, ⟨f2, f3⟩, ⟨f5.1, f5.2.1, f5.2.2⟩, fun o ho => f4 o (List.mem_append_left _ ho), hno, hN, hn⟩, hS3⟩
/-- behind the copy -/
theorem act_az (h1 : CV M n p os.length u (usO os)) (h2 : AR M A d) (h3 : AL M P eo (os.map (fun o => o.1))) (hD : DK M d n q u) (hO : OW ρ d n q) (hd : 198 ≤ d) (hoo : OO M ρ n os) (hnd : (d :: os.map (fun o => o.1)).Nodup) (hN : NO ρ A P eo) (hn : n ≤ 9) {M1 : Mem} (c1 : DK M1 (mK M).length n (qC ((mK M).length + 1) n) u) (c2 : Xn M M1) : AZ M1 A P n p os.length d u (usO os) (rhoC ρ (mK M).length ((mK M).length + 1) n) eo os ((mK M).length, qC ((mK M).length + 1) n, u) ∧ DK M1 d n q u ∧ OW (rhoC ρ (mK M).length ((mK M).length + 1) n) d n q := by
  have hl := shp_len h1.S
  have hρ : ∀ i, i < (mK M).length → rhoC ρ (mK M).length ((mK M).length + 1) n i = ρ i := fun i hi => rhoC_old (by omega) (by omega)
  have hdl := hD.lt.1
  refine ⟨⟨h1.xt c2 (fun _ _ => id), ⟨h2.xt c2 id, h3.xt c2 id (fun _ _ => id)⟩, fun o ho => ?_, ?_, hN.cg hl (k_lt h2.1) h3.lt.1 h3.lt.2 hρ, hd, hn⟩, hD.xt hO c2 (fun _ _ z => z.elim), hO.cg hD hρ⟩
  · rcases List.mem_cons.mp ho with e | e
    · rw [e]
      exact ⟨c1, OW.cpy (Nat.lt_succ_self _), hl⟩
    · exact hoo.xt c2 (fun _ _ z => z.elim) hρ o e
  · rw [List.nodup_cons] at hnd
    rw [List.nodup_cons, List.nodup_cons]
    refine ⟨fun z => ?_, fun z => ?_, hnd.2⟩
    · rcases List.mem_cons.mp z with e | e
      · omega
      · exact hnd.1 e
    · obtain ⟨o9, k1, k2⟩ := List.mem_map.mp z
      have := (hoo o9 k1).1.lt.1
      omega
theorem act_89 (h1 : CV M n p os.length u (usO os)) (h2 : AR M A d) (h3 : AL M P eo (os.map (fun o => o.1))) (hD : DK M d n q u) (hO : OW ρ d n q) (hd : 198 ≤ d) (hoo : OO M ρ n os) (hnd : (d :: os.map (fun o => o.1)).Nodup) (hN : NO ρ A P eo) (hn : n ≤ 9) (hw : w < 15) (hx9 : x < 2147483648) (hs : s < 6) (ho : o < 6) (ht : t < 6) (ha : a < n) (hb9 : b < n) : Go l jL_act 12 400 MC MS (QA A P n (mS M)) 89 [(0, .ref 0), (1, .ref A), (2, .ref P), (4, .ref d), (5, .int (nI x)), (6, .int (nI w)), (7, .int (nI s)), (8, .int (nI o)), (9, .int (nI t)), (10, .int (nI a)), (11, .int (nI b)), (12, .int (b1 is))] [] 1250 10400 M := by
  by_cases e14 : w = 14
  · subst e14
    refine g_iload (pc := 89) dL_act_89 rfl ?_
    refine g_bipush (pc := 91) (v := 14) dL_act_91 rfl ?_
    refine g_icmp_ne (pc := 93) (tgt := 136) dL_act_93 rfl (fun h93 => absurd h93 ((fun z => z rfl))) (fun _ => ?_)
    exact g_subk (act_14 h1 h2 h3 hD hO hd hoo hnd hN hn) ⟨rfl, rfl, rfl, trivial⟩
  · refine g_iload (pc := 89) dL_act_89 rfl ?_
    refine g_bipush (pc := 91) (v := 14) dL_act_91 rfl ?_
    refine g_icmp_ne (pc := 93) (tgt := 136) dL_act_93 rfl (fun _ => ?_) (fun h93 => absurd ((fun z => e14 (nI_inj9 (b := 14) (by omega) (by decide) z))) h93)
    refine g_aload (pc := 136) dL_act_136 rfl trivial ?_
    refine g_invV_o (pc := 138) (As := []) dL_act_138 rfl (k_copy hD hO hn h3.1.2.2.2) rfl rfl hD.1.1 rfl rfl lk_L_127 rfl (nb rfl) ⟨nb rfl, nb rfl⟩ rfl (fun v1 M1 hq => ?_)
    obtain ⟨rfl, c1, c2⟩ := hq
    show Go l _ _ _ _ _ _ _ _ ([.ref (mK M).length] : List Value) _ _ _
    obtain ⟨hZ, hD1, hO1⟩ := act_az h1 h2 h3 hD hO hd hoo hnd hN hn c1 c2
    have hS1 : mS M1 = mS M := c2.2.2.1
    rw [← hS1]
    clear h1 h2 h3 hD hO hoo hnd hN c1 c2
    generalize hnb : (((mK M).length, qC ((mK M).length + 1) n, u) : OD) = nb at *
    have hu : nb.2.2 = u := by rw [← hnb]
    rw [show (mK M).length = nb.1 by rw [← hnb]]
    generalize rhoC ρ (mK M).length ((mK M).length + 1) n = ρ1 at *
    have hkey : Go l jL_act 12 400 MC MS (QA A P n (mS M1)) 156 [(0, .ref 0), (1, .ref A), (2, .ref P), (4, .ref d), (5, .int (nI x)), (6, .int (nI w)), (7, .int (nI s)), (8, .int (nI o)), (9, .int (nI t)), (10, .int (nI a)), (11, .int (nI b)), (12, .int (b1 is)), (13, .ref nb.1), (16, .int 1), (17, .ref (q.2.2.2.1 s))] [] 1100 9000 M1 := by
      rcases (by omega : w = 0 ∨ w = 1 ∨ w = 2 ∨ w = 3 ∨ w = 4 ∨ w = 5 ∨ w = 6 ∨ w = 7 ∨ w = 8 ∨ w = 9 ∨ w = 10 ∨ w = 11 ∨ w = 12 ∨ w = 13) with e | e | e | e | e | e | e | e | e | e | e | e | e | e <;> subst e
      · refine g_iload (pc := 156) dL_act_156 rfl ?_
        refine g_tableIn (pc := 158) (tgt := 224) (off := 66) dL_act_158 (by decide) (by decide) (by decide) (by decide) ?_
        skip
        by_cases e : hb (Am M1 s a) b = is
        · exact g_subk (act_0s hZ hu hD1 hO1 hs ha hb9 e) ⟨rfl, rfl, rfl, rfl, rfl, rfl, rfl, rfl, rfl, rfl, trivial⟩
        · exact g_subk (act_0d hZ hu hD1 hO1 hs ha hb9 e) ⟨rfl, rfl, rfl, rfl, rfl, rfl, rfl, rfl, rfl, rfl, trivial⟩
      · refine g_iload (pc := 156) dL_act_156 rfl ?_
        refine g_tableIn (pc := 158) (tgt := 224) (off := 66) dL_act_158 (by decide) (by decide) (by decide) (by decide) ?_
        skip
        by_cases e : hb (Am M1 s a) b = is
        · exact g_subk (act_0s hZ hu hD1 hO1 hs ha hb9 e) ⟨rfl, rfl, rfl, rfl, rfl, rfl, rfl, rfl, rfl, rfl, trivial⟩
        · exact g_subk (act_0d hZ hu hD1 hO1 hs ha hb9 e) ⟨rfl, rfl, rfl, rfl, rfl, rfl, rfl, rfl, rfl, rfl, trivial⟩
      · refine g_iload (pc := 156) dL_act_156 rfl ?_
        refine g_tableIn (pc := 158) (tgt := 224) (off := 66) dL_act_158 (by decide) (by decide) (by decide) (by decide) ?_
        skip
        by_cases e : hb (Am M1 s a) b = is
        · exact g_subk (act_0s hZ hu hD1 hO1 hs ha hb9 e) ⟨rfl, rfl, rfl, rfl, rfl, rfl, rfl, rfl, rfl, rfl, trivial⟩
        · exact g_subk (act_0d hZ hu hD1 hO1 hs ha hb9 e) ⟨rfl, rfl, rfl, rfl, rfl, rfl, rfl, rfl, rfl, rfl, trivial⟩
      · refine g_iload (pc := 156) dL_act_156 rfl ?_
        refine g_tableIn (pc := 158) (tgt := 352) (off := 194) dL_act_158 (by decide) (by decide) (by decide) (by decide) ?_
        skip
        exact g_subk (act_3 hZ hu hD1 hO1 hx9 hs ha) ⟨rfl, rfl, rfl, rfl, rfl, rfl, rfl, rfl, rfl, trivial⟩
      · refine g_iload (pc := 156) dL_act_156 rfl ?_
        refine g_tableIn (pc := 158) (tgt := 463) (off := 305) dL_act_158 (by decide) (by decide) (by decide) (by decide) ?_
        skip
        cases is
        · exact g_subk (act_4f hZ hu hD1 hO1 hs ht) ⟨rfl, rfl, rfl, rfl, rfl, rfl, rfl, rfl, rfl, trivial⟩
        · exact g_subk (act_4t hZ hu hD1 hO1 hs ht) ⟨rfl, rfl, rfl, rfl, rfl, rfl, rfl, rfl, rfl, trivial⟩
      · refine g_iload (pc := 156) dL_act_156 rfl ?_
        refine g_tableIn (pc := 158) (tgt := 587) (off := 429) dL_act_158 (by decide) (by decide) (by decide) (by decide) ?_
        skip
        rcases (by omega : x / 262144 % 4 = 0 ∨ x / 262144 % 4 = 1 ∨ x / 262144 % 4 = 2 ∨ x / 262144 % 4 = 3) with e | e | e | e
        · exact g_subk (act_50 hZ hu hD1 hO1 hx9 e hs ho ht) ⟨rfl, rfl, rfl, rfl, rfl, rfl, rfl, rfl, rfl, rfl, trivial⟩
        · exact g_subk (act_51 hZ hu hD1 hO1 hx9 e hs ho ht) ⟨rfl, rfl, rfl, rfl, rfl, rfl, rfl, rfl, rfl, rfl, trivial⟩
        · exact g_subk (act_52 hZ hu hD1 hO1 hx9 e hs ho ht) ⟨rfl, rfl, rfl, rfl, rfl, rfl, rfl, rfl, rfl, rfl, trivial⟩
        · exact g_subk (act_53 hZ hu hD1 hO1 hx9 e hs ho ht) ⟨rfl, rfl, rfl, rfl, rfl, rfl, rfl, rfl, rfl, rfl, trivial⟩
      · refine g_iload (pc := 156) dL_act_156 rfl ?_
        refine g_tableIn (pc := 158) (tgt := 825) (off := 667) dL_act_158 (by decide) (by decide) (by decide) (by decide) ?_
        skip
        exact g_subk (act_6 hZ hu hD1 hO1 hs ho ht) ⟨rfl, rfl, rfl, rfl, rfl, rfl, rfl, rfl, rfl, rfl, trivial⟩
      · refine g_iload (pc := 156) dL_act_156 rfl ?_
        refine g_tableIn (pc := 158) (tgt := 825) (off := 667) dL_act_158 (by decide) (by decide) (by decide) (by decide) ?_
        skip
        exact g_subk (act_6 hZ hu hD1 hO1 hs ho ht) ⟨rfl, rfl, rfl, rfl, rfl, rfl, rfl, rfl, rfl, rfl, trivial⟩
      · refine g_iload (pc := 156) dL_act_156 rfl ?_
        refine g_tableIn (pc := 158) (tgt := 881) (off := 723) dL_act_158 (by decide) (by decide) (by decide) (by decide) ?_
        skip
        exact g_subk (act_8 hZ hu hD1 hO1 hx9 hs ht) ⟨rfl, rfl, rfl, rfl, rfl, rfl, rfl, rfl, rfl, rfl, trivial⟩
      · refine g_iload (pc := 156) dL_act_156 rfl ?_
        refine g_tableIn (pc := 158) (tgt := 941) (off := 783) dL_act_158 (by decide) (by decide) (by decide) (by decide) ?_
        skip
        exact g_subk (act_9 hZ hu hD1 hO1 hs ht) ⟨rfl, rfl, rfl, rfl, rfl, rfl, rfl, rfl, trivial⟩
      · refine g_iload (pc := 156) dL_act_156 rfl ?_
        refine g_tableIn (pc := 158) (tgt := 1008) (off := 850) dL_act_158 (by decide) (by decide) (by decide) (by decide) ?_
        skip
        cases is
        · exact g_subk (act_10f hZ hu hD1 hO1 hs ht) ⟨rfl, rfl, rfl, rfl, rfl, rfl, rfl, rfl, rfl, trivial⟩
        · exact g_subk (act_10t hZ hu hD1 hO1 hs ht) ⟨rfl, rfl, rfl, rfl, rfl, rfl, rfl, rfl, rfl, trivial⟩
      · refine g_iload (pc := 156) dL_act_156 rfl ?_
        refine g_tableIn (pc := 158) (tgt := 1081) (off := 923) dL_act_158 (by decide) (by decide) (by decide) (by decide) ?_
        skip
        exact g_subk (act_11 hZ hu hD1 hO1 hs ha hb9) ⟨rfl, rfl, rfl, rfl, rfl, rfl, rfl, rfl, rfl, trivial⟩
      · refine g_iload (pc := 156) dL_act_156 rfl ?_
        refine g_tableIn (pc := 158) (tgt := 1225) (off := 1067) dL_act_158 (by decide) (by decide) (by decide) (by decide) ?_
        skip
        exact g_subk (act_12 hZ hu hD1 hO1 hs) ⟨rfl, rfl, rfl, rfl, rfl, rfl, rfl, trivial⟩
      · refine g_iload (pc := 156) dL_act_156 rfl ?_
        refine g_tableOut (pc := 158) (tgt := 1308) dL_act_158 (by decide) (by decide) ?_
        skip
        exact g_subk (act_13 hZ hu hD1 hO1 hx9) ⟨rfl, rfl, rfl, rfl, rfl, rfl, trivial⟩
    refine g_astore (pc := 141) (lv' := [(0, _), (1, _), (2, _), (4, _), (5, _), (6, _), (7, _), (8, _), (9, _), (10, _), (11, _), (12, _), (13, _)]) dL_act_141 trivial (nl rfl) rfl ?_
    refine g_iconst (pc := 143) (v := 1) dL_act_143 rfl ?_
    refine g_istore (pc := 144) (lv' := [(0, _), (1, _), (2, _), (4, _), (5, _), (6, _), (7, _), (8, _), (9, _), (10, _), (11, _), (12, _), (13, _), (16, _)]) dL_act_144 (nl rfl) rfl ?_
    refine g_aload (pc := 146) dL_act_146 rfl trivial ?_
    refine g_getf (pc := 148) dL_act_148 fk_L_52 hD1.1.1 (fv_arr hD1.1.2.1) ?_
    refine g_iload (pc := 151) dL_act_151 rfl ?_
    refine g_aaload_Z2 (pc := 153) dL_act_153 hD1.2.2.1.1 rfl hs (by omega) (hD1.2.2.2 s hs).1.1 ?_
    refine g_astore (pc := 154) (lv' := [(0, _), (1, _), (2, _), (4, _), (5, _), (6, _), (7, _), (8, _), (9, _), (10, _), (11, _), (12, _), (13, _), (16, _), (17, _)]) dL_act_154 trivial (nl rfl) rfl ?_
    refine g_wk (pc := 156) (k := 1100) (n := 9000) (by decide) (by decide) ?_
    exact g_subk hkey ⟨rfl, rfl, rfl, rfl, rfl, rfl, rfl, rfl, rfl, rfl, rfl, rfl, rfl, rfl, rfl, trivial⟩
theorem k_act (h : LV M A P n) (hv : v < 2147483648) : EvO l jL_act 12 400 1250 10400 [.ref 0, .ref A, .ref P, .int (nI v)] M (fun r M' => r = some (.int 1) ∧ LV M' A P n ∧ mS M' = mS M) := by
  obtain ⟨p, u, d, q, ρ, eo, os, h1, ⟨h2, h3⟩, ⟨hD, hO, hd⟩, hoo, hnd, hN, hn⟩ := h
  have n0 : ¬ nI n = 0 := fun z => by
    have := nI_inj9 (b := 0) (by omega) (by decide) z
    have := h1.n1
    omega
  have hn1 := h1.n1
  refine ev_intro rfl (nb rfl) rfl ?_
  show Go l jL_act 12 400 1250 10400 (QA A P n (mS M)) _ _ _ _ _ _
  refine g_aload_n (pc := 0) dL_act_0 rfl trivial ?_
  refine g_iconst (pc := 1) (v := 0) dL_act_1 rfl ?_
  refine g_aaload_Desk (pc := 2) dL_act_2 h2.1 rfl (by decide) (by decide) h2.2 ?_
  refine g_astore (pc := 3) (lv' := [(0, _), (1, _), (2, _), (3, _), (4, _)]) dL_act_3 trivial (nl rfl) rfl ?_
  refine g_iload_n (pc := 5) dL_act_5 rfl ?_
  refine g_bipush (pc := 6) (v := 16) dL_act_6 rfl ?_
  refine g_idiv (pc := 8) dL_act_8 (by decide) ?_
  rw [show nI v / 16 = nI (v / 16) from nI_div (b := 16) hv (by decide)]
  refine g_istore (pc := 9) (lv' := [(0, _), (1, _), (2, _), (3, _), (4, _), (5, _)]) dL_act_9 (nl rfl) rfl ?_
  refine g_iload_n (pc := 11) dL_act_11 rfl ?_
  refine g_bipush (pc := 12) (v := 15) dL_act_12 rfl ?_
  refine g_irem (pc := 14) dL_act_14 (by decide) ?_
  rw [show nI v - nI v / 15 * 15 = nI (v % 15) from nI_rem (b := 15) hv (by decide)]
  refine g_istore (pc := 15) (lv' := [(0, _), (1, _), (2, _), (3, _), (4, _), (5, _), (6, _)]) dL_act_15 (nl rfl) rfl ?_
  refine g_iload (pc := 17) dL_act_17 rfl ?_
  refine g_bipush (pc := 19) (v := 6) dL_act_19 rfl ?_
  refine g_irem (pc := 21) dL_act_21 (by decide) ?_
  rw [show nI (v / 16) - nI (v / 16) / 6 * 6 = nI (v / 16 % 6) from nI_rem (b := 6) (by omega) (by decide)]
  refine g_istore (pc := 22) (lv' := [(0, _), (1, _), (2, _), (3, _), (4, _), (5, _), (6, _), (7, _)]) dL_act_22 (nl rfl) rfl ?_
  refine g_iload (pc := 24) dL_act_24 rfl ?_
  refine g_bipush (pc := 26) (v := 8) dL_act_26 rfl ?_
  refine g_idiv (pc := 28) dL_act_28 (by decide) ?_
  rw [show nI (v / 16) / 8 = nI (v / 16 / 8) from nI_div (b := 8) (by omega) (by decide)]
  refine g_bipush (pc := 29) (v := 6) dL_act_29 rfl ?_
  refine g_irem (pc := 31) dL_act_31 (by decide) ?_
  rw [show nI (v / 16 / 8) - nI (v / 16 / 8) / 6 * 6 = nI (v / 16 / 8 % 6) from nI_rem (b := 6) (by omega) (by decide)]
  refine g_istore (pc := 32) (lv' := [(0, _), (1, _), (2, _), (3, _), (4, _), (5, _), (6, _), (7, _), (8, _)]) dL_act_32 (nl rfl) rfl ?_
  refine g_iload (pc := 34) dL_act_34 rfl ?_
  refine g_bipush (pc := 36) (v := 64) dL_act_36 rfl ?_
  refine g_idiv (pc := 38) dL_act_38 (by decide) ?_
  rw [show nI (v / 16) / 64 = nI (v / 16 / 64) from nI_div (b := 64) (by omega) (by decide)]
  refine g_bipush (pc := 39) (v := 6) dL_act_39 rfl ?_
  refine g_irem (pc := 41) dL_act_41 (by decide) ?_
  rw [show nI (v / 16 / 64) - nI (v / 16 / 64) / 6 * 6 = nI (v / 16 / 64 % 6) from nI_rem (b := 6) (by omega) (by decide)]
  refine g_istore (pc := 42) (lv' := [(0, _), (1, _), (2, _), (3, _), (4, _), (5, _), (6, _), (7, _), (8, _), (9, _)]) dL_act_42 (nl rfl) rfl ?_
  refine g_iload (pc := 44) dL_act_44 rfl ?_
  refine g_sipush (pc := 46) (v := 512) dL_act_46 rfl ?_
  refine g_idiv (pc := 49) dL_act_49 (by decide) ?_
  rw [show nI (v / 16) / 512 = nI (v / 16 / 512) from nI_div (b := 512) (by omega) (by decide)]
  refine g_aload (pc := 50) dL_act_50 rfl trivial ?_
  refine g_getf (pc := 52) (v := .int _) dL_act_52 fk_L_45 hD.1.1 (fun _ => congrArg Value.int (hD.2.1.1)) ?_
  refine g_irem (pc := 55) dL_act_55 n0 ?_
  rw [nI_rem (a := v / 16 / 512) (b := n) (by omega) (by omega)]
  refine g_istore (pc := 56) (lv' := [(0, _), (1, _), (2, _), (3, _), (4, _), (5, _), (6, _), (7, _), (8, _), (9, _), (10, _)]) dL_act_56 (nl rfl) rfl ?_
  refine g_iload (pc := 58) dL_act_58 rfl ?_
  refine g_sipush (pc := 60) (v := 8192) dL_act_60 rfl ?_
  refine g_idiv (pc := 63) dL_act_63 (by decide) ?_
  rw [show nI (v / 16) / 8192 = nI (v / 16 / 8192) from nI_div (b := 8192) (by omega) (by decide)]
  refine g_aload (pc := 64) dL_act_64 rfl trivial ?_
  refine g_getf (pc := 66) (v := .int _) dL_act_66 fk_L_45 hD.1.1 (fun _ => congrArg Value.int (hD.2.1.1)) ?_
  refine g_irem (pc := 69) dL_act_69 n0 ?_
  rw [nI_rem (a := v / 16 / 8192) (b := n) (by omega) (by omega)]
  refine g_istore (pc := 70) (lv' := [(0, _), (1, _), (2, _), (3, _), (4, _), (5, _), (6, _), (7, _), (8, _), (9, _), (10, _), (11, _)]) dL_act_70 (nl rfl) rfl ?_
  skip
  have hw : v % 15 < 15 := Nat.mod_lt _ (by decide)
  have hx9 : v / 16 < 2147483648 := by omega
  have hs : v / 16 % 6 < 6 := Nat.mod_lt _ (by decide)
  have ho : v / 16 / 8 % 6 < 6 := Nat.mod_lt _ (by decide)
  have ht : v / 16 / 64 % 6 < 6 := Nat.mod_lt _ (by decide)
  have ha : v / 16 / 512 % n < n := Nat.mod_lt _ hn1
  have hb9 : v / 16 / 8192 % n < n := Nat.mod_lt _ hn1
  generalize v / 16 % 6 = s at *
  generalize v / 16 / 8 % 6 = o at *
  generalize v / 16 / 64 % 6 = t at *
  generalize v / 16 / 512 % n = a at *
  generalize v / 16 / 8192 % n = b at *
  generalize v / 16 = x at *
  generalize v % 15 = w at *
  have key : ∀ is : Bool, Go l jL_act 12 400 1250 10400 (QA A P n (mS M)) 89 [(0, .ref 0), (1, .ref A), (2, .ref P), (4, .ref d), (5, .int (nI x)), (6, .int (nI w)), (7, .int (nI s)), (8, .int (nI o)), (9, .int (nI t)), (10, .int (nI a)), (11, .int (nI b)), (12, .int (b1 is))] [] 1250 10400 M := fun is => act_89 h1 h2 h3 hD hO hd hoo hnd hN hn hw hx9 hs ho ht ha hb9
  by_cases e : x / 131072 % 2 = 0
  · refine g_iload (pc := 72) dL_act_72 rfl ?_
    refine g_ldc (pc := 74) dL_act_74 wd_x845 ?_
    refine g_idiv (pc := 76) dL_act_76 (by decide) ?_
    rw [show nI x / 131072 = nI (x / 131072) from nI_div (b := 131072) hx9 (by decide)]
    refine g_iconst (pc := 77) (v := 2) dL_act_77 rfl ?_
    refine g_irem (pc := 78) dL_act_78 (by decide) ?_
    rw [show nI (x / 131072) - nI (x / 131072) / 2 * 2 = nI (x / 131072 % 2) from nI_rem (b := 2) (by omega) (by decide), e]
    refine g_if_ne (pc := 79) (tgt := 86) dL_act_79 rfl (fun h79 => absurd h79 ((fun z => z rfl))) (fun _ => ?_)
    refine g_iconst (pc := 82) (v := 1) dL_act_82 rfl ?_
    refine g_goto (pc := 83) (tgt := 87) dL_act_83 rfl ?_
    refine g_istore (pc := 87) (lv' := [(0, _), (1, _), (2, _), (3, _), (4, _), (5, _), (6, _), (7, _), (8, _), (9, _), (10, _), (11, _), (12, _)]) dL_act_87 (nl rfl) rfl ?_
    exact g_subk (key true) ⟨rfl, rfl, rfl, rfl, rfl, rfl, rfl, rfl, rfl, rfl, rfl, rfl, trivial⟩
  · have e1 : x / 131072 % 2 = 1 := by omega
    refine g_iload (pc := 72) dL_act_72 rfl ?_
    refine g_ldc (pc := 74) dL_act_74 wd_x845 ?_
    refine g_idiv (pc := 76) dL_act_76 (by decide) ?_
    rw [show nI x / 131072 = nI (x / 131072) from nI_div (b := 131072) hx9 (by decide)]
    refine g_iconst (pc := 77) (v := 2) dL_act_77 rfl ?_
    refine g_irem (pc := 78) dL_act_78 (by decide) ?_
    rw [show nI (x / 131072) - nI (x / 131072) / 2 * 2 = nI (x / 131072 % 2) from nI_rem (b := 2) (by omega) (by decide), e1]
    refine g_if_ne (pc := 79) (tgt := 86) dL_act_79 rfl (fun _ => ?_) (fun h79 => absurd ((by decide)) h79)
    refine g_iconst (pc := 86) (v := 0) dL_act_86 rfl ?_
    refine g_istore (pc := 87) (lv' := [(0, _), (1, _), (2, _), (3, _), (4, _), (5, _), (6, _), (7, _), (8, _), (9, _), (10, _), (11, _), (12, _)]) dL_act_87 (nl rfl) rfl ?_
    exact g_subk (key false) ⟨rfl, rfl, rfl, rfl, rfl, rfl, rfl, rfl, rfl, rfl, rfl, rfl, trivial⟩
end

