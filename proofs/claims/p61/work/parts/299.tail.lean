/-! the end of an action -/
/-- what an action's end is to show -/
def QA (A P n : Nat) (S : Nat × (Nat → Int32)) : Res → Mem → Prop := fun r M' => ∃ v, r = .inl v ∧ v = some (.int 1) ∧ LV M' A P n ∧ mS M' = S
section
variable {l : Launch} {M M' : Mem} {A P n p c d MC MS : Nat} {w : Int32} {u u' : Nat → Int64} {us : Nat → Nat → Int64} {ρ : Nat → Nat × Nat} {eo : Option Nat} {os : List OD} {nv : OD} {q : DQ} {ds : List Nat} {Q : Res → Mem → Prop}
theorem k_tail9 (hS : Shp M) (h5 : mI M 0 5 = nI c) (hL : AL M P eo ds) (hc : ds.length = c) (hQ : Q (.inl (some (.int 1))) M) : Go l jL_act 12 400 MC MS Q 1369 [(0, .ref 0), (2, .ref P), (14, .int w), (15, .int w)] [] 1 6 M := by
  refine g_iload (pc := 1369) dL_act_1369 rfl ?_
  refine g_iload (pc := 1371) dL_act_1371 rfl ?_
  refine g_icmp_ne (pc := 1373) (tgt := 1392) dL_act_1373 rfl (fun h1373 => absurd h1373 ((fun z => z rfl))) (fun _ => ?_)
  refine g_aload_n (pc := 1376) dL_act_1376 rfl trivial ?_
  refine g_iconst (pc := 1377) (v := 3) dL_act_1377 rfl ?_
  refine g_invV_r (pc := 1378) (As := [_]) dL_act_1378 rfl (q_count3 hS) rfl rfl (shK hS rfl) rfl rfl lk_L_102 rfl (nb rfl) ⟨nb rfl, nb rfl⟩ rfl ?_
  refine g_aload_n (pc := 1381) dL_act_1381 rfl trivial ?_
  refine g_invV_r (pc := 1382) (As := []) dL_act_1382 rfl (k_alSize hL) rfl rfl hL.1.1 rfl rfl lk_L_116 rfl (nb rfl) ⟨nb rfl, nb rfl⟩ rfl ?_
  refine g_icmp_ne (pc := 1385) (tgt := 1392) dL_act_1385 rfl (fun h1385 => absurd h1385 ((fun z => z (by rw [h5, hc])))) (fun _ => ?_)
  refine g_iconst (pc := 1388) (v := 1) dL_act_1388 rfl ?_
  refine g_goto (pc := 1389) (tgt := 1393) dL_act_1389 rfl ?_
  refine g_ireturn (pc := 1393) dL_act_1393 rfl rfl ?_
  exact hQ
theorem alc_no (h : NO ρ A P eo) {i : Nat} (hi : ALc P eo i) : 198 ≤ i ∧ (ρ i).1 = 0 := by
  rcases hi with e | e
  · rw [e]
    exact h.2.1.2
  · exact h.2.2 i e
theorem ar_no (h2 : AR M A d) (h3 : AL M P eo ds) : ¬ ALc P eo A := fun w => by
  have h9 : (mK M)[A]? = some (.inr 10) ∨ (mK M)[A]? = some (.inl (.object "java/lang/Object", 10)) := by
    rcases w with z | z
    · rw [z]
      exact Or.inl h3.1.1
    · subst z
      exact Or.inr h3.2.1.1
  rw [h2.1] at h9
  rcases h9 with z | z
  · cases z
  · exact absurd (congrArg (fun o : Option Knd => match o with | some (.inl (_, k)) => k | _ => 0) z) (by decide)
theorem k_tail0 (h : AZ M A P n p os.length d u (usO os) ρ eo os nv) (hD : DK M d n q u) (hO : OW ρ d n q) : Go l jL_act 12 400 MC MS (QA A P n (mS M)) 1338 [(0, .ref 0), (2, .ref P), (14, .int w), (15, .int w), (16, .int 0)] [] 2 16 M := by
  obtain ⟨h1, ⟨h2, h3⟩, h4, h5, h6, h7, h8⟩ := h
  have hl : (os.map (fun o => o.1)).length = os.length := List.length_map _
  have hc8 := h1.c8
  have hnd : (d :: os.map (fun o => o.1)).Nodup := by
    rw [List.nodup_cons, List.nodup_cons] at h5
    exact List.nodup_cons.mpr ⟨fun z => h5.1 (List.mem_cons_of_mem _ z), h5.2.2⟩
  refine g_iload (pc := 1338) dL_act_1338 rfl ?_
  refine g_if_eq (pc := 1340) (tgt := 1350) dL_act_1340 rfl (fun _ => ?_) (fun h1340 => absurd (rfl) h1340)
  refine g_aload_n (pc := 1350) dL_act_1350 rfl trivial ?_
  refine g_invV_r (pc := 1351) (As := []) dL_act_1351 rfl (k_alSize h3) rfl rfl h3.1.1 rfl rfl lk_L_116 rfl (nb rfl) ⟨nb rfl, nb rfl⟩ rfl ?_
  refine g_bipush (pc := 1354) (v := 8) dL_act_1354 rfl ?_
  refine g_icmp_le (pc := 1356) (tgt := 1369) dL_act_1356 rfl (fun _ => ?_) (fun h1356 => absurd ((by rw [hl]; exact nI_le hc8 (by decide))) h1356)
  refine g_wk (pc := 1369) (k := 1) (n := 6) (by decide) (by decide) (g_subk (k_tail9 h1.S h1.2.2.1.2.2.1 h3 hl ?_) ⟨rfl, rfl, rfl, rfl, trivial⟩)
  exact ⟨_, rfl, rfl, ⟨p, u, d, q, ρ, eo, os, h1, ⟨h2, h3⟩, ⟨hD, hO, h7⟩, fun o ho => h4 o (List.mem_cons_of_mem _ ho), hnd, h6, h8⟩, rfl⟩
theorem k_tail1 (h : AZ M A P n p (cyC os.length) d u' (usP (usO os) os.length u) ρ eo os nv) (hu : nv.2.2 = u) (hl8 : os.length ≤ 8) (hD : DK M d n q u') (hO : OW ρ d n q) : Go l jL_act 12 400 MC MS (QA A P n (mS M)) 1338 [(0, .ref 0), (2, .ref P), (13, .ref nv.1), (14, .int w), (15, .int w), (16, .int 1)] [] 2 16 M := by
  obtain ⟨h1, ⟨h2, h3⟩, h4, h5, h6, h7, h8⟩ := h
  have hl : (os.map (fun o => o.1)).length = os.length := List.length_map _
  have hlen := shp_len h1.S
  have hnd := nx_nd h5
  refine g_iload (pc := 1338) dL_act_1338 rfl ?_
  refine g_if_eq (pc := 1340) (tgt := 1350) dL_act_1340 rfl (fun h1340 => absurd h1340 ((by decide))) (fun _ => ?_)
  refine g_aload_n (pc := 1343) dL_act_1343 rfl trivial ?_
  refine g_aload (pc := 1344) dL_act_1344 rfl trivial ?_
  refine g_invV_o (pc := 1346) (As := [_]) dL_act_1346 rfl (k_alAdd h3 (by rw [hl]; omega) (h4 nv List.mem_cons_self).1.1.1) rfl rfl h3.1.1 rfl rfl lk_L_210 rfl (nb rfl) ⟨nb rfl, nb rfl⟩ rfl (fun v1 M1 hq => ?_)
  obtain ⟨rfl, eo1, b1', b2, b3⟩ := hq
  show Go l _ _ _ _ _ _ _ _ ([.int 1] : List Value) _ _ _
  have hW : ∀ i, i < (mK M).length → ALc P eo i → ∀ o ∈ nv :: os, (ρ i).1 ≠ o.1 := fun i _ hi o ho => by
    rw [(alc_no h6 hi).2]
    have := (h4 o ho).2.2
    omega
  have hρ : ∀ i, i < (mK M).length → (fun i => if i < (mK M).length then ρ i else (0, 0)) i = ρ i := fun i hi => if_pos hi
  have c1 : CV M1 n p (cyC os.length) u' (usP (usO os) os.length u) := h1.xt b2 (fun i hi w => by have := (alc_no h6 w).1; omega)
  have c2 : AR M1 A d := h2.xt b2 (ar_no h2 h3)
  have c3 : OO M1 (fun i => if i < (mK M).length then ρ i else (0, 0)) n (nv :: os) := h4.xt b2 hW hρ
  have c4 : DK M1 d n q u' := hD.xt hO b2 (fun i _ hi => by
    rw [(alc_no h6 hi).2]
    omega)
  have c5 := hO.cg hD hρ
  have c6 : NO (fun i => if i < (mK M).length then ρ i else (0, 0)) A P eo1 := by
    have h9 := h6.cg hlen (k_lt h2.1) h3.lt.1 h3.lt.2 hρ
    refine ⟨h9.1, h9.2.1, fun e he => ?_⟩
    rcases b3 with z | ⟨e9, z, z2⟩
    · exact h9.2.2 e (z ▸ he)
    · rw [z] at he
      cases he
      exact ⟨by omega, by show (if e < (mK M).length then ρ e else ((0 : Nat), (0 : Nat))).1 = 0; rw [if_neg (by omega)]⟩
  have hS1 : mS M1 = mS M := b2.2.2.1
  generalize (fun i => if i < (mK M).length then ρ i else ((0 : Nat), (0 : Nat))) = ρ1 at *
  have hl1 : (os.map (fun o => o.1) ++ [nv.1]).length = os.length + 1 := by rw [List.length_append, hl]; rfl
  have hus : CV M1 n p (nxO os nv).length u' (usO (nxO os nv)) := by
    have h9 := c1.uc (us' := usO (nxO os nv)) (fun i hi => nx_us hl8 hu hi)
    rw [← nx_len (nv := nv) hl8] at h9
    exact h9
  have hoo : OO M1 ρ1 n (nxO os nv) := fun o ho => c3 o (nx_mem ho)
  by_cases e8 : os.length = 8
  · cases eo1 with
    | none =>
      have h9 := congrArg List.length b1'.2.1.1
      rw [hl1] at h9
      exact absurd h9 (Nat.succ_ne_zero _)
    | some e =>
      cases os with
      | nil => exact absurd e8 (by decide)
      | cons o1 os1 =>
        have hn9 : nxO (o1 :: os1) nv = os1 ++ [nv] := by
          unfold nxO
          rw [if_pos e8]
          rfl
        have hm9 : (o1 :: os1).map (fun o => o.1) ++ [nv.1] = o1.1 :: ((os1 ++ [nv]).map (fun o => o.1)) := by
          rw [List.map_append]
          rfl
        rw [hm9] at b1' hl1
        refine g_pop (pc := 1349) dL_act_1349 rfl ?_
        refine g_aload_n (pc := 1350) dL_act_1350 rfl trivial ?_
        refine g_invV_r (pc := 1351) (As := []) dL_act_1351 rfl (k_alSize b1') rfl rfl b1'.1.1 rfl rfl lk_L_116 rfl (nb rfl) ⟨nb rfl, nb rfl⟩ rfl ?_
        refine g_bipush (pc := 1354) (v := 8) dL_act_1354 rfl ?_
        refine g_icmp_le (pc := 1356) (tgt := 1369) dL_act_1356 rfl (fun h1356 => absurd h1356 ((by rw [hl1, e8]; decide))) (fun _ => ?_)
        refine g_aload_n (pc := 1359) dL_act_1359 rfl trivial ?_
        refine g_iconst (pc := 1360) (v := 0) dL_act_1360 rfl ?_
        refine g_invV_o (pc := 1361) (As := [_]) dL_act_1361 rfl (k_alFirst b1' (by rw [List.length_map, List.length_append]; exact Nat.le_add_left _ _)) rfl rfl b1'.1.1 rfl rfl lk_L_120 rfl (nb rfl) ⟨nb rfl, nb rfl⟩ rfl (fun v2 M2 hq2 => ?_)
        obtain ⟨rfl, d1, d2⟩ := hq2
        show Go l _ _ _ _ _ _ _ _ ([.ref o1.1] : List Value) _ _ _
        rw [hn9] at hus hoo hnd
        have hW2 : ∀ i, i < (mK M1).length → ALc P (some e) i → ∀ o ∈ os1 ++ [nv], (ρ1 i).1 ≠ o.1 := fun i _ hi o ho => by
          rw [(alc_no c6 hi).2]
          have := (hoo o ho).2.2
          omega
        have k1 := hus.xt d2 (fun i hi w => by have := (alc_no c6 w).1; omega)
        have k2 : AR M2 A d := c2.xt d2 (ar_no c2 b1')
        have k3 := hoo.xt d2 hW2 (fun _ _ => rfl)
        have k4 : DK M2 d n q u' := c4.xt c5 d2 (fun i _ hi => by
          rw [(alc_no c6 hi).2]
          omega)
        have hc9 : (os1 ++ [nv]).length = 8 := by
          have h9 : os1.length + 1 = 8 := e8
          rw [List.length_append]
          exact h9
        refine g_castC (pc := 1364) dL_act_1364 wd_x400 (d2.k (b1'.2.2 o1.1 List.mem_cons_self)) rfl rfl ?_
        refine g_astore (pc := 1367) (lv' := [(0, _), (2, _), (13, _), (14, _), (15, _), (16, _), (18, _)]) dL_act_1367 trivial (nl rfl) rfl ?_
        refine g_subk (pc := 1369) (k_tail9 k1.S k1.2.2.1.2.2.1 d1 (List.length_map _) ?_) ⟨rfl, rfl, rfl, rfl, trivial⟩
        exact ⟨_, rfl, rfl, ⟨p, u', d, q, ρ1, some e, os1 ++ [nv], k1, ⟨k2, d1⟩, ⟨k4, c5, h7⟩, k3, hnd, c6, h8⟩, d2.2.2.1.trans hS1⟩
  · have hn9 : nxO os nv = os ++ [nv] := by
      unfold nxO
      rw [if_neg e8]
    have hm9 : os.map (fun o => o.1) ++ [nv.1] = (os ++ [nv]).map (fun o => o.1) := by
      rw [List.map_append]
      rfl
    rw [hm9] at b1' hl1
    rw [hn9] at hus hoo hnd
    refine g_pop (pc := 1349) dL_act_1349 rfl ?_
    refine g_aload_n (pc := 1350) dL_act_1350 rfl trivial ?_
    refine g_invV_r (pc := 1351) (As := []) dL_act_1351 rfl (k_alSize b1') rfl rfl b1'.1.1 rfl rfl lk_L_116 rfl (nb rfl) ⟨nb rfl, nb rfl⟩ rfl ?_
    refine g_bipush (pc := 1354) (v := 8) dL_act_1354 rfl ?_
    refine g_icmp_le (pc := 1356) (tgt := 1369) dL_act_1356 rfl (fun _ => ?_) (fun h1356 => absurd ((by rw [hl1]; exact nI_le (a := os.length + 1) (b := 8) (by omega) (by decide))) h1356)
    refine g_subk (pc := 1369) (k_tail9 hus.S hus.2.2.1.2.2.1 b1' (List.length_map _) ?_) ⟨rfl, rfl, rfl, rfl, trivial⟩
    exact ⟨_, rfl, rfl, ⟨p, u', d, q, ρ1, eo1, os ++ [nv], hus, ⟨c2, b1'⟩, ⟨c4, c5, h7⟩, hoo, hnd, c6, h8⟩, hS1⟩
end

