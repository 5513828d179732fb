/-! drawn, whole -/
section
variable {l : Launch} {M M0 : Mem} {b v0 d n s i r x w k MC MS kb nv : Nat} {q : DQ} {u : Nat → Int64} {ρ : Nat → Nat × Nat} {ts : List ST9} {Q : Res → Mem → Prop}
theorem drw_main (hV : DV M0 M b v0 d n q u ts) (ho : OW ρ d n q) (hc : ∀ i, cel d n q i → (mK M0).length ≤ i) (h1 : 1 ≤ n) (hn : n ≤ 9) (hk : ∀ t, t < 6 → u (4 + t) = b1L false) (htl : (szW n ++ sT n ts).length ≤ 6) (hS9 : (mS M0).1 < 2147483648) (next : ∀ (M1 : Mem) (u1 : Nat → Int64) (ts1 : List ST9), DV M0 M1 b v0 d n q u1 ts1 → (∀ t, t < 6 → u1 (4 + t) = b1L false) → (szW n ++ sT n ts1).length ≤ 258 → Go l jL_drawn 9 300 MC MS Q 464 [(0, .retAddr 0), (1, .int 0), (2, .ref b), (3, .int (nI w)), (4, .ref d), (5, .int (nI 14))] [] kb nv M1) : Go l jL_drawn 9 300 MC MS Q 36 [(0, .retAddr 0), (1, .int 0), (2, .ref b), (3, .int (nI w)), (4, .ref d)] [] (kb + 210) (nv + 140000) M := by
  refine g_iconst (pc := 36) (v := 0) dL_drawn_36 rfl ?_
  refine g_istore (pc := 37) (lv' := [(0, _), (1, _), (2, _), (3, _), (4, _), (5, _)]) dL_drawn_37 (nl rfl) rfl ?_
  refine g_wk (pc := 39) (k := kb + (14 - 0) * 15) (n := nv + (14 - 0) * 10000) (by omega) (by omega) ?_
  refine go_forS (σ := Mem × (Nat → Int64) × List ST9) (pc := 39) 14 (fun i _ => [(0, .retAddr 0), (1, .int 0), (2, .ref b), (3, .int (nI w)), (4, .ref d), (5, .int (nI i))]) (fun z => z.1) (fun i z => DV M0 z.1 b v0 d n q z.2.1 z.2.2 ∧ (∀ t, t < 6 → z.2.1 (4 + t) = b1L false) ∧ (szW n ++ sT n z.2.2).length ≤ 6 + 18 * i) (fun i => kb + (14 - i) * 15) (fun i => nv + (14 - i) * 10000) (M, u, ts) ⟨rfl, rfl, rfl, rfl, rfl, rfl, trivial⟩ rfl rfl rfl ⟨hV, hk, htl⟩ ?_ ?_
  · rintro i ⟨Mx, u1, ts1⟩ hi ⟨hV1, hk1, hl1⟩ ih0
    have hV1 : DV M0 Mx b v0 d n q u1 ts1 := hV1
    have hk1 : ∀ t, t < 6 → u1 (4 + t) = b1L false := hk1
    have hl1 : (szW n ++ sT n ts1).length ≤ 6 + 18 * i := hl1
    obtain ⟨⟨a1, a2, a3, a4⟩, ⟨z0, z1, z2, z3⟩, ⟨c1, c2, c3⟩, hQ⟩ := hV1.1
    have hSx := hV1.2.2.S
    show Go l jL_drawn 9 300 MC MS Q 39 [(0, .retAddr 0), (1, .int 0), (2, .ref b), (3, .int (nI w)), (4, .ref d), (5, .int (nI i))] [] (kb + (14 - i) * 15) (nv + (14 - i) * 10000) Mx
    refine g_wk (k := kb + (14 - (i + 1)) * 15 + 15) (n := nv + (14 - (i + 1)) * 10000 + 10000) (by omega) (by omega) ?_
    refine g_iload (pc := 39) dL_drawn_39 rfl ?_
    refine g_bipush (pc := 41) (v := 14) dL_drawn_41 rfl ?_
    refine g_icmp_ge (pc := 43) (tgt := 464) dL_drawn_43 rfl (fun h43 => absurd h43 (nI_ge hi (by decide))) (fun _ => ?_)
    refine g_aload_n (pc := 46) dL_drawn_46 rfl isA_0 ?_
    refine g_iload_n (pc := 47) dL_drawn_47 rfl ?_
    refine g_iconst (pc := 48) (v := 1) dL_drawn_48 rfl ?_
    refine g_iadd (pc := 49) dL_drawn_49 ?_
    refine g_iload (pc := 50) dL_drawn_50 rfl ?_
    refine g_iadd (pc := 52) dL_drawn_52 ?_
    rw [show (0 : Int32) + 1 + nI i = nI (i + 1) by rw [show (0 : Int32) + 1 = nI 1 from rfl, nI_add, Nat.add_comm]]
    refine g_invS_r (pc := 53) (As := [_, _]) dL_drawn_53 rfl (k_at (k := i + 1) (by omega) (by rw [hSx]; exact hS9)) rfl rfl lk_L_27 rfl (nb rfl) ⟨nb rfl, nb rfl⟩ rfl ?_
    refine g_istore (pc := 56) (lv' := [(0, _), (1, _), (2, _), (3, _), (4, _), (5, _), (6, _)]) dL_drawn_56 (nl rfl) rfl ?_
    skip
    have hx := atN_lt (mS Mx) (i + 1)
    generalize atN (mS Mx) (i + 1) = x at *
    have hs : x / 4 % 4 < 6 := Nat.lt_of_lt_of_le (Nat.mod_lt _ (by decide)) (by decide)
    have hr : x / 16 % n < n := Nat.mod_lt _ (by omega)
    refine g_iload (pc := 58) dL_drawn_58 rfl ?_
    refine g_iconst (pc := 60) (v := 4) dL_drawn_60 rfl ?_
    refine g_idiv (pc := 61) dL_drawn_61 (by decide) ?_
    rw [show nI x / 4 = nI (x / 4) from nI_q (y := 4) hx (by decide)]
    refine g_iconst (pc := 62) (v := 4) dL_drawn_62 rfl ?_
    refine g_irem (pc := 63) dL_drawn_63 (by decide) ?_
    rw [show nI (x / 4) - nI (x / 4) / 4 * 4 = nI (x / 4 % 4) from nI_rem (b := 4) (dv_lt hx) (by decide)]
    skip
    generalize x / 4 % 4 = s at *
    have next1 : ∀ (M1 : Mem) (t : ST9), t.1 < 3 → sOk n t u1 → DV M0 M1 b v0 d n q (sU n t u1) (ts1 ++ [t]) → Go l jL_drawn 9 300 MC MS Q 39 [(0, .retAddr 0), (1, .int 0), (2, .ref b), (3, .int (nI w)), (4, .ref d), (5, .int (nI (i + 1)))] [] (kb + (14 - (i + 1)) * 15) (nv + (14 - (i + 1)) * 10000) M1 := fun M1 t ht hok hV2 => ih0 (M1, sU n t u1, ts1 ++ [t]) ⟨hV2, fun y hy => (sU_u hn ht hok (by omega)).trans (hk1 y hy), by
      show (szW n ++ sT n (ts1 ++ [t])).length ≤ _
      have h9 := sW_le hn ht hok
      rw [sT_app, ← List.append_assoc, List.length_append]
      omega⟩
    refine g_istore (pc := 64) (lv' := [(0, _), (1, _), (2, _), (3, _), (4, _), (5, _), (6, _), (7, _)]) dL_drawn_64 (nl rfl) rfl ?_
    refine g_aload (pc := 66) dL_drawn_66 rfl trivial ?_
    refine g_getf (pc := 68) dL_drawn_68 fk_L_52 a1 (fv_arr a2) ?_
    refine g_iload (pc := 71) dL_drawn_71 rfl ?_
    refine g_aaload_Z2 (pc := 73) dL_drawn_73 c1 rfl hs (by omega) (hQ s hs).1.1 ?_
    refine g_astore (pc := 74) (lv' := [(0, _), (1, _), (2, _), (3, _), (4, _), (5, _), (6, _), (7, _), (8, _)]) dL_drawn_74 trivial (nl rfl) rfl ?_
    refine g_iload (pc := 76) dL_drawn_76 rfl ?_
    refine g_bipush (pc := 78) (v := 16) dL_drawn_78 rfl ?_
    refine g_idiv (pc := 80) dL_drawn_80 (by decide) ?_
    rw [show nI x / 16 = nI (x / 16) from nI_q (y := 16) hx (by decide)]
    refine g_aload (pc := 81) dL_drawn_81 rfl trivial ?_
    refine g_getf (pc := 83) (v := .int _) dL_drawn_83 fk_L_45 a1 (fun _ => congrArg Value.int (z0)) ?_
    refine g_irem (pc := 86) dL_drawn_86 (nI_nz h1 hn) ?_
    rw [nI_rem (dv_lt hx) (by omega)]
    refine g_istore (pc := 87) (lv' := [(0, _), (1, _), (2, _), (3, _), (4, _), (5, _), (6, _), (7, _), (8, _), (9, _)]) dL_drawn_87 (nl rfl) rfl ?_
    refine g_iload (pc := 89) dL_drawn_89 rfl ?_
    refine g_iconst (pc := 91) (v := 4) dL_drawn_91 rfl ?_
    refine g_irem (pc := 92) dL_drawn_92 (by decide) ?_
    rw [show nI x - nI x / 4 * 4 = nI (x % 4) from nI_rem (b := 4) hx (by decide)]
    skip
    generalize x / 16 % n = r at *
    rcases (by omega : x % 4 = 0 ∨ x % 4 = 1 ∨ x % 4 = 2 ∨ x % 4 = 3) with e | e | e | e <;> rw [e]
    · refine g_tableIn (pc := 93) (tgt := 120) (off := 27) dL_drawn_93 (by decide) (by decide) (by decide) (by decide) ?_
      exact drw_edge hV1 ho hc h1 hn hs hr hx hl1 hi next1
    · refine g_tableIn (pc := 93) (tgt := 120) (off := 27) dL_drawn_93 (by decide) (by decide) (by decide) (by decide) ?_
      exact drw_edge hV1 ho hc h1 hn hs hr hx hl1 hi next1
    · refine g_tableIn (pc := 93) (tgt := 178) (off := 85) dL_drawn_93 (by decide) (by decide) (by decide) (by decide) ?_
      exact drw_row hV1 ho hc h1 hn hs hr hx hl1 hi next1
    · refine g_tableOut (pc := 93) (tgt := 276) dL_drawn_93 (by decide) (by decide) ?_
      exact drw_fill hV1 ho hc h1 hn hs hr hx hl1 hi next1 (ih0 (Mx, u1, ts1) ⟨hV1, hk1, by show (szW n ++ sT n ts1).length ≤ _; omega⟩)
  · rintro ⟨Mx, u1, ts1⟩ ⟨hV1, hk1, hl1⟩
    have hl1 : (szW n ++ sT n ts1).length ≤ 6 + 18 * 14 := hl1
    show Go l jL_drawn 9 300 MC MS Q 39 [(0, .retAddr 0), (1, .int 0), (2, .ref b), (3, .int (nI w)), (4, .ref d), (5, .int (nI 14))] [] (kb + (14 - 14) * 15) (nv + (14 - 14) * 10000) Mx
    refine g_wk (k := kb) (n := nv) (by omega) (by omega) ?_
    refine g_iload (pc := 39) dL_drawn_39 rfl ?_
    refine g_bipush (pc := 41) (v := 14) dL_drawn_41 rfl ?_
    refine g_icmp_ge (pc := 43) (tgt := 464) dL_drawn_43 rfl (fun _ => ?_) (fun h43 => absurd (nI_le (Nat.le_refl 14) (by decide)) h43)
    exact next Mx u1 ts1 hV1 hk1 hl1
theorem uN_bg : uN (bgF (fun _ => 0) n) := by
  have z : ∀ i, 2 ≤ i → i < 220 → bgF (fun _ => 0) n i = 0 := fun i h1 h2 => by rw [bg_at h2, if_neg (by omega), if_neg (by omega)]
  refine ⟨?_, ?_, ?_, fun j h4 h5 => z j (by omega) h5⟩
  · rw [bg_at (by decide), if_pos rfl]
    decide
  · rw [z 2 (by decide) (by decide)]
    decide
  · rw [z 3 (by decide) (by decide)]
    decide
/-- a desk and its text are drawn -/
def DRq (M : Mem) (b v : Nat) (r : Option Value) (M' : Mem) : Prop := ∃ (d n : Nat) (q : DQ) (ρ : Nat → Nat × Nat) (ts : List ST9), r = some (.ref d) ∧ (1 ≤ n ∧ n ≤ 9 ∧ (mK M).length ≤ d) ∧ DK M' d n q (anI (sF n (bgF (fun _ => 0) n) ts) (nI n) 6) ∧ (OW ρ d n q ∧ (∀ i, i < (mK M).length → (ρ i).1 = 0) ∧ ∀ i, (mK M').length ≤ i → (ρ i).1 = 0) ∧ sC n (bgF (fun _ => 0) n) ts ∧ SBw M b v (szW n ++ sT n ts) M' ∧ (szW n ++ sT n ts).length ≤ 308
theorem k_drawn {cap : Nat} (hs : SB M b v0 cap []) (hp : 1 ≤ (mK M).length) (hl : (mS M).1 < 2147483648) : EvO l jL_drawn 9 300 300 160000 [.retAddr 0, .int 0, .ref b] M (fun r M' => DRq M b v0 r M') := by
  have hw := atN_lt (mS M) 0
  have hx := hs.2.2.2.2
  have hnk := new_at M (.inr 7)
  have hnI := new_I M (.inr 7)
  have hnl := new_l M (.inr 7)
  have hX0 : Xt (fun _ => False) M (nK M (.inr 7)) := (Xt.rf _ M).nK _
  refine ev_intro rfl (nb rfl) rfl ?_
  refine g_wk (k := 299 + 1) (n := 159993 + 7) (by decide) (by decide) ?_
  refine g_aload_n (pc := 0) dL_drawn_0 rfl isA_0 ?_
  refine g_iload_n (pc := 1) dL_drawn_1 rfl ?_
  refine g_invS_r (pc := 2) (As := [_, _]) dL_drawn_2 rfl (k_at (k := 0) (by decide) hl) rfl rfl lk_L_27 rfl (nb rfl) ⟨nb rfl, nb rfl⟩ rfl ?_
  refine g_istore_n (pc := 5) (lv' := [(0, _), (1, _), (2, _), (3, _)]) dL_drawn_5 (nl rfl) rfl ?_
  refine g_new (pc := 6) (nf := 7) (n := 159993) (k := 299) (ci := 7) (ty0 := tyX7) dL_drawn_6 rfl wd_x400 wd_x401 wd_x51 inW7 tyX7_ok (new_df7 _) rfl hx ?_
  refine g_dup (pc := 9) dL_drawn_9 rfl ?_
  refine g_iconst (pc := 10) (v := 1) dL_drawn_10 rfl ?_
  refine g_iload_n (pc := 11) dL_drawn_11 rfl ?_
  refine g_bipush (pc := 12) (v := 9) dL_drawn_12 rfl ?_
  refine g_irem (pc := 14) dL_drawn_14 (by decide) ?_
  rw [show nI (atN (mS M) 0) - nI (atN (mS M) 0) / 9 * 9 = nI (atN (mS M) 0 % 9) from nI_rem (b := 9) hw (by decide)]
  refine g_iadd (pc := 15) dL_drawn_15 ?_
  rw [show (1 : Int32) + nI (atN (mS M) 0 % 9) = nI (1 + atN (mS M) 0 % 9) from nI_add 1 _]
  skip
  have h1 : 1 ≤ 1 + atN (mS M) 0 % 9 := by omega
  have hn : 1 + atN (mS M) 0 % 9 ≤ 9 := by omega
  generalize 1 + atN (mS M) 0 % 9 = n at *
  generalize atN (mS M) 0 = w at *
  have hB : SBw M b v0 [] (nK M (.inr 7)) := (SBw.rf hs).wr hX0 (fun _ _ z => z) (fun _ _ z => z.elim)
  generalize hL : (mK M).length = L at *
  generalize nK M (.inr 7) = M1 at *
  refine g_invI_o (pc := 16) (As := [_]) dL_drawn_16 rfl (k_init hnk hnI hn hB.x (uN_bg (n := n))) rfl rfl hnk rfl rfl lk_L_35 rfl (nb rfl) ⟨nb rfl, nb rfl⟩ rfl (fun v9 M2 hq => ?_)
  obtain ⟨rfl, hD, hX, hlen⟩ := hq
  rw [hnl] at hD hlen
  have hB2 : SBw M b v0 [] M2 := hB.w1 hX (by omega) hnk rfl
  have hR : (mK M2).length = L + 1 + (9 + 6 * (n + 1)) := hlen
  have hO0 : OW (rhoD (fun _ => (0, 0)) L (L + 1) n) L n (qD (L + 1) n) := OW.new (Nat.lt_succ_self L)
  have hO : OW (fun i => if i < (mK M2).length then rhoD (fun _ => (0, 0)) L (L + 1) n i else (0, 0)) L n (qD (L + 1) n) := hO0.cg hD (fun i hi => if_pos hi)
  have r1 : ∀ i, i < L → (fun i => if i < (mK M2).length then rhoD (fun _ => (0, 0)) L (L + 1) n i else (0, 0)) i = (0, 0) := fun i hi => by
    show (if i < (mK M2).length then rhoD (fun _ => (0, 0)) L (L + 1) n i else (0, 0)) = _
    rw [if_pos (by omega), rhoD_old (by omega) (by omega)]
  have r2 : ∀ i, (mK M2).length ≤ i → (fun i => if i < (mK M2).length then rhoD (fun _ => (0, 0)) L (L + 1) n i else (0, 0)) i = (0, 0) := fun i hi => if_neg (by omega)
  generalize (fun i => if i < (mK M2).length then rhoD (fun _ => (0, 0)) L (L + 1) n i else (0, 0)) = ρ at *
  generalize qD (L + 1) n = q at *
  have hc : ∀ i, cel L n q i → (mK M).length ≤ i := fun i hi => by
    rcases Nat.lt_or_ge i L with z | z
    · have h9 := hO.cel hi
      rw [r1 i z] at h9
      have h8 : 0 = L := h9
      omega
    · omega
  show Go l _ _ _ _ _ _ _ _ ([.ref L] : List Value) _ _ _
  have htl : ([] : List Int32).length = 0 := rfl
  generalize hT : ([] : List Int32) = tx at hB2 htl
  refine g_astore (pc := 19) (lv' := [(0, _), (1, _), (2, _), (3, _), (4, _)]) dL_drawn_19 trivial (nl rfl) rfl ?_
  refine g_aload_n (pc := 21) dL_drawn_21 rfl trivial ?_
  refine g_ldcS (pc := 22) (kS := 13) dL_drawn_22 rfl ?_
  refine g_invV_o (pc := 24) (As := [_]) dL_drawn_24 rfl (y_sbS (kS := 13) (w9 := [115, 105, 122, 101, 32]) (m := 5) hB2 rfl rfl (by omega)) rfl rfl hB2.k rfl rfl lk_L_40 rfl (nb rfl) ⟨nb rfl, nb rfl⟩ rfl (fun v0 N0 hq => ?_)
  obtain ⟨rfl, hb0, hx0⟩ := hq
  show Go l _ _ _ _ _ _ _ _ ([.ref b] : List Value) _ _ _
  have hl0 : (tx ++ ([115, 105, 122, 101, 32] : List Int32)).length = tx.length + 5 := by rw [List.length_append]; rfl
  generalize ht0 : tx ++ ([115, 105, 122, 101, 32] : List Int32) = tx0 at hb0 hl0
  have hD1 := hD.xb hx0
  refine g_aload (pc := 27) dL_drawn_27 rfl trivial ?_
  refine g_getf (pc := 29) (v := .int _) dL_drawn_29 fk_L_45 hD1.1.1 (fun _ => congrArg Value.int (hD1.z)) ?_
  refine g_invV_o (pc := 32) (As := [_]) dL_drawn_32 rfl (y_sbI (c := n) hb0 (by omega) (by omega)) rfl rfl hb0.k rfl rfl lk_L_49 rfl (nb rfl) ⟨nb rfl, nb rfl⟩ rfl (fun v1 N1 hq => ?_)
  obtain ⟨rfl, hb1, hx1⟩ := hq
  show Go l _ _ _ _ _ _ _ _ ([.ref b] : List Value) _ _ _
  have hl1 : (tx0 ++ [nI (48 + n)]).length = tx0.length + 1 := by rw [List.length_append]; rfl
  generalize ht1 : tx0 ++ [nI (48 + n)] = tx1 at hb1 hl1
  have he : tx1 = szW n := by
    rw [← ht1, ← ht0, ← hT]
    rfl
  rw [he] at hb1
  have hV : DV M N1 b v0 L n q (bgF (fun _ => 0) n) [] := ⟨hD1.xb hx1, ⟨rfl, trivial⟩, by
    show SBw M b v0 (szW n ++ []) N1
    rw [List.append_nil]
    exact hb1⟩
  have hu0 : ∀ t, t < 6 → bgF (fun _ => 0) n (4 + t) = b1L false := fun t ht => by
    rw [bg_at (by omega), if_neg (by omega), if_neg (by omega)]
    rfl
  have hlx : (mK M2).length ≤ (mK N1).length := Nat.le_trans (Xt.len hx0) (Xt.len hx1)
  refine g_pop (pc := 35) dL_drawn_35 rfl ?_
  refine g_wk (pc := 36) (k := 14 + 210) (n := 9800 + 140000) (by omega) (by omega) ?_
  refine drw_main hV hO hc h1 hn hu0 (Nat.le_refl 6) hl (fun M3 u3 ts3 hV3 hk3 hl3 => ?_)
  refine drw_keep (kb := 2) (nv := 1400) hV3 hO hc h1 hn hk3 hl3 hw (fun M4 u4 ts4 hV4 hl4 => ?_)
  refine drw_block (kb := 0) (nv := 0) hV4 hO hc h1 hn hl4 hw (fun M5 u5 ts5 hV5 hl5 => ?_)
  refine drw_anew hV5 hO hc h1 hn (fun Mx hDx hBx => ?_)
  have hu5 := hV5.2.1.1
  subst hu5
  refine ⟨_, rfl, L, n, q, _, ts5, rfl, ⟨h1, hn, by omega⟩, hDx, ⟨hO.cg (ρ' := fun i => if i < (mK Mx).length then ρ i else (0, 0)) hDx (fun i hi => if_pos hi), fun i hi => ?_, fun i hi => ?_⟩, hV5.2.1.2, hBx, hl5⟩
  · show (if i < (mK Mx).length then ρ i else (0, 0)).1 = 0
    split
    · rw [r1 i (by omega)]
    · rfl
  · show (if i < (mK Mx).length then ρ i else (0, 0)).1 = 0
    rw [if_neg (by omega)]
end

