/-! drawn: what is kept, the block, the numbers -/
def anI (u : Nat → Int64) (x : Int32) : Nat → (Nat → Int64)
  | 0 => u
  | k + 1 => anU (anI u x k) k x
section
variable {l : Launch} {M M0 : Mem} {b v0 d n s i r x w k MC MS kb nv : Nat} {q : DQ} {u : Nat → Int64} {ρ : Nat → Nat × Nat} {ts : List ST9} {Q : Res → Mem → Prop}
theorem drw_keep (hV : DV M0 M b v0 d n q u ts) (ho : OW ρ d n q) (hc : ∀ i, cel d n q i → (mK M0).length ≤ i) (h1 : 1 ≤ n) (hn : n ≤ 9) (hk : ∀ t, t < 6 → u (4 + t) = b1L false) (htl : (szW n ++ sT n ts).length ≤ 258) (hw : w < 2147483648) (next : ∀ (M1 : Mem) (u1 : Nat → Int64) (ts1 : List ST9), DV M0 M1 b v0 d n q u1 ts1 → (szW n ++ sT n ts1).length ≤ 300 → Go l jL_drawn 9 300 MC MS Q 516 [(0, .retAddr 0), (1, .int 0), (2, .ref b), (3, .int (nI w)), (4, .ref d), (5, .int (nI 6))] [] kb nv M1) : Go l jL_drawn 9 300 MC MS Q 464 [(0, .retAddr 0), (1, .int 0), (2, .ref b), (3, .int (nI w)), (4, .ref d), (5, .int (nI i))] [] (kb + 12) (nv + 8400) M := by
  refine g_iconst (pc := 464) (v := 0) dL_drawn_464 rfl ?_
  refine g_istore (pc := 465) (lv' := [(0, _), (1, _), (2, _), (3, _), (4, _), (5, _)]) dL_drawn_465 (nl rfl) rfl ?_
  refine g_wk (pc := 467) (k := kb + (6 - 0) * 2) (n := nv + (6 - 0) * 1400) (by omega) (by omega) ?_
  refine go_forS (σ := Mem × (Nat → Int64) × List ST9) (pc := 467) 6 (fun s _ => [(0, .retAddr 0), (1, .int 0), (2, .ref b), (3, .int (nI w)), (4, .ref d), (5, .int (nI s))]) (fun z => z.1) (fun s z => DV M0 z.1 b v0 d n q z.2.1 z.2.2 ∧ (∀ t, s ≤ t → t < 6 → z.2.1 (4 + t) = b1L false) ∧ (szW n ++ sT n z.2.2).length ≤ 258 + 7 * s) (fun s => kb + (6 - s) * 2) (fun s => nv + (6 - s) * 1400) (M, u, ts) ⟨rfl, rfl, rfl, rfl, rfl, rfl, trivial⟩ rfl rfl rfl ⟨hV, fun t _ ht => hk t ht, htl⟩ ?_ ?_
  · rintro s ⟨Mx, u1, ts1⟩ hs ⟨hV1, hk1, hl1⟩ ih0
    have hV1 : DV M0 Mx b v0 d n q u1 ts1 := hV1
    have hk1 : ∀ t, s ≤ t → t < 6 → u1 (4 + t) = b1L false := hk1
    have hl1 : (szW n ++ sT n ts1).length ≤ 258 + 7 * s := hl1
    obtain ⟨⟨a1, a2, a3, a4⟩, ⟨z0, z1, z2, z3⟩, ⟨c1, c2, c3⟩, hQ⟩ := hV1.1
    show Go l jL_drawn 9 300 MC MS Q 467 [(0, .retAddr 0), (1, .int 0), (2, .ref b), (3, .int (nI w)), (4, .ref d), (5, .int (nI s))] [] (kb + (6 - s) * 2) (nv + (6 - s) * 1400) Mx
    refine g_wk (k := kb + (6 - (s + 1)) * 2 + 2) (n := nv + (6 - (s + 1)) * 1400 + 1400) (by omega) (by omega) ?_
    refine g_iload (pc := 467) dL_drawn_467 rfl ?_
    refine g_bipush (pc := 469) (v := 6) dL_drawn_469 rfl ?_
    refine g_icmp_ge (pc := 471) (tgt := 516) dL_drawn_471 rfl (fun h471 => absurd h471 (nI_ge hs (by decide))) (fun _ => ?_)
    refine g_iload_n (pc := 474) dL_drawn_474 rfl ?_
    refine g_bipush (pc := 475) (v := 16) dL_drawn_475 rfl ?_
    refine g_idiv (pc := 477) dL_drawn_477 (by decide) ?_
    rw [show nI w / 16 = nI (w / 16) from nI_q (y := 16) hw (by decide)]
    refine g_iload (pc := 478) dL_drawn_478 rfl ?_
    refine g_ishr (pc := 480) dL_drawn_480 ?_
    refine g_iconst (pc := 481) (v := 1) dL_drawn_481 rfl ?_
    refine g_iand (pc := 482) dL_drawn_482 ?_
    skip
    by_cases e : (nI (w / 16) >>> (nI s &&& 31)) &&& 1 = 0
    · refine g_if_ne (pc := 483) (tgt := 489) dL_drawn_483 rfl (fun h483 => absurd h483 ((fun z => z e))) (fun _ => ?_)
      refine g_goto (pc := 486) (tgt := 510) dL_drawn_486 rfl ?_
      refine g_iinc (pc := 510) (lv' := [(0, _), (1, _), (2, _), (3, _), (4, _), (5, _)]) dL_drawn_510 rfl (nI_1 _) (nl rfl) rfl ?_
      refine g_goto (pc := 513) (tgt := 467) dL_drawn_513 rfl ?_
      exact g_subk (g_wk (by omega) (by omega) (ih0 (Mx, u1, ts1) ⟨hV1, fun t q1 q2 => hk1 t (by omega) q2, by show (szW n ++ sT n ts1).length ≤ _; omega⟩)) ⟨rfl, rfl, rfl, rfl, rfl, rfl, trivial⟩
    · refine g_if_ne (pc := 483) (tgt := 489) dL_drawn_483 rfl (fun _ => ?_) (fun h483 => absurd (e) h483)
      refine g_aload (pc := 489) dL_drawn_489 rfl trivial ?_
      refine g_getf (pc := 491) dL_drawn_491 fk_L_74 a1 (fv_arr a3) ?_
      refine g_iload (pc := 494) dL_drawn_494 rfl ?_
      refine g_iconst (pc := 496) (v := 1) dL_drawn_496 rfl ?_
      refine g_zastore (pc := 497) dL_drawn_497 c2 rfl hs (by decide) ?_
      show Go l _ _ _ _ _ _ _ _ _ _ _ (sI Mx q.2.1 (fun_set (mI Mx q.2.1) s (vp_nar .boolean (b1 true))))
      have hok : sOk n (3, s, 0, 0, fun _ => false) u1 := ⟨hs, hk1 s (Nat.le_refl _) hs⟩
      have hD0 : DK (sI Mx q.2.1 (fun_set (mI Mx q.2.1) s (vp_nar .boolean (b1 true)))) d n q (sU n (3, s, 0, 0, fun _ => false) u1) := hV1.1.keep (k := true) ho hs
      have hc2 := hc _ (Or.inr (Or.inr (Or.inl rfl)))
      have hB0 : SBw M0 b v0 (szW n ++ sT n ts1) (sI Mx q.2.1 (fun_set (mI Mx q.2.1) s (vp_nar .boolean (b1 true)))) := hV1.2.2.w1 ((Xt.rf _ Mx).sI (fun _ => rfl)) hc2 c2 trivial
      generalize sI Mx q.2.1 (fun_set (mI Mx q.2.1) s (vp_nar .boolean (b1 true))) = MM at *
      generalize hT : szW n ++ sT n ts1 = tx at *
      refine g_aload_n (pc := 498) dL_drawn_498 rfl trivial ?_
      refine g_ldcS (pc := 499) (kS := 21) dL_drawn_499 rfl ?_
      refine g_invV_o (pc := 501) (As := [_]) dL_drawn_501 rfl (y_sbS (kS := 21) (w9 := [59, 107, 101, 101, 112, 32]) (m := 6) hB0 rfl rfl (by omega)) rfl rfl hB0.k rfl rfl lk_L_40 rfl (nb rfl) ⟨nb rfl, nb rfl⟩ rfl (fun v0 N0 hq => ?_)
      obtain ⟨rfl, hb0, hx0⟩ := hq
      show Go l _ _ _ _ _ _ _ _ ([.ref b] : List Value) _ _ _
      have hl0 : (tx ++ ([59, 107, 101, 101, 112, 32] : List Int32)).length = tx.length + 6 := by rw [List.length_append]; rfl
      generalize ht0 : tx ++ ([59, 107, 101, 101, 112, 32] : List Int32) = tx0 at hb0 hl0
      refine g_iload (pc := 504) dL_drawn_504 rfl ?_
      refine g_invV_o (pc := 506) (As := [_]) dL_drawn_506 rfl (y_sbI (c := s) hb0 (by omega) (by omega)) rfl rfl hb0.k rfl rfl lk_L_49 rfl (nb rfl) ⟨nb rfl, nb rfl⟩ rfl (fun v1 N1 hq => ?_)
      obtain ⟨rfl, hb1, hx1⟩ := hq
      show Go l _ _ _ _ _ _ _ _ ([.ref b] : List Value) _ _ _
      have hl1 : (tx0 ++ [nI (48 + s)]).length = tx0.length + 1 := by rw [List.length_append]; rfl
      generalize ht1 : tx0 ++ [nI (48 + s)] = tx1 at hb1 hl1
      have he : tx1 = szW n ++ sT n ts1 ++ sW n (3, s, 0, 0, fun _ => false) := by
        rw [← ht1, ← ht0, hT]
        simp only [List.append_assoc]
        rfl
      refine g_pop (pc := 509) dL_drawn_509 rfl ?_
      refine g_iinc (pc := 510) (lv' := [(0, _), (1, _), (2, _), (3, _), (4, _), (5, _)]) dL_drawn_510 rfl (nI_1 _) (nl rfl) rfl ?_
      refine g_goto (pc := 513) (tgt := 467) dL_drawn_513 rfl ?_
      refine g_subk (pc := 467) (g_wk (by omega) (by omega) (ih0 (N1, sU n (3, s, 0, 0, fun _ => false) u1, ts1 ++ [(3, s, 0, 0, fun _ => false)]) ⟨hV1.nx (3, s, 0, 0, fun _ => false) hok ((hD0.xb hx0).xb hx1) hb1 he, fun t q1 q2 => ?_, ?_⟩)) ⟨rfl, rfl, rfl, rfl, rfl, rfl, trivial⟩
      · show fun_set u1 (4 + s) (b1L true) (4 + t) = b1L false
        rw [fs_ne _ _ (by omega)]
        exact hk1 t (by omega) q2
      · show (szW n ++ sT n (ts1 ++ [(3, s, 0, 0, fun _ => false)])).length ≤ _
        rw [sT_app, ← List.append_assoc, ← he]
        omega
  · rintro ⟨Mx, u1, ts1⟩ ⟨hV1, hk1, hl1⟩
    have hl1 : (szW n ++ sT n ts1).length ≤ 258 + 7 * 6 := hl1
    show Go l jL_drawn 9 300 MC MS Q 467 [(0, .retAddr 0), (1, .int 0), (2, .ref b), (3, .int (nI w)), (4, .ref d), (5, .int (nI 6))] [] (kb + (6 - 6) * 2) (nv + (6 - 6) * 1400) Mx
    refine g_wk (k := kb) (n := nv) (by omega) (by omega) ?_
    refine g_iload (pc := 467) dL_drawn_467 rfl ?_
    refine g_bipush (pc := 469) (v := 6) dL_drawn_469 rfl ?_
    refine g_icmp_ge (pc := 471) (tgt := 516) dL_drawn_471 rfl (fun _ => ?_) (fun h471 => absurd (nI_le (Nat.le_refl 6) (by decide)) h471)
    exact g_subk (next Mx u1 ts1 hV1 hl1) ⟨rfl, rfl, rfl, rfl, rfl, rfl, trivial⟩
theorem drw_block (hV : DV M0 M b v0 d n q u ts) (ho : OW ρ d n q) (hc : ∀ i, cel d n q i → (mK M0).length ≤ i) (h1 : 1 ≤ n) (hn : n ≤ 9) (htl : (szW n ++ sT n ts).length ≤ 300) (hw : w < 2147483648) (next : ∀ (M1 : Mem) (u1 : Nat → Int64) (ts1 : List ST9), DV M0 M1 b v0 d n q u1 ts1 → (szW n ++ sT n ts1).length ≤ 308 → Go l jL_drawn 9 300 MC MS Q 556 [(0, .retAddr 0), (1, .int 0), (2, .ref b), (3, .int (nI w)), (4, .ref d), (5, .int (nI i))] [] kb nv M1) : Go l jL_drawn 9 300 MC MS Q 516 [(0, .retAddr 0), (1, .int 0), (2, .ref b), (3, .int (nI w)), (4, .ref d), (5, .int (nI i))] [] (kb + 2) (nv + 1400) M := by
  obtain ⟨⟨a1, a2, a3, a4⟩, ⟨z0, z1, z2, z3⟩, ⟨c1, c2, c3⟩, hQ⟩ := hV.1
  rcases (by omega : w / 1024 % 2 = 0 ∨ w / 1024 % 2 = 1) with e2 | e2
  rotate_left
  · refine g_iload_n (pc := 516) dL_drawn_516 rfl ?_
    refine g_sipush (pc := 517) (v := 1024) dL_drawn_517 rfl ?_
    refine g_idiv (pc := 520) dL_drawn_520 (by decide) ?_
    rw [show nI w / 1024 = nI (w / 1024) from nI_q (y := 1024) hw (by decide)]
    refine g_iconst (pc := 521) (v := 2) dL_drawn_521 rfl ?_
    refine g_irem (pc := 522) dL_drawn_522 (by decide) ?_
    rw [show nI (w / 1024) - nI (w / 1024) / 2 * 2 = nI (w / 1024 % 2) from nI_rem (b := 2) (dv_lt hw) (by decide), e2]
    refine g_if_ne (pc := 523) (tgt := 556) dL_drawn_523 rfl (fun _ => ?_) (fun h523 => absurd ((by decide)) h523)
    exact g_wk (by omega) (by omega) (next M u ts hV (by omega))
  · refine g_iload_n (pc := 516) dL_drawn_516 rfl ?_
    refine g_sipush (pc := 517) (v := 1024) dL_drawn_517 rfl ?_
    refine g_idiv (pc := 520) dL_drawn_520 (by decide) ?_
    rw [show nI w / 1024 = nI (w / 1024) from nI_q (y := 1024) hw (by decide)]
    refine g_iconst (pc := 521) (v := 2) dL_drawn_521 rfl ?_
    refine g_irem (pc := 522) dL_drawn_522 (by decide) ?_
    rw [show nI (w / 1024) - nI (w / 1024) / 2 * 2 = nI (w / 1024 % 2) from nI_rem (b := 2) (dv_lt hw) (by decide), e2]
    refine g_if_ne (pc := 523) (tgt := 556) dL_drawn_523 rfl (fun h523 => absurd h523 ((fun z => z rfl))) (fun _ => ?_)
    refine g_aload (pc := 526) dL_drawn_526 rfl trivial ?_
    refine g_iconst (pc := 528) (v := 1) dL_drawn_528 rfl ?_
    refine g_iload_n (pc := 529) dL_drawn_529 rfl ?_
    refine g_sipush (pc := 530) (v := 2048) dL_drawn_530 rfl ?_
    refine g_idiv (pc := 533) dL_drawn_533 (by decide) ?_
    rw [show nI w / 2048 = nI (w / 2048) from nI_q (y := 2048) hw (by decide)]
    refine g_bipush (pc := 534) (v := 8) dL_drawn_534 rfl ?_
    refine g_irem (pc := 536) dL_drawn_536 (by decide) ?_
    rw [show nI (w / 2048) - nI (w / 2048) / 8 * 8 = nI (w / 2048 % 8) from nI_rem (b := 8) (dv_lt hw) (by decide)]
    refine g_iadd (pc := 537) dL_drawn_537 ?_
    rw [show (1 : Int32) + nI (w / 2048 % 8) = nI (1 + w / 2048 % 8) from nI_add 1 _]
    skip
    have hb8 : 1 + w / 2048 % 8 ≤ 8 := by omega
    have hb7 : 1 ≤ 1 + w / 2048 % 8 := by omega
    generalize 1 + w / 2048 % 8 = bl at *
    refine g_putI (pc := 538) dL_drawn_538 fp_L_80 a1 ⟨rfl, rfl⟩ (fun _ _ _ _ => rfl) ?_
    show Go l _ _ _ _ _ _ _ _ _ _ _ (sI M d (fun_set (mI M d) 1 (nI bl)))
    have hok : sOk n (4, bl, 0, 0, fun _ => false) u := ⟨hb7, hb8⟩
    have hxx : Xt (fun i => i = d) M (sI M d (fun_set (mI M d) 1 (nI bl))) := (Xt.rf _ M).sI (fun _ => rfl)
    have hD0 : DK (sI M d (fun_set (mI M d) 1 (nI bl))) d n q (sU n (4, bl, 0, 0, fun _ => false) u) := hV.1.head ho hxx rfl (by rw [sI_self, fs_ne _ _ (by decide)]; exact z0) (by rw [sI_self, fs_self]; exact (lN_any bl).symm) (by rw [sI_self, fs_ne _ _ (by decide)]; exact z2) (by rw [sI_self, fs_ne _ _ (by decide)]; exact z3) (fun t ht => ⟨fun r _ => fs_ne _ _ (by omega), fs_ne _ _ (by omega), fs_ne _ _ (by omega), fs_ne _ _ (by omega), fs_ne _ _ (by omega)⟩)
    have hc2 := hc _ (Or.inl rfl)
    have hB0 : SBw M0 b v0 (szW n ++ sT n ts) (sI M d (fun_set (mI M d) 1 (nI bl))) := hV.2.2.w1 hxx hc2 a1 rfl
    generalize sI M d (fun_set (mI M d) 1 (nI bl)) = MM at *
    generalize hT : szW n ++ sT n ts = tx at *
    refine g_aload_n (pc := 541) dL_drawn_541 rfl trivial ?_
    refine g_ldcS (pc := 542) (kS := 22) dL_drawn_542 rfl ?_
    refine g_invV_o (pc := 544) (As := [_]) dL_drawn_544 rfl (y_sbS (kS := 22) (w9 := [59, 98, 108, 111, 99, 107, 32]) (m := 7) hB0 rfl rfl (by omega)) rfl rfl hB0.k rfl rfl lk_L_40 rfl (nb rfl) ⟨nb rfl, nb rfl⟩ rfl (fun v0 N0 hq => ?_)
    obtain ⟨rfl, hb0, hx0⟩ := hq
    show Go l _ _ _ _ _ _ _ _ ([.ref b] : List Value) _ _ _
    have hl0 : (tx ++ ([59, 98, 108, 111, 99, 107, 32] : List Int32)).length = tx.length + 7 := by rw [List.length_append]; rfl
    generalize ht0 : tx ++ ([59, 98, 108, 111, 99, 107, 32] : List Int32) = tx0 at hb0 hl0
    have hD1 := hD0.xb hx0
    have hz1 : mI N0 d 1 = nI bl := hD1.2.1.2.1.trans (lN_any bl)
    refine g_aload (pc := 547) dL_drawn_547 rfl trivial ?_
    refine g_getf (pc := 549) (v := .int _) dL_drawn_549 fk_L_80 hD1.1.1 (fun _ => congrArg Value.int (hz1)) ?_
    refine g_invV_o (pc := 552) (As := [_]) dL_drawn_552 rfl (y_sbI (c := bl) hb0 (by omega) (by omega)) rfl rfl hb0.k rfl rfl lk_L_49 rfl (nb rfl) ⟨nb rfl, nb rfl⟩ rfl (fun v1 N1 hq => ?_)
    obtain ⟨rfl, hb1, hx1⟩ := hq
    show Go l _ _ _ _ _ _ _ _ ([.ref b] : List Value) _ _ _
    have hl1 : (tx0 ++ [nI (48 + bl)]).length = tx0.length + 1 := by rw [List.length_append]; rfl
    generalize ht1 : tx0 ++ [nI (48 + bl)] = tx1 at hb1 hl1
    have he : tx1 = szW n ++ sT n ts ++ sW n (4, bl, 0, 0, fun _ => false) := by
      rw [← ht1, ← ht0, hT]
      simp only [List.append_assoc]
      rfl
    refine g_pop (pc := 555) dL_drawn_555 rfl ?_
    refine next N1 (sU n (4, bl, 0, 0, fun _ => false) u) (ts ++ [(4, bl, 0, 0, fun _ => false)]) (hV.nx (4, bl, 0, 0, fun _ => false) hok (hD1.xb hx1) hb1 he) ?_
    rw [sT_app, ← List.append_assoc, ← he]
    omega
theorem drw_anew (hV : DV M0 M b v0 d n q u ts) (ho : OW ρ d n q) (hc : ∀ i, cel d n q i → (mK M0).length ≤ i) (h1 : 1 ≤ n) (hn : n ≤ 9) (hQ : ∀ Mx, DK Mx d n q (anI u (nI n) 6) → SBw M0 b v0 (szW n ++ sT n ts) Mx → Q (.inl (some (.ref d))) Mx) : Go l jL_drawn 9 300 MC MS Q 556 [(0, .retAddr 0), (1, .int 0), (2, .ref b), (3, .int (nI w)), (4, .ref d), (5, .int (nI i))] [] kb nv M := by
  have hB0 := hV.2.2
  generalize szW n ++ sT n ts = tx at *
  refine g_iconst (pc := 556) (v := 0) dL_drawn_556 rfl ?_
  refine g_istore (pc := 557) (lv' := [(0, _), (1, _), (2, _), (3, _), (4, _), (5, _)]) dL_drawn_557 (nl rfl) rfl ?_
  skip
  refine go_forS (pc := 559) 6 (fun s (_ : Mem) => [(0, .retAddr 0), (1, .int 0), (2, .ref b), (3, .int (nI w)), (4, .ref d), (5, .int (nI s))]) id (fun s Mx => DK Mx d n q (anI u (nI n) s) ∧ SBw M0 b v0 tx Mx) (fun _ => kb) (fun _ => nv) M ⟨rfl, rfl, rfl, rfl, rfl, rfl, trivial⟩ rfl rfl rfl ⟨hV.1, hB0⟩ ?_ ?_
  · intro s Mx hs ⟨hD, hB⟩ ih0
    obtain ⟨⟨kk, e1, e2⟩, -⟩ := (hD.2.2.2 s hs).2
    have hc2 := hc _ (Or.inr (Or.inr (Or.inr (Or.inr ⟨s, hs, Or.inr (Or.inl rfl)⟩))))
    have hk7 := (hD.2.2.2 s hs).2.2.2.1
    refine g_iload (pc := 559) dL_drawn_559 rfl ?_
    refine g_bipush (pc := 561) (v := 6) dL_drawn_561 rfl ?_
    refine g_icmp_ge (pc := 563) (tgt := 579) dL_drawn_563 rfl (fun h563 => absurd h563 (nI_ge hs (by decide))) (fun _ => ?_)
    refine g_aload (pc := 566) dL_drawn_566 rfl trivial ?_
    refine g_iload (pc := 568) dL_drawn_568 rfl ?_
    refine g_invV_r (pc := 570) (As := [_]) dL_drawn_570 rfl (k_anew hD ho hs e1) (Nat.add_zero _).symm (Nat.add_zero _).symm hD.1.1 rfl rfl lk_L_85 rfl (nb rfl) ⟨nb rfl, nb rfl⟩ rfl ?_
    refine g_iinc (pc := 573) (lv' := [(0, _), (1, _), (2, _), (3, _), (4, _), (5, _)]) dL_drawn_573 rfl (nI_1 _) (nl rfl) rfl ?_
    refine g_goto (pc := 576) (tgt := 559) dL_drawn_576 rfl ?_
    exact g_subk (ih0 _ ⟨hD.anew ho hs e2, hB.w1 dkAnew_xt hc2 hk7 trivial⟩) ⟨rfl, rfl, rfl, rfl, rfl, rfl, trivial⟩
  · intro Mx ⟨hD, hB⟩
    refine g_iload (pc := 559) dL_drawn_559 rfl ?_
    refine g_bipush (pc := 561) (v := 6) dL_drawn_561 rfl ?_
    refine g_icmp_ge (pc := 563) (tgt := 579) dL_drawn_563 rfl (fun _ => ?_) (fun h563 => absurd (nI_le (Nat.le_refl 6) (by decide)) h563)
    refine g_aload (pc := 579) dL_drawn_579 rfl trivial ?_
    refine g_areturn (pc := 581) dL_drawn_581 rfl (Or.inl ⟨_, rfl⟩) ?_
    exact hQ Mx hD hB
end

