/-! an action of the law: matrices filled cell by cell -/
section
variable {l : Launch} {M : Mem} {A P n p d x s t o a b w MC MS : Nat} {is : Bool} {u : Nat → Int64} {ρ : Nat → Nat × Nat} {eo : Option Nat} {os : List OD} {nb : OD} {q : DQ}
theorem Mt.fill {My : Mem} {N i j : Nat} {g : Nat → Int32} {τ σ : Nat → Nat} (h : Mt My N n (fun r => N + 1 + r) (fun r c => if τ r < i ∨ (τ r = i ∧ τ c < j) then hb (g r) c else false)) (hi : i < n) (hj : j < n) (hσ : ∀ r, r < n → σ r < n) (h1 : ∀ r, r < n → τ (σ r) = r) (h2 : ∀ r, r < n → σ (τ r) = r) (v : Bool) (hv : v = hb (g (σ i)) (σ j)) : Mt (sI My (N + 1 + σ i) (fun_set (mI My (N + 1 + σ i)) (σ j) (vp_nar .boolean (b1 v)))) N n (fun r => N + 1 + r) (fun r c => if τ r < i ∨ (τ r = i ∧ τ c < j + 1) then hb (g r) c else false) := by
  refine (h.put (v := v) (j := σ j) (hσ i hi) (fun r hr e => by omega)).cg (fun r c hr hc => ?_)
  by_cases e : r = σ i ∧ c = σ j
  · rw [if_pos e, hv, e.1, e.2, if_pos (Or.inr ⟨h1 i hi, by rw [h1 j hj]; exact Nat.lt_succ_self j⟩)]
  · rw [if_neg e]
    by_cases e2 : τ r < i ∨ (τ r = i ∧ τ c < j)
    · rw [if_pos e2, if_pos (by omega)]
    · rw [if_neg e2, if_neg (fun z => ?_)]
      have e3 : τ r = i ∧ τ c = j := by omega
      exact e ⟨by rw [← e3.1, h2 r hr], by rw [← e3.2, h2 c hc]⟩
theorem Mt.next {My : Mem} {N i : Nat} {g : Nat → Int32} {τ : Nat → Nat} (h : Mt My N n (fun r => N + 1 + r) (fun r c => if τ r < i ∨ (τ r = i ∧ τ c < n) then hb (g r) c else false)) (hτ : ∀ r, r < n → τ r < n) : Mt My N n (fun r => N + 1 + r) (fun r c => if τ r < i + 1 ∨ (τ r = i + 1 ∧ τ c < 0) then hb (g r) c else false) := h.cg (fun r c hr hc => by
  have := hτ c hc
  by_cases e : τ r < i ∨ (τ r = i ∧ τ c < n)
  · rw [if_pos e, if_pos (by omega)]
  · rw [if_neg e, if_neg (by omega)])
theorem act_4t (hZ : AZ M A P n p os.length d u (usO os) ρ eo os nb) (hu : nb.2.2 = u) (hD : DK M d n q u) (hO : OW ρ d n q) (hs : s < 6) (ht : t < 6) : Go l jL_act 12 400 MC MS (QA A P n (mS M)) 463 [(0, .ref 0), (2, .ref P), (4, .ref d), (7, .int (nI s)), (9, .int (nI t)), (12, .int 1), (13, .ref nb.1), (16, .int 1), (17, .ref (q.2.2.2.1 s))] [] 1100 9000 M := by
  have hn := hZ.2.2.2.2.2.2
  have hx := hZ.x
  have hz := hD.z
  have hn32 : n ≤ 32 := by omega
  obtain ⟨-, hm⟩ := hD.m hZ.1 hs
  have hg9 : ∃ g : Nat → Int32, g = Am M s := ⟨_, rfl⟩
  obtain ⟨g, hg⟩ := hg9
  have hF := fresh_Mt M n
  have hX := os2_xt M .boolean n n
  have hdl := k_lt hD.1.1
  have hml := hm.lt
  refine g_aload (pc := 463) dL_act_463 rfl trivial ?_
  refine g_invV_r (pc := 465) (As := []) dL_act_465 rfl (k_fresh hD.1.1 hz hn hx) rfl rfl hD.1.1 rfl rfl lk_L_151 rfl (nb rfl) ⟨nb rfl, nb rfl⟩ rfl ?_
  show Go l _ _ _ _ _ _ _ _ ([.ref (mK M).length] : List Value) _ _ (opsM M (os2 .boolean n n (mK M).length))
  generalize hN : (mK M).length = N at *
  generalize opsM M (os2 .boolean n n N) = M1 at *
  have cl : ∀ {My : Mem}, Xt (fun y => N ≤ y) M My → (mK My)[d]? = some (.inr 7) ∧ mI My d 0 = nI n ∧ Mt My (q.2.2.2.1 s) n (q.2.2.2.2.1 s) (fB (Am M s)) := fun {My} h => ⟨h.k hD.1.1, (congrFun (h.I (k_lt hD.1.1) (by omega)) 0).trans hz, hm.xt h (by omega) (fun r hr => by have := hml.2 r hr; omega)⟩

  refine g_astore (pc := 468) (lv' := [(0, _), (2, _), (4, _), (7, _), (9, _), (12, _), (13, _), (16, _), (17, _), (18, _)]) dL_act_468 trivial (nl rfl) rfl ?_
  refine g_iconst (pc := 470) (v := 0) dL_act_470 rfl ?_
  refine g_istore (pc := 471) (lv' := [(0, _), (2, _), (4, _), (7, _), (9, _), (12, _), (13, _), (16, _), (17, _), (18, _), (19, _)]) dL_act_471 (nl rfl) rfl ?_
  refine go_forS (pc := 473) n (fun i (_ : Mem) => [(0, .ref 0), (2, .ref P), (4, .ref d), (7, .int (nI s)), (9, .int (nI t)), (12, .int 1), (13, .ref nb.1), (16, .int 1), (17, .ref (q.2.2.2.1 s)), (18, .ref N), (19, .int (nI i))]) (fun z => z) (fun i My => Xt (fun y => N ≤ y) M My ∧ Mt My N n (fun r => N + 1 + r) (fun r c => if r < i ∨ (r = i ∧ c < 0) then hb (g r) c else false)) (fun _ => 1090) (fun _ => 8910) M1 ⟨rfl, rfl, rfl, rfl, rfl, rfl, rfl, rfl, rfl, rfl, rfl, trivial⟩ rfl rfl rfl ⟨hX.up (fun _ _ z => z.elim), hF.cg (fun r c _ _ => (if_neg (by omega)).symm)⟩ ?_ ?_
  · rintro i My hi ⟨g1, g2⟩ ih
    obtain ⟨hd9, hz9, hm9⟩ := cl g1
    refine g_iload (pc := 473) dL_act_473 rfl ?_
    refine g_aload (pc := 475) dL_act_475 rfl trivial ?_
    refine g_getf (pc := 477) (v := .int _) dL_act_477 fk_L_45 hd9 (fun _ => congrArg Value.int (hz9)) ?_
    refine g_icmp_ge (pc := 480) (tgt := 540) dL_act_480 rfl (fun h480 => absurd h480 (nI_ge hi (by omega))) (fun _ => ?_)
    refine g_iconst (pc := 483) (v := 0) dL_act_483 rfl ?_
    refine g_istore (pc := 484) (lv' := [(0, _), (2, _), (4, _), (7, _), (9, _), (12, _), (13, _), (16, _), (17, _), (18, _), (19, _), (20, _)]) dL_act_484 (nl rfl) rfl ?_
    refine g_wk (pc := 486) (Nat.le_refl 1090) (Nat.le_refl 8910) ?_
    refine go_forS (pc := 486) n (fun j (_ : Mem) => [(0, .ref 0), (2, .ref P), (4, .ref d), (7, .int (nI s)), (9, .int (nI t)), (12, .int 1), (13, .ref nb.1), (16, .int 1), (17, .ref (q.2.2.2.1 s)), (18, .ref N), (19, .int (nI i)), (20, .int (nI j))]) (fun z => z) (fun j My => Xt (fun y => N ≤ y) M My ∧ Mt My N n (fun r => N + 1 + r) (fun r c => if r < i ∨ (r = i ∧ c < j) then hb (g r) c else false)) (fun _ => 1090) (fun _ => 8910) My ⟨rfl, rfl, rfl, rfl, rfl, rfl, rfl, rfl, rfl, rfl, rfl, rfl, trivial⟩ rfl rfl rfl ⟨g1, g2⟩ ?_ ?_
    · rintro j Mz hj ⟨f1, f2⟩ ih2
      obtain ⟨hd8, hz8, hm8⟩ := cl f1
      have hput : ∀ v : Bool, v = hb (g (i)) (j) → _ := fun v hv => ih2 (sI Mz (N + 1 + i) (fun_set (mI Mz (N + 1 + i)) (j) (vp_nar .boolean (b1 v)))) ⟨f1.sI (fun _ => by omega), Mt.fill (τ := fun r => r) (σ := fun i => i) f2 hi hj (fun _ h => h) (fun _ _ => rfl) (fun _ _ => rfl) v hv⟩
      have hv : hb (Am M s i) j = hb (g i) j := by rw [hg]
      refine g_iload (pc := 486) dL_act_486 rfl ?_
      refine g_aload (pc := 488) dL_act_488 rfl trivial ?_
      refine g_getf (pc := 490) (v := .int _) dL_act_490 fk_L_45 hd8 (fun _ => congrArg Value.int (hz8)) ?_
      refine g_icmp_ge (pc := 493) (tgt := 534) dL_act_493 rfl (fun h493 => absurd h493 (nI_ge hj (by omega))) (fun _ => ?_)
      refine g_aload (pc := 496) dL_act_496 rfl trivial ?_
      refine g_iload (pc := 498) dL_act_498 rfl ?_
      refine g_aaload_Z1 (pc := 500) dL_act_500 f2.1 rfl hi (by omega) (f2.2 i hi).1 ?_
      refine g_iload (pc := 501) dL_act_501 rfl ?_
      refine g_iload (pc := 503) dL_act_503 rfl ?_
      refine g_if_eq (pc := 505) (tgt := 519) dL_act_505 rfl (fun h505 => absurd h505 ((by decide))) (fun _ => ?_)
      refine g_aload (pc := 508) dL_act_508 rfl trivial ?_
      refine g_iload (pc := 510) dL_act_510 rfl ?_
      refine g_aaload_Z1 (pc := 512) dL_act_512 hm8.1 rfl hi (by omega) (hm8.2 i hi).1 ?_
      refine g_iload (pc := 513) dL_act_513 rfl ?_
      refine g_zaload (pc := 515) dL_act_515 (hm8.2 i hi).2.1 rfl hj (by omega) ?_
      rw [show mI Mz (q.2.2.2.2.1 s i) j = b1 (hb (Am M s i) j) from (hm8.2 i hi).2.2 j hj]
      refine g_goto (pc := 516) (tgt := 527) dL_act_516 rfl ?_
      refine g_zastore (pc := 527) dL_act_527 (f2.2 i hi).2.1 rfl hj (by omega) ?_
      refine g_iinc (pc := 528) (lv' := [(0, _), (2, _), (4, _), (7, _), (9, _), (12, _), (13, _), (16, _), (17, _), (18, _), (19, _), (20, _)]) dL_act_528 rfl (nI_1 _) (nl rfl) rfl ?_
      refine g_goto (pc := 531) (tgt := 486) dL_act_531 rfl ?_
      exact g_subk (hput _ hv) ⟨rfl, rfl, rfl, rfl, rfl, rfl, rfl, rfl, rfl, rfl, rfl, rfl, trivial⟩
    · rintro Mz ⟨f1, f2⟩
      obtain ⟨hd8, hz8, hm8⟩ := cl f1
      refine g_iload (pc := 486) dL_act_486 rfl ?_
      refine g_aload (pc := 488) dL_act_488 rfl trivial ?_
      refine g_getf (pc := 490) (v := .int _) dL_act_490 fk_L_45 hd8 (fun _ => congrArg Value.int (hz8)) ?_
      refine g_icmp_ge (pc := 493) (tgt := 534) dL_act_493 rfl (fun _ => ?_) (fun h493 => absurd (nI_le (Nat.le_refl _) (by omega)) h493)
      refine g_iinc (pc := 534) (lv' := [(0, _), (2, _), (4, _), (7, _), (9, _), (12, _), (13, _), (16, _), (17, _), (18, _), (19, _), (20, _)]) dL_act_534 rfl (nI_1 _) (nl rfl) rfl ?_
      refine g_goto (pc := 537) (tgt := 473) dL_act_537 rfl ?_
      exact g_subk (ih Mz ⟨f1, Mt.next (τ := fun r => r) f2 (fun _ h => h)⟩) ⟨rfl, rfl, rfl, rfl, rfl, rfl, rfl, rfl, rfl, rfl, rfl, trivial⟩
  · rintro My ⟨g1, g2⟩
    obtain ⟨hd9, hz9, hm9⟩ := cl g1
    have gM : Mt My N n (fun r => N + 1 + r) (fB g) := g2.cg (fun r c hr hc => if_pos (Or.inl hr))
    have gd : Xt (fun i => i = d) M My := g1.up (fun i hi z => by omega)
    have gD : DK My d n q u := hD.xt hO g1 (fun i hi z => by omega)
    refine g_wk (Nat.le_refl 1090) (Nat.le_refl 8910) ?_

    obtain ⟨M2, e1, e2, e3, e4, e5, e6, e7⟩ := st_law (l := l) (g := g) hD hO gd gD gM (Nat.le_of_eq hN) (by omega) ht (fun _ _ _ _ => rfl) hn32
    have hZ2 := hZ.xt e4 e6 e5
    have hS2 : mS M2 = mS M := e4.2.2.1
    obtain ⟨M3, c1, c2, c3⟩ := c_copy (l := l) hZ2.1 hs ht
    rw [hZ.am e4 e6 hs] at c1 c3
    have hw : onesF g n = nI (cM (fB g) n n) := on_c hn32 (by rw [hg]; exact hZ.1.wf hs) n (Nat.le_refl n)
    rw [← hg, hw] at c1
    rw [← hg] at c3
    rw [← hS2]
    refine g_iload (pc := 473) dL_act_473 rfl ?_
    refine g_aload (pc := 475) dL_act_475 rfl trivial ?_
    refine g_getf (pc := 477) (v := .int _) dL_act_477 fk_L_45 hd9 (fun _ => congrArg Value.int (hz9)) ?_
    refine g_icmp_ge (pc := 480) (tgt := 540) dL_act_480 rfl (fun _ => ?_) (fun h480 => absurd (nI_le (Nat.le_refl _) (by omega)) h480)
    refine g_aload (pc := 540) dL_act_540 rfl trivial ?_
    refine g_iload (pc := 542) dL_act_542 rfl ?_
    refine g_aload (pc := 544) dL_act_544 rfl trivial ?_
    refine g_invV_r (pc := 546) (As := [_, _]) dL_act_546 rfl (e1) rfl rfl hd9 rfl rfl lk_L_155 rfl (nb rfl) ⟨nb rfl, nb rfl⟩ rfl ?_
    refine g_aload (pc := 549) dL_act_549 rfl trivial ?_
    refine g_aload (pc := 551) dL_act_551 rfl trivial ?_
    refine g_invV_r (pc := 553) (As := [_]) dL_act_553 rfl (k_ones e7 hn) rfl rfl e2.1.1 rfl rfl lk_L_159 rfl (nb rfl) ⟨nb rfl, nb rfl⟩ rfl ?_
    refine g_istore (pc := 556) (lv' := [(0, _), (2, _), (4, _), (7, _), (9, _), (12, _), (13, _), (16, _), (17, _), (18, _), (19, _), (14, _)]) dL_act_556 (nl rfl) rfl ?_
    refine g_iload (pc := 558) dL_act_558 rfl ?_
    refine g_if_eq (pc := 560) (tgt := 574) dL_act_560 rfl (fun h560 => absurd h560 ((by decide))) (fun _ => ?_)
    refine g_aload_n (pc := 563) dL_act_563 rfl trivial ?_
    refine g_iload (pc := 564) dL_act_564 rfl ?_
    refine g_iload (pc := 566) dL_act_566 rfl ?_
    refine g_invV_r (pc := 568) (As := [_, _]) dL_act_568 rfl (c1) rfl rfl (shK hZ2.1.S rfl) rfl rfl lk_L_162 rfl (nb rfl) ⟨nb rfl, nb rfl⟩ rfl ?_
    refine g_goto (pc := 571) (tgt := 582) dL_act_571 rfl ?_
    refine g_istore (pc := 582) (lv' := [(0, _), (2, _), (4, _), (7, _), (9, _), (12, _), (13, _), (16, _), (17, _), (18, _), (19, _), (14, _), (15, _)]) dL_act_582 (nl rfl) rfl ?_
    refine g_goto (pc := 584) (tgt := 1338) dL_act_584 rfl ?_
    refine g_wk (pc := 1338) (k := 2) (n := 16) (by decide) (by decide) ?_
    exact g_subk (k_fin hZ2 hu e2 e3 c2 c3) ⟨rfl, rfl, rfl, rfl, rfl, rfl, trivial⟩
theorem act_4f (hZ : AZ M A P n p os.length d u (usO os) ρ eo os nb) (hu : nb.2.2 = u) (hD : DK M d n q u) (hO : OW ρ d n q) (hs : s < 6) (ht : t < 6) : Go l jL_act 12 400 MC MS (QA A P n (mS M)) 463 [(0, .ref 0), (2, .ref P), (4, .ref d), (7, .int (nI s)), (9, .int (nI t)), (12, .int 0), (13, .ref nb.1), (16, .int 1), (17, .ref (q.2.2.2.1 s))] [] 1100 9000 M := by
  have hn := hZ.2.2.2.2.2.2
  have hx := hZ.x
  have hz := hD.z
  have hn32 : n ≤ 32 := by omega
  obtain ⟨-, hm⟩ := hD.m hZ.1 hs
  have hg9 : ∃ g : Nat → Int32, g = fun k => colOf (Am M s) k n := ⟨_, rfl⟩
  obtain ⟨g, hg⟩ := hg9
  have hF := fresh_Mt M n
  have hX := os2_xt M .boolean n n
  have hdl := k_lt hD.1.1
  have hml := hm.lt
  refine g_aload (pc := 463) dL_act_463 rfl trivial ?_
  refine g_invV_r (pc := 465) (As := []) dL_act_465 rfl (k_fresh hD.1.1 hz hn hx) rfl rfl hD.1.1 rfl rfl lk_L_151 rfl (nb rfl) ⟨nb rfl, nb rfl⟩ rfl ?_
  show Go l _ _ _ _ _ _ _ _ ([.ref (mK M).length] : List Value) _ _ (opsM M (os2 .boolean n n (mK M).length))
  generalize hN : (mK M).length = N at *
  generalize opsM M (os2 .boolean n n N) = M1 at *
  have cl : ∀ {My : Mem}, Xt (fun y => N ≤ y) M My → (mK My)[d]? = some (.inr 7) ∧ mI My d 0 = nI n ∧ Mt My (q.2.2.2.1 s) n (q.2.2.2.2.1 s) (fB (Am M s)) := fun {My} h => ⟨h.k hD.1.1, (congrFun (h.I (k_lt hD.1.1) (by omega)) 0).trans hz, hm.xt h (by omega) (fun r hr => by have := hml.2 r hr; omega)⟩

  refine g_astore (pc := 468) (lv' := [(0, _), (2, _), (4, _), (7, _), (9, _), (12, _), (13, _), (16, _), (17, _), (18, _)]) dL_act_468 trivial (nl rfl) rfl ?_
  refine g_iconst (pc := 470) (v := 0) dL_act_470 rfl ?_
  refine g_istore (pc := 471) (lv' := [(0, _), (2, _), (4, _), (7, _), (9, _), (12, _), (13, _), (16, _), (17, _), (18, _), (19, _)]) dL_act_471 (nl rfl) rfl ?_
  refine go_forS (pc := 473) n (fun i (_ : Mem) => [(0, .ref 0), (2, .ref P), (4, .ref d), (7, .int (nI s)), (9, .int (nI t)), (12, .int 0), (13, .ref nb.1), (16, .int 1), (17, .ref (q.2.2.2.1 s)), (18, .ref N), (19, .int (nI i))]) (fun z => z) (fun i My => Xt (fun y => N ≤ y) M My ∧ Mt My N n (fun r => N + 1 + r) (fun r c => if r < i ∨ (r = i ∧ c < 0) then hb (g r) c else false)) (fun _ => 1090) (fun _ => 8910) M1 ⟨rfl, rfl, rfl, rfl, rfl, rfl, rfl, rfl, rfl, rfl, rfl, trivial⟩ rfl rfl rfl ⟨hX.up (fun _ _ z => z.elim), hF.cg (fun r c _ _ => (if_neg (by omega)).symm)⟩ ?_ ?_
  · rintro i My hi ⟨g1, g2⟩ ih
    obtain ⟨hd9, hz9, hm9⟩ := cl g1
    refine g_iload (pc := 473) dL_act_473 rfl ?_
    refine g_aload (pc := 475) dL_act_475 rfl trivial ?_
    refine g_getf (pc := 477) (v := .int _) dL_act_477 fk_L_45 hd9 (fun _ => congrArg Value.int (hz9)) ?_
    refine g_icmp_ge (pc := 480) (tgt := 540) dL_act_480 rfl (fun h480 => absurd h480 (nI_ge hi (by omega))) (fun _ => ?_)
    refine g_iconst (pc := 483) (v := 0) dL_act_483 rfl ?_
    refine g_istore (pc := 484) (lv' := [(0, _), (2, _), (4, _), (7, _), (9, _), (12, _), (13, _), (16, _), (17, _), (18, _), (19, _), (20, _)]) dL_act_484 (nl rfl) rfl ?_
    refine g_wk (pc := 486) (Nat.le_refl 1090) (Nat.le_refl 8910) ?_
    refine go_forS (pc := 486) n (fun j (_ : Mem) => [(0, .ref 0), (2, .ref P), (4, .ref d), (7, .int (nI s)), (9, .int (nI t)), (12, .int 0), (13, .ref nb.1), (16, .int 1), (17, .ref (q.2.2.2.1 s)), (18, .ref N), (19, .int (nI i)), (20, .int (nI j))]) (fun z => z) (fun j My => Xt (fun y => N ≤ y) M My ∧ Mt My N n (fun r => N + 1 + r) (fun r c => if r < i ∨ (r = i ∧ c < j) then hb (g r) c else false)) (fun _ => 1090) (fun _ => 8910) My ⟨rfl, rfl, rfl, rfl, rfl, rfl, rfl, rfl, rfl, rfl, rfl, rfl, trivial⟩ rfl rfl rfl ⟨g1, g2⟩ ?_ ?_
    · rintro j Mz hj ⟨f1, f2⟩ ih2
      obtain ⟨hd8, hz8, hm8⟩ := cl f1
      have hput : ∀ v : Bool, v = hb (g (i)) (j) → _ := fun v hv => ih2 (sI Mz (N + 1 + i) (fun_set (mI Mz (N + 1 + i)) (j) (vp_nar .boolean (b1 v)))) ⟨f1.sI (fun _ => by omega), Mt.fill (τ := fun r => r) (σ := fun i => i) f2 hi hj (fun _ h => h) (fun _ _ => rfl) (fun _ _ => rfl) v hv⟩
      have hv : hb (Am M s j) i = hb (g i) j := by rw [hg]; exact (col_w hn32 hj).symm
      refine g_iload (pc := 486) dL_act_486 rfl ?_
      refine g_aload (pc := 488) dL_act_488 rfl trivial ?_
      refine g_getf (pc := 490) (v := .int _) dL_act_490 fk_L_45 hd8 (fun _ => congrArg Value.int (hz8)) ?_
      refine g_icmp_ge (pc := 493) (tgt := 534) dL_act_493 rfl (fun h493 => absurd h493 (nI_ge hj (by omega))) (fun _ => ?_)
      refine g_aload (pc := 496) dL_act_496 rfl trivial ?_
      refine g_iload (pc := 498) dL_act_498 rfl ?_
      refine g_aaload_Z1 (pc := 500) dL_act_500 f2.1 rfl hi (by omega) (f2.2 i hi).1 ?_
      refine g_iload (pc := 501) dL_act_501 rfl ?_
      refine g_iload (pc := 503) dL_act_503 rfl ?_
      refine g_if_eq (pc := 505) (tgt := 519) dL_act_505 rfl (fun _ => ?_) (fun h505 => absurd (rfl) h505)
      refine g_aload (pc := 519) dL_act_519 rfl trivial ?_
      refine g_iload (pc := 521) dL_act_521 rfl ?_
      refine g_aaload_Z1 (pc := 523) dL_act_523 hm8.1 rfl hj (by omega) (hm8.2 j hj).1 ?_
      refine g_iload (pc := 524) dL_act_524 rfl ?_
      refine g_zaload (pc := 526) dL_act_526 (hm8.2 j hj).2.1 rfl hi (by omega) ?_
      rw [show mI Mz (q.2.2.2.2.1 s j) i = b1 (hb (Am M s j) i) from (hm8.2 j hj).2.2 i hi]
      refine g_zastore (pc := 527) dL_act_527 (f2.2 i hi).2.1 rfl hj (by omega) ?_
      refine g_iinc (pc := 528) (lv' := [(0, _), (2, _), (4, _), (7, _), (9, _), (12, _), (13, _), (16, _), (17, _), (18, _), (19, _), (20, _)]) dL_act_528 rfl (nI_1 _) (nl rfl) rfl ?_
      refine g_goto (pc := 531) (tgt := 486) dL_act_531 rfl ?_
      exact g_subk (hput _ hv) ⟨rfl, rfl, rfl, rfl, rfl, rfl, rfl, rfl, rfl, rfl, rfl, rfl, trivial⟩
    · rintro Mz ⟨f1, f2⟩
      obtain ⟨hd8, hz8, hm8⟩ := cl f1
      refine g_iload (pc := 486) dL_act_486 rfl ?_
      refine g_aload (pc := 488) dL_act_488 rfl trivial ?_
      refine g_getf (pc := 490) (v := .int _) dL_act_490 fk_L_45 hd8 (fun _ => congrArg Value.int (hz8)) ?_
      refine g_icmp_ge (pc := 493) (tgt := 534) dL_act_493 rfl (fun _ => ?_) (fun h493 => absurd (nI_le (Nat.le_refl _) (by omega)) h493)
      refine g_iinc (pc := 534) (lv' := [(0, _), (2, _), (4, _), (7, _), (9, _), (12, _), (13, _), (16, _), (17, _), (18, _), (19, _), (20, _)]) dL_act_534 rfl (nI_1 _) (nl rfl) rfl ?_
      refine g_goto (pc := 537) (tgt := 473) dL_act_537 rfl ?_
      exact g_subk (ih Mz ⟨f1, Mt.next (τ := fun r => r) f2 (fun _ h => h)⟩) ⟨rfl, rfl, rfl, rfl, rfl, rfl, rfl, rfl, rfl, rfl, rfl, trivial⟩
  · rintro My ⟨g1, g2⟩
    obtain ⟨hd9, hz9, hm9⟩ := cl g1
    have gM : Mt My N n (fun r => N + 1 + r) (fB g) := g2.cg (fun r c hr hc => if_pos (Or.inl hr))
    have gd : Xt (fun i => i = d) M My := g1.up (fun i hi z => by omega)
    have gD : DK My d n q u := hD.xt hO g1 (fun i hi z => by omega)
    refine g_wk (Nat.le_refl 1090) (Nat.le_refl 8910) ?_

    obtain ⟨M2, e1, e2, e3, e4, e5, e6, e7⟩ := st_law (l := l) (g := g) hD hO gd gD gM (Nat.le_of_eq hN) (by omega) ht (fun _ _ _ _ => rfl) hn32
    have hZ2 := hZ.xt e4 e6 e5
    have hS2 : mS M2 = mS M := e4.2.2.1
    obtain ⟨M3, c1, c2, c3⟩ := c_transpose (l := l) hZ2.1 hs ht
    rw [hZ.am e4 e6 hs] at c1 c3
    have hw : onesF g n = nI (cM (fB g) n n) := on_c hn32 (by rw [hg]; exact wf_col hn32) n (Nat.le_refl n)
    rw [← hg, hw] at c1
    rw [← hg] at c3
    rw [← hS2]
    refine g_iload (pc := 473) dL_act_473 rfl ?_
    refine g_aload (pc := 475) dL_act_475 rfl trivial ?_
    refine g_getf (pc := 477) (v := .int _) dL_act_477 fk_L_45 hd9 (fun _ => congrArg Value.int (hz9)) ?_
    refine g_icmp_ge (pc := 480) (tgt := 540) dL_act_480 rfl (fun _ => ?_) (fun h480 => absurd (nI_le (Nat.le_refl _) (by omega)) h480)
    refine g_aload (pc := 540) dL_act_540 rfl trivial ?_
    refine g_iload (pc := 542) dL_act_542 rfl ?_
    refine g_aload (pc := 544) dL_act_544 rfl trivial ?_
    refine g_invV_r (pc := 546) (As := [_, _]) dL_act_546 rfl (e1) rfl rfl hd9 rfl rfl lk_L_155 rfl (nb rfl) ⟨nb rfl, nb rfl⟩ rfl ?_
    refine g_aload (pc := 549) dL_act_549 rfl trivial ?_
    refine g_aload (pc := 551) dL_act_551 rfl trivial ?_
    refine g_invV_r (pc := 553) (As := [_]) dL_act_553 rfl (k_ones e7 hn) rfl rfl e2.1.1 rfl rfl lk_L_159 rfl (nb rfl) ⟨nb rfl, nb rfl⟩ rfl ?_
    refine g_istore (pc := 556) (lv' := [(0, _), (2, _), (4, _), (7, _), (9, _), (12, _), (13, _), (16, _), (17, _), (18, _), (19, _), (14, _)]) dL_act_556 (nl rfl) rfl ?_
    refine g_iload (pc := 558) dL_act_558 rfl ?_
    refine g_if_eq (pc := 560) (tgt := 574) dL_act_560 rfl (fun _ => ?_) (fun h560 => absurd (rfl) h560)
    refine g_aload_n (pc := 574) dL_act_574 rfl trivial ?_
    refine g_iload (pc := 575) dL_act_575 rfl ?_
    refine g_iload (pc := 577) dL_act_577 rfl ?_
    refine g_invV_r (pc := 579) (As := [_, _]) dL_act_579 rfl (c1) rfl rfl (shK hZ2.1.S rfl) rfl rfl lk_L_164 rfl (nb rfl) ⟨nb rfl, nb rfl⟩ rfl ?_
    refine g_istore (pc := 582) (lv' := [(0, _), (2, _), (4, _), (7, _), (9, _), (12, _), (13, _), (16, _), (17, _), (18, _), (19, _), (14, _), (15, _)]) dL_act_582 (nl rfl) rfl ?_
    refine g_goto (pc := 584) (tgt := 1338) dL_act_584 rfl ?_
    refine g_wk (pc := 1338) (k := 2) (n := 16) (by decide) (by decide) ?_
    exact g_subk (k_fin hZ2 hu e2 e3 c2 c3) ⟨rfl, rfl, rfl, rfl, rfl, rfl, trivial⟩
theorem act_50 (hZ : AZ M A P n p os.length d u (usO os) ρ eo os nb) (hu : nb.2.2 = u) (hD : DK M d n q u) (hO : OW ρ d n q) (hx9 : x < 2147483648) (hw : x / 262144 % 4 = 0) (hs : s < 6) (ho : o < 6) (ht : t < 6) : Go l jL_act 12 400 MC MS (QA A P n (mS M)) 587 [(0, .ref 0), (2, .ref P), (4, .ref d), (5, .int (nI x)), (7, .int (nI s)), (8, .int (nI o)), (9, .int (nI t)), (13, .ref nb.1), (16, .int 1), (17, .ref (q.2.2.2.1 s))] [] 1100 9000 M := by
  have hn := hZ.2.2.2.2.2.2
  have hx := hZ.x
  have hz := hD.z
  have hn32 : n ≤ 32 := by omega
  obtain ⟨-, hm⟩ := hD.m hZ.1 hs
  obtain ⟨-, hmo9⟩ := hD.m hZ.1 ho
  have hmol := hmo9.lt
  have hg9 : ∃ g : Nat → Int32, g = fun k => comb (Am M s k) (Am M o k) 0 := ⟨_, rfl⟩
  obtain ⟨g, hg⟩ := hg9
  have hF := fresh_Mt M n
  have hX := os2_xt M .boolean n n
  have hdl := k_lt hD.1.1
  have hml := hm.lt
  refine g_aload (pc := 587) dL_act_587 rfl trivial ?_
  refine g_invV_r (pc := 589) (As := []) dL_act_589 rfl (k_fresh hD.1.1 hz hn hx) rfl rfl hD.1.1 rfl rfl lk_L_151 rfl (nb rfl) ⟨nb rfl, nb rfl⟩ rfl ?_
  show Go l _ _ _ _ _ _ _ _ ([.ref (mK M).length] : List Value) _ _ (opsM M (os2 .boolean n n (mK M).length))
  generalize hN : (mK M).length = N at *
  generalize opsM M (os2 .boolean n n N) = M1 at *
  have cl : ∀ {My : Mem}, Xt (fun y => N ≤ y) M My → (mK My)[d]? = some (.inr 7) ∧ mI My d 0 = nI n ∧ Mt My (q.2.2.2.1 s) n (q.2.2.2.2.1 s) (fB (Am M s)) := fun {My} h => ⟨h.k hD.1.1, (congrFun (h.I (k_lt hD.1.1) (by omega)) 0).trans hz, hm.xt h (by omega) (fun r hr => by have := hml.2 r hr; omega)⟩

  have hmo : ∀ {My : Mem}, Xt (fun y => N ≤ y) M My → Mt My (q.2.2.2.1 o) n (q.2.2.2.2.1 o) (fB (Am M o)) := fun {My} h => hmo9.xt h (by omega) (fun r hr => by have := hmol.2 r hr; omega)
  have hD1 : DK M1 d n q u := hD.xt hO hX (fun i hi z => z.elim)
  refine g_astore (pc := 592) (lv' := [(0, _), (2, _), (4, _), (5, _), (7, _), (8, _), (9, _), (13, _), (16, _), (17, _), (18, _)]) dL_act_592 trivial (nl rfl) rfl ?_
  refine g_iload (pc := 594) dL_act_594 rfl ?_
  refine g_ldc (pc := 596) dL_act_596 wd_x990 ?_
  refine g_idiv (pc := 598) dL_act_598 (by decide) ?_
  rw [show nI x / 262144 = nI (x / 262144) from nI_div (b := 262144) hx9 (by decide)]
  refine g_iconst (pc := 599) (v := 4) dL_act_599 rfl ?_
  refine g_irem (pc := 600) dL_act_600 (by decide) ?_
  rw [show nI (x / 262144) - nI (x / 262144) / 4 * 4 = nI (x / 262144 % 4) from nI_rem (b := 4) (by omega) (by decide), hw]
  refine g_istore (pc := 601) (lv' := [(0, _), (2, _), (4, _), (5, _), (7, _), (8, _), (9, _), (13, _), (16, _), (17, _), (18, _), (19, _)]) dL_act_601 (nl rfl) rfl ?_
  refine g_aload (pc := 603) dL_act_603 rfl trivial ?_
  refine g_getf (pc := 605) dL_act_605 fk_L_52 hD1.1.1 (fv_arr hD1.1.2.1) ?_
  refine g_iload (pc := 608) dL_act_608 rfl ?_
  refine g_aaload_Z2 (pc := 610) dL_act_610 hD1.2.2.1.1 rfl ho (by omega) (hD1.2.2.2 o ho).1.1 ?_
  refine g_astore (pc := 611) (lv' := [(0, _), (2, _), (4, _), (5, _), (7, _), (8, _), (9, _), (13, _), (16, _), (17, _), (18, _), (19, _), (20, _)]) dL_act_611 trivial (nl rfl) rfl ?_
  skip

  refine g_iconst (pc := 613) (v := 0) dL_act_613 rfl ?_
  refine g_istore (pc := 614) (lv' := [(0, _), (2, _), (4, _), (5, _), (7, _), (8, _), (9, _), (13, _), (16, _), (17, _), (18, _), (19, _), (20, _), (21, _)]) dL_act_614 (nl rfl) rfl ?_
  refine go_forS (pc := 616) n (fun i (_ : Mem) => [(0, .ref 0), (2, .ref P), (4, .ref d), (5, .int (nI x)), (7, .int (nI s)), (8, .int (nI o)), (9, .int (nI t)), (13, .ref nb.1), (16, .int 1), (17, .ref (q.2.2.2.1 s)), (18, .ref N), (19, .int 0), (20, .ref (q.2.2.2.1 o)), (21, .int (nI i))]) (fun z => z) (fun i My => Xt (fun y => N ≤ y) M My ∧ Mt My N n (fun r => N + 1 + r) (fun r c => if r < i ∨ (r = i ∧ c < 0) then hb (g r) c else false)) (fun _ => 1090) (fun _ => 8910) M1 ⟨rfl, rfl, rfl, rfl, rfl, rfl, rfl, rfl, rfl, rfl, rfl, rfl, rfl, rfl, trivial⟩ rfl rfl rfl ⟨hX.up (fun _ _ z => z.elim), hF.cg (fun r c _ _ => (if_neg (by omega)).symm)⟩ ?_ ?_
  · rintro i My hi ⟨g1, g2⟩ ih
    obtain ⟨hd9, hz9, hm9⟩ := cl g1
    refine g_iload (pc := 616) dL_act_616 rfl ?_
    refine g_aload (pc := 618) dL_act_618 rfl trivial ?_
    refine g_getf (pc := 620) (v := .int _) dL_act_620 fk_L_45 hd9 (fun _ => congrArg Value.int (hz9)) ?_
    refine g_icmp_ge (pc := 623) (tgt := 790) dL_act_623 rfl (fun h623 => absurd h623 (nI_ge hi (by omega))) (fun _ => ?_)
    refine g_iconst (pc := 626) (v := 0) dL_act_626 rfl ?_
    refine g_istore (pc := 627) (lv' := [(0, _), (2, _), (4, _), (5, _), (7, _), (8, _), (9, _), (13, _), (16, _), (17, _), (18, _), (19, _), (20, _), (21, _), (22, _)]) dL_act_627 (nl rfl) rfl ?_
    refine g_wk (pc := 629) (Nat.le_refl 1090) (Nat.le_refl 8910) ?_
    refine go_forS (pc := 629) n (fun j (_ : Mem) => [(0, .ref 0), (2, .ref P), (4, .ref d), (5, .int (nI x)), (7, .int (nI s)), (8, .int (nI o)), (9, .int (nI t)), (13, .ref nb.1), (16, .int 1), (17, .ref (q.2.2.2.1 s)), (18, .ref N), (19, .int 0), (20, .ref (q.2.2.2.1 o)), (21, .int (nI i)), (22, .int (nI j))]) (fun z => z) (fun j My => Xt (fun y => N ≤ y) M My ∧ Mt My N n (fun r => N + 1 + r) (fun r c => if r < i ∨ (r = i ∧ c < j) then hb (g r) c else false)) (fun _ => 1090) (fun _ => 8910) My ⟨rfl, rfl, rfl, rfl, rfl, rfl, rfl, rfl, rfl, rfl, rfl, rfl, rfl, rfl, rfl, trivial⟩ rfl rfl rfl ⟨g1, g2⟩ ?_ ?_
    · rintro j Mz hj ⟨f1, f2⟩ ih2
      obtain ⟨hd8, hz8, hm8⟩ := cl f1
      have hput : ∀ v : Bool, v = hb (g (i)) (j) → _ := fun v hv => ih2 (sI Mz (N + 1 + i) (fun_set (mI Mz (N + 1 + i)) (j) (vp_nar .boolean (b1 v)))) ⟨f1.sI (fun _ => by omega), Mt.fill (τ := fun r => r) (σ := fun i => i) f2 hi hj (fun _ h => h) (fun _ _ => rfl) (fun _ _ => rfl) v hv⟩
      have hv : (hb (Am M s i) j && hb (Am M o i) j) = hb (g i) j := by
        rw [hg]
        show _ = hb (comb (Am M s i) (Am M o i) 0) j
        rw [cb_w (by omega)]
        rfl
      have hp8 := hmo f1
      have vx : mI Mz (q.2.2.2.2.1 s i) j = b1 (hb (Am M s i) j) := (hm8.2 i hi).2.2 j hj
      have vy : mI Mz (q.2.2.2.2.1 o i) j = b1 (hb (Am M o i) j) := (hp8.2 i hi).2.2 j hj
      generalize hb (Am M s i) j = X at *
      generalize hb (Am M o i) j = Y at *
      cases X <;> cases Y
      · refine g_iload (pc := 629) dL_act_629 rfl ?_
        refine g_aload (pc := 631) dL_act_631 rfl trivial ?_
        refine g_getf (pc := 633) (v := .int _) dL_act_633 fk_L_45 hd8 (fun _ => congrArg Value.int (hz8)) ?_
        refine g_icmp_ge (pc := 636) (tgt := 784) dL_act_636 rfl (fun h636 => absurd h636 (nI_ge hj (by omega))) (fun _ => ?_)
        refine g_aload (pc := 639) dL_act_639 rfl trivial ?_
        refine g_iload (pc := 641) dL_act_641 rfl ?_
        refine g_aaload_Z1 (pc := 643) dL_act_643 f2.1 rfl hi (by omega) (f2.2 i hi).1 ?_
        refine g_iload (pc := 644) dL_act_644 rfl ?_
        refine g_iload (pc := 646) dL_act_646 rfl ?_
        refine g_if_ne (pc := 648) (tgt := 681) dL_act_648 rfl (fun h648 => absurd h648 ((fun z => z rfl))) (fun _ => ?_)
        refine g_aload (pc := 651) dL_act_651 rfl trivial ?_
        refine g_iload (pc := 653) dL_act_653 rfl ?_
        refine g_aaload_Z1 (pc := 655) dL_act_655 hm8.1 rfl hi (by omega) (hm8.2 i hi).1 ?_
        refine g_iload (pc := 656) dL_act_656 rfl ?_
        refine g_zaload (pc := 658) dL_act_658 (hm8.2 i hi).2.1 rfl hj (by omega) ?_
        rw [vx]
        refine g_if_eq (pc := 659) (tgt := 677) dL_act_659 rfl (fun _ => ?_) (fun h659 => absurd (rfl) h659)
        refine g_iconst (pc := 677) (v := 0) dL_act_677 rfl ?_
        refine g_goto (pc := 678) (tgt := 777) dL_act_678 rfl ?_
        refine g_zastore (pc := 777) dL_act_777 (f2.2 i hi).2.1 rfl hj (by omega) ?_
        refine g_iinc (pc := 778) (lv' := [(0, _), (2, _), (4, _), (5, _), (7, _), (8, _), (9, _), (13, _), (16, _), (17, _), (18, _), (19, _), (20, _), (21, _), (22, _)]) dL_act_778 rfl (nI_1 _) (nl rfl) rfl ?_
        refine g_goto (pc := 781) (tgt := 629) dL_act_781 rfl ?_
        exact g_subk (hput false hv) ⟨rfl, rfl, rfl, rfl, rfl, rfl, rfl, rfl, rfl, rfl, rfl, rfl, rfl, rfl, rfl, trivial⟩
      · refine g_iload (pc := 629) dL_act_629 rfl ?_
        refine g_aload (pc := 631) dL_act_631 rfl trivial ?_
        refine g_getf (pc := 633) (v := .int _) dL_act_633 fk_L_45 hd8 (fun _ => congrArg Value.int (hz8)) ?_
        refine g_icmp_ge (pc := 636) (tgt := 784) dL_act_636 rfl (fun h636 => absurd h636 (nI_ge hj (by omega))) (fun _ => ?_)
        refine g_aload (pc := 639) dL_act_639 rfl trivial ?_
        refine g_iload (pc := 641) dL_act_641 rfl ?_
        refine g_aaload_Z1 (pc := 643) dL_act_643 f2.1 rfl hi (by omega) (f2.2 i hi).1 ?_
        refine g_iload (pc := 644) dL_act_644 rfl ?_
        refine g_iload (pc := 646) dL_act_646 rfl ?_
        refine g_if_ne (pc := 648) (tgt := 681) dL_act_648 rfl (fun h648 => absurd h648 ((fun z => z rfl))) (fun _ => ?_)
        refine g_aload (pc := 651) dL_act_651 rfl trivial ?_
        refine g_iload (pc := 653) dL_act_653 rfl ?_
        refine g_aaload_Z1 (pc := 655) dL_act_655 hm8.1 rfl hi (by omega) (hm8.2 i hi).1 ?_
        refine g_iload (pc := 656) dL_act_656 rfl ?_
        refine g_zaload (pc := 658) dL_act_658 (hm8.2 i hi).2.1 rfl hj (by omega) ?_
        rw [vx]
        refine g_if_eq (pc := 659) (tgt := 677) dL_act_659 rfl (fun _ => ?_) (fun h659 => absurd (rfl) h659)
        refine g_iconst (pc := 677) (v := 0) dL_act_677 rfl ?_
        refine g_goto (pc := 678) (tgt := 777) dL_act_678 rfl ?_
        refine g_zastore (pc := 777) dL_act_777 (f2.2 i hi).2.1 rfl hj (by omega) ?_
        refine g_iinc (pc := 778) (lv' := [(0, _), (2, _), (4, _), (5, _), (7, _), (8, _), (9, _), (13, _), (16, _), (17, _), (18, _), (19, _), (20, _), (21, _), (22, _)]) dL_act_778 rfl (nI_1 _) (nl rfl) rfl ?_
        refine g_goto (pc := 781) (tgt := 629) dL_act_781 rfl ?_
        exact g_subk (hput false hv) ⟨rfl, rfl, rfl, rfl, rfl, rfl, rfl, rfl, rfl, rfl, rfl, rfl, rfl, rfl, rfl, trivial⟩
      · refine g_iload (pc := 629) dL_act_629 rfl ?_
        refine g_aload (pc := 631) dL_act_631 rfl trivial ?_
        refine g_getf (pc := 633) (v := .int _) dL_act_633 fk_L_45 hd8 (fun _ => congrArg Value.int (hz8)) ?_
        refine g_icmp_ge (pc := 636) (tgt := 784) dL_act_636 rfl (fun h636 => absurd h636 (nI_ge hj (by omega))) (fun _ => ?_)
        refine g_aload (pc := 639) dL_act_639 rfl trivial ?_
        refine g_iload (pc := 641) dL_act_641 rfl ?_
        refine g_aaload_Z1 (pc := 643) dL_act_643 f2.1 rfl hi (by omega) (f2.2 i hi).1 ?_
        refine g_iload (pc := 644) dL_act_644 rfl ?_
        refine g_iload (pc := 646) dL_act_646 rfl ?_
        refine g_if_ne (pc := 648) (tgt := 681) dL_act_648 rfl (fun h648 => absurd h648 ((fun z => z rfl))) (fun _ => ?_)
        refine g_aload (pc := 651) dL_act_651 rfl trivial ?_
        refine g_iload (pc := 653) dL_act_653 rfl ?_
        refine g_aaload_Z1 (pc := 655) dL_act_655 hm8.1 rfl hi (by omega) (hm8.2 i hi).1 ?_
        refine g_iload (pc := 656) dL_act_656 rfl ?_
        refine g_zaload (pc := 658) dL_act_658 (hm8.2 i hi).2.1 rfl hj (by omega) ?_
        rw [vx]
        refine g_if_eq (pc := 659) (tgt := 677) dL_act_659 rfl (fun h659 => absurd h659 ((by decide))) (fun _ => ?_)
        refine g_aload (pc := 662) dL_act_662 rfl trivial ?_
        refine g_iload (pc := 664) dL_act_664 rfl ?_
        refine g_aaload_Z1 (pc := 666) dL_act_666 hp8.1 rfl hi (by omega) (hp8.2 i hi).1 ?_
        refine g_iload (pc := 667) dL_act_667 rfl ?_
        refine g_zaload (pc := 669) dL_act_669 (hp8.2 i hi).2.1 rfl hj (by omega) ?_
        rw [vy]
        refine g_if_eq (pc := 670) (tgt := 677) dL_act_670 rfl (fun _ => ?_) (fun h670 => absurd (rfl) h670)
        refine g_iconst (pc := 677) (v := 0) dL_act_677 rfl ?_
        refine g_goto (pc := 678) (tgt := 777) dL_act_678 rfl ?_
        refine g_zastore (pc := 777) dL_act_777 (f2.2 i hi).2.1 rfl hj (by omega) ?_
        refine g_iinc (pc := 778) (lv' := [(0, _), (2, _), (4, _), (5, _), (7, _), (8, _), (9, _), (13, _), (16, _), (17, _), (18, _), (19, _), (20, _), (21, _), (22, _)]) dL_act_778 rfl (nI_1 _) (nl rfl) rfl ?_
        refine g_goto (pc := 781) (tgt := 629) dL_act_781 rfl ?_
        exact g_subk (hput false hv) ⟨rfl, rfl, rfl, rfl, rfl, rfl, rfl, rfl, rfl, rfl, rfl, rfl, rfl, rfl, rfl, trivial⟩
      · refine g_iload (pc := 629) dL_act_629 rfl ?_
        refine g_aload (pc := 631) dL_act_631 rfl trivial ?_
        refine g_getf (pc := 633) (v := .int _) dL_act_633 fk_L_45 hd8 (fun _ => congrArg Value.int (hz8)) ?_
        refine g_icmp_ge (pc := 636) (tgt := 784) dL_act_636 rfl (fun h636 => absurd h636 (nI_ge hj (by omega))) (fun _ => ?_)
        refine g_aload (pc := 639) dL_act_639 rfl trivial ?_
        refine g_iload (pc := 641) dL_act_641 rfl ?_
        refine g_aaload_Z1 (pc := 643) dL_act_643 f2.1 rfl hi (by omega) (f2.2 i hi).1 ?_
        refine g_iload (pc := 644) dL_act_644 rfl ?_
        refine g_iload (pc := 646) dL_act_646 rfl ?_
        refine g_if_ne (pc := 648) (tgt := 681) dL_act_648 rfl (fun h648 => absurd h648 ((fun z => z rfl))) (fun _ => ?_)
        refine g_aload (pc := 651) dL_act_651 rfl trivial ?_
        refine g_iload (pc := 653) dL_act_653 rfl ?_
        refine g_aaload_Z1 (pc := 655) dL_act_655 hm8.1 rfl hi (by omega) (hm8.2 i hi).1 ?_
        refine g_iload (pc := 656) dL_act_656 rfl ?_
        refine g_zaload (pc := 658) dL_act_658 (hm8.2 i hi).2.1 rfl hj (by omega) ?_
        rw [vx]
        refine g_if_eq (pc := 659) (tgt := 677) dL_act_659 rfl (fun h659 => absurd h659 ((by decide))) (fun _ => ?_)
        refine g_aload (pc := 662) dL_act_662 rfl trivial ?_
        refine g_iload (pc := 664) dL_act_664 rfl ?_
        refine g_aaload_Z1 (pc := 666) dL_act_666 hp8.1 rfl hi (by omega) (hp8.2 i hi).1 ?_
        refine g_iload (pc := 667) dL_act_667 rfl ?_
        refine g_zaload (pc := 669) dL_act_669 (hp8.2 i hi).2.1 rfl hj (by omega) ?_
        rw [vy]
        refine g_if_eq (pc := 670) (tgt := 677) dL_act_670 rfl (fun h670 => absurd h670 ((by decide))) (fun _ => ?_)
        refine g_iconst (pc := 673) (v := 1) dL_act_673 rfl ?_
        refine g_goto (pc := 674) (tgt := 777) dL_act_674 rfl ?_
        refine g_zastore (pc := 777) dL_act_777 (f2.2 i hi).2.1 rfl hj (by omega) ?_
        refine g_iinc (pc := 778) (lv' := [(0, _), (2, _), (4, _), (5, _), (7, _), (8, _), (9, _), (13, _), (16, _), (17, _), (18, _), (19, _), (20, _), (21, _), (22, _)]) dL_act_778 rfl (nI_1 _) (nl rfl) rfl ?_
        refine g_goto (pc := 781) (tgt := 629) dL_act_781 rfl ?_
        exact g_subk (hput true hv) ⟨rfl, rfl, rfl, rfl, rfl, rfl, rfl, rfl, rfl, rfl, rfl, rfl, rfl, rfl, rfl, trivial⟩
    · rintro Mz ⟨f1, f2⟩
      obtain ⟨hd8, hz8, hm8⟩ := cl f1
      refine g_iload (pc := 629) dL_act_629 rfl ?_
      refine g_aload (pc := 631) dL_act_631 rfl trivial ?_
      refine g_getf (pc := 633) (v := .int _) dL_act_633 fk_L_45 hd8 (fun _ => congrArg Value.int (hz8)) ?_
      refine g_icmp_ge (pc := 636) (tgt := 784) dL_act_636 rfl (fun _ => ?_) (fun h636 => absurd (nI_le (Nat.le_refl _) (by omega)) h636)
      refine g_iinc (pc := 784) (lv' := [(0, _), (2, _), (4, _), (5, _), (7, _), (8, _), (9, _), (13, _), (16, _), (17, _), (18, _), (19, _), (20, _), (21, _), (22, _)]) dL_act_784 rfl (nI_1 _) (nl rfl) rfl ?_
      refine g_goto (pc := 787) (tgt := 616) dL_act_787 rfl ?_
      exact g_subk (ih Mz ⟨f1, Mt.next (τ := fun r => r) f2 (fun _ h => h)⟩) ⟨rfl, rfl, rfl, rfl, rfl, rfl, rfl, rfl, rfl, rfl, rfl, rfl, rfl, rfl, trivial⟩
  · rintro My ⟨g1, g2⟩
    obtain ⟨hd9, hz9, hm9⟩ := cl g1
    have gM : Mt My N n (fun r => N + 1 + r) (fB g) := g2.cg (fun r c hr hc => if_pos (Or.inl hr))
    have gd : Xt (fun i => i = d) M My := g1.up (fun i hi z => by omega)
    have gD : DK My d n q u := hD.xt hO g1 (fun i hi z => by omega)
    refine g_wk (Nat.le_refl 1090) (Nat.le_refl 8910) ?_

    obtain ⟨M2, e1, e2, e3, e4, e5, e6, e7⟩ := st_law (l := l) (g := g) hD hO gd gD gM (Nat.le_of_eq hN) (by omega) ht (fun _ _ _ _ => rfl) hn32
    have hZ2 := hZ.xt e4 e6 e5
    have hS2 : mS M2 = mS M := e4.2.2.1
    obtain ⟨M3, c1, c2, c3⟩ := c_combine (l := l) hZ2.1 hs ho ht (w := 0) (by decide)
    rw [hZ.am e4 e6 hs, hZ.am e4 e6 ho] at c1 c3
    have hw : onesF g n = nI (cM (fB g) n n) := on_c hn32 (by rw [hg]; exact wf_comb (hZ.1.wf hs) (hZ.1.wf ho)) n (Nat.le_refl n)
    rw [← hg, hw] at c1
    rw [← hg] at c3
    rw [← hS2]
    refine g_iload (pc := 616) dL_act_616 rfl ?_
    refine g_aload (pc := 618) dL_act_618 rfl trivial ?_
    refine g_getf (pc := 620) (v := .int _) dL_act_620 fk_L_45 hd9 (fun _ => congrArg Value.int (hz9)) ?_
    refine g_icmp_ge (pc := 623) (tgt := 790) dL_act_623 rfl (fun _ => ?_) (fun h623 => absurd (nI_le (Nat.le_refl _) (by omega)) h623)
    refine g_aload (pc := 790) dL_act_790 rfl trivial ?_
    refine g_iload (pc := 792) dL_act_792 rfl ?_
    refine g_aload (pc := 794) dL_act_794 rfl trivial ?_
    refine g_invV_r (pc := 796) (As := [_, _]) dL_act_796 rfl (e1) rfl rfl hd9 rfl rfl lk_L_155 rfl (nb rfl) ⟨nb rfl, nb rfl⟩ rfl ?_
    refine g_aload (pc := 799) dL_act_799 rfl trivial ?_
    refine g_aload (pc := 801) dL_act_801 rfl trivial ?_
    refine g_invV_r (pc := 803) (As := [_]) dL_act_803 rfl (k_ones e7 hn) rfl rfl e2.1.1 rfl rfl lk_L_159 rfl (nb rfl) ⟨nb rfl, nb rfl⟩ rfl ?_
    refine g_istore (pc := 806) (lv' := [(0, _), (2, _), (4, _), (5, _), (7, _), (8, _), (9, _), (13, _), (16, _), (17, _), (18, _), (19, _), (20, _), (21, _), (14, _)]) dL_act_806 (nl rfl) rfl ?_
    refine g_aload_n (pc := 808) dL_act_808 rfl trivial ?_
    refine g_iload (pc := 809) dL_act_809 rfl ?_
    refine g_iload (pc := 811) dL_act_811 rfl ?_
    refine g_iload (pc := 813) dL_act_813 rfl ?_
    refine g_iload (pc := 815) dL_act_815 rfl ?_
    refine g_invV_r (pc := 817) (As := [_, _, _, _]) dL_act_817 rfl (c1) rfl rfl (shK hZ2.1.S rfl) rfl rfl lk_L_168 rfl (nb rfl) ⟨nb rfl, nb rfl⟩ rfl ?_
    refine g_istore (pc := 820) (lv' := [(0, _), (2, _), (4, _), (5, _), (7, _), (8, _), (9, _), (13, _), (16, _), (17, _), (18, _), (19, _), (20, _), (21, _), (14, _), (15, _)]) dL_act_820 (nl rfl) rfl ?_
    refine g_goto (pc := 822) (tgt := 1338) dL_act_822 rfl ?_
    refine g_wk (pc := 1338) (k := 2) (n := 16) (by decide) (by decide) ?_
    exact g_subk (k_fin hZ2 hu e2 e3 c2 c3) ⟨rfl, rfl, rfl, rfl, rfl, rfl, trivial⟩
theorem act_51 (hZ : AZ M A P n p os.length d u (usO os) ρ eo os nb) (hu : nb.2.2 = u) (hD : DK M d n q u) (hO : OW ρ d n q) (hx9 : x < 2147483648) (hw : x / 262144 % 4 = 1) (hs : s < 6) (ho : o < 6) (ht : t < 6) : Go l jL_act 12 400 MC MS (QA A P n (mS M)) 587 [(0, .ref 0), (2, .ref P), (4, .ref d), (5, .int (nI x)), (7, .int (nI s)), (8, .int (nI o)), (9, .int (nI t)), (13, .ref nb.1), (16, .int 1), (17, .ref (q.2.2.2.1 s))] [] 1100 9000 M := by
  have hn := hZ.2.2.2.2.2.2
  have hx := hZ.x
  have hz := hD.z
  have hn32 : n ≤ 32 := by omega
  obtain ⟨-, hm⟩ := hD.m hZ.1 hs
  obtain ⟨-, hmo9⟩ := hD.m hZ.1 ho
  have hmol := hmo9.lt
  have hg9 : ∃ g : Nat → Int32, g = fun k => comb (Am M s k) (Am M o k) 1 := ⟨_, rfl⟩
  obtain ⟨g, hg⟩ := hg9
  have hF := fresh_Mt M n
  have hX := os2_xt M .boolean n n
  have hdl := k_lt hD.1.1
  have hml := hm.lt
  refine g_aload (pc := 587) dL_act_587 rfl trivial ?_
  refine g_invV_r (pc := 589) (As := []) dL_act_589 rfl (k_fresh hD.1.1 hz hn hx) rfl rfl hD.1.1 rfl rfl lk_L_151 rfl (nb rfl) ⟨nb rfl, nb rfl⟩ rfl ?_
  show Go l _ _ _ _ _ _ _ _ ([.ref (mK M).length] : List Value) _ _ (opsM M (os2 .boolean n n (mK M).length))
  generalize hN : (mK M).length = N at *
  generalize opsM M (os2 .boolean n n N) = M1 at *
  have cl : ∀ {My : Mem}, Xt (fun y => N ≤ y) M My → (mK My)[d]? = some (.inr 7) ∧ mI My d 0 = nI n ∧ Mt My (q.2.2.2.1 s) n (q.2.2.2.2.1 s) (fB (Am M s)) := fun {My} h => ⟨h.k hD.1.1, (congrFun (h.I (k_lt hD.1.1) (by omega)) 0).trans hz, hm.xt h (by omega) (fun r hr => by have := hml.2 r hr; omega)⟩

  have hmo : ∀ {My : Mem}, Xt (fun y => N ≤ y) M My → Mt My (q.2.2.2.1 o) n (q.2.2.2.2.1 o) (fB (Am M o)) := fun {My} h => hmo9.xt h (by omega) (fun r hr => by have := hmol.2 r hr; omega)
  have hD1 : DK M1 d n q u := hD.xt hO hX (fun i hi z => z.elim)
  refine g_astore (pc := 592) (lv' := [(0, _), (2, _), (4, _), (5, _), (7, _), (8, _), (9, _), (13, _), (16, _), (17, _), (18, _)]) dL_act_592 trivial (nl rfl) rfl ?_
  refine g_iload (pc := 594) dL_act_594 rfl ?_
  refine g_ldc (pc := 596) dL_act_596 wd_x990 ?_
  refine g_idiv (pc := 598) dL_act_598 (by decide) ?_
  rw [show nI x / 262144 = nI (x / 262144) from nI_div (b := 262144) hx9 (by decide)]
  refine g_iconst (pc := 599) (v := 4) dL_act_599 rfl ?_
  refine g_irem (pc := 600) dL_act_600 (by decide) ?_
  rw [show nI (x / 262144) - nI (x / 262144) / 4 * 4 = nI (x / 262144 % 4) from nI_rem (b := 4) (by omega) (by decide), hw]
  refine g_istore (pc := 601) (lv' := [(0, _), (2, _), (4, _), (5, _), (7, _), (8, _), (9, _), (13, _), (16, _), (17, _), (18, _), (19, _)]) dL_act_601 (nl rfl) rfl ?_
  refine g_aload (pc := 603) dL_act_603 rfl trivial ?_
  refine g_getf (pc := 605) dL_act_605 fk_L_52 hD1.1.1 (fv_arr hD1.1.2.1) ?_
  refine g_iload (pc := 608) dL_act_608 rfl ?_
  refine g_aaload_Z2 (pc := 610) dL_act_610 hD1.2.2.1.1 rfl ho (by omega) (hD1.2.2.2 o ho).1.1 ?_
  refine g_astore (pc := 611) (lv' := [(0, _), (2, _), (4, _), (5, _), (7, _), (8, _), (9, _), (13, _), (16, _), (17, _), (18, _), (19, _), (20, _)]) dL_act_611 trivial (nl rfl) rfl ?_
  skip

  refine g_iconst (pc := 613) (v := 0) dL_act_613 rfl ?_
  refine g_istore (pc := 614) (lv' := [(0, _), (2, _), (4, _), (5, _), (7, _), (8, _), (9, _), (13, _), (16, _), (17, _), (18, _), (19, _), (20, _), (21, _)]) dL_act_614 (nl rfl) rfl ?_
  refine go_forS (pc := 616) n (fun i (_ : Mem) => [(0, .ref 0), (2, .ref P), (4, .ref d), (5, .int (nI x)), (7, .int (nI s)), (8, .int (nI o)), (9, .int (nI t)), (13, .ref nb.1), (16, .int 1), (17, .ref (q.2.2.2.1 s)), (18, .ref N), (19, .int 1), (20, .ref (q.2.2.2.1 o)), (21, .int (nI i))]) (fun z => z) (fun i My => Xt (fun y => N ≤ y) M My ∧ Mt My N n (fun r => N + 1 + r) (fun r c => if r < i ∨ (r = i ∧ c < 0) then hb (g r) c else false)) (fun _ => 1090) (fun _ => 8910) M1 ⟨rfl, rfl, rfl, rfl, rfl, rfl, rfl, rfl, rfl, rfl, rfl, rfl, rfl, rfl, trivial⟩ rfl rfl rfl ⟨hX.up (fun _ _ z => z.elim), hF.cg (fun r c _ _ => (if_neg (by omega)).symm)⟩ ?_ ?_
  · rintro i My hi ⟨g1, g2⟩ ih
    obtain ⟨hd9, hz9, hm9⟩ := cl g1
    refine g_iload (pc := 616) dL_act_616 rfl ?_
    refine g_aload (pc := 618) dL_act_618 rfl trivial ?_
    refine g_getf (pc := 620) (v := .int _) dL_act_620 fk_L_45 hd9 (fun _ => congrArg Value.int (hz9)) ?_
    refine g_icmp_ge (pc := 623) (tgt := 790) dL_act_623 rfl (fun h623 => absurd h623 (nI_ge hi (by omega))) (fun _ => ?_)
    refine g_iconst (pc := 626) (v := 0) dL_act_626 rfl ?_
    refine g_istore (pc := 627) (lv' := [(0, _), (2, _), (4, _), (5, _), (7, _), (8, _), (9, _), (13, _), (16, _), (17, _), (18, _), (19, _), (20, _), (21, _), (22, _)]) dL_act_627 (nl rfl) rfl ?_
    refine g_wk (pc := 629) (Nat.le_refl 1090) (Nat.le_refl 8910) ?_
    refine go_forS (pc := 629) n (fun j (_ : Mem) => [(0, .ref 0), (2, .ref P), (4, .ref d), (5, .int (nI x)), (7, .int (nI s)), (8, .int (nI o)), (9, .int (nI t)), (13, .ref nb.1), (16, .int 1), (17, .ref (q.2.2.2.1 s)), (18, .ref N), (19, .int 1), (20, .ref (q.2.2.2.1 o)), (21, .int (nI i)), (22, .int (nI j))]) (fun z => z) (fun j My => Xt (fun y => N ≤ y) M My ∧ Mt My N n (fun r => N + 1 + r) (fun r c => if r < i ∨ (r = i ∧ c < j) then hb (g r) c else false)) (fun _ => 1090) (fun _ => 8910) My ⟨rfl, rfl, rfl, rfl, rfl, rfl, rfl, rfl, rfl, rfl, rfl, rfl, rfl, rfl, rfl, trivial⟩ rfl rfl rfl ⟨g1, g2⟩ ?_ ?_
    · rintro j Mz hj ⟨f1, f2⟩ ih2
      obtain ⟨hd8, hz8, hm8⟩ := cl f1
      have hput : ∀ v : Bool, v = hb (g (i)) (j) → _ := fun v hv => ih2 (sI Mz (N + 1 + i) (fun_set (mI Mz (N + 1 + i)) (j) (vp_nar .boolean (b1 v)))) ⟨f1.sI (fun _ => by omega), Mt.fill (τ := fun r => r) (σ := fun i => i) f2 hi hj (fun _ h => h) (fun _ _ => rfl) (fun _ _ => rfl) v hv⟩
      have hv : (hb (Am M s i) j || hb (Am M o i) j) = hb (g i) j := by
        rw [hg]
        show _ = hb (comb (Am M s i) (Am M o i) 1) j
        rw [cb_w (by omega)]
        rfl
      have hp8 := hmo f1
      have vx : mI Mz (q.2.2.2.2.1 s i) j = b1 (hb (Am M s i) j) := (hm8.2 i hi).2.2 j hj
      have vy : mI Mz (q.2.2.2.2.1 o i) j = b1 (hb (Am M o i) j) := (hp8.2 i hi).2.2 j hj
      generalize hb (Am M s i) j = X at *
      generalize hb (Am M o i) j = Y at *
      cases X <;> cases Y
      · refine g_iload (pc := 629) dL_act_629 rfl ?_
        refine g_aload (pc := 631) dL_act_631 rfl trivial ?_
        refine g_getf (pc := 633) (v := .int _) dL_act_633 fk_L_45 hd8 (fun _ => congrArg Value.int (hz8)) ?_
        refine g_icmp_ge (pc := 636) (tgt := 784) dL_act_636 rfl (fun h636 => absurd h636 (nI_ge hj (by omega))) (fun _ => ?_)
        refine g_aload (pc := 639) dL_act_639 rfl trivial ?_
        refine g_iload (pc := 641) dL_act_641 rfl ?_
        refine g_aaload_Z1 (pc := 643) dL_act_643 f2.1 rfl hi (by omega) (f2.2 i hi).1 ?_
        refine g_iload (pc := 644) dL_act_644 rfl ?_
        refine g_iload (pc := 646) dL_act_646 rfl ?_
        refine g_if_ne (pc := 648) (tgt := 681) dL_act_648 rfl (fun _ => ?_) (fun h648 => absurd ((by decide)) h648)
        refine g_iload (pc := 681) dL_act_681 rfl ?_
        refine g_iconst (pc := 683) (v := 1) dL_act_683 rfl ?_
        refine g_icmp_ne (pc := 684) (tgt := 717) dL_act_684 rfl (fun h684 => absurd h684 ((fun z => z rfl))) (fun _ => ?_)
        refine g_aload (pc := 687) dL_act_687 rfl trivial ?_
        refine g_iload (pc := 689) dL_act_689 rfl ?_
        refine g_aaload_Z1 (pc := 691) dL_act_691 hm8.1 rfl hi (by omega) (hm8.2 i hi).1 ?_
        refine g_iload (pc := 692) dL_act_692 rfl ?_
        refine g_zaload (pc := 694) dL_act_694 (hm8.2 i hi).2.1 rfl hj (by omega) ?_
        rw [vx]
        refine g_if_ne (pc := 695) (tgt := 709) dL_act_695 rfl (fun h695 => absurd h695 ((fun z => z rfl))) (fun _ => ?_)
        refine g_aload (pc := 698) dL_act_698 rfl trivial ?_
        refine g_iload (pc := 700) dL_act_700 rfl ?_
        refine g_aaload_Z1 (pc := 702) dL_act_702 hp8.1 rfl hi (by omega) (hp8.2 i hi).1 ?_
        refine g_iload (pc := 703) dL_act_703 rfl ?_
        refine g_zaload (pc := 705) dL_act_705 (hp8.2 i hi).2.1 rfl hj (by omega) ?_
        rw [vy]
        refine g_if_eq (pc := 706) (tgt := 713) dL_act_706 rfl (fun _ => ?_) (fun h706 => absurd (rfl) h706)
        refine g_iconst (pc := 713) (v := 0) dL_act_713 rfl ?_
        refine g_goto (pc := 714) (tgt := 777) dL_act_714 rfl ?_
        refine g_zastore (pc := 777) dL_act_777 (f2.2 i hi).2.1 rfl hj (by omega) ?_
        refine g_iinc (pc := 778) (lv' := [(0, _), (2, _), (4, _), (5, _), (7, _), (8, _), (9, _), (13, _), (16, _), (17, _), (18, _), (19, _), (20, _), (21, _), (22, _)]) dL_act_778 rfl (nI_1 _) (nl rfl) rfl ?_
        refine g_goto (pc := 781) (tgt := 629) dL_act_781 rfl ?_
        exact g_subk (hput false hv) ⟨rfl, rfl, rfl, rfl, rfl, rfl, rfl, rfl, rfl, rfl, rfl, rfl, rfl, rfl, rfl, trivial⟩
      · refine g_iload (pc := 629) dL_act_629 rfl ?_
        refine g_aload (pc := 631) dL_act_631 rfl trivial ?_
        refine g_getf (pc := 633) (v := .int _) dL_act_633 fk_L_45 hd8 (fun _ => congrArg Value.int (hz8)) ?_
        refine g_icmp_ge (pc := 636) (tgt := 784) dL_act_636 rfl (fun h636 => absurd h636 (nI_ge hj (by omega))) (fun _ => ?_)
        refine g_aload (pc := 639) dL_act_639 rfl trivial ?_
        refine g_iload (pc := 641) dL_act_641 rfl ?_
        refine g_aaload_Z1 (pc := 643) dL_act_643 f2.1 rfl hi (by omega) (f2.2 i hi).1 ?_
        refine g_iload (pc := 644) dL_act_644 rfl ?_
        refine g_iload (pc := 646) dL_act_646 rfl ?_
        refine g_if_ne (pc := 648) (tgt := 681) dL_act_648 rfl (fun _ => ?_) (fun h648 => absurd ((by decide)) h648)
        refine g_iload (pc := 681) dL_act_681 rfl ?_
        refine g_iconst (pc := 683) (v := 1) dL_act_683 rfl ?_
        refine g_icmp_ne (pc := 684) (tgt := 717) dL_act_684 rfl (fun h684 => absurd h684 ((fun z => z rfl))) (fun _ => ?_)
        refine g_aload (pc := 687) dL_act_687 rfl trivial ?_
        refine g_iload (pc := 689) dL_act_689 rfl ?_
        refine g_aaload_Z1 (pc := 691) dL_act_691 hm8.1 rfl hi (by omega) (hm8.2 i hi).1 ?_
        refine g_iload (pc := 692) dL_act_692 rfl ?_
        refine g_zaload (pc := 694) dL_act_694 (hm8.2 i hi).2.1 rfl hj (by omega) ?_
        rw [vx]
        refine g_if_ne (pc := 695) (tgt := 709) dL_act_695 rfl (fun h695 => absurd h695 ((fun z => z rfl))) (fun _ => ?_)
        refine g_aload (pc := 698) dL_act_698 rfl trivial ?_
        refine g_iload (pc := 700) dL_act_700 rfl ?_
        refine g_aaload_Z1 (pc := 702) dL_act_702 hp8.1 rfl hi (by omega) (hp8.2 i hi).1 ?_
        refine g_iload (pc := 703) dL_act_703 rfl ?_
        refine g_zaload (pc := 705) dL_act_705 (hp8.2 i hi).2.1 rfl hj (by omega) ?_
        rw [vy]
        refine g_if_eq (pc := 706) (tgt := 713) dL_act_706 rfl (fun h706 => absurd h706 ((by decide))) (fun _ => ?_)
        refine g_iconst (pc := 709) (v := 1) dL_act_709 rfl ?_
        refine g_goto (pc := 710) (tgt := 777) dL_act_710 rfl ?_
        refine g_zastore (pc := 777) dL_act_777 (f2.2 i hi).2.1 rfl hj (by omega) ?_
        refine g_iinc (pc := 778) (lv' := [(0, _), (2, _), (4, _), (5, _), (7, _), (8, _), (9, _), (13, _), (16, _), (17, _), (18, _), (19, _), (20, _), (21, _), (22, _)]) dL_act_778 rfl (nI_1 _) (nl rfl) rfl ?_
        refine g_goto (pc := 781) (tgt := 629) dL_act_781 rfl ?_
        exact g_subk (hput true hv) ⟨rfl, rfl, rfl, rfl, rfl, rfl, rfl, rfl, rfl, rfl, rfl, rfl, rfl, rfl, rfl, trivial⟩
      · refine g_iload (pc := 629) dL_act_629 rfl ?_
        refine g_aload (pc := 631) dL_act_631 rfl trivial ?_
        refine g_getf (pc := 633) (v := .int _) dL_act_633 fk_L_45 hd8 (fun _ => congrArg Value.int (hz8)) ?_
        refine g_icmp_ge (pc := 636) (tgt := 784) dL_act_636 rfl (fun h636 => absurd h636 (nI_ge hj (by omega))) (fun _ => ?_)
        refine g_aload (pc := 639) dL_act_639 rfl trivial ?_
        refine g_iload (pc := 641) dL_act_641 rfl ?_
        refine g_aaload_Z1 (pc := 643) dL_act_643 f2.1 rfl hi (by omega) (f2.2 i hi).1 ?_
        refine g_iload (pc := 644) dL_act_644 rfl ?_
        refine g_iload (pc := 646) dL_act_646 rfl ?_
        refine g_if_ne (pc := 648) (tgt := 681) dL_act_648 rfl (fun _ => ?_) (fun h648 => absurd ((by decide)) h648)
        refine g_iload (pc := 681) dL_act_681 rfl ?_
        refine g_iconst (pc := 683) (v := 1) dL_act_683 rfl ?_
        refine g_icmp_ne (pc := 684) (tgt := 717) dL_act_684 rfl (fun h684 => absurd h684 ((fun z => z rfl))) (fun _ => ?_)
        refine g_aload (pc := 687) dL_act_687 rfl trivial ?_
        refine g_iload (pc := 689) dL_act_689 rfl ?_
        refine g_aaload_Z1 (pc := 691) dL_act_691 hm8.1 rfl hi (by omega) (hm8.2 i hi).1 ?_
        refine g_iload (pc := 692) dL_act_692 rfl ?_
        refine g_zaload (pc := 694) dL_act_694 (hm8.2 i hi).2.1 rfl hj (by omega) ?_
        rw [vx]
        refine g_if_ne (pc := 695) (tgt := 709) dL_act_695 rfl (fun _ => ?_) (fun h695 => absurd ((by decide)) h695)
        refine g_iconst (pc := 709) (v := 1) dL_act_709 rfl ?_
        refine g_goto (pc := 710) (tgt := 777) dL_act_710 rfl ?_
        refine g_zastore (pc := 777) dL_act_777 (f2.2 i hi).2.1 rfl hj (by omega) ?_
        refine g_iinc (pc := 778) (lv' := [(0, _), (2, _), (4, _), (5, _), (7, _), (8, _), (9, _), (13, _), (16, _), (17, _), (18, _), (19, _), (20, _), (21, _), (22, _)]) dL_act_778 rfl (nI_1 _) (nl rfl) rfl ?_
        refine g_goto (pc := 781) (tgt := 629) dL_act_781 rfl ?_
        exact g_subk (hput true hv) ⟨rfl, rfl, rfl, rfl, rfl, rfl, rfl, rfl, rfl, rfl, rfl, rfl, rfl, rfl, rfl, trivial⟩
      · refine g_iload (pc := 629) dL_act_629 rfl ?_
        refine g_aload (pc := 631) dL_act_631 rfl trivial ?_
        refine g_getf (pc := 633) (v := .int _) dL_act_633 fk_L_45 hd8 (fun _ => congrArg Value.int (hz8)) ?_
        refine g_icmp_ge (pc := 636) (tgt := 784) dL_act_636 rfl (fun h636 => absurd h636 (nI_ge hj (by omega))) (fun _ => ?_)
        refine g_aload (pc := 639) dL_act_639 rfl trivial ?_
        refine g_iload (pc := 641) dL_act_641 rfl ?_
        refine g_aaload_Z1 (pc := 643) dL_act_643 f2.1 rfl hi (by omega) (f2.2 i hi).1 ?_
        refine g_iload (pc := 644) dL_act_644 rfl ?_
        refine g_iload (pc := 646) dL_act_646 rfl ?_
        refine g_if_ne (pc := 648) (tgt := 681) dL_act_648 rfl (fun _ => ?_) (fun h648 => absurd ((by decide)) h648)
        refine g_iload (pc := 681) dL_act_681 rfl ?_
        refine g_iconst (pc := 683) (v := 1) dL_act_683 rfl ?_
        refine g_icmp_ne (pc := 684) (tgt := 717) dL_act_684 rfl (fun h684 => absurd h684 ((fun z => z rfl))) (fun _ => ?_)
        refine g_aload (pc := 687) dL_act_687 rfl trivial ?_
        refine g_iload (pc := 689) dL_act_689 rfl ?_
        refine g_aaload_Z1 (pc := 691) dL_act_691 hm8.1 rfl hi (by omega) (hm8.2 i hi).1 ?_
        refine g_iload (pc := 692) dL_act_692 rfl ?_
        refine g_zaload (pc := 694) dL_act_694 (hm8.2 i hi).2.1 rfl hj (by omega) ?_
        rw [vx]
        refine g_if_ne (pc := 695) (tgt := 709) dL_act_695 rfl (fun _ => ?_) (fun h695 => absurd ((by decide)) h695)
        refine g_iconst (pc := 709) (v := 1) dL_act_709 rfl ?_
        refine g_goto (pc := 710) (tgt := 777) dL_act_710 rfl ?_
        refine g_zastore (pc := 777) dL_act_777 (f2.2 i hi).2.1 rfl hj (by omega) ?_
        refine g_iinc (pc := 778) (lv' := [(0, _), (2, _), (4, _), (5, _), (7, _), (8, _), (9, _), (13, _), (16, _), (17, _), (18, _), (19, _), (20, _), (21, _), (22, _)]) dL_act_778 rfl (nI_1 _) (nl rfl) rfl ?_
        refine g_goto (pc := 781) (tgt := 629) dL_act_781 rfl ?_
        exact g_subk (hput true hv) ⟨rfl, rfl, rfl, rfl, rfl, rfl, rfl, rfl, rfl, rfl, rfl, rfl, rfl, rfl, rfl, trivial⟩
    · rintro Mz ⟨f1, f2⟩
      obtain ⟨hd8, hz8, hm8⟩ := cl f1
      refine g_iload (pc := 629) dL_act_629 rfl ?_
      refine g_aload (pc := 631) dL_act_631 rfl trivial ?_
      refine g_getf (pc := 633) (v := .int _) dL_act_633 fk_L_45 hd8 (fun _ => congrArg Value.int (hz8)) ?_
      refine g_icmp_ge (pc := 636) (tgt := 784) dL_act_636 rfl (fun _ => ?_) (fun h636 => absurd (nI_le (Nat.le_refl _) (by omega)) h636)
      refine g_iinc (pc := 784) (lv' := [(0, _), (2, _), (4, _), (5, _), (7, _), (8, _), (9, _), (13, _), (16, _), (17, _), (18, _), (19, _), (20, _), (21, _), (22, _)]) dL_act_784 rfl (nI_1 _) (nl rfl) rfl ?_
      refine g_goto (pc := 787) (tgt := 616) dL_act_787 rfl ?_
      exact g_subk (ih Mz ⟨f1, Mt.next (τ := fun r => r) f2 (fun _ h => h)⟩) ⟨rfl, rfl, rfl, rfl, rfl, rfl, rfl, rfl, rfl, rfl, rfl, rfl, rfl, rfl, trivial⟩
  · rintro My ⟨g1, g2⟩
    obtain ⟨hd9, hz9, hm9⟩ := cl g1
    have gM : Mt My N n (fun r => N + 1 + r) (fB g) := g2.cg (fun r c hr hc => if_pos (Or.inl hr))
    have gd : Xt (fun i => i = d) M My := g1.up (fun i hi z => by omega)
    have gD : DK My d n q u := hD.xt hO g1 (fun i hi z => by omega)
    refine g_wk (Nat.le_refl 1090) (Nat.le_refl 8910) ?_

    obtain ⟨M2, e1, e2, e3, e4, e5, e6, e7⟩ := st_law (l := l) (g := g) hD hO gd gD gM (Nat.le_of_eq hN) (by omega) ht (fun _ _ _ _ => rfl) hn32
    have hZ2 := hZ.xt e4 e6 e5
    have hS2 : mS M2 = mS M := e4.2.2.1
    obtain ⟨M3, c1, c2, c3⟩ := c_combine (l := l) hZ2.1 hs ho ht (w := 1) (by decide)
    rw [hZ.am e4 e6 hs, hZ.am e4 e6 ho] at c1 c3
    have hw : onesF g n = nI (cM (fB g) n n) := on_c hn32 (by rw [hg]; exact wf_comb (hZ.1.wf hs) (hZ.1.wf ho)) n (Nat.le_refl n)
    rw [← hg, hw] at c1
    rw [← hg] at c3
    rw [← hS2]
    refine g_iload (pc := 616) dL_act_616 rfl ?_
    refine g_aload (pc := 618) dL_act_618 rfl trivial ?_
    refine g_getf (pc := 620) (v := .int _) dL_act_620 fk_L_45 hd9 (fun _ => congrArg Value.int (hz9)) ?_
    refine g_icmp_ge (pc := 623) (tgt := 790) dL_act_623 rfl (fun _ => ?_) (fun h623 => absurd (nI_le (Nat.le_refl _) (by omega)) h623)
    refine g_aload (pc := 790) dL_act_790 rfl trivial ?_
    refine g_iload (pc := 792) dL_act_792 rfl ?_
    refine g_aload (pc := 794) dL_act_794 rfl trivial ?_
    refine g_invV_r (pc := 796) (As := [_, _]) dL_act_796 rfl (e1) rfl rfl hd9 rfl rfl lk_L_155 rfl (nb rfl) ⟨nb rfl, nb rfl⟩ rfl ?_
    refine g_aload (pc := 799) dL_act_799 rfl trivial ?_
    refine g_aload (pc := 801) dL_act_801 rfl trivial ?_
    refine g_invV_r (pc := 803) (As := [_]) dL_act_803 rfl (k_ones e7 hn) rfl rfl e2.1.1 rfl rfl lk_L_159 rfl (nb rfl) ⟨nb rfl, nb rfl⟩ rfl ?_
    refine g_istore (pc := 806) (lv' := [(0, _), (2, _), (4, _), (5, _), (7, _), (8, _), (9, _), (13, _), (16, _), (17, _), (18, _), (19, _), (20, _), (21, _), (14, _)]) dL_act_806 (nl rfl) rfl ?_
    refine g_aload_n (pc := 808) dL_act_808 rfl trivial ?_
    refine g_iload (pc := 809) dL_act_809 rfl ?_
    refine g_iload (pc := 811) dL_act_811 rfl ?_
    refine g_iload (pc := 813) dL_act_813 rfl ?_
    refine g_iload (pc := 815) dL_act_815 rfl ?_
    refine g_invV_r (pc := 817) (As := [_, _, _, _]) dL_act_817 rfl (c1) rfl rfl (shK hZ2.1.S rfl) rfl rfl lk_L_168 rfl (nb rfl) ⟨nb rfl, nb rfl⟩ rfl ?_
    refine g_istore (pc := 820) (lv' := [(0, _), (2, _), (4, _), (5, _), (7, _), (8, _), (9, _), (13, _), (16, _), (17, _), (18, _), (19, _), (20, _), (21, _), (14, _), (15, _)]) dL_act_820 (nl rfl) rfl ?_
    refine g_goto (pc := 822) (tgt := 1338) dL_act_822 rfl ?_
    refine g_wk (pc := 1338) (k := 2) (n := 16) (by decide) (by decide) ?_
    exact g_subk (k_fin hZ2 hu e2 e3 c2 c3) ⟨rfl, rfl, rfl, rfl, rfl, rfl, trivial⟩
theorem act_52 (hZ : AZ M A P n p os.length d u (usO os) ρ eo os nb) (hu : nb.2.2 = u) (hD : DK M d n q u) (hO : OW ρ d n q) (hx9 : x < 2147483648) (hw : x / 262144 % 4 = 2) (hs : s < 6) (ho : o < 6) (ht : t < 6) : Go l jL_act 12 400 MC MS (QA A P n (mS M)) 587 [(0, .ref 0), (2, .ref P), (4, .ref d), (5, .int (nI x)), (7, .int (nI s)), (8, .int (nI o)), (9, .int (nI t)), (13, .ref nb.1), (16, .int 1), (17, .ref (q.2.2.2.1 s))] [] 1100 9000 M := by
  have hn := hZ.2.2.2.2.2.2
  have hx := hZ.x
  have hz := hD.z
  have hn32 : n ≤ 32 := by omega
  obtain ⟨-, hm⟩ := hD.m hZ.1 hs
  obtain ⟨-, hmo9⟩ := hD.m hZ.1 ho
  have hmol := hmo9.lt
  have hg9 : ∃ g : Nat → Int32, g = fun k => comb (Am M s k) (Am M o k) 2 := ⟨_, rfl⟩
  obtain ⟨g, hg⟩ := hg9
  have hF := fresh_Mt M n
  have hX := os2_xt M .boolean n n
  have hdl := k_lt hD.1.1
  have hml := hm.lt
  refine g_aload (pc := 587) dL_act_587 rfl trivial ?_
  refine g_invV_r (pc := 589) (As := []) dL_act_589 rfl (k_fresh hD.1.1 hz hn hx) rfl rfl hD.1.1 rfl rfl lk_L_151 rfl (nb rfl) ⟨nb rfl, nb rfl⟩ rfl ?_
  show Go l _ _ _ _ _ _ _ _ ([.ref (mK M).length] : List Value) _ _ (opsM M (os2 .boolean n n (mK M).length))
  generalize hN : (mK M).length = N at *
  generalize opsM M (os2 .boolean n n N) = M1 at *
  have cl : ∀ {My : Mem}, Xt (fun y => N ≤ y) M My → (mK My)[d]? = some (.inr 7) ∧ mI My d 0 = nI n ∧ Mt My (q.2.2.2.1 s) n (q.2.2.2.2.1 s) (fB (Am M s)) := fun {My} h => ⟨h.k hD.1.1, (congrFun (h.I (k_lt hD.1.1) (by omega)) 0).trans hz, hm.xt h (by omega) (fun r hr => by have := hml.2 r hr; omega)⟩

  have hmo : ∀ {My : Mem}, Xt (fun y => N ≤ y) M My → Mt My (q.2.2.2.1 o) n (q.2.2.2.2.1 o) (fB (Am M o)) := fun {My} h => hmo9.xt h (by omega) (fun r hr => by have := hmol.2 r hr; omega)
  have hD1 : DK M1 d n q u := hD.xt hO hX (fun i hi z => z.elim)
  refine g_astore (pc := 592) (lv' := [(0, _), (2, _), (4, _), (5, _), (7, _), (8, _), (9, _), (13, _), (16, _), (17, _), (18, _)]) dL_act_592 trivial (nl rfl) rfl ?_
  refine g_iload (pc := 594) dL_act_594 rfl ?_
  refine g_ldc (pc := 596) dL_act_596 wd_x990 ?_
  refine g_idiv (pc := 598) dL_act_598 (by decide) ?_
  rw [show nI x / 262144 = nI (x / 262144) from nI_div (b := 262144) hx9 (by decide)]
  refine g_iconst (pc := 599) (v := 4) dL_act_599 rfl ?_
  refine g_irem (pc := 600) dL_act_600 (by decide) ?_
  rw [show nI (x / 262144) - nI (x / 262144) / 4 * 4 = nI (x / 262144 % 4) from nI_rem (b := 4) (by omega) (by decide), hw]
  refine g_istore (pc := 601) (lv' := [(0, _), (2, _), (4, _), (5, _), (7, _), (8, _), (9, _), (13, _), (16, _), (17, _), (18, _), (19, _)]) dL_act_601 (nl rfl) rfl ?_
  refine g_aload (pc := 603) dL_act_603 rfl trivial ?_
  refine g_getf (pc := 605) dL_act_605 fk_L_52 hD1.1.1 (fv_arr hD1.1.2.1) ?_
  refine g_iload (pc := 608) dL_act_608 rfl ?_
  refine g_aaload_Z2 (pc := 610) dL_act_610 hD1.2.2.1.1 rfl ho (by omega) (hD1.2.2.2 o ho).1.1 ?_
  refine g_astore (pc := 611) (lv' := [(0, _), (2, _), (4, _), (5, _), (7, _), (8, _), (9, _), (13, _), (16, _), (17, _), (18, _), (19, _), (20, _)]) dL_act_611 trivial (nl rfl) rfl ?_
  skip

  refine g_iconst (pc := 613) (v := 0) dL_act_613 rfl ?_
  refine g_istore (pc := 614) (lv' := [(0, _), (2, _), (4, _), (5, _), (7, _), (8, _), (9, _), (13, _), (16, _), (17, _), (18, _), (19, _), (20, _), (21, _)]) dL_act_614 (nl rfl) rfl ?_
  refine go_forS (pc := 616) n (fun i (_ : Mem) => [(0, .ref 0), (2, .ref P), (4, .ref d), (5, .int (nI x)), (7, .int (nI s)), (8, .int (nI o)), (9, .int (nI t)), (13, .ref nb.1), (16, .int 1), (17, .ref (q.2.2.2.1 s)), (18, .ref N), (19, .int 2), (20, .ref (q.2.2.2.1 o)), (21, .int (nI i))]) (fun z => z) (fun i My => Xt (fun y => N ≤ y) M My ∧ Mt My N n (fun r => N + 1 + r) (fun r c => if r < i ∨ (r = i ∧ c < 0) then hb (g r) c else false)) (fun _ => 1090) (fun _ => 8910) M1 ⟨rfl, rfl, rfl, rfl, rfl, rfl, rfl, rfl, rfl, rfl, rfl, rfl, rfl, rfl, trivial⟩ rfl rfl rfl ⟨hX.up (fun _ _ z => z.elim), hF.cg (fun r c _ _ => (if_neg (by omega)).symm)⟩ ?_ ?_
  · rintro i My hi ⟨g1, g2⟩ ih
    obtain ⟨hd9, hz9, hm9⟩ := cl g1
    refine g_iload (pc := 616) dL_act_616 rfl ?_
    refine g_aload (pc := 618) dL_act_618 rfl trivial ?_
    refine g_getf (pc := 620) (v := .int _) dL_act_620 fk_L_45 hd9 (fun _ => congrArg Value.int (hz9)) ?_
    refine g_icmp_ge (pc := 623) (tgt := 790) dL_act_623 rfl (fun h623 => absurd h623 (nI_ge hi (by omega))) (fun _ => ?_)
    refine g_iconst (pc := 626) (v := 0) dL_act_626 rfl ?_
    refine g_istore (pc := 627) (lv' := [(0, _), (2, _), (4, _), (5, _), (7, _), (8, _), (9, _), (13, _), (16, _), (17, _), (18, _), (19, _), (20, _), (21, _), (22, _)]) dL_act_627 (nl rfl) rfl ?_
    refine g_wk (pc := 629) (Nat.le_refl 1090) (Nat.le_refl 8910) ?_
    refine go_forS (pc := 629) n (fun j (_ : Mem) => [(0, .ref 0), (2, .ref P), (4, .ref d), (5, .int (nI x)), (7, .int (nI s)), (8, .int (nI o)), (9, .int (nI t)), (13, .ref nb.1), (16, .int 1), (17, .ref (q.2.2.2.1 s)), (18, .ref N), (19, .int 2), (20, .ref (q.2.2.2.1 o)), (21, .int (nI i)), (22, .int (nI j))]) (fun z => z) (fun j My => Xt (fun y => N ≤ y) M My ∧ Mt My N n (fun r => N + 1 + r) (fun r c => if r < i ∨ (r = i ∧ c < j) then hb (g r) c else false)) (fun _ => 1090) (fun _ => 8910) My ⟨rfl, rfl, rfl, rfl, rfl, rfl, rfl, rfl, rfl, rfl, rfl, rfl, rfl, rfl, rfl, trivial⟩ rfl rfl rfl ⟨g1, g2⟩ ?_ ?_
    · rintro j Mz hj ⟨f1, f2⟩ ih2
      obtain ⟨hd8, hz8, hm8⟩ := cl f1
      have hput : ∀ v : Bool, v = hb (g (i)) (j) → _ := fun v hv => ih2 (sI Mz (N + 1 + i) (fun_set (mI Mz (N + 1 + i)) (j) (vp_nar .boolean (b1 v)))) ⟨f1.sI (fun _ => by omega), Mt.fill (τ := fun r => r) (σ := fun i => i) f2 hi hj (fun _ h => h) (fun _ _ => rfl) (fun _ _ => rfl) v hv⟩
      have hv : (Bool.xor (hb (Am M s i) j) (hb (Am M o i) j)) = hb (g i) j := by
        rw [hg]
        show _ = hb (comb (Am M s i) (Am M o i) 2) j
        rw [cb_w (by omega)]
        rfl
      have hp8 := hmo f1
      have vx : mI Mz (q.2.2.2.2.1 s i) j = b1 (hb (Am M s i) j) := (hm8.2 i hi).2.2 j hj
      have vy : mI Mz (q.2.2.2.2.1 o i) j = b1 (hb (Am M o i) j) := (hp8.2 i hi).2.2 j hj
      generalize hb (Am M s i) j = X at *
      generalize hb (Am M o i) j = Y at *
      cases X <;> cases Y
      · refine g_iload (pc := 629) dL_act_629 rfl ?_
        refine g_aload (pc := 631) dL_act_631 rfl trivial ?_
        refine g_getf (pc := 633) (v := .int _) dL_act_633 fk_L_45 hd8 (fun _ => congrArg Value.int (hz8)) ?_
        refine g_icmp_ge (pc := 636) (tgt := 784) dL_act_636 rfl (fun h636 => absurd h636 (nI_ge hj (by omega))) (fun _ => ?_)
        refine g_aload (pc := 639) dL_act_639 rfl trivial ?_
        refine g_iload (pc := 641) dL_act_641 rfl ?_
        refine g_aaload_Z1 (pc := 643) dL_act_643 f2.1 rfl hi (by omega) (f2.2 i hi).1 ?_
        refine g_iload (pc := 644) dL_act_644 rfl ?_
        refine g_iload (pc := 646) dL_act_646 rfl ?_
        refine g_if_ne (pc := 648) (tgt := 681) dL_act_648 rfl (fun _ => ?_) (fun h648 => absurd ((by decide)) h648)
        refine g_iload (pc := 681) dL_act_681 rfl ?_
        refine g_iconst (pc := 683) (v := 1) dL_act_683 rfl ?_
        refine g_icmp_ne (pc := 684) (tgt := 717) dL_act_684 rfl (fun _ => ?_) (fun h684 => absurd ((by decide)) h684)
        refine g_iload (pc := 717) dL_act_717 rfl ?_
        refine g_iconst (pc := 719) (v := 2) dL_act_719 rfl ?_
        refine g_icmp_ne (pc := 720) (tgt := 750) dL_act_720 rfl (fun h720 => absurd h720 ((fun z => z rfl))) (fun _ => ?_)
        refine g_aload (pc := 723) dL_act_723 rfl trivial ?_
        refine g_iload (pc := 725) dL_act_725 rfl ?_
        refine g_aaload_Z1 (pc := 727) dL_act_727 hm8.1 rfl hi (by omega) (hm8.2 i hi).1 ?_
        refine g_iload (pc := 728) dL_act_728 rfl ?_
        refine g_zaload (pc := 730) dL_act_730 (hm8.2 i hi).2.1 rfl hj (by omega) ?_
        rw [vx]
        refine g_aload (pc := 731) dL_act_731 rfl trivial ?_
        refine g_iload (pc := 733) dL_act_733 rfl ?_
        refine g_aaload_Z1 (pc := 735) dL_act_735 hp8.1 rfl hi (by omega) (hp8.2 i hi).1 ?_
        refine g_iload (pc := 736) dL_act_736 rfl ?_
        refine g_zaload (pc := 738) dL_act_738 (hp8.2 i hi).2.1 rfl hj (by omega) ?_
        rw [vy]
        refine g_icmp_eq (pc := 739) (tgt := 746) dL_act_739 rfl (fun _ => ?_) (fun h739 => absurd (rfl) h739)
        refine g_iconst (pc := 746) (v := 0) dL_act_746 rfl ?_
        refine g_goto (pc := 747) (tgt := 777) dL_act_747 rfl ?_
        refine g_zastore (pc := 777) dL_act_777 (f2.2 i hi).2.1 rfl hj (by omega) ?_
        refine g_iinc (pc := 778) (lv' := [(0, _), (2, _), (4, _), (5, _), (7, _), (8, _), (9, _), (13, _), (16, _), (17, _), (18, _), (19, _), (20, _), (21, _), (22, _)]) dL_act_778 rfl (nI_1 _) (nl rfl) rfl ?_
        refine g_goto (pc := 781) (tgt := 629) dL_act_781 rfl ?_
        exact g_subk (hput false hv) ⟨rfl, rfl, rfl, rfl, rfl, rfl, rfl, rfl, rfl, rfl, rfl, rfl, rfl, rfl, rfl, trivial⟩
      · refine g_iload (pc := 629) dL_act_629 rfl ?_
        refine g_aload (pc := 631) dL_act_631 rfl trivial ?_
        refine g_getf (pc := 633) (v := .int _) dL_act_633 fk_L_45 hd8 (fun _ => congrArg Value.int (hz8)) ?_
        refine g_icmp_ge (pc := 636) (tgt := 784) dL_act_636 rfl (fun h636 => absurd h636 (nI_ge hj (by omega))) (fun _ => ?_)
        refine g_aload (pc := 639) dL_act_639 rfl trivial ?_
        refine g_iload (pc := 641) dL_act_641 rfl ?_
        refine g_aaload_Z1 (pc := 643) dL_act_643 f2.1 rfl hi (by omega) (f2.2 i hi).1 ?_
        refine g_iload (pc := 644) dL_act_644 rfl ?_
        refine g_iload (pc := 646) dL_act_646 rfl ?_
        refine g_if_ne (pc := 648) (tgt := 681) dL_act_648 rfl (fun _ => ?_) (fun h648 => absurd ((by decide)) h648)
        refine g_iload (pc := 681) dL_act_681 rfl ?_
        refine g_iconst (pc := 683) (v := 1) dL_act_683 rfl ?_
        refine g_icmp_ne (pc := 684) (tgt := 717) dL_act_684 rfl (fun _ => ?_) (fun h684 => absurd ((by decide)) h684)
        refine g_iload (pc := 717) dL_act_717 rfl ?_
        refine g_iconst (pc := 719) (v := 2) dL_act_719 rfl ?_
        refine g_icmp_ne (pc := 720) (tgt := 750) dL_act_720 rfl (fun h720 => absurd h720 ((fun z => z rfl))) (fun _ => ?_)
        refine g_aload (pc := 723) dL_act_723 rfl trivial ?_
        refine g_iload (pc := 725) dL_act_725 rfl ?_
        refine g_aaload_Z1 (pc := 727) dL_act_727 hm8.1 rfl hi (by omega) (hm8.2 i hi).1 ?_
        refine g_iload (pc := 728) dL_act_728 rfl ?_
        refine g_zaload (pc := 730) dL_act_730 (hm8.2 i hi).2.1 rfl hj (by omega) ?_
        rw [vx]
        refine g_aload (pc := 731) dL_act_731 rfl trivial ?_
        refine g_iload (pc := 733) dL_act_733 rfl ?_
        refine g_aaload_Z1 (pc := 735) dL_act_735 hp8.1 rfl hi (by omega) (hp8.2 i hi).1 ?_
        refine g_iload (pc := 736) dL_act_736 rfl ?_
        refine g_zaload (pc := 738) dL_act_738 (hp8.2 i hi).2.1 rfl hj (by omega) ?_
        rw [vy]
        refine g_icmp_eq (pc := 739) (tgt := 746) dL_act_739 rfl (fun h739 => absurd h739 ((by decide))) (fun _ => ?_)
        refine g_iconst (pc := 742) (v := 1) dL_act_742 rfl ?_
        refine g_goto (pc := 743) (tgt := 777) dL_act_743 rfl ?_
        refine g_zastore (pc := 777) dL_act_777 (f2.2 i hi).2.1 rfl hj (by omega) ?_
        refine g_iinc (pc := 778) (lv' := [(0, _), (2, _), (4, _), (5, _), (7, _), (8, _), (9, _), (13, _), (16, _), (17, _), (18, _), (19, _), (20, _), (21, _), (22, _)]) dL_act_778 rfl (nI_1 _) (nl rfl) rfl ?_
        refine g_goto (pc := 781) (tgt := 629) dL_act_781 rfl ?_
        exact g_subk (hput true hv) ⟨rfl, rfl, rfl, rfl, rfl, rfl, rfl, rfl, rfl, rfl, rfl, rfl, rfl, rfl, rfl, trivial⟩
      · refine g_iload (pc := 629) dL_act_629 rfl ?_
        refine g_aload (pc := 631) dL_act_631 rfl trivial ?_
        refine g_getf (pc := 633) (v := .int _) dL_act_633 fk_L_45 hd8 (fun _ => congrArg Value.int (hz8)) ?_
        refine g_icmp_ge (pc := 636) (tgt := 784) dL_act_636 rfl (fun h636 => absurd h636 (nI_ge hj (by omega))) (fun _ => ?_)
        refine g_aload (pc := 639) dL_act_639 rfl trivial ?_
        refine g_iload (pc := 641) dL_act_641 rfl ?_
        refine g_aaload_Z1 (pc := 643) dL_act_643 f2.1 rfl hi (by omega) (f2.2 i hi).1 ?_
        refine g_iload (pc := 644) dL_act_644 rfl ?_
        refine g_iload (pc := 646) dL_act_646 rfl ?_
        refine g_if_ne (pc := 648) (tgt := 681) dL_act_648 rfl (fun _ => ?_) (fun h648 => absurd ((by decide)) h648)
        refine g_iload (pc := 681) dL_act_681 rfl ?_
        refine g_iconst (pc := 683) (v := 1) dL_act_683 rfl ?_
        refine g_icmp_ne (pc := 684) (tgt := 717) dL_act_684 rfl (fun _ => ?_) (fun h684 => absurd ((by decide)) h684)
        refine g_iload (pc := 717) dL_act_717 rfl ?_
        refine g_iconst (pc := 719) (v := 2) dL_act_719 rfl ?_
        refine g_icmp_ne (pc := 720) (tgt := 750) dL_act_720 rfl (fun h720 => absurd h720 ((fun z => z rfl))) (fun _ => ?_)
        refine g_aload (pc := 723) dL_act_723 rfl trivial ?_
        refine g_iload (pc := 725) dL_act_725 rfl ?_
        refine g_aaload_Z1 (pc := 727) dL_act_727 hm8.1 rfl hi (by omega) (hm8.2 i hi).1 ?_
        refine g_iload (pc := 728) dL_act_728 rfl ?_
        refine g_zaload (pc := 730) dL_act_730 (hm8.2 i hi).2.1 rfl hj (by omega) ?_
        rw [vx]
        refine g_aload (pc := 731) dL_act_731 rfl trivial ?_
        refine g_iload (pc := 733) dL_act_733 rfl ?_
        refine g_aaload_Z1 (pc := 735) dL_act_735 hp8.1 rfl hi (by omega) (hp8.2 i hi).1 ?_
        refine g_iload (pc := 736) dL_act_736 rfl ?_
        refine g_zaload (pc := 738) dL_act_738 (hp8.2 i hi).2.1 rfl hj (by omega) ?_
        rw [vy]
        refine g_icmp_eq (pc := 739) (tgt := 746) dL_act_739 rfl (fun h739 => absurd h739 ((by decide))) (fun _ => ?_)
        refine g_iconst (pc := 742) (v := 1) dL_act_742 rfl ?_
        refine g_goto (pc := 743) (tgt := 777) dL_act_743 rfl ?_
        refine g_zastore (pc := 777) dL_act_777 (f2.2 i hi).2.1 rfl hj (by omega) ?_
        refine g_iinc (pc := 778) (lv' := [(0, _), (2, _), (4, _), (5, _), (7, _), (8, _), (9, _), (13, _), (16, _), (17, _), (18, _), (19, _), (20, _), (21, _), (22, _)]) dL_act_778 rfl (nI_1 _) (nl rfl) rfl ?_
        refine g_goto (pc := 781) (tgt := 629) dL_act_781 rfl ?_
        exact g_subk (hput true hv) ⟨rfl, rfl, rfl, rfl, rfl, rfl, rfl, rfl, rfl, rfl, rfl, rfl, rfl, rfl, rfl, trivial⟩
      · refine g_iload (pc := 629) dL_act_629 rfl ?_
        refine g_aload (pc := 631) dL_act_631 rfl trivial ?_
        refine g_getf (pc := 633) (v := .int _) dL_act_633 fk_L_45 hd8 (fun _ => congrArg Value.int (hz8)) ?_
        refine g_icmp_ge (pc := 636) (tgt := 784) dL_act_636 rfl (fun h636 => absurd h636 (nI_ge hj (by omega))) (fun _ => ?_)
        refine g_aload (pc := 639) dL_act_639 rfl trivial ?_
        refine g_iload (pc := 641) dL_act_641 rfl ?_
        refine g_aaload_Z1 (pc := 643) dL_act_643 f2.1 rfl hi (by omega) (f2.2 i hi).1 ?_
        refine g_iload (pc := 644) dL_act_644 rfl ?_
        refine g_iload (pc := 646) dL_act_646 rfl ?_
        refine g_if_ne (pc := 648) (tgt := 681) dL_act_648 rfl (fun _ => ?_) (fun h648 => absurd ((by decide)) h648)
        refine g_iload (pc := 681) dL_act_681 rfl ?_
        refine g_iconst (pc := 683) (v := 1) dL_act_683 rfl ?_
        refine g_icmp_ne (pc := 684) (tgt := 717) dL_act_684 rfl (fun _ => ?_) (fun h684 => absurd ((by decide)) h684)
        refine g_iload (pc := 717) dL_act_717 rfl ?_
        refine g_iconst (pc := 719) (v := 2) dL_act_719 rfl ?_
        refine g_icmp_ne (pc := 720) (tgt := 750) dL_act_720 rfl (fun h720 => absurd h720 ((fun z => z rfl))) (fun _ => ?_)
        refine g_aload (pc := 723) dL_act_723 rfl trivial ?_
        refine g_iload (pc := 725) dL_act_725 rfl ?_
        refine g_aaload_Z1 (pc := 727) dL_act_727 hm8.1 rfl hi (by omega) (hm8.2 i hi).1 ?_
        refine g_iload (pc := 728) dL_act_728 rfl ?_
        refine g_zaload (pc := 730) dL_act_730 (hm8.2 i hi).2.1 rfl hj (by omega) ?_
        rw [vx]
        refine g_aload (pc := 731) dL_act_731 rfl trivial ?_
        refine g_iload (pc := 733) dL_act_733 rfl ?_
        refine g_aaload_Z1 (pc := 735) dL_act_735 hp8.1 rfl hi (by omega) (hp8.2 i hi).1 ?_
        refine g_iload (pc := 736) dL_act_736 rfl ?_
        refine g_zaload (pc := 738) dL_act_738 (hp8.2 i hi).2.1 rfl hj (by omega) ?_
        rw [vy]
        refine g_icmp_eq (pc := 739) (tgt := 746) dL_act_739 rfl (fun _ => ?_) (fun h739 => absurd (rfl) h739)
        refine g_iconst (pc := 746) (v := 0) dL_act_746 rfl ?_
        refine g_goto (pc := 747) (tgt := 777) dL_act_747 rfl ?_
        refine g_zastore (pc := 777) dL_act_777 (f2.2 i hi).2.1 rfl hj (by omega) ?_
        refine g_iinc (pc := 778) (lv' := [(0, _), (2, _), (4, _), (5, _), (7, _), (8, _), (9, _), (13, _), (16, _), (17, _), (18, _), (19, _), (20, _), (21, _), (22, _)]) dL_act_778 rfl (nI_1 _) (nl rfl) rfl ?_
        refine g_goto (pc := 781) (tgt := 629) dL_act_781 rfl ?_
        exact g_subk (hput false hv) ⟨rfl, rfl, rfl, rfl, rfl, rfl, rfl, rfl, rfl, rfl, rfl, rfl, rfl, rfl, rfl, trivial⟩
    · rintro Mz ⟨f1, f2⟩
      obtain ⟨hd8, hz8, hm8⟩ := cl f1
      refine g_iload (pc := 629) dL_act_629 rfl ?_
      refine g_aload (pc := 631) dL_act_631 rfl trivial ?_
      refine g_getf (pc := 633) (v := .int _) dL_act_633 fk_L_45 hd8 (fun _ => congrArg Value.int (hz8)) ?_
      refine g_icmp_ge (pc := 636) (tgt := 784) dL_act_636 rfl (fun _ => ?_) (fun h636 => absurd (nI_le (Nat.le_refl _) (by omega)) h636)
      refine g_iinc (pc := 784) (lv' := [(0, _), (2, _), (4, _), (5, _), (7, _), (8, _), (9, _), (13, _), (16, _), (17, _), (18, _), (19, _), (20, _), (21, _), (22, _)]) dL_act_784 rfl (nI_1 _) (nl rfl) rfl ?_
      refine g_goto (pc := 787) (tgt := 616) dL_act_787 rfl ?_
      exact g_subk (ih Mz ⟨f1, Mt.next (τ := fun r => r) f2 (fun _ h => h)⟩) ⟨rfl, rfl, rfl, rfl, rfl, rfl, rfl, rfl, rfl, rfl, rfl, rfl, rfl, rfl, trivial⟩
  · rintro My ⟨g1, g2⟩
    obtain ⟨hd9, hz9, hm9⟩ := cl g1
    have gM : Mt My N n (fun r => N + 1 + r) (fB g) := g2.cg (fun r c hr hc => if_pos (Or.inl hr))
    have gd : Xt (fun i => i = d) M My := g1.up (fun i hi z => by omega)
    have gD : DK My d n q u := hD.xt hO g1 (fun i hi z => by omega)
    refine g_wk (Nat.le_refl 1090) (Nat.le_refl 8910) ?_

    obtain ⟨M2, e1, e2, e3, e4, e5, e6, e7⟩ := st_law (l := l) (g := g) hD hO gd gD gM (Nat.le_of_eq hN) (by omega) ht (fun _ _ _ _ => rfl) hn32
    have hZ2 := hZ.xt e4 e6 e5
    have hS2 : mS M2 = mS M := e4.2.2.1
    obtain ⟨M3, c1, c2, c3⟩ := c_combine (l := l) hZ2.1 hs ho ht (w := 2) (by decide)
    rw [hZ.am e4 e6 hs, hZ.am e4 e6 ho] at c1 c3
    have hw : onesF g n = nI (cM (fB g) n n) := on_c hn32 (by rw [hg]; exact wf_comb (hZ.1.wf hs) (hZ.1.wf ho)) n (Nat.le_refl n)
    rw [← hg, hw] at c1
    rw [← hg] at c3
    rw [← hS2]
    refine g_iload (pc := 616) dL_act_616 rfl ?_
    refine g_aload (pc := 618) dL_act_618 rfl trivial ?_
    refine g_getf (pc := 620) (v := .int _) dL_act_620 fk_L_45 hd9 (fun _ => congrArg Value.int (hz9)) ?_
    refine g_icmp_ge (pc := 623) (tgt := 790) dL_act_623 rfl (fun _ => ?_) (fun h623 => absurd (nI_le (Nat.le_refl _) (by omega)) h623)
    refine g_aload (pc := 790) dL_act_790 rfl trivial ?_
    refine g_iload (pc := 792) dL_act_792 rfl ?_
    refine g_aload (pc := 794) dL_act_794 rfl trivial ?_
    refine g_invV_r (pc := 796) (As := [_, _]) dL_act_796 rfl (e1) rfl rfl hd9 rfl rfl lk_L_155 rfl (nb rfl) ⟨nb rfl, nb rfl⟩ rfl ?_
    refine g_aload (pc := 799) dL_act_799 rfl trivial ?_
    refine g_aload (pc := 801) dL_act_801 rfl trivial ?_
    refine g_invV_r (pc := 803) (As := [_]) dL_act_803 rfl (k_ones e7 hn) rfl rfl e2.1.1 rfl rfl lk_L_159 rfl (nb rfl) ⟨nb rfl, nb rfl⟩ rfl ?_
    refine g_istore (pc := 806) (lv' := [(0, _), (2, _), (4, _), (5, _), (7, _), (8, _), (9, _), (13, _), (16, _), (17, _), (18, _), (19, _), (20, _), (21, _), (14, _)]) dL_act_806 (nl rfl) rfl ?_
    refine g_aload_n (pc := 808) dL_act_808 rfl trivial ?_
    refine g_iload (pc := 809) dL_act_809 rfl ?_
    refine g_iload (pc := 811) dL_act_811 rfl ?_
    refine g_iload (pc := 813) dL_act_813 rfl ?_
    refine g_iload (pc := 815) dL_act_815 rfl ?_
    refine g_invV_r (pc := 817) (As := [_, _, _, _]) dL_act_817 rfl (c1) rfl rfl (shK hZ2.1.S rfl) rfl rfl lk_L_168 rfl (nb rfl) ⟨nb rfl, nb rfl⟩ rfl ?_
    refine g_istore (pc := 820) (lv' := [(0, _), (2, _), (4, _), (5, _), (7, _), (8, _), (9, _), (13, _), (16, _), (17, _), (18, _), (19, _), (20, _), (21, _), (14, _), (15, _)]) dL_act_820 (nl rfl) rfl ?_
    refine g_goto (pc := 822) (tgt := 1338) dL_act_822 rfl ?_
    refine g_wk (pc := 1338) (k := 2) (n := 16) (by decide) (by decide) ?_
    exact g_subk (k_fin hZ2 hu e2 e3 c2 c3) ⟨rfl, rfl, rfl, rfl, rfl, rfl, trivial⟩
theorem act_53 (hZ : AZ M A P n p os.length d u (usO os) ρ eo os nb) (hu : nb.2.2 = u) (hD : DK M d n q u) (hO : OW ρ d n q) (hx9 : x < 2147483648) (hw : x / 262144 % 4 = 3) (hs : s < 6) (ho : o < 6) (ht : t < 6) : Go l jL_act 12 400 MC MS (QA A P n (mS M)) 587 [(0, .ref 0), (2, .ref P), (4, .ref d), (5, .int (nI x)), (7, .int (nI s)), (8, .int (nI o)), (9, .int (nI t)), (13, .ref nb.1), (16, .int 1), (17, .ref (q.2.2.2.1 s))] [] 1100 9000 M := by
  have hn := hZ.2.2.2.2.2.2
  have hx := hZ.x
  have hz := hD.z
  have hn32 : n ≤ 32 := by omega
  obtain ⟨-, hm⟩ := hD.m hZ.1 hs
  obtain ⟨-, hmo9⟩ := hD.m hZ.1 ho
  have hmol := hmo9.lt
  have hg9 : ∃ g : Nat → Int32, g = fun k => comb (Am M s k) (Am M o k) 3 := ⟨_, rfl⟩
  obtain ⟨g, hg⟩ := hg9
  have hF := fresh_Mt M n
  have hX := os2_xt M .boolean n n
  have hdl := k_lt hD.1.1
  have hml := hm.lt
  refine g_aload (pc := 587) dL_act_587 rfl trivial ?_
  refine g_invV_r (pc := 589) (As := []) dL_act_589 rfl (k_fresh hD.1.1 hz hn hx) rfl rfl hD.1.1 rfl rfl lk_L_151 rfl (nb rfl) ⟨nb rfl, nb rfl⟩ rfl ?_
  show Go l _ _ _ _ _ _ _ _ ([.ref (mK M).length] : List Value) _ _ (opsM M (os2 .boolean n n (mK M).length))
  generalize hN : (mK M).length = N at *
  generalize opsM M (os2 .boolean n n N) = M1 at *
  have cl : ∀ {My : Mem}, Xt (fun y => N ≤ y) M My → (mK My)[d]? = some (.inr 7) ∧ mI My d 0 = nI n ∧ Mt My (q.2.2.2.1 s) n (q.2.2.2.2.1 s) (fB (Am M s)) := fun {My} h => ⟨h.k hD.1.1, (congrFun (h.I (k_lt hD.1.1) (by omega)) 0).trans hz, hm.xt h (by omega) (fun r hr => by have := hml.2 r hr; omega)⟩

  have hmo : ∀ {My : Mem}, Xt (fun y => N ≤ y) M My → Mt My (q.2.2.2.1 o) n (q.2.2.2.2.1 o) (fB (Am M o)) := fun {My} h => hmo9.xt h (by omega) (fun r hr => by have := hmol.2 r hr; omega)
  have hD1 : DK M1 d n q u := hD.xt hO hX (fun i hi z => z.elim)
  refine g_astore (pc := 592) (lv' := [(0, _), (2, _), (4, _), (5, _), (7, _), (8, _), (9, _), (13, _), (16, _), (17, _), (18, _)]) dL_act_592 trivial (nl rfl) rfl ?_
  refine g_iload (pc := 594) dL_act_594 rfl ?_
  refine g_ldc (pc := 596) dL_act_596 wd_x990 ?_
  refine g_idiv (pc := 598) dL_act_598 (by decide) ?_
  rw [show nI x / 262144 = nI (x / 262144) from nI_div (b := 262144) hx9 (by decide)]
  refine g_iconst (pc := 599) (v := 4) dL_act_599 rfl ?_
  refine g_irem (pc := 600) dL_act_600 (by decide) ?_
  rw [show nI (x / 262144) - nI (x / 262144) / 4 * 4 = nI (x / 262144 % 4) from nI_rem (b := 4) (by omega) (by decide), hw]
  refine g_istore (pc := 601) (lv' := [(0, _), (2, _), (4, _), (5, _), (7, _), (8, _), (9, _), (13, _), (16, _), (17, _), (18, _), (19, _)]) dL_act_601 (nl rfl) rfl ?_
  refine g_aload (pc := 603) dL_act_603 rfl trivial ?_
  refine g_getf (pc := 605) dL_act_605 fk_L_52 hD1.1.1 (fv_arr hD1.1.2.1) ?_
  refine g_iload (pc := 608) dL_act_608 rfl ?_
  refine g_aaload_Z2 (pc := 610) dL_act_610 hD1.2.2.1.1 rfl ho (by omega) (hD1.2.2.2 o ho).1.1 ?_
  refine g_astore (pc := 611) (lv' := [(0, _), (2, _), (4, _), (5, _), (7, _), (8, _), (9, _), (13, _), (16, _), (17, _), (18, _), (19, _), (20, _)]) dL_act_611 trivial (nl rfl) rfl ?_
  skip

  refine g_iconst (pc := 613) (v := 0) dL_act_613 rfl ?_
  refine g_istore (pc := 614) (lv' := [(0, _), (2, _), (4, _), (5, _), (7, _), (8, _), (9, _), (13, _), (16, _), (17, _), (18, _), (19, _), (20, _), (21, _)]) dL_act_614 (nl rfl) rfl ?_
  refine go_forS (pc := 616) n (fun i (_ : Mem) => [(0, .ref 0), (2, .ref P), (4, .ref d), (5, .int (nI x)), (7, .int (nI s)), (8, .int (nI o)), (9, .int (nI t)), (13, .ref nb.1), (16, .int 1), (17, .ref (q.2.2.2.1 s)), (18, .ref N), (19, .int 3), (20, .ref (q.2.2.2.1 o)), (21, .int (nI i))]) (fun z => z) (fun i My => Xt (fun y => N ≤ y) M My ∧ Mt My N n (fun r => N + 1 + r) (fun r c => if r < i ∨ (r = i ∧ c < 0) then hb (g r) c else false)) (fun _ => 1090) (fun _ => 8910) M1 ⟨rfl, rfl, rfl, rfl, rfl, rfl, rfl, rfl, rfl, rfl, rfl, rfl, rfl, rfl, trivial⟩ rfl rfl rfl ⟨hX.up (fun _ _ z => z.elim), hF.cg (fun r c _ _ => (if_neg (by omega)).symm)⟩ ?_ ?_
  · rintro i My hi ⟨g1, g2⟩ ih
    obtain ⟨hd9, hz9, hm9⟩ := cl g1
    refine g_iload (pc := 616) dL_act_616 rfl ?_
    refine g_aload (pc := 618) dL_act_618 rfl trivial ?_
    refine g_getf (pc := 620) (v := .int _) dL_act_620 fk_L_45 hd9 (fun _ => congrArg Value.int (hz9)) ?_
    refine g_icmp_ge (pc := 623) (tgt := 790) dL_act_623 rfl (fun h623 => absurd h623 (nI_ge hi (by omega))) (fun _ => ?_)
    refine g_iconst (pc := 626) (v := 0) dL_act_626 rfl ?_
    refine g_istore (pc := 627) (lv' := [(0, _), (2, _), (4, _), (5, _), (7, _), (8, _), (9, _), (13, _), (16, _), (17, _), (18, _), (19, _), (20, _), (21, _), (22, _)]) dL_act_627 (nl rfl) rfl ?_
    refine g_wk (pc := 629) (Nat.le_refl 1090) (Nat.le_refl 8910) ?_
    refine go_forS (pc := 629) n (fun j (_ : Mem) => [(0, .ref 0), (2, .ref P), (4, .ref d), (5, .int (nI x)), (7, .int (nI s)), (8, .int (nI o)), (9, .int (nI t)), (13, .ref nb.1), (16, .int 1), (17, .ref (q.2.2.2.1 s)), (18, .ref N), (19, .int 3), (20, .ref (q.2.2.2.1 o)), (21, .int (nI i)), (22, .int (nI j))]) (fun z => z) (fun j My => Xt (fun y => N ≤ y) M My ∧ Mt My N n (fun r => N + 1 + r) (fun r c => if r < i ∨ (r = i ∧ c < j) then hb (g r) c else false)) (fun _ => 1090) (fun _ => 8910) My ⟨rfl, rfl, rfl, rfl, rfl, rfl, rfl, rfl, rfl, rfl, rfl, rfl, rfl, rfl, rfl, trivial⟩ rfl rfl rfl ⟨g1, g2⟩ ?_ ?_
    · rintro j Mz hj ⟨f1, f2⟩ ih2
      obtain ⟨hd8, hz8, hm8⟩ := cl f1
      have hput : ∀ v : Bool, v = hb (g (i)) (j) → _ := fun v hv => ih2 (sI Mz (N + 1 + i) (fun_set (mI Mz (N + 1 + i)) (j) (vp_nar .boolean (b1 v)))) ⟨f1.sI (fun _ => by omega), Mt.fill (τ := fun r => r) (σ := fun i => i) f2 hi hj (fun _ h => h) (fun _ _ => rfl) (fun _ _ => rfl) v hv⟩
      have hv : (hb (Am M s i) j && !(hb (Am M o i) j)) = hb (g i) j := by
        rw [hg]
        show _ = hb (comb (Am M s i) (Am M o i) 3) j
        rw [cb_w (by omega)]
        rfl
      have hp8 := hmo f1
      have vx : mI Mz (q.2.2.2.2.1 s i) j = b1 (hb (Am M s i) j) := (hm8.2 i hi).2.2 j hj
      have vy : mI Mz (q.2.2.2.2.1 o i) j = b1 (hb (Am M o i) j) := (hp8.2 i hi).2.2 j hj
      generalize hb (Am M s i) j = X at *
      generalize hb (Am M o i) j = Y at *
      cases X <;> cases Y
      · refine g_iload (pc := 629) dL_act_629 rfl ?_
        refine g_aload (pc := 631) dL_act_631 rfl trivial ?_
        refine g_getf (pc := 633) (v := .int _) dL_act_633 fk_L_45 hd8 (fun _ => congrArg Value.int (hz8)) ?_
        refine g_icmp_ge (pc := 636) (tgt := 784) dL_act_636 rfl (fun h636 => absurd h636 (nI_ge hj (by omega))) (fun _ => ?_)
        refine g_aload (pc := 639) dL_act_639 rfl trivial ?_
        refine g_iload (pc := 641) dL_act_641 rfl ?_
        refine g_aaload_Z1 (pc := 643) dL_act_643 f2.1 rfl hi (by omega) (f2.2 i hi).1 ?_
        refine g_iload (pc := 644) dL_act_644 rfl ?_
        refine g_iload (pc := 646) dL_act_646 rfl ?_
        refine g_if_ne (pc := 648) (tgt := 681) dL_act_648 rfl (fun _ => ?_) (fun h648 => absurd ((by decide)) h648)
        refine g_iload (pc := 681) dL_act_681 rfl ?_
        refine g_iconst (pc := 683) (v := 1) dL_act_683 rfl ?_
        refine g_icmp_ne (pc := 684) (tgt := 717) dL_act_684 rfl (fun _ => ?_) (fun h684 => absurd ((by decide)) h684)
        refine g_iload (pc := 717) dL_act_717 rfl ?_
        refine g_iconst (pc := 719) (v := 2) dL_act_719 rfl ?_
        refine g_icmp_ne (pc := 720) (tgt := 750) dL_act_720 rfl (fun _ => ?_) (fun h720 => absurd ((by decide)) h720)
        refine g_aload (pc := 750) dL_act_750 rfl trivial ?_
        refine g_iload (pc := 752) dL_act_752 rfl ?_
        refine g_aaload_Z1 (pc := 754) dL_act_754 hm8.1 rfl hi (by omega) (hm8.2 i hi).1 ?_
        refine g_iload (pc := 755) dL_act_755 rfl ?_
        refine g_zaload (pc := 757) dL_act_757 (hm8.2 i hi).2.1 rfl hj (by omega) ?_
        rw [vx]
        refine g_if_eq (pc := 758) (tgt := 776) dL_act_758 rfl (fun _ => ?_) (fun h758 => absurd (rfl) h758)
        refine g_iconst (pc := 776) (v := 0) dL_act_776 rfl ?_
        refine g_zastore (pc := 777) dL_act_777 (f2.2 i hi).2.1 rfl hj (by omega) ?_
        refine g_iinc (pc := 778) (lv' := [(0, _), (2, _), (4, _), (5, _), (7, _), (8, _), (9, _), (13, _), (16, _), (17, _), (18, _), (19, _), (20, _), (21, _), (22, _)]) dL_act_778 rfl (nI_1 _) (nl rfl) rfl ?_
        refine g_goto (pc := 781) (tgt := 629) dL_act_781 rfl ?_
        exact g_subk (hput false hv) ⟨rfl, rfl, rfl, rfl, rfl, rfl, rfl, rfl, rfl, rfl, rfl, rfl, rfl, rfl, rfl, trivial⟩
      · refine g_iload (pc := 629) dL_act_629 rfl ?_
        refine g_aload (pc := 631) dL_act_631 rfl trivial ?_
        refine g_getf (pc := 633) (v := .int _) dL_act_633 fk_L_45 hd8 (fun _ => congrArg Value.int (hz8)) ?_
        refine g_icmp_ge (pc := 636) (tgt := 784) dL_act_636 rfl (fun h636 => absurd h636 (nI_ge hj (by omega))) (fun _ => ?_)
        refine g_aload (pc := 639) dL_act_639 rfl trivial ?_
        refine g_iload (pc := 641) dL_act_641 rfl ?_
        refine g_aaload_Z1 (pc := 643) dL_act_643 f2.1 rfl hi (by omega) (f2.2 i hi).1 ?_
        refine g_iload (pc := 644) dL_act_644 rfl ?_
        refine g_iload (pc := 646) dL_act_646 rfl ?_
        refine g_if_ne (pc := 648) (tgt := 681) dL_act_648 rfl (fun _ => ?_) (fun h648 => absurd ((by decide)) h648)
        refine g_iload (pc := 681) dL_act_681 rfl ?_
        refine g_iconst (pc := 683) (v := 1) dL_act_683 rfl ?_
        refine g_icmp_ne (pc := 684) (tgt := 717) dL_act_684 rfl (fun _ => ?_) (fun h684 => absurd ((by decide)) h684)
        refine g_iload (pc := 717) dL_act_717 rfl ?_
        refine g_iconst (pc := 719) (v := 2) dL_act_719 rfl ?_
        refine g_icmp_ne (pc := 720) (tgt := 750) dL_act_720 rfl (fun _ => ?_) (fun h720 => absurd ((by decide)) h720)
        refine g_aload (pc := 750) dL_act_750 rfl trivial ?_
        refine g_iload (pc := 752) dL_act_752 rfl ?_
        refine g_aaload_Z1 (pc := 754) dL_act_754 hm8.1 rfl hi (by omega) (hm8.2 i hi).1 ?_
        refine g_iload (pc := 755) dL_act_755 rfl ?_
        refine g_zaload (pc := 757) dL_act_757 (hm8.2 i hi).2.1 rfl hj (by omega) ?_
        rw [vx]
        refine g_if_eq (pc := 758) (tgt := 776) dL_act_758 rfl (fun _ => ?_) (fun h758 => absurd (rfl) h758)
        refine g_iconst (pc := 776) (v := 0) dL_act_776 rfl ?_
        refine g_zastore (pc := 777) dL_act_777 (f2.2 i hi).2.1 rfl hj (by omega) ?_
        refine g_iinc (pc := 778) (lv' := [(0, _), (2, _), (4, _), (5, _), (7, _), (8, _), (9, _), (13, _), (16, _), (17, _), (18, _), (19, _), (20, _), (21, _), (22, _)]) dL_act_778 rfl (nI_1 _) (nl rfl) rfl ?_
        refine g_goto (pc := 781) (tgt := 629) dL_act_781 rfl ?_
        exact g_subk (hput false hv) ⟨rfl, rfl, rfl, rfl, rfl, rfl, rfl, rfl, rfl, rfl, rfl, rfl, rfl, rfl, rfl, trivial⟩
      · refine g_iload (pc := 629) dL_act_629 rfl ?_
        refine g_aload (pc := 631) dL_act_631 rfl trivial ?_
        refine g_getf (pc := 633) (v := .int _) dL_act_633 fk_L_45 hd8 (fun _ => congrArg Value.int (hz8)) ?_
        refine g_icmp_ge (pc := 636) (tgt := 784) dL_act_636 rfl (fun h636 => absurd h636 (nI_ge hj (by omega))) (fun _ => ?_)
        refine g_aload (pc := 639) dL_act_639 rfl trivial ?_
        refine g_iload (pc := 641) dL_act_641 rfl ?_
        refine g_aaload_Z1 (pc := 643) dL_act_643 f2.1 rfl hi (by omega) (f2.2 i hi).1 ?_
        refine g_iload (pc := 644) dL_act_644 rfl ?_
        refine g_iload (pc := 646) dL_act_646 rfl ?_
        refine g_if_ne (pc := 648) (tgt := 681) dL_act_648 rfl (fun _ => ?_) (fun h648 => absurd ((by decide)) h648)
        refine g_iload (pc := 681) dL_act_681 rfl ?_
        refine g_iconst (pc := 683) (v := 1) dL_act_683 rfl ?_
        refine g_icmp_ne (pc := 684) (tgt := 717) dL_act_684 rfl (fun _ => ?_) (fun h684 => absurd ((by decide)) h684)
        refine g_iload (pc := 717) dL_act_717 rfl ?_
        refine g_iconst (pc := 719) (v := 2) dL_act_719 rfl ?_
        refine g_icmp_ne (pc := 720) (tgt := 750) dL_act_720 rfl (fun _ => ?_) (fun h720 => absurd ((by decide)) h720)
        refine g_aload (pc := 750) dL_act_750 rfl trivial ?_
        refine g_iload (pc := 752) dL_act_752 rfl ?_
        refine g_aaload_Z1 (pc := 754) dL_act_754 hm8.1 rfl hi (by omega) (hm8.2 i hi).1 ?_
        refine g_iload (pc := 755) dL_act_755 rfl ?_
        refine g_zaload (pc := 757) dL_act_757 (hm8.2 i hi).2.1 rfl hj (by omega) ?_
        rw [vx]
        refine g_if_eq (pc := 758) (tgt := 776) dL_act_758 rfl (fun h758 => absurd h758 ((by decide))) (fun _ => ?_)
        refine g_aload (pc := 761) dL_act_761 rfl trivial ?_
        refine g_iload (pc := 763) dL_act_763 rfl ?_
        refine g_aaload_Z1 (pc := 765) dL_act_765 hp8.1 rfl hi (by omega) (hp8.2 i hi).1 ?_
        refine g_iload (pc := 766) dL_act_766 rfl ?_
        refine g_zaload (pc := 768) dL_act_768 (hp8.2 i hi).2.1 rfl hj (by omega) ?_
        rw [vy]
        refine g_if_ne (pc := 769) (tgt := 776) dL_act_769 rfl (fun h769 => absurd h769 ((fun z => z rfl))) (fun _ => ?_)
        refine g_iconst (pc := 772) (v := 1) dL_act_772 rfl ?_
        refine g_goto (pc := 773) (tgt := 777) dL_act_773 rfl ?_
        refine g_zastore (pc := 777) dL_act_777 (f2.2 i hi).2.1 rfl hj (by omega) ?_
        refine g_iinc (pc := 778) (lv' := [(0, _), (2, _), (4, _), (5, _), (7, _), (8, _), (9, _), (13, _), (16, _), (17, _), (18, _), (19, _), (20, _), (21, _), (22, _)]) dL_act_778 rfl (nI_1 _) (nl rfl) rfl ?_
        refine g_goto (pc := 781) (tgt := 629) dL_act_781 rfl ?_
        exact g_subk (hput true hv) ⟨rfl, rfl, rfl, rfl, rfl, rfl, rfl, rfl, rfl, rfl, rfl, rfl, rfl, rfl, rfl, trivial⟩
      · refine g_iload (pc := 629) dL_act_629 rfl ?_
        refine g_aload (pc := 631) dL_act_631 rfl trivial ?_
        refine g_getf (pc := 633) (v := .int _) dL_act_633 fk_L_45 hd8 (fun _ => congrArg Value.int (hz8)) ?_
        refine g_icmp_ge (pc := 636) (tgt := 784) dL_act_636 rfl (fun h636 => absurd h636 (nI_ge hj (by omega))) (fun _ => ?_)
        refine g_aload (pc := 639) dL_act_639 rfl trivial ?_
        refine g_iload (pc := 641) dL_act_641 rfl ?_
        refine g_aaload_Z1 (pc := 643) dL_act_643 f2.1 rfl hi (by omega) (f2.2 i hi).1 ?_
        refine g_iload (pc := 644) dL_act_644 rfl ?_
        refine g_iload (pc := 646) dL_act_646 rfl ?_
        refine g_if_ne (pc := 648) (tgt := 681) dL_act_648 rfl (fun _ => ?_) (fun h648 => absurd ((by decide)) h648)
        refine g_iload (pc := 681) dL_act_681 rfl ?_
        refine g_iconst (pc := 683) (v := 1) dL_act_683 rfl ?_
        refine g_icmp_ne (pc := 684) (tgt := 717) dL_act_684 rfl (fun _ => ?_) (fun h684 => absurd ((by decide)) h684)
        refine g_iload (pc := 717) dL_act_717 rfl ?_
        refine g_iconst (pc := 719) (v := 2) dL_act_719 rfl ?_
        refine g_icmp_ne (pc := 720) (tgt := 750) dL_act_720 rfl (fun _ => ?_) (fun h720 => absurd ((by decide)) h720)
        refine g_aload (pc := 750) dL_act_750 rfl trivial ?_
        refine g_iload (pc := 752) dL_act_752 rfl ?_
        refine g_aaload_Z1 (pc := 754) dL_act_754 hm8.1 rfl hi (by omega) (hm8.2 i hi).1 ?_
        refine g_iload (pc := 755) dL_act_755 rfl ?_
        refine g_zaload (pc := 757) dL_act_757 (hm8.2 i hi).2.1 rfl hj (by omega) ?_
        rw [vx]
        refine g_if_eq (pc := 758) (tgt := 776) dL_act_758 rfl (fun h758 => absurd h758 ((by decide))) (fun _ => ?_)
        refine g_aload (pc := 761) dL_act_761 rfl trivial ?_
        refine g_iload (pc := 763) dL_act_763 rfl ?_
        refine g_aaload_Z1 (pc := 765) dL_act_765 hp8.1 rfl hi (by omega) (hp8.2 i hi).1 ?_
        refine g_iload (pc := 766) dL_act_766 rfl ?_
        refine g_zaload (pc := 768) dL_act_768 (hp8.2 i hi).2.1 rfl hj (by omega) ?_
        rw [vy]
        refine g_if_ne (pc := 769) (tgt := 776) dL_act_769 rfl (fun _ => ?_) (fun h769 => absurd ((by decide)) h769)
        refine g_iconst (pc := 776) (v := 0) dL_act_776 rfl ?_
        refine g_zastore (pc := 777) dL_act_777 (f2.2 i hi).2.1 rfl hj (by omega) ?_
        refine g_iinc (pc := 778) (lv' := [(0, _), (2, _), (4, _), (5, _), (7, _), (8, _), (9, _), (13, _), (16, _), (17, _), (18, _), (19, _), (20, _), (21, _), (22, _)]) dL_act_778 rfl (nI_1 _) (nl rfl) rfl ?_
        refine g_goto (pc := 781) (tgt := 629) dL_act_781 rfl ?_
        exact g_subk (hput false hv) ⟨rfl, rfl, rfl, rfl, rfl, rfl, rfl, rfl, rfl, rfl, rfl, rfl, rfl, rfl, rfl, trivial⟩
    · rintro Mz ⟨f1, f2⟩
      obtain ⟨hd8, hz8, hm8⟩ := cl f1
      refine g_iload (pc := 629) dL_act_629 rfl ?_
      refine g_aload (pc := 631) dL_act_631 rfl trivial ?_
      refine g_getf (pc := 633) (v := .int _) dL_act_633 fk_L_45 hd8 (fun _ => congrArg Value.int (hz8)) ?_
      refine g_icmp_ge (pc := 636) (tgt := 784) dL_act_636 rfl (fun _ => ?_) (fun h636 => absurd (nI_le (Nat.le_refl _) (by omega)) h636)
      refine g_iinc (pc := 784) (lv' := [(0, _), (2, _), (4, _), (5, _), (7, _), (8, _), (9, _), (13, _), (16, _), (17, _), (18, _), (19, _), (20, _), (21, _), (22, _)]) dL_act_784 rfl (nI_1 _) (nl rfl) rfl ?_
      refine g_goto (pc := 787) (tgt := 616) dL_act_787 rfl ?_
      exact g_subk (ih Mz ⟨f1, Mt.next (τ := fun r => r) f2 (fun _ h => h)⟩) ⟨rfl, rfl, rfl, rfl, rfl, rfl, rfl, rfl, rfl, rfl, rfl, rfl, rfl, rfl, trivial⟩
  · rintro My ⟨g1, g2⟩
    obtain ⟨hd9, hz9, hm9⟩ := cl g1
    have gM : Mt My N n (fun r => N + 1 + r) (fB g) := g2.cg (fun r c hr hc => if_pos (Or.inl hr))
    have gd : Xt (fun i => i = d) M My := g1.up (fun i hi z => by omega)
    have gD : DK My d n q u := hD.xt hO g1 (fun i hi z => by omega)
    refine g_wk (Nat.le_refl 1090) (Nat.le_refl 8910) ?_

    obtain ⟨M2, e1, e2, e3, e4, e5, e6, e7⟩ := st_law (l := l) (g := g) hD hO gd gD gM (Nat.le_of_eq hN) (by omega) ht (fun _ _ _ _ => rfl) hn32
    have hZ2 := hZ.xt e4 e6 e5
    have hS2 : mS M2 = mS M := e4.2.2.1
    obtain ⟨M3, c1, c2, c3⟩ := c_combine (l := l) hZ2.1 hs ho ht (w := 3) (by decide)
    rw [hZ.am e4 e6 hs, hZ.am e4 e6 ho] at c1 c3
    have hw : onesF g n = nI (cM (fB g) n n) := on_c hn32 (by rw [hg]; exact wf_comb (hZ.1.wf hs) (hZ.1.wf ho)) n (Nat.le_refl n)
    rw [← hg, hw] at c1
    rw [← hg] at c3
    rw [← hS2]
    refine g_iload (pc := 616) dL_act_616 rfl ?_
    refine g_aload (pc := 618) dL_act_618 rfl trivial ?_
    refine g_getf (pc := 620) (v := .int _) dL_act_620 fk_L_45 hd9 (fun _ => congrArg Value.int (hz9)) ?_
    refine g_icmp_ge (pc := 623) (tgt := 790) dL_act_623 rfl (fun _ => ?_) (fun h623 => absurd (nI_le (Nat.le_refl _) (by omega)) h623)
    refine g_aload (pc := 790) dL_act_790 rfl trivial ?_
    refine g_iload (pc := 792) dL_act_792 rfl ?_
    refine g_aload (pc := 794) dL_act_794 rfl trivial ?_
    refine g_invV_r (pc := 796) (As := [_, _]) dL_act_796 rfl (e1) rfl rfl hd9 rfl rfl lk_L_155 rfl (nb rfl) ⟨nb rfl, nb rfl⟩ rfl ?_
    refine g_aload (pc := 799) dL_act_799 rfl trivial ?_
    refine g_aload (pc := 801) dL_act_801 rfl trivial ?_
    refine g_invV_r (pc := 803) (As := [_]) dL_act_803 rfl (k_ones e7 hn) rfl rfl e2.1.1 rfl rfl lk_L_159 rfl (nb rfl) ⟨nb rfl, nb rfl⟩ rfl ?_
    refine g_istore (pc := 806) (lv' := [(0, _), (2, _), (4, _), (5, _), (7, _), (8, _), (9, _), (13, _), (16, _), (17, _), (18, _), (19, _), (20, _), (21, _), (14, _)]) dL_act_806 (nl rfl) rfl ?_
    refine g_aload_n (pc := 808) dL_act_808 rfl trivial ?_
    refine g_iload (pc := 809) dL_act_809 rfl ?_
    refine g_iload (pc := 811) dL_act_811 rfl ?_
    refine g_iload (pc := 813) dL_act_813 rfl ?_
    refine g_iload (pc := 815) dL_act_815 rfl ?_
    refine g_invV_r (pc := 817) (As := [_, _, _, _]) dL_act_817 rfl (c1) rfl rfl (shK hZ2.1.S rfl) rfl rfl lk_L_168 rfl (nb rfl) ⟨nb rfl, nb rfl⟩ rfl ?_
    refine g_istore (pc := 820) (lv' := [(0, _), (2, _), (4, _), (5, _), (7, _), (8, _), (9, _), (13, _), (16, _), (17, _), (18, _), (19, _), (20, _), (21, _), (14, _), (15, _)]) dL_act_820 (nl rfl) rfl ?_
    refine g_goto (pc := 822) (tgt := 1338) dL_act_822 rfl ?_
    refine g_wk (pc := 1338) (k := 2) (n := 16) (by decide) (by decide) ?_
    exact g_subk (k_fin hZ2 hu e2 e3 c2 c3) ⟨rfl, rfl, rfl, rfl, rfl, rfl, trivial⟩
end

