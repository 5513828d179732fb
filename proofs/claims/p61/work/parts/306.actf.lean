/-! an action of the law: a row set -/
section
variable {l : Launch} {M : Mem} {A P n p d x s t o a b w MC MS : Nat} {is : Bool} {u : Nat → Int64} {ρ : Nat → Nat × Nat} {eo : Option Nat} {os : List OD} {nb : OD} {q : DQ}
theorem lg_eq {x y : Int64} : lg_cmp x y = 0 ↔ x = y := by
  refine ⟨fun h => ?_, lg_same⟩
  unfold lg_cmp at h
  by_cases h1 : x > y
  · rw [if_pos h1] at h
    exact absurd h (by decide)
  · rw [if_neg h1] at h
    by_cases h2 : x = y
    · exact h2
    · rw [if_neg h2] at h
      exact absurd h (by decide)
theorem hl_1 : ∀ i, i < 64 → hl 1 i = decide (i = 0) := by decide +kernel
theorem bit_1 {v : Int64} {c : Nat} (hc : c < 9) : lg_cmp (v >>> ((nI c).toInt64 &&& 63) &&& 1) 1 = 0 ↔ hl v c = true := by
  rw [lg_eq]
  have h0 : hl (v >>> ((nI c).toInt64 &&& 63) &&& 1) 0 = hl v c := by
    rw [hl_and, hl_shr _ (by omega) 0 (by decide), hl_1 0 (by decide), if_pos (by omega), Nat.add_zero]
    exact Bool.and_true _
  refine ⟨fun h => ?_, fun h => hl_ext fun i hi => ?_⟩
  · rw [h] at h0
    rw [← h0]
    exact hl_1 0 (by decide)
  · rw [hl_and, hl_1 i hi]
    by_cases e : i = 0
    · subst e
      rw [hl_and, hl_1 0 (by decide)] at h0
      rw [h0, h]
      rfl
    · rw [decide_eq_false e, Bool.and_false]
theorem act_3 (hZ : AZ M A P n p os.length d u (usO os) ρ eo os nb) (hu : nb.2.2 = u) (hD : DK M d n q u) (hO : OW ρ d n q) (hx9 : x < 2147483648) (hs : s < 6) (ha : a < n) : Go l jL_act 12 400 MC MS (QA A P n (mS M)) 352 [(0, .ref 0), (2, .ref P), (4, .ref d), (5, .int (nI x)), (7, .int (nI s)), (10, .int (nI a)), (13, .ref nb.1), (16, .int 1), (17, .ref (q.2.2.2.1 s))] [] 1100 9000 M := by
  have hn := hZ.2.2.2.2.2.2
  have hz := hD.z
  have hn32 : n ≤ 32 := by omega
  obtain ⟨-, hm⟩ := hD.m hZ.1 hs
  have hwf := hZ.1.wf hs
  have oc := (hO.2.2.2.2 s hs).2.2
  refine g_iload (pc := 352) dL_act_352 rfl ?_
  refine g_i2l (pc := 354) dL_act_354 rfl ?_
  refine g_iconst (pc := 355) (v := 3) dL_act_355 rfl ?_
  refine g_lshl (pc := 356) dL_act_356 rfl ?_
  refine g_iload (pc := 357) dL_act_357 rfl ?_
  refine g_sipush (pc := 359) (v := 977) dL_act_359 rfl ?_
  refine g_idiv (pc := 362) dL_act_362 (by decide) ?_
  refine g_i2l (pc := 363) dL_act_363 rfl ?_
  refine g_lxor (pc := 364) dL_act_364 ?_
  skip
  generalize (nI x).toInt64 <<< ((3 : Int32).toInt64 &&& 63) ^^^ (nI x / 977).toInt64 = v
  have cl : ∀ {My : Mem}, Xt (fun i => i = q.2.2.2.2.1 s a) M My → (mK My)[d]? = some (.inr 7) ∧ mI My d 0 = nI n := fun {My} h => ⟨h.k hD.1.1, (congrFun (h.I (k_lt hD.1.1) (nρ hO.1 (oc a ha) (by omega))) 0).trans hz⟩
  refine g_lstore (pc := 365) (lv' := [(0, _), (2, _), (4, _), (7, _), (10, _), (13, _), (16, _), (17, _), (18, _)]) dL_act_365 (nl rfl) rfl ?_
  refine g_iconst (pc := 367) (v := 0) dL_act_367 rfl ?_
  refine g_istore (pc := 368) (lv' := [(0, _), (2, _), (4, _), (7, _), (10, _), (13, _), (16, _), (17, _), (18, _), (14, _)]) dL_act_368 (nl rfl) rfl ?_
  refine g_iconst (pc := 370) (v := 0) dL_act_370 rfl ?_
  refine g_istore (pc := 371) (lv' := [(0, _), (2, _), (4, _), (7, _), (10, _), (13, _), (16, _), (17, _), (18, _), (14, _), (20, _)]) dL_act_371 (nl rfl) rfl ?_
  refine go_forS (pc := 373) n (fun i (_ : Mem) => [(0, .ref 0), (2, .ref P), (4, .ref d), (7, .int (nI s)), (10, .int (nI a)), (13, .ref nb.1), (14, .int (nI (cR (fun c => Bool.xor (hb (Am M s a) c) (hl v c)) i))), (16, .int 1), (17, .ref (q.2.2.2.1 s)), (18, .long v), (20, .int (nI i))]) (fun z => z) (fun i My => Xt (fun y => y = q.2.2.2.2.1 s a) M My ∧ Mt My (q.2.2.2.1 s) n (q.2.2.2.2.1 s) (fun r c => if r = a ∧ c < i then hl v c else hb (Am M s r) c)) (fun _ => 1100) (fun _ => 9000) M ⟨rfl, rfl, rfl, rfl, rfl, rfl, rfl, rfl, rfl, rfl, rfl, trivial⟩ rfl rfl rfl ⟨Xt.rf _ M, hm.cg (fun r c _ _ => (if_neg (fun z => Nat.not_lt_zero _ z.2)).symm)⟩ ?_ ?_
  · rintro j Mz hj ⟨f1, f2⟩ ih
    obtain ⟨hd8, hz8⟩ := cl f1
    have e9 : cR (fun c => Bool.xor (hb (Am M s a) c) (hl v c)) (j + 1) = cR (fun c => Bool.xor (hb (Am M s a) c) (hl v c)) j + (match Bool.xor (hb (Am M s a) j) (hl v j) with | true => 1 | false => 0) := rfl
    have hbit := bit_1 (v := v) (c := j) (by omega)
    have hval : mI Mz (q.2.2.2.2.1 s a) j = b1 (hb (Am M s a) j) := by
      rw [(f2.2 a ha).2.2 j hj, if_neg (fun z => Nat.lt_irrefl _ z.2)]
    have hput : Xt (fun y => y = q.2.2.2.2.1 s a) M (sI Mz (q.2.2.2.2.1 s a) (fun_set (mI Mz (q.2.2.2.2.1 s a)) j (vp_nar .boolean (b1 (hl v j))))) ∧ Mt (sI Mz (q.2.2.2.2.1 s a) (fun_set (mI Mz (q.2.2.2.2.1 s a)) j (vp_nar .boolean (b1 (hl v j))))) (q.2.2.2.1 s) n (q.2.2.2.2.1 s) (fun r c => if r = a ∧ c < j + 1 then hl v c else hb (Am M s r) c) := by
      refine ⟨f1.sI (fun _ => rfl), (f2.put (v := hl v j) (j := j) ha (fun r hr e => Classical.byContradiction fun z => nρ (oc r hr) (oc a ha) (by omega) e)).cg (fun r c _ _ => ?_)⟩
      by_cases e : r = a ∧ c = j
      · rw [if_pos e, if_pos ⟨e.1, by omega⟩, e.2]
      · rw [if_neg e]
        by_cases e2 : r = a ∧ c < j
        · rw [if_pos e2, if_pos ⟨e2.1, by omega⟩]
        · rw [if_neg e2, if_neg (by omega)]
    have ih2 := ih _ hput
    rw [e9] at ih2
    generalize cR (fun c => Bool.xor (hb (Am M s a) c) (hl v c)) j = w9 at *
    generalize hY : hl v j = Y at *
    generalize hb (Am M s a) j = X at *
    cases Y
    · have hne : ¬ lg_cmp (v >>> ((nI j).toInt64 &&& 63) &&& 1) 1 = 0 := fun z => by cases hbit.mp z
      cases X
      · refine g_iload (pc := 373) dL_act_373 rfl ?_
        refine g_aload (pc := 375) dL_act_375 rfl trivial ?_
        refine g_getf (pc := 377) (v := .int _) dL_act_377 fk_L_45 hd8 (fun _ => congrArg Value.int (hz8)) ?_
        refine g_icmp_ge (pc := 380) (tgt := 441) dL_act_380 rfl (fun h380 => absurd h380 (nI_ge hj (by omega))) (fun _ => ?_)
        refine g_lload (pc := 383) dL_act_383 rfl ?_
        refine g_iload (pc := 385) dL_act_385 rfl ?_
        refine g_lshr (pc := 387) dL_act_387 rfl ?_
        refine g_lconst (pc := 388) (v := 1) dL_act_388 rfl ?_
        refine g_land (pc := 389) dL_act_389 ?_
        refine g_lconst (pc := 390) (v := 1) dL_act_390 rfl ?_
        refine g_lcmp (pc := 391) dL_act_391 ?_
        refine g_if_ne (pc := 392) (tgt := 399) dL_act_392 rfl (fun _ => ?_) (fun h392 => absurd (hne) h392)
        refine g_iconst (pc := 399) (v := 0) dL_act_399 rfl ?_
        refine g_istore (pc := 400) (lv' := [(0, _), (2, _), (4, _), (7, _), (10, _), (13, _), (14, _), (16, _), (17, _), (18, _), (20, _), (21, _)]) dL_act_400 (nl rfl) rfl ?_
        refine g_iload (pc := 402) dL_act_402 rfl ?_
        refine g_aload (pc := 404) dL_act_404 rfl trivial ?_
        refine g_iload (pc := 406) dL_act_406 rfl ?_
        refine g_aaload_Z1 (pc := 408) dL_act_408 f2.1 rfl ha (by omega) (f2.2 a ha).1 ?_
        refine g_iload (pc := 409) dL_act_409 rfl ?_
        refine g_zaload (pc := 411) dL_act_411 (f2.2 a ha).2.1 rfl hj (by omega) ?_
        rw [hval]
        refine g_iload (pc := 412) dL_act_412 rfl ?_
        refine g_icmp_eq (pc := 414) (tgt := 421) dL_act_414 rfl (fun _ => ?_) (fun h414 => absurd (rfl) h414)
        refine g_iconst (pc := 421) (v := 0) dL_act_421 rfl ?_
        refine g_iadd (pc := 422) dL_act_422 ?_
        rw [show nI w9 + 0 = nI (w9 + 0) from nI_add _ 0]
        refine g_istore (pc := 423) (lv' := [(0, _), (2, _), (4, _), (7, _), (10, _), (13, _), (14, _), (16, _), (17, _), (18, _), (20, _), (21, _)]) dL_act_423 (nl rfl) rfl ?_
        refine g_aload (pc := 425) dL_act_425 rfl trivial ?_
        refine g_iload (pc := 427) dL_act_427 rfl ?_
        refine g_aaload_Z1 (pc := 429) dL_act_429 f2.1 rfl ha (by omega) (f2.2 a ha).1 ?_
        refine g_iload (pc := 430) dL_act_430 rfl ?_
        refine g_iload (pc := 432) dL_act_432 rfl ?_
        refine g_zastore (pc := 434) dL_act_434 (f2.2 a ha).2.1 rfl hj (by omega) ?_
        refine g_iinc (pc := 435) (lv' := [(0, _), (2, _), (4, _), (7, _), (10, _), (13, _), (14, _), (16, _), (17, _), (18, _), (20, _), (21, _)]) dL_act_435 rfl (nI_1 _) (nl rfl) rfl ?_
        refine g_goto (pc := 438) (tgt := 373) dL_act_438 rfl ?_
        exact g_subk ih2 ⟨rfl, rfl, rfl, rfl, rfl, rfl, rfl, rfl, rfl, rfl, rfl, trivial⟩
      · refine g_iload (pc := 373) dL_act_373 rfl ?_
        refine g_aload (pc := 375) dL_act_375 rfl trivial ?_
        refine g_getf (pc := 377) (v := .int _) dL_act_377 fk_L_45 hd8 (fun _ => congrArg Value.int (hz8)) ?_
        refine g_icmp_ge (pc := 380) (tgt := 441) dL_act_380 rfl (fun h380 => absurd h380 (nI_ge hj (by omega))) (fun _ => ?_)
        refine g_lload (pc := 383) dL_act_383 rfl ?_
        refine g_iload (pc := 385) dL_act_385 rfl ?_
        refine g_lshr (pc := 387) dL_act_387 rfl ?_
        refine g_lconst (pc := 388) (v := 1) dL_act_388 rfl ?_
        refine g_land (pc := 389) dL_act_389 ?_
        refine g_lconst (pc := 390) (v := 1) dL_act_390 rfl ?_
        refine g_lcmp (pc := 391) dL_act_391 ?_
        refine g_if_ne (pc := 392) (tgt := 399) dL_act_392 rfl (fun _ => ?_) (fun h392 => absurd (hne) h392)
        refine g_iconst (pc := 399) (v := 0) dL_act_399 rfl ?_
        refine g_istore (pc := 400) (lv' := [(0, _), (2, _), (4, _), (7, _), (10, _), (13, _), (14, _), (16, _), (17, _), (18, _), (20, _), (21, _)]) dL_act_400 (nl rfl) rfl ?_
        refine g_iload (pc := 402) dL_act_402 rfl ?_
        refine g_aload (pc := 404) dL_act_404 rfl trivial ?_
        refine g_iload (pc := 406) dL_act_406 rfl ?_
        refine g_aaload_Z1 (pc := 408) dL_act_408 f2.1 rfl ha (by omega) (f2.2 a ha).1 ?_
        refine g_iload (pc := 409) dL_act_409 rfl ?_
        refine g_zaload (pc := 411) dL_act_411 (f2.2 a ha).2.1 rfl hj (by omega) ?_
        rw [hval]
        refine g_iload (pc := 412) dL_act_412 rfl ?_
        refine g_icmp_eq (pc := 414) (tgt := 421) dL_act_414 rfl (fun h414 => absurd h414 ((by decide))) (fun _ => ?_)
        refine g_iconst (pc := 417) (v := 1) dL_act_417 rfl ?_
        refine g_goto (pc := 418) (tgt := 422) dL_act_418 rfl ?_
        refine g_iadd (pc := 422) dL_act_422 ?_
        rw [show nI w9 + 1 = nI (w9 + 1) from nI_add _ 1]
        refine g_istore (pc := 423) (lv' := [(0, _), (2, _), (4, _), (7, _), (10, _), (13, _), (14, _), (16, _), (17, _), (18, _), (20, _), (21, _)]) dL_act_423 (nl rfl) rfl ?_
        refine g_aload (pc := 425) dL_act_425 rfl trivial ?_
        refine g_iload (pc := 427) dL_act_427 rfl ?_
        refine g_aaload_Z1 (pc := 429) dL_act_429 f2.1 rfl ha (by omega) (f2.2 a ha).1 ?_
        refine g_iload (pc := 430) dL_act_430 rfl ?_
        refine g_iload (pc := 432) dL_act_432 rfl ?_
        refine g_zastore (pc := 434) dL_act_434 (f2.2 a ha).2.1 rfl hj (by omega) ?_
        refine g_iinc (pc := 435) (lv' := [(0, _), (2, _), (4, _), (7, _), (10, _), (13, _), (14, _), (16, _), (17, _), (18, _), (20, _), (21, _)]) dL_act_435 rfl (nI_1 _) (nl rfl) rfl ?_
        refine g_goto (pc := 438) (tgt := 373) dL_act_438 rfl ?_
        exact g_subk ih2 ⟨rfl, rfl, rfl, rfl, rfl, rfl, rfl, rfl, rfl, rfl, rfl, trivial⟩
    · have hq : lg_cmp (v >>> ((nI j).toInt64 &&& 63) &&& 1) 1 = 0 := hbit.mpr rfl
      cases X
      · refine g_iload (pc := 373) dL_act_373 rfl ?_
        refine g_aload (pc := 375) dL_act_375 rfl trivial ?_
        refine g_getf (pc := 377) (v := .int _) dL_act_377 fk_L_45 hd8 (fun _ => congrArg Value.int (hz8)) ?_
        refine g_icmp_ge (pc := 380) (tgt := 441) dL_act_380 rfl (fun h380 => absurd h380 (nI_ge hj (by omega))) (fun _ => ?_)
        refine g_lload (pc := 383) dL_act_383 rfl ?_
        refine g_iload (pc := 385) dL_act_385 rfl ?_
        refine g_lshr (pc := 387) dL_act_387 rfl ?_
        refine g_lconst (pc := 388) (v := 1) dL_act_388 rfl ?_
        refine g_land (pc := 389) dL_act_389 ?_
        refine g_lconst (pc := 390) (v := 1) dL_act_390 rfl ?_
        refine g_lcmp (pc := 391) dL_act_391 ?_
        refine g_if_ne (pc := 392) (tgt := 399) dL_act_392 rfl (fun h392 => absurd h392 ((fun z => z hq))) (fun _ => ?_)
        refine g_iconst (pc := 395) (v := 1) dL_act_395 rfl ?_
        refine g_goto (pc := 396) (tgt := 400) dL_act_396 rfl ?_
        refine g_istore (pc := 400) (lv' := [(0, _), (2, _), (4, _), (7, _), (10, _), (13, _), (14, _), (16, _), (17, _), (18, _), (20, _), (21, _)]) dL_act_400 (nl rfl) rfl ?_
        refine g_iload (pc := 402) dL_act_402 rfl ?_
        refine g_aload (pc := 404) dL_act_404 rfl trivial ?_
        refine g_iload (pc := 406) dL_act_406 rfl ?_
        refine g_aaload_Z1 (pc := 408) dL_act_408 f2.1 rfl ha (by omega) (f2.2 a ha).1 ?_
        refine g_iload (pc := 409) dL_act_409 rfl ?_
        refine g_zaload (pc := 411) dL_act_411 (f2.2 a ha).2.1 rfl hj (by omega) ?_
        rw [hval]
        refine g_iload (pc := 412) dL_act_412 rfl ?_
        refine g_icmp_eq (pc := 414) (tgt := 421) dL_act_414 rfl (fun h414 => absurd h414 ((by decide))) (fun _ => ?_)
        refine g_iconst (pc := 417) (v := 1) dL_act_417 rfl ?_
        refine g_goto (pc := 418) (tgt := 422) dL_act_418 rfl ?_
        refine g_iadd (pc := 422) dL_act_422 ?_
        rw [show nI w9 + 1 = nI (w9 + 1) from nI_add _ 1]
        refine g_istore (pc := 423) (lv' := [(0, _), (2, _), (4, _), (7, _), (10, _), (13, _), (14, _), (16, _), (17, _), (18, _), (20, _), (21, _)]) dL_act_423 (nl rfl) rfl ?_
        refine g_aload (pc := 425) dL_act_425 rfl trivial ?_
        refine g_iload (pc := 427) dL_act_427 rfl ?_
        refine g_aaload_Z1 (pc := 429) dL_act_429 f2.1 rfl ha (by omega) (f2.2 a ha).1 ?_
        refine g_iload (pc := 430) dL_act_430 rfl ?_
        refine g_iload (pc := 432) dL_act_432 rfl ?_
        refine g_zastore (pc := 434) dL_act_434 (f2.2 a ha).2.1 rfl hj (by omega) ?_
        refine g_iinc (pc := 435) (lv' := [(0, _), (2, _), (4, _), (7, _), (10, _), (13, _), (14, _), (16, _), (17, _), (18, _), (20, _), (21, _)]) dL_act_435 rfl (nI_1 _) (nl rfl) rfl ?_
        refine g_goto (pc := 438) (tgt := 373) dL_act_438 rfl ?_
        exact g_subk ih2 ⟨rfl, rfl, rfl, rfl, rfl, rfl, rfl, rfl, rfl, rfl, rfl, trivial⟩
      · refine g_iload (pc := 373) dL_act_373 rfl ?_
        refine g_aload (pc := 375) dL_act_375 rfl trivial ?_
        refine g_getf (pc := 377) (v := .int _) dL_act_377 fk_L_45 hd8 (fun _ => congrArg Value.int (hz8)) ?_
        refine g_icmp_ge (pc := 380) (tgt := 441) dL_act_380 rfl (fun h380 => absurd h380 (nI_ge hj (by omega))) (fun _ => ?_)
        refine g_lload (pc := 383) dL_act_383 rfl ?_
        refine g_iload (pc := 385) dL_act_385 rfl ?_
        refine g_lshr (pc := 387) dL_act_387 rfl ?_
        refine g_lconst (pc := 388) (v := 1) dL_act_388 rfl ?_
        refine g_land (pc := 389) dL_act_389 ?_
        refine g_lconst (pc := 390) (v := 1) dL_act_390 rfl ?_
        refine g_lcmp (pc := 391) dL_act_391 ?_
        refine g_if_ne (pc := 392) (tgt := 399) dL_act_392 rfl (fun h392 => absurd h392 ((fun z => z hq))) (fun _ => ?_)
        refine g_iconst (pc := 395) (v := 1) dL_act_395 rfl ?_
        refine g_goto (pc := 396) (tgt := 400) dL_act_396 rfl ?_
        refine g_istore (pc := 400) (lv' := [(0, _), (2, _), (4, _), (7, _), (10, _), (13, _), (14, _), (16, _), (17, _), (18, _), (20, _), (21, _)]) dL_act_400 (nl rfl) rfl ?_
        refine g_iload (pc := 402) dL_act_402 rfl ?_
        refine g_aload (pc := 404) dL_act_404 rfl trivial ?_
        refine g_iload (pc := 406) dL_act_406 rfl ?_
        refine g_aaload_Z1 (pc := 408) dL_act_408 f2.1 rfl ha (by omega) (f2.2 a ha).1 ?_
        refine g_iload (pc := 409) dL_act_409 rfl ?_
        refine g_zaload (pc := 411) dL_act_411 (f2.2 a ha).2.1 rfl hj (by omega) ?_
        rw [hval]
        refine g_iload (pc := 412) dL_act_412 rfl ?_
        refine g_icmp_eq (pc := 414) (tgt := 421) dL_act_414 rfl (fun _ => ?_) (fun h414 => absurd (rfl) h414)
        refine g_iconst (pc := 421) (v := 0) dL_act_421 rfl ?_
        refine g_iadd (pc := 422) dL_act_422 ?_
        rw [show nI w9 + 0 = nI (w9 + 0) from nI_add _ 0]
        refine g_istore (pc := 423) (lv' := [(0, _), (2, _), (4, _), (7, _), (10, _), (13, _), (14, _), (16, _), (17, _), (18, _), (20, _), (21, _)]) dL_act_423 (nl rfl) rfl ?_
        refine g_aload (pc := 425) dL_act_425 rfl trivial ?_
        refine g_iload (pc := 427) dL_act_427 rfl ?_
        refine g_aaload_Z1 (pc := 429) dL_act_429 f2.1 rfl ha (by omega) (f2.2 a ha).1 ?_
        refine g_iload (pc := 430) dL_act_430 rfl ?_
        refine g_iload (pc := 432) dL_act_432 rfl ?_
        refine g_zastore (pc := 434) dL_act_434 (f2.2 a ha).2.1 rfl hj (by omega) ?_
        refine g_iinc (pc := 435) (lv' := [(0, _), (2, _), (4, _), (7, _), (10, _), (13, _), (14, _), (16, _), (17, _), (18, _), (20, _), (21, _)]) dL_act_435 rfl (nI_1 _) (nl rfl) rfl ?_
        refine g_goto (pc := 438) (tgt := 373) dL_act_438 rfl ?_
        exact g_subk ih2 ⟨rfl, rfl, rfl, rfl, rfl, rfl, rfl, rfl, rfl, rfl, rfl, trivial⟩
  · rintro My ⟨g1, g2⟩
    obtain ⟨hd9, hz9⟩ := cl g1
    have hlow : ∀ c, c < n → hb (v.toInt32 &&& lowM n) c = hl v c := fun c hc => hb_low v hn32 hc
    have g3 : ∀ j, j ≠ 28 + 32 * s + a → fun_set u (28 + 32 * s + a) (uL (v.toInt32 &&& lowM n)) j = u j := fun j hj => fs_ne _ _ hj
    have hrow : ∀ r c, r < n → c < n → (if r = a ∧ c < n then hl v c else hb (Am M s r) c) = hb (rI (fun_set u (28 + 32 * s + a) (uL (v.toInt32 &&& lowM n))) s r) c := fun r c hr hc => by
      by_cases e : r = a
      · subst e
        unfold rI
        rw [if_pos ⟨rfl, hc⟩, fs_self, uL_32, hlow c hc]
      · rw [if_neg (fun z => e z.1)]
        unfold rI
        rw [g3 _ (by omega)]
        show _ = hb (rI u s r) c
        rw [hZ.1.rw hs hr]
    have hD1 : DK My d n q (fun_set u (28 + 32 * s + a) (uL (v.toInt32 &&& lowM n))) := hD.rows hO hs hn (g1.up (fun i _ e => ⟨a, ha, e⟩)) (g2.cg hrow) (fun t ht e => ⟨fun r hr => g3 _ (by omega), g3 _ (by omega), g3 _ (by omega), g3 _ (by omega), g3 _ (by omega)⟩) ⟨g3 _ (by omega), g3 _ (by omega), g3 _ (by omega), g3 _ (by omega)⟩ ⟨g3 _ (by omega), g3 _ (by omega), g3 _ (by omega)⟩
    obtain ⟨⟨k, k1, k2⟩, -⟩ := (hD1.2.2.2 s hs).2
    have hx2 := dkAnew_xt (M := My) (c := q.2.2.2.2.2 s) (k := k) (x := nI n)
    have hD2 : DK (dkAnew My (q.2.2.2.2.2 s) k (nI n)) d n q (anU (fun_set u (28 + 32 * s + a) (uL (v.toInt32 &&& lowM n))) s (nI n)) := hD1.anew hO hs k2
    have hZ1 := hZ.xt g1 (fun i _ e => by rw [e, oc a ha]) (fun _ _ => rfl)
    have hZ2 := hZ1.xt hx2 (fun i _ e => by rw [e, (hO.2.2.2.2 s hs).2.1]) (fun _ _ => rfl)
    have hA : Am (dkAnew My (q.2.2.2.2.2 s) k (nI n)) s = Am M s := (hZ1.am hx2 (fun i _ e => by rw [e, (hO.2.2.2.2 s hs).2.1]) hs).trans (hZ.am g1 (fun i _ e => by rw [e, oc a ha]) hs)
    have hS2 : mS (dkAnew My (q.2.2.2.2.2 s) k (nI n)) = mS M := hx2.2.2.1.trans g1.2.2.1
    have hka := k_anew (l := l) hD1 hO hs k1
    generalize dkAnew My (q.2.2.2.2.2 s) k (nI n) = M2 at *
    obtain ⟨M3, c1, c2, c3⟩ := c_setRow (l := l) (x := v) hZ2.1 hs ha
    rw [hA] at c1
    have hw : bcJ ((v.toInt32 &&& lowM n) ^^^ Am M s a) = nI (cR (fun c => Bool.xor (hb (Am M s a) c) (hl v c)) n) := by
      rw [bc_c hn32 (fun c hc => by rw [hb_xor, low_z hn32 c hc, hwf a ha c hc]; rfl)]
      exact congrArg nI (cR_cg n (fun c hc => by rw [hb_xor, hlow c hc, Bool.xor_comm]))
    rw [hw] at c1
    rw [← hS2]
    refine g_wk (Nat.le_refl 1100) (Nat.le_refl 9000) ?_
    refine g_iload (pc := 373) dL_act_373 rfl ?_
    refine g_aload (pc := 375) dL_act_375 rfl trivial ?_
    refine g_getf (pc := 377) (v := .int _) dL_act_377 fk_L_45 hd9 (fun _ => congrArg Value.int (hz9)) ?_
    refine g_icmp_ge (pc := 380) (tgt := 441) dL_act_380 rfl (fun _ => ?_) (fun h380 => absurd (nI_le (Nat.le_refl _) (by omega)) h380)
    refine g_aload (pc := 441) dL_act_441 rfl trivial ?_
    refine g_iload (pc := 443) dL_act_443 rfl ?_
    refine g_invV_r (pc := 445) (As := [_]) dL_act_445 rfl (hka) rfl rfl hD1.1.1 rfl rfl lk_L_85 rfl (nb rfl) ⟨nb rfl, nb rfl⟩ rfl ?_
    refine g_aload_n (pc := 448) dL_act_448 rfl trivial ?_
    refine g_iload (pc := 449) dL_act_449 rfl ?_
    refine g_iload (pc := 451) dL_act_451 rfl ?_
    refine g_lload (pc := 453) dL_act_453 rfl ?_
    refine g_invV_r (pc := 455) (As := [_, _, _]) dL_act_455 rfl (c1) rfl rfl (shK hZ2.1.S rfl) rfl rfl lk_L_147 rfl (nb rfl) ⟨nb rfl, nb rfl⟩ rfl ?_
    refine g_istore (pc := 458) (lv' := [(0, _), (2, _), (4, _), (7, _), (10, _), (13, _), (14, _), (16, _), (17, _), (18, _), (20, _), (15, _)]) dL_act_458 (nl rfl) rfl ?_
    refine g_goto (pc := 460) (tgt := 1338) dL_act_460 rfl ?_
    refine g_wk (pc := 1338) (k := 2) (n := 16) (by decide) (by decide) ?_
    exact g_subk (k_fin hZ2 hu hD2 hO c2 c3) ⟨rfl, rfl, rfl, rfl, rfl, rfl, trivial⟩
end

