/-! drawn: a filled slot -/
/-- the four words -/
def st4 (M : Mem) (A : Nat) : Nat → Mem
  | 0 => M
  | k + 1 => sI (st4 M A k) A (fun_set (mI (st4 M A k) A) k (nI (16 + k + 1)))
theorem st4_K (M : Mem) (A : Nat) : ∀ k, mK (st4 M A k) = mK M
  | 0 => rfl
  | k + 1 => st4_K M A k
theorem st4_R (M : Mem) (A : Nat) : ∀ k, mR (st4 M A k) = mR M
  | 0 => rfl
  | k + 1 => st4_R M A k
theorem st4_x (M : Mem) (A : Nat) : ∀ k, Xt (fun i => i = A) M (st4 M A k)
  | 0 => Xt.rf _ M
  | k + 1 => (st4_x M A k).sI (fun _ => rfl)
theorem st4_I (M : Mem) (A : Nat) : ∀ k j, j < k → mI (st4 M A k) A j = nI (16 + j + 1)
  | 0, j, hj => absurd hj (Nat.not_lt_zero j)
  | k + 1, j, hj => by
    rw [st4, sI_self]
    by_cases e : j = k
    · rw [e, fs_self]
    · rw [fs_ne _ _ e]
      exact st4_I M A k j (by omega)
section
variable {l : Launch} {M M0 : Mem} {b v0 d n s i r x w k MC MS kb nv : Nat} {q : DQ} {u : Nat → Int64} {ρ : Nat → Nat × Nat} {ts : List ST9} {Q : Res → Mem → Prop}
theorem drw_fill (hV : DV M0 M b v0 d n q u ts) (ho : OW ρ d n q) (hc : ∀ i, cel d n q i → (mK M0).length ≤ i) (h1 : 1 ≤ n) (hn : n ≤ 9) (hs : s < 6) (hr : r < n) (hx : x < 2147483648) (htl : (szW n ++ sT n ts).length ≤ 6 + 18 * i) (hi : i < 14) (next : ∀ (M1 : Mem) (t : ST9), t.1 < 3 → sOk n t u → DV M0 M1 b v0 d n q (sU n t u) (ts ++ [t]) → Go l jL_drawn 9 300 MC MS Q 39 [(0, .retAddr 0), (1, .int 0), (2, .ref b), (3, .int (nI w)), (4, .ref d), (5, .int (nI (i + 1)))] [] kb nv M1) (skip : Go l jL_drawn 9 300 MC MS Q 39 [(0, .retAddr 0), (1, .int 0), (2, .ref b), (3, .int (nI w)), (4, .ref d), (5, .int (nI (i + 1)))] [] kb nv M) : Go l jL_drawn 9 300 MC MS Q 276 [(0, .retAddr 0), (1, .int 0), (2, .ref b), (3, .int (nI w)), (4, .ref d), (5, .int (nI i)), (6, .int (nI x)), (7, .int (nI s)), (8, .ref (q.2.2.2.1 s)), (9, .int (nI r))] [] (kb + 15) (nv + 10000) M := by
  obtain ⟨⟨a1, a2, a3, a4⟩, ⟨z0, z1, z2, z3⟩, ⟨c1, c2, c3⟩, hQ⟩ := hV.1
  obtain ⟨⟨g1, g2⟩, -⟩ := hQ s hs
  have hD := hV.1
  have hgr := g2.2 r hr
  have hcr := hc _ (Or.inr (Or.inr (Or.inr (Or.inr ⟨s, hs, Or.inr (Or.inr ⟨r, hr, rfl⟩)⟩))))
  have hX0 := hV.2.2.x
  have hL0 := hV.2.2.len
  have hB := hV.2.2
  generalize hT : szW n ++ sT n ts = tx at *
  rcases (by omega : x / 65536 % 3 = 0 ∨ x / 65536 % 3 = 1 ∨ x / 65536 % 3 = 2) with e3 | e3 | e3
  rotate_left
  · refine g_iload (pc := 276) dL_drawn_276 rfl ?_
    refine g_ldc (pc := 278) dL_drawn_278 wd_x760 ?_
    refine g_idiv (pc := 280) dL_drawn_280 (by decide) ?_
    rw [show nI x / 65536 = nI (x / 65536) from nI_q (y := 65536) hx (by decide)]
    refine g_iconst (pc := 281) (v := 3) dL_drawn_281 rfl ?_
    refine g_irem (pc := 282) dL_drawn_282 (by decide) ?_
    rw [show nI (x / 65536) - nI (x / 65536) / 3 * 3 = nI (x / 65536 % 3) from nI_rem (b := 3) (dv_lt hx) (by decide), e3]
    refine g_if_le (pc := 283) (tgt := 289) dL_drawn_283 rfl (fun h283 => absurd h283 ((by decide))) (fun _ => ?_)
    refine g_goto (pc := 286) (tgt := 458) dL_drawn_286 rfl ?_
    refine g_iinc (pc := 458) (lv' := [(0, _), (1, _), (2, _), (3, _), (4, _), (5, _), (6, _), (7, _), (8, _), (9, _)]) dL_drawn_458 rfl (nI_1 _) (nl rfl) rfl ?_
    refine g_goto (pc := 461) (tgt := 39) dL_drawn_461 rfl ?_
    exact g_subk (g_wk (by omega) (by omega) skip) ⟨rfl, rfl, rfl, rfl, rfl, rfl, trivial⟩
  · refine g_iload (pc := 276) dL_drawn_276 rfl ?_
    refine g_ldc (pc := 278) dL_drawn_278 wd_x760 ?_
    refine g_idiv (pc := 280) dL_drawn_280 (by decide) ?_
    rw [show nI x / 65536 = nI (x / 65536) from nI_q (y := 65536) hx (by decide)]
    refine g_iconst (pc := 281) (v := 3) dL_drawn_281 rfl ?_
    refine g_irem (pc := 282) dL_drawn_282 (by decide) ?_
    rw [show nI (x / 65536) - nI (x / 65536) / 3 * 3 = nI (x / 65536 % 3) from nI_rem (b := 3) (dv_lt hx) (by decide), e3]
    refine g_if_le (pc := 283) (tgt := 289) dL_drawn_283 rfl (fun h283 => absurd h283 ((by decide))) (fun _ => ?_)
    refine g_goto (pc := 286) (tgt := 458) dL_drawn_286 rfl ?_
    refine g_iinc (pc := 458) (lv' := [(0, _), (1, _), (2, _), (3, _), (4, _), (5, _), (6, _), (7, _), (8, _), (9, _)]) dL_drawn_458 rfl (nI_1 _) (nl rfl) rfl ?_
    refine g_goto (pc := 461) (tgt := 39) dL_drawn_461 rfl ?_
    exact g_subk (g_wk (by omega) (by omega) skip) ⟨rfl, rfl, rfl, rfl, rfl, rfl, trivial⟩
  have hkA := new_at M (.inl (.object "java/lang/String", 4))
  have hRA := new_R M (.inl (.object "java/lang/String", 4))
  refine g_iload (pc := 276) dL_drawn_276 rfl ?_
  refine g_ldc (pc := 278) dL_drawn_278 wd_x760 ?_
  refine g_idiv (pc := 280) dL_drawn_280 (by decide) ?_
  rw [show nI x / 65536 = nI (x / 65536) from nI_q (y := 65536) hx (by decide)]
  refine g_iconst (pc := 281) (v := 3) dL_drawn_281 rfl ?_
  refine g_irem (pc := 282) dL_drawn_282 (by decide) ?_
  rw [show nI (x / 65536) - nI (x / 65536) / 3 * 3 = nI (x / 65536 % 3) from nI_rem (b := 3) (dv_lt hx) (by decide), e3]
  refine g_if_le (pc := 283) (tgt := 289) dL_drawn_283 rfl (fun _ => ?_) (fun h283 => absurd ((by decide)) h283)
  refine g_iconst (pc := 289) (v := 4) dL_drawn_289 rfl ?_
  refine g_anewarray_Str (pc := 290) dL_drawn_290 wd_x761 (len := 4) rfl (by decide) hX0 ?_
  refine g_dup (pc := 293) dL_drawn_293 rfl ?_
  refine g_iconst (pc := 294) (v := 0) dL_drawn_294 rfl ?_
  refine g_ldcS (pc := 295) (kS := 16) dL_drawn_295 rfl ?_
  refine g_aastore_Sp (pc := 297) dL_drawn_297 hkA (kS := 16) rfl rfl (by decide) (by decide) (congrFun hRA 0) (by decide) ?_
  refine g_dup (pc := 298) dL_drawn_298 rfl ?_
  refine g_iconst (pc := 299) (v := 1) dL_drawn_299 rfl ?_
  refine g_ldcS (pc := 300) (kS := 17) dL_drawn_300 rfl ?_
  refine g_aastore_Sp (pc := 302) dL_drawn_302 hkA (kS := 17) rfl rfl (by decide) (by decide) (congrFun hRA 1) (by decide) ?_
  refine g_dup (pc := 303) dL_drawn_303 rfl ?_
  refine g_iconst (pc := 304) (v := 2) dL_drawn_304 rfl ?_
  refine g_ldcS (pc := 305) (kS := 18) dL_drawn_305 rfl ?_
  refine g_aastore_Sp (pc := 307) dL_drawn_307 hkA (kS := 18) rfl rfl (by decide) (by decide) (congrFun hRA 2) (by decide) ?_
  refine g_dup (pc := 308) dL_drawn_308 rfl ?_
  refine g_iconst (pc := 309) (v := 3) dL_drawn_309 rfl ?_
  refine g_ldcS (pc := 310) (kS := 19) dL_drawn_310 rfl ?_
  refine g_aastore_Sp (pc := 312) dL_drawn_312 hkA (kS := 19) rfl rfl (by decide) (by decide) (congrFun hRA 3) (by decide) ?_
  show Go l _ _ _ _ _ _ _ _ _ _ _ (st4 (nK M (.inl (.object "java/lang/String", 4))) (mK M).length 4)
  have hI5 := st4_I (nK M (.inl (.object "java/lang/String", 4))) (mK M).length 4
  have hk5 : (mK (st4 (nK M (.inl (.object "java/lang/String", 4))) (mK M).length 4))[(mK M).length]? = some (.inl (.object "java/lang/String", 4)) := by
    rw [st4_K]
    exact hkA
  have hR5 : mR (st4 (nK M (.inl (.object "java/lang/String", 4))) (mK M).length 4) (mK M).length = fun _ => none := by
    rw [st4_R]
    exact hRA
  have hX5 : Xt (fun i => i = (mK M).length) M (st4 (nK M (.inl (.object "java/lang/String", 4))) (mK M).length 4) := ((Xt.rf (fun i => i = (mK M).length) M).nK _).tr (st4_x _ _ 4)
  generalize st4 (nK M (.inl (.object "java/lang/String", 4))) (mK M).length 4 = M5 at *
  have hD5 : DK M5 d n q u := hD.xg hX5 (fun i hi e => by
    have e9 : i = (mK M).length := e
    obtain ⟨y, k1, -⟩ := hD.cel_k hi
    have := k_lt k1
    omega)
  have hB5 : SBw M0 b v0 tx M5 := hB.wr hX5 (fun i hi e => by have e9 : i = (mK M).length := e; omega) (fun i hi e => by have e9 : i = (mK M).length := e; omega)
  have hk4 : x / 256 % 4 < 4 := Nat.mod_lt _ (by decide)
  refine g_astore (pc := 313) (lv' := [(0, _), (1, _), (2, _), (3, _), (4, _), (5, _), (6, _), (7, _), (8, _), (9, _), (10, _)]) dL_drawn_313 trivial (nl rfl) rfl ?_
  refine g_iload (pc := 315) dL_drawn_315 rfl ?_
  refine g_sipush (pc := 317) (v := 256) dL_drawn_317 rfl ?_
  refine g_idiv (pc := 320) dL_drawn_320 (by decide) ?_
  rw [show nI x / 256 = nI (x / 256) from nI_q (y := 256) hx (by decide)]
  refine g_iconst (pc := 321) (v := 4) dL_drawn_321 rfl ?_
  refine g_irem (pc := 322) dL_drawn_322 (by decide) ?_
  rw [show nI (x / 256) - nI (x / 256) / 4 * 4 = nI (x / 256 % 4) from nI_rem (b := 4) (dv_lt hx) (by decide)]
  refine g_istore (pc := 323) (lv' := [(0, _), (1, _), (2, _), (3, _), (4, _), (5, _), (6, _), (7, _), (8, _), (9, _), (10, _), (11, _)]) dL_drawn_323 (nl rfl) rfl ?_
  refine g_iconst (pc := 325) (v := 0) dL_drawn_325 rfl ?_
  refine g_istore (pc := 326) (lv' := [(0, _), (1, _), (2, _), (3, _), (4, _), (5, _), (6, _), (7, _), (8, _), (9, _), (10, _), (11, _), (12, _)]) dL_drawn_326 (nl rfl) rfl ?_
  skip
  generalize x / 256 % 4 = kd at *
  have hd9 : ¬ ∃ r9, r9 < n ∧ d = q.2.2.2.2.1 s r9 := fun ⟨r9, hr9, e⟩ => nρ ho.1 ((ho.2.2.2.2 s hs).2.2 r9 hr9) (by omega) e
  refine go_forS (pc := 328) n (fun a (_ : Mem) => [(0, .retAddr 0), (1, .int 0), (2, .ref b), (3, .int (nI w)), (4, .ref d), (5, .int (nI i)), (6, .int (nI x)), (7, .int (nI s)), (8, .ref (q.2.2.2.1 s)), (9, .int (nI r)), (10, .ref (mK M).length), (11, .int (nI kd)), (12, .int (nI a))]) id (fun a Mx => Mt Mx (q.2.2.2.1 s) n (q.2.2.2.2.1 s) (fun r9 c9 => if r9 < a ∨ (r9 = a ∧ c9 < 0) then fiB kd n r9 c9 else fB (rI u s) r9 c9) ∧ Xt (fun i => ∃ r9, r9 < n ∧ i = q.2.2.2.2.1 s r9) M5 Mx) (fun _ => kb + 14) (fun _ => nv + 9996) M5 ⟨rfl, rfl, rfl, rfl, rfl, rfl, rfl, rfl, rfl, rfl, rfl, rfl, rfl, trivial⟩ rfl rfl rfl ⟨(hD5.2.2.2 s hs).1.2.cg (fun r9 c9 _ _ => (if_neg (by omega)).symm), Xt.rf _ _⟩ ?_ ?_
  · intro a Mx ha ⟨hM, hX⟩ ih0
    have aX := hX.k hD5.1.1
    have zX := (congrFun (hX.I (k_lt hD5.1.1) hd9) 0).trans hD5.z
    refine g_iload (pc := 328) dL_drawn_328 rfl ?_
    refine g_aload (pc := 330) dL_drawn_330 rfl trivial ?_
    refine g_getf (pc := 332) (v := .int _) dL_drawn_332 fk_L_45 aX (fun _ => congrArg Value.int (zX)) ?_
    refine g_icmp_ge (pc := 335) (tgt := 433) dL_drawn_335 rfl (fun h335 => absurd h335 (nI_ge ha (by omega))) (fun _ => ?_)
    refine g_iconst (pc := 338) (v := 0) dL_drawn_338 rfl ?_
    refine g_istore (pc := 339) (lv' := [(0, _), (1, _), (2, _), (3, _), (4, _), (5, _), (6, _), (7, _), (8, _), (9, _), (10, _), (11, _), (12, _), (13, _)]) dL_drawn_339 (nl rfl) rfl ?_
    skip
    refine go_forS (pc := 341) n (fun c (_ : Mem) => [(0, .retAddr 0), (1, .int 0), (2, .ref b), (3, .int (nI w)), (4, .ref d), (5, .int (nI i)), (6, .int (nI x)), (7, .int (nI s)), (8, .ref (q.2.2.2.1 s)), (9, .int (nI r)), (10, .ref (mK M).length), (11, .int (nI kd)), (12, .int (nI a)), (13, .int (nI c))]) id (fun c My => Mt My (q.2.2.2.1 s) n (q.2.2.2.2.1 s) (fun r9 c9 => if r9 < a ∨ (r9 = a ∧ c9 < c) then fiB kd n r9 c9 else fB (rI u s) r9 c9) ∧ Xt (fun i => ∃ r9, r9 < n ∧ i = q.2.2.2.2.1 s r9) M5 My) (fun _ => kb + 14) (fun _ => nv + 9996) Mx ⟨rfl, rfl, rfl, rfl, rfl, rfl, rfl, rfl, rfl, rfl, rfl, rfl, rfl, rfl, trivial⟩ rfl rfl rfl ⟨hM, hX⟩ ?_ ?_
    · intro c My hcn ⟨hN, hY⟩ ih1
      have aY := hY.k hD5.1.1
      have zY := (congrFun (hY.I (k_lt hD5.1.1) hd9) 0).trans hD5.z
      have tail : Go l jL_drawn 9 300 MC MS Q 420 [(0, .retAddr 0), (1, .int 0), (2, .ref b), (3, .int (nI w)), (4, .ref d), (5, .int (nI i)), (6, .int (nI x)), (7, .int (nI s)), (8, .ref (q.2.2.2.1 s)), (9, .int (nI r)), (10, .ref (mK M).length), (11, .int (nI kd)), (12, .int (nI a)), (13, .int (nI c))] [.int (b1 (fiB kd n a c)), .int (nI c), .ref (q.2.2.2.2.1 s a)] (kb + 14) (nv + 9996) My := by
        refine g_zastore (pc := 420) dL_drawn_420 (hN.2 a ha).2.1 rfl hcn (by omega) ?_
        refine g_iinc (pc := 421) (lv' := [(0, _), (1, _), (2, _), (3, _), (4, _), (5, _), (6, _), (7, _), (8, _), (9, _), (10, _), (11, _), (12, _), (13, _)]) dL_drawn_421 rfl (nI_1 _) (nl rfl) rfl ?_
        refine g_goto (pc := 424) (tgt := 341) dL_drawn_424 rfl ?_
        exact g_subk (ih1 _ ⟨hN.fill2 ha (fun r9 hr9 e => ho.inj hs hr9 ha e) _ rfl, hY.sI (fun _ => ⟨a, ha, rfl⟩)⟩) ⟨rfl, rfl, rfl, rfl, rfl, rfl, rfl, rfl, rfl, rfl, rfl, rfl, rfl, rfl, trivial⟩
      refine g_iload (pc := 341) dL_drawn_341 rfl ?_
      refine g_aload (pc := 343) dL_drawn_343 rfl trivial ?_
      refine g_getf (pc := 345) (v := .int _) dL_drawn_345 fk_L_45 aY (fun _ => congrArg Value.int (zY)) ?_
      refine g_icmp_ge (pc := 348) (tgt := 427) dL_drawn_348 rfl (fun h348 => absurd h348 (nI_ge hcn (by omega))) (fun _ => ?_)
      refine g_aload (pc := 351) dL_drawn_351 rfl trivial ?_
      refine g_iload (pc := 353) dL_drawn_353 rfl ?_
      refine g_aaload_Z1 (pc := 355) dL_drawn_355 hN.1 rfl ha (by omega) (hN.2 a ha).1 ?_
      refine g_iload (pc := 356) dL_drawn_356 rfl ?_
      skip
      rcases (by omega : kd = 0 ∨ kd = 1 ∨ kd = 2 ∨ kd = 3) with e4 | e4 | e4 | e4 <;> subst e4
      · by_cases e5 : a = c
        · rw [show fiB 0 n a c = true from decide_eq_true e5] at tail
          refine g_iload (pc := 358) dL_drawn_358 rfl ?_
          refine g_if_ne (pc := 360) (tgt := 378) dL_drawn_360 rfl (fun h360 => absurd h360 ((fun z => z rfl))) (fun _ => ?_)
          refine g_iload (pc := 363) dL_drawn_363 rfl ?_
          refine g_iload (pc := 365) dL_drawn_365 rfl ?_
          refine g_icmp_ne (pc := 367) (tgt := 374) dL_drawn_367 rfl (fun h367 => absurd h367 ((fun z => z (by rw [e5])))) (fun _ => ?_)
          refine g_iconst (pc := 370) (v := 1) dL_drawn_370 rfl ?_
          refine g_goto (pc := 371) (tgt := 420) dL_drawn_371 rfl ?_
          exact tail
        · rw [show fiB 0 n a c = false from decide_eq_false e5] at tail
          refine g_iload (pc := 358) dL_drawn_358 rfl ?_
          refine g_if_ne (pc := 360) (tgt := 378) dL_drawn_360 rfl (fun h360 => absurd h360 ((fun z => z rfl))) (fun _ => ?_)
          refine g_iload (pc := 363) dL_drawn_363 rfl ?_
          refine g_iload (pc := 365) dL_drawn_365 rfl ?_
          refine g_icmp_ne (pc := 367) (tgt := 374) dL_drawn_367 rfl (fun _ => ?_) (fun h367 => absurd ((fun z => e5 (nI_inj9 (by omega) (by omega) z))) h367)
          refine g_iconst (pc := 374) (v := 0) dL_drawn_374 rfl ?_
          refine g_goto (pc := 375) (tgt := 420) dL_drawn_375 rfl ?_
          exact tail
      · rw [show fiB 1 n a c = true from rfl] at tail
        refine g_iload (pc := 358) dL_drawn_358 rfl ?_
        refine g_if_ne (pc := 360) (tgt := 378) dL_drawn_360 rfl (fun _ => ?_) (fun h360 => absurd ((by decide)) h360)
        refine g_iload (pc := 378) dL_drawn_378 rfl ?_
        refine g_iconst (pc := 380) (v := 1) dL_drawn_380 rfl ?_
        refine g_icmp_eq (pc := 381) (tgt := 415) dL_drawn_381 rfl (fun _ => ?_) (fun h381 => absurd (rfl) h381)
        refine g_iconst (pc := 415) (v := 1) dL_drawn_415 rfl ?_
        refine g_goto (pc := 416) (tgt := 420) dL_drawn_416 rfl ?_
        exact tail
      · have hm9 : (a + 1) % n < n := Nat.mod_lt _ (by omega)
        by_cases e5 : c = (a + 1) % n
        · rw [show fiB 2 n a c = true from decide_eq_true e5] at tail
          refine g_iload (pc := 358) dL_drawn_358 rfl ?_
          refine g_if_ne (pc := 360) (tgt := 378) dL_drawn_360 rfl (fun _ => ?_) (fun h360 => absurd ((by decide)) h360)
          refine g_iload (pc := 378) dL_drawn_378 rfl ?_
          refine g_iconst (pc := 380) (v := 1) dL_drawn_380 rfl ?_
          refine g_icmp_eq (pc := 381) (tgt := 415) dL_drawn_381 rfl (fun h381 => absurd h381 ((by decide))) (fun _ => ?_)
          refine g_iload (pc := 384) dL_drawn_384 rfl ?_
          refine g_iconst (pc := 386) (v := 2) dL_drawn_386 rfl ?_
          refine g_icmp_ne (pc := 387) (tgt := 408) dL_drawn_387 rfl (fun h387 => absurd h387 ((fun z => z rfl))) (fun _ => ?_)
          refine g_iload (pc := 390) dL_drawn_390 rfl ?_
          refine g_iload (pc := 392) dL_drawn_392 rfl ?_
          refine g_iconst (pc := 394) (v := 1) dL_drawn_394 rfl ?_
          refine g_iadd (pc := 395) dL_drawn_395 ?_
          rw [nI_1]
          refine g_aload (pc := 396) dL_drawn_396 rfl trivial ?_
          refine g_getf (pc := 398) (v := .int _) dL_drawn_398 fk_L_45 aY (fun _ => congrArg Value.int (zY)) ?_
          refine g_irem (pc := 401) dL_drawn_401 (nI_nz h1 hn) ?_
          rw [nI_rem (by omega) (by omega)]
          refine g_icmp_ne (pc := 402) (tgt := 419) dL_drawn_402 rfl (fun h402 => absurd h402 ((fun z => z (by rw [← e5])))) (fun _ => ?_)
          refine g_goto (pc := 405) (tgt := 415) dL_drawn_405 rfl ?_
          refine g_iconst (pc := 415) (v := 1) dL_drawn_415 rfl ?_
          refine g_goto (pc := 416) (tgt := 420) dL_drawn_416 rfl ?_
          exact tail
        · rw [show fiB 2 n a c = false from decide_eq_false e5] at tail
          refine g_iload (pc := 358) dL_drawn_358 rfl ?_
          refine g_if_ne (pc := 360) (tgt := 378) dL_drawn_360 rfl (fun _ => ?_) (fun h360 => absurd ((by decide)) h360)
          refine g_iload (pc := 378) dL_drawn_378 rfl ?_
          refine g_iconst (pc := 380) (v := 1) dL_drawn_380 rfl ?_
          refine g_icmp_eq (pc := 381) (tgt := 415) dL_drawn_381 rfl (fun h381 => absurd h381 ((by decide))) (fun _ => ?_)
          refine g_iload (pc := 384) dL_drawn_384 rfl ?_
          refine g_iconst (pc := 386) (v := 2) dL_drawn_386 rfl ?_
          refine g_icmp_ne (pc := 387) (tgt := 408) dL_drawn_387 rfl (fun h387 => absurd h387 ((fun z => z rfl))) (fun _ => ?_)
          refine g_iload (pc := 390) dL_drawn_390 rfl ?_
          refine g_iload (pc := 392) dL_drawn_392 rfl ?_
          refine g_iconst (pc := 394) (v := 1) dL_drawn_394 rfl ?_
          refine g_iadd (pc := 395) dL_drawn_395 ?_
          rw [nI_1]
          refine g_aload (pc := 396) dL_drawn_396 rfl trivial ?_
          refine g_getf (pc := 398) (v := .int _) dL_drawn_398 fk_L_45 aY (fun _ => congrArg Value.int (zY)) ?_
          refine g_irem (pc := 401) dL_drawn_401 (nI_nz h1 hn) ?_
          rw [nI_rem (by omega) (by omega)]
          refine g_icmp_ne (pc := 402) (tgt := 419) dL_drawn_402 rfl (fun _ => ?_) (fun h402 => absurd ((fun z => e5 (nI_inj9 (by omega) (by omega) z))) h402)
          refine g_iconst (pc := 419) (v := 0) dL_drawn_419 rfl ?_
          exact tail
      · by_cases e5 : c < a
        · rw [show fiB 3 n a c = true from decide_eq_true e5] at tail
          refine g_iload (pc := 358) dL_drawn_358 rfl ?_
          refine g_if_ne (pc := 360) (tgt := 378) dL_drawn_360 rfl (fun _ => ?_) (fun h360 => absurd ((by decide)) h360)
          refine g_iload (pc := 378) dL_drawn_378 rfl ?_
          refine g_iconst (pc := 380) (v := 1) dL_drawn_380 rfl ?_
          refine g_icmp_eq (pc := 381) (tgt := 415) dL_drawn_381 rfl (fun h381 => absurd h381 ((by decide))) (fun _ => ?_)
          refine g_iload (pc := 384) dL_drawn_384 rfl ?_
          refine g_iconst (pc := 386) (v := 2) dL_drawn_386 rfl ?_
          refine g_icmp_ne (pc := 387) (tgt := 408) dL_drawn_387 rfl (fun _ => ?_) (fun h387 => absurd ((by decide)) h387)
          refine g_iload (pc := 408) dL_drawn_408 rfl ?_
          refine g_iload (pc := 410) dL_drawn_410 rfl ?_
          refine g_icmp_ge (pc := 412) (tgt := 419) dL_drawn_412 rfl (fun h412 => absurd h412 (nI_ge e5 (by omega))) (fun _ => ?_)
          refine g_iconst (pc := 415) (v := 1) dL_drawn_415 rfl ?_
          refine g_goto (pc := 416) (tgt := 420) dL_drawn_416 rfl ?_
          exact tail
        · rw [show fiB 3 n a c = false from decide_eq_false e5] at tail
          refine g_iload (pc := 358) dL_drawn_358 rfl ?_
          refine g_if_ne (pc := 360) (tgt := 378) dL_drawn_360 rfl (fun _ => ?_) (fun h360 => absurd ((by decide)) h360)
          refine g_iload (pc := 378) dL_drawn_378 rfl ?_
          refine g_iconst (pc := 380) (v := 1) dL_drawn_380 rfl ?_
          refine g_icmp_eq (pc := 381) (tgt := 415) dL_drawn_381 rfl (fun h381 => absurd h381 ((by decide))) (fun _ => ?_)
          refine g_iload (pc := 384) dL_drawn_384 rfl ?_
          refine g_iconst (pc := 386) (v := 2) dL_drawn_386 rfl ?_
          refine g_icmp_ne (pc := 387) (tgt := 408) dL_drawn_387 rfl (fun _ => ?_) (fun h387 => absurd ((by decide)) h387)
          refine g_iload (pc := 408) dL_drawn_408 rfl ?_
          refine g_iload (pc := 410) dL_drawn_410 rfl ?_
          refine g_icmp_ge (pc := 412) (tgt := 419) dL_drawn_412 rfl (fun _ => ?_) (fun h412 => absurd (nI_le (Nat.le_of_not_lt e5) (by omega)) h412)
          refine g_iconst (pc := 419) (v := 0) dL_drawn_419 rfl ?_
          exact tail
    · intro My ⟨hN, hY⟩
      have aY := hY.k hD5.1.1
      have zY := (congrFun (hY.I (k_lt hD5.1.1) hd9) 0).trans hD5.z
      refine g_iload (pc := 341) dL_drawn_341 rfl ?_
      refine g_aload (pc := 343) dL_drawn_343 rfl trivial ?_
      refine g_getf (pc := 345) (v := .int _) dL_drawn_345 fk_L_45 aY (fun _ => congrArg Value.int (zY)) ?_
      refine g_icmp_ge (pc := 348) (tgt := 427) dL_drawn_348 rfl (fun _ => ?_) (fun h348 => absurd (nI_le (Nat.le_refl _) (by omega)) h348)
      refine g_iinc (pc := 427) (lv' := [(0, _), (1, _), (2, _), (3, _), (4, _), (5, _), (6, _), (7, _), (8, _), (9, _), (10, _), (11, _), (12, _), (13, _)]) dL_drawn_427 rfl (nI_1 _) (nl rfl) rfl ?_
      refine g_goto (pc := 430) (tgt := 328) dL_drawn_430 rfl ?_
      refine g_subk (pc := 328) (ih0 My ⟨hN.cg (fun r9 c9 hr9 hc9 => ?_), hY⟩) ⟨rfl, rfl, rfl, rfl, rfl, rfl, rfl, rfl, rfl, rfl, rfl, rfl, rfl, trivial⟩
      by_cases e : r9 < a + 1
      · rw [if_pos (by omega), if_pos (Or.inl e)]
      · rw [if_neg (by omega), if_neg (by omega)]
  · intro Mx ⟨hM, hX⟩
    have hok : sOk n (2, s, kd, 0, fun _ => false) u := ⟨hs, hk4⟩
    have aX := hX.k hD5.1.1
    have zX := (congrFun (hX.I (k_lt hD5.1.1) hd9) 0).trans hD5.z
    have hD6 : DK Mx d n q (sU n (2, s, kd, 0, fun _ => false) u) := hD5.rows2 ho hs hn hX (fun i w => Or.inl w) (hM.cg (fun r9 c9 hr9 hc9 => by
      show _ = hb (rI (sU n (2, s, kd, 0, fun _ => false) u) s r9) c9
      rw [if_pos (Or.inl hr9), sU_r2 hn hr9, kd_b hn hr9 hc9])) (fun t ht ne => sU_E hn (show 2 < 3 by decide) hok ht ne) ⟨sU_u hn (show 2 < 3 by decide) hok (by omega), sU_u hn (show 2 < 3 by decide) hok (by omega), sU_u hn (show 2 < 3 by decide) hok (by omega), sU_u hn (show 2 < 3 by decide) hok (by omega)⟩ ⟨sU_u hn (show 2 < 3 by decide) hok (by decide), sU_u hn (show 2 < 3 by decide) hok (by decide), sU_u hn (show 2 < 3 by decide) hok (by decide)⟩
    have hB6 : SBw M0 b v0 tx Mx := hB5.wr hX (fun i hi w => by
      obtain ⟨r9, h9, e⟩ := w
      have := hc _ (Or.inr (Or.inr (Or.inr (Or.inr ⟨s, hs, Or.inr (Or.inr ⟨r9, h9, rfl⟩)⟩))))
      omega) (fun i _ w => by
      obtain ⟨r9, h9, e⟩ := w
      exact ⟨.inl (.boolean, n), by rw [e]; exact ((hD5.2.2.2 s hs).1.2.2 r9 h9).2.1, dk_no trivial⟩)
    have hA9 : ¬ ∃ r9, r9 < n ∧ (mK M).length = q.2.2.2.2.1 s r9 := fun ⟨r9, h9, e⟩ => by
      have k7 := hk5
      rw [e, ((hD5.2.2.2 s hs).1.2.2 r9 h9).2.1] at k7
      cases k7
    have hk6 := hX.k hk5
    have hI6 := hX.I (k_lt hk5) hA9
    have hR6 := (hX.R (k_lt hk5) hA9).trans hR5
    refine g_iload (pc := 328) dL_drawn_328 rfl ?_
    refine g_aload (pc := 330) dL_drawn_330 rfl trivial ?_
    refine g_getf (pc := 332) (v := .int _) dL_drawn_332 fk_L_45 aX (fun _ => congrArg Value.int (zX)) ?_
    refine g_icmp_ge (pc := 335) (tgt := 433) dL_drawn_335 rfl (fun _ => ?_) (fun h335 => absurd (nI_le (Nat.le_refl _) (by omega)) h335)
    refine g_aload_n (pc := 433) dL_drawn_433 rfl trivial ?_
    refine g_ldcS (pc := 434) (kS := 20) dL_drawn_434 rfl ?_
    refine g_invV_o (pc := 436) (As := [_]) dL_drawn_436 rfl (y_sbS (kS := 20) (w9 := [32, 59, 102, 105, 108, 108, 32]) (m := 7) hB6 rfl rfl (by omega)) rfl rfl hB6.k rfl rfl lk_L_40 rfl (nb rfl) ⟨nb rfl, nb rfl⟩ rfl (fun v0 N0 hq => ?_)
    obtain ⟨rfl, hb0, hx0⟩ := hq
    show Go l _ _ _ _ _ _ _ _ ([.ref b] : List Value) _ _ _
    have hl0 : (tx ++ ([32, 59, 102, 105, 108, 108, 32] : List Int32)).length = tx.length + 7 := by rw [List.length_append]; rfl
    generalize ht0 : tx ++ ([32, 59, 102, 105, 108, 108, 32] : List Int32) = tx0 at hb0 hl0
    refine g_iload (pc := 439) dL_drawn_439 rfl ?_
    refine g_invV_o (pc := 441) (As := [_]) dL_drawn_441 rfl (y_sbI (c := s) hb0 (by omega) (by omega)) rfl rfl hb0.k rfl rfl lk_L_49 rfl (nb rfl) ⟨nb rfl, nb rfl⟩ rfl (fun v1 N1 hq => ?_)
    obtain ⟨rfl, hb1, hx1⟩ := hq
    show Go l _ _ _ _ _ _ _ _ ([.ref b] : List Value) _ _ _
    have hl1 : (tx0 ++ [nI (48 + s)]).length = tx0.length + 1 := by rw [List.length_append]; rfl
    generalize ht1 : tx0 ++ [nI (48 + s)] = tx1 at hb1 hl1
    refine g_bipush (pc := 444) (v := 32) dL_drawn_444 rfl ?_
    refine g_invV_o (pc := 446) (As := [_]) dL_drawn_446 rfl (y_sbC (c := 32) hb1 (by decide) (by omega)) rfl rfl hb1.k rfl rfl lk_L_58 rfl (nb rfl) ⟨nb rfl, nb rfl⟩ rfl (fun v2 N2 hq => ?_)
    obtain ⟨rfl, hb2, hx2⟩ := hq
    show Go l _ _ _ _ _ _ _ _ ([.ref b] : List Value) _ _ _
    have hl2 : (tx1 ++ [nI 32]).length = tx1.length + 1 := by rw [List.length_append]; rfl
    generalize ht2 : tx1 ++ [nI 32] = tx2 at hb2 hl2
    have hx9 : Xb Mx N2 := (hx0.tr hx1).tr hx2
    have hD9 := hD6.xb hx9
    have hk9 := Xt.k hx9 hk6
    have hI9 := (Xt.I hx9 (k_lt hk6) (no_b hk6 bkO)).trans hI6
    have hR9 := (Xt.R hx9 (k_lt hk6) (no_b hk6 bkO)).trans hR6
    rcases (by omega : kd = 0 ∨ kd = 1 ∨ kd = 2 ∨ kd = 3) with e4 | e4 | e4 | e4 <;> subst e4
    · refine g_aload (pc := 449) dL_drawn_449 rfl trivial ?_
      refine g_iload (pc := 451) dL_drawn_451 rfl ?_
      refine g_aaload_Sp (pc := 453) dL_drawn_453 hk9 rfl (show 0 < 4 by decide) (by decide) (congrFun hR9 0) (kS := 16) ((congrFun hI9 0).trans (hI5 0 (by decide))) (by decide) ?_
      refine g_invV_o (pc := 454) (As := [_]) dL_drawn_454 rfl (y_sbS (kS := 16) (w9 := strW (4 + 0)) (m := (strW (4 + 0)).length) hb2 (strK (k := 0) (by decide)).1 rfl (by have h5 := (strK (k := 0) (by decide)).2; omega)) rfl rfl hb2.k rfl rfl lk_L_40 rfl (nb rfl) ⟨nb rfl, nb rfl⟩ rfl (fun v3 N3 hq => ?_)
      obtain ⟨rfl, hb3, hx3⟩ := hq
      show Go l _ _ _ _ _ _ _ _ ([.ref b] : List Value) _ _ _
      have hl3 : (tx2 ++ strW (4 + 0)).length = tx2.length + (strW (4 + 0)).length := by rw [List.length_append]
      generalize ht3 : tx2 ++ strW (4 + 0) = tx3 at hb3 hl3
      have hD8 := hD9.xb hx3
      refine g_pop (pc := 457) dL_drawn_457 rfl ?_
      refine g_iinc (pc := 458) (lv' := [(0, _), (1, _), (2, _), (3, _), (4, _), (5, _), (6, _), (7, _), (8, _), (9, _), (10, _), (11, _), (12, _)]) dL_drawn_458 rfl (nI_1 _) (nl rfl) rfl ?_
      refine g_goto (pc := 461) (tgt := 39) dL_drawn_461 rfl ?_
      refine g_wk (pc := 39) (k := kb) (n := nv) (by omega) (by omega) ?_
      refine g_subk (next _ (2, s, 0, 0, fun _ => false) (show 2 < 3 by decide) hok (hV.nx _ hok hD8 hb3 ?_)) ⟨rfl, rfl, rfl, rfl, rfl, rfl, trivial⟩
      rw [← ht3, ← ht2, ← ht1, ← ht0, hT]
      simp only [List.append_assoc]
      rfl
    · refine g_aload (pc := 449) dL_drawn_449 rfl trivial ?_
      refine g_iload (pc := 451) dL_drawn_451 rfl ?_
      refine g_aaload_Sp (pc := 453) dL_drawn_453 hk9 rfl (show 1 < 4 by decide) (by decide) (congrFun hR9 1) (kS := 17) ((congrFun hI9 1).trans (hI5 1 (by decide))) (by decide) ?_
      refine g_invV_o (pc := 454) (As := [_]) dL_drawn_454 rfl (y_sbS (kS := 17) (w9 := strW (4 + 1)) (m := (strW (4 + 1)).length) hb2 (strK (k := 1) (by decide)).1 rfl (by have h5 := (strK (k := 1) (by decide)).2; omega)) rfl rfl hb2.k rfl rfl lk_L_40 rfl (nb rfl) ⟨nb rfl, nb rfl⟩ rfl (fun v3 N3 hq => ?_)
      obtain ⟨rfl, hb3, hx3⟩ := hq
      show Go l _ _ _ _ _ _ _ _ ([.ref b] : List Value) _ _ _
      have hl3 : (tx2 ++ strW (4 + 1)).length = tx2.length + (strW (4 + 1)).length := by rw [List.length_append]
      generalize ht3 : tx2 ++ strW (4 + 1) = tx3 at hb3 hl3
      have hD8 := hD9.xb hx3
      refine g_pop (pc := 457) dL_drawn_457 rfl ?_
      refine g_iinc (pc := 458) (lv' := [(0, _), (1, _), (2, _), (3, _), (4, _), (5, _), (6, _), (7, _), (8, _), (9, _), (10, _), (11, _), (12, _)]) dL_drawn_458 rfl (nI_1 _) (nl rfl) rfl ?_
      refine g_goto (pc := 461) (tgt := 39) dL_drawn_461 rfl ?_
      refine g_wk (pc := 39) (k := kb) (n := nv) (by omega) (by omega) ?_
      refine g_subk (next _ (2, s, 1, 0, fun _ => false) (show 2 < 3 by decide) hok (hV.nx _ hok hD8 hb3 ?_)) ⟨rfl, rfl, rfl, rfl, rfl, rfl, trivial⟩
      rw [← ht3, ← ht2, ← ht1, ← ht0, hT]
      simp only [List.append_assoc]
      rfl
    · refine g_aload (pc := 449) dL_drawn_449 rfl trivial ?_
      refine g_iload (pc := 451) dL_drawn_451 rfl ?_
      refine g_aaload_Sp (pc := 453) dL_drawn_453 hk9 rfl (show 2 < 4 by decide) (by decide) (congrFun hR9 2) (kS := 18) ((congrFun hI9 2).trans (hI5 2 (by decide))) (by decide) ?_
      refine g_invV_o (pc := 454) (As := [_]) dL_drawn_454 rfl (y_sbS (kS := 18) (w9 := strW (4 + 2)) (m := (strW (4 + 2)).length) hb2 (strK (k := 2) (by decide)).1 rfl (by have h5 := (strK (k := 2) (by decide)).2; omega)) rfl rfl hb2.k rfl rfl lk_L_40 rfl (nb rfl) ⟨nb rfl, nb rfl⟩ rfl (fun v3 N3 hq => ?_)
      obtain ⟨rfl, hb3, hx3⟩ := hq
      show Go l _ _ _ _ _ _ _ _ ([.ref b] : List Value) _ _ _
      have hl3 : (tx2 ++ strW (4 + 2)).length = tx2.length + (strW (4 + 2)).length := by rw [List.length_append]
      generalize ht3 : tx2 ++ strW (4 + 2) = tx3 at hb3 hl3
      have hD8 := hD9.xb hx3
      refine g_pop (pc := 457) dL_drawn_457 rfl ?_
      refine g_iinc (pc := 458) (lv' := [(0, _), (1, _), (2, _), (3, _), (4, _), (5, _), (6, _), (7, _), (8, _), (9, _), (10, _), (11, _), (12, _)]) dL_drawn_458 rfl (nI_1 _) (nl rfl) rfl ?_
      refine g_goto (pc := 461) (tgt := 39) dL_drawn_461 rfl ?_
      refine g_wk (pc := 39) (k := kb) (n := nv) (by omega) (by omega) ?_
      refine g_subk (next _ (2, s, 2, 0, fun _ => false) (show 2 < 3 by decide) hok (hV.nx _ hok hD8 hb3 ?_)) ⟨rfl, rfl, rfl, rfl, rfl, rfl, trivial⟩
      rw [← ht3, ← ht2, ← ht1, ← ht0, hT]
      simp only [List.append_assoc]
      rfl
    · refine g_aload (pc := 449) dL_drawn_449 rfl trivial ?_
      refine g_iload (pc := 451) dL_drawn_451 rfl ?_
      refine g_aaload_Sp (pc := 453) dL_drawn_453 hk9 rfl (show 3 < 4 by decide) (by decide) (congrFun hR9 3) (kS := 19) ((congrFun hI9 3).trans (hI5 3 (by decide))) (by decide) ?_
      refine g_invV_o (pc := 454) (As := [_]) dL_drawn_454 rfl (y_sbS (kS := 19) (w9 := strW (4 + 3)) (m := (strW (4 + 3)).length) hb2 (strK (k := 3) (by decide)).1 rfl (by have h5 := (strK (k := 3) (by decide)).2; omega)) rfl rfl hb2.k rfl rfl lk_L_40 rfl (nb rfl) ⟨nb rfl, nb rfl⟩ rfl (fun v3 N3 hq => ?_)
      obtain ⟨rfl, hb3, hx3⟩ := hq
      show Go l _ _ _ _ _ _ _ _ ([.ref b] : List Value) _ _ _
      have hl3 : (tx2 ++ strW (4 + 3)).length = tx2.length + (strW (4 + 3)).length := by rw [List.length_append]
      generalize ht3 : tx2 ++ strW (4 + 3) = tx3 at hb3 hl3
      have hD8 := hD9.xb hx3
      refine g_pop (pc := 457) dL_drawn_457 rfl ?_
      refine g_iinc (pc := 458) (lv' := [(0, _), (1, _), (2, _), (3, _), (4, _), (5, _), (6, _), (7, _), (8, _), (9, _), (10, _), (11, _), (12, _)]) dL_drawn_458 rfl (nI_1 _) (nl rfl) rfl ?_
      refine g_goto (pc := 461) (tgt := 39) dL_drawn_461 rfl ?_
      refine g_wk (pc := 39) (k := kb) (n := nv) (by omega) (by omega) ?_
      refine g_subk (next _ (2, s, 3, 0, fun _ => false) (show 2 < 3 by decide) hok (hV.nx _ hok hD8 hb3 ?_)) ⟨rfl, rfl, rfl, rfl, rfl, rfl, trivial⟩
      rw [← ht3, ← ht2, ← ht1, ← ht0, hT]
      simp only [List.append_assoc]
      rfl
end

