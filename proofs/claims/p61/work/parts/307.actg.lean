/-! an action of the law: a bit put -/
section
variable {l : Launch} {M : Mem} {A P n p d x s t o a b w MC MS : Nat} {is : Bool} {u : Nat → Int64} {ρ : Nat → Nat × Nat} {eo : Option Nat} {os : List OD} {nb : OD} {q : DQ}
theorem act_0s (hZ : AZ M A P n p os.length d u (usO os) ρ eo os nb) (hu : nb.2.2 = u) (hD : DK M d n q u) (hO : OW ρ d n q) (hs : s < 6) (ha : a < n) (hb9 : b < n) (hq9 : hb (Am M s a) b = is) : Go l jL_act 12 400 MC MS (QA A P n (mS M)) 224 [(0, .ref 0), (2, .ref P), (4, .ref d), (7, .int (nI s)), (10, .int (nI a)), (11, .int (nI b)), (12, .int (b1 is)), (13, .ref nb.1), (16, .int 1), (17, .ref (q.2.2.2.1 s))] [] 1100 9000 M := by
  have hn := hZ.2.2.2.2.2.2
  have hx := hZ.x
  have hz := hD.z
  have hn32 : n ≤ 32 := by omega
  obtain ⟨-, hm⟩ := hD.m hZ.1 hs
  have hwf := hZ.1.wf hs
  have hlt := hD.lt
  have oc := (hO.2.2.2.2 s hs).2.2
  have on := (hO.2.2.2.2 s hs).2.1
  have hlr := (hlt.2.2.2.2 s hs).2.2 a ha
  have hlc := (hlt.2.2.2.2 s hs).2.1
  refine g_aload (pc := 224) dL_act_224 rfl trivial ?_
  refine g_aload (pc := 226) dL_act_226 rfl trivial ?_
  refine g_invV_o (pc := 228) (As := [_]) dL_act_228 rfl (k_closure hD.1.1 hz hm hn hx) rfl rfl hD.1.1 rfl rfl lk_L_131 rfl (nb rfl) ⟨nb rfl, nb rfl⟩ rfl (fun v1 M1 hq => ?_)
  obtain ⟨m1, b9, rfl, w1, w2, w3, x1⟩ := hq
  show Go l _ _ _ _ _ _ _ _ ([.ref m1] : List Value) _ _ _
  have hD1 : DK M1 d n q u := hD.xt hO x1 (fun _ _ z => z.elim)
  have hm1 := hm.xt x1 id (fun _ _ => id)
  have hz1 := hD1.z
  refine g_astore (pc := 231) (lv' := [(0, _), (2, _), (4, _), (7, _), (10, _), (11, _), (12, _), (13, _), (16, _), (17, _), (18, _)]) dL_act_231 trivial (nl rfl) rfl ?_
  refine g_iconst (pc := 233) (v := 0) dL_act_233 rfl ?_
  refine g_istore (pc := 234) (lv' := [(0, _), (2, _), (4, _), (7, _), (10, _), (11, _), (12, _), (13, _), (16, _), (17, _), (18, _), (19, _)]) dL_act_234 (nl rfl) rfl ?_
  refine g_iconst (pc := 236) (v := 0) dL_act_236 rfl ?_
  refine g_istore (pc := 237) (lv' := [(0, _), (2, _), (4, _), (7, _), (10, _), (11, _), (12, _), (13, _), (16, _), (17, _), (18, _), (19, _), (20, _)]) dL_act_237 (nl rfl) rfl ?_
  refine go_loop (pc := 239) n (fun i => [(0, .ref 0), (2, .ref P), (4, .ref d), (7, .int (nI s)), (10, .int (nI a)), (11, .int (nI b)), (12, .int (b1 is)), (13, .ref nb.1), (16, .int 1), (17, .ref (q.2.2.2.1 s)), (18, .ref m1), (19, .int (nI (cR (fun k => decide (k = a) || clB (fB (Am M s)) n k a) i))), (20, .int (nI i))]) (fun _ => M1) ⟨rfl, rfl, rfl, rfl, rfl, rfl, rfl, rfl, rfl, rfl, rfl, rfl, rfl, trivial⟩ rfl ?_ ?_
  · intro i hi ih
    have hv : mI M1 (b9 + i) a = b1 (clB (fB (Am M s)) n i a) := (w1.2 i hi).2.2 a ha
    have e9 : cR (fun k => decide (k = a) || clB (fB (Am M s)) n k a) (i + 1) = cR (fun k => decide (k = a) || clB (fB (Am M s)) n k a) i + (match (decide (i = a) || clB (fB (Am M s)) n i a) with | true => 1 | false => 0) := rfl
    rw [e9] at ih
    generalize cR (fun k => decide (k = a) || clB (fB (Am M s)) n k a) i = w9 at *
    by_cases e : i = a
    · rw [decide_eq_true e, Bool.true_or] at ih
      refine g_iload (pc := 239) dL_act_239 rfl ?_
      refine g_aload (pc := 241) dL_act_241 rfl trivial ?_
      refine g_getf (pc := 243) (v := .int _) dL_act_243 fk_L_45 hD1.1.1 (fun _ => congrArg Value.int (hz1)) ?_
      refine g_icmp_ge (pc := 246) (tgt := 283) dL_act_246 rfl (fun h246 => absurd h246 (nI_ge hi (by omega))) (fun _ => ?_)
      refine g_iload (pc := 249) dL_act_249 rfl ?_
      refine g_iload (pc := 251) dL_act_251 rfl ?_
      refine g_iload (pc := 253) dL_act_253 rfl ?_
      refine g_icmp_eq (pc := 255) (tgt := 269) dL_act_255 rfl (fun _ => ?_) (fun h255 => absurd ((by rw [e])) h255)
      refine g_iconst (pc := 269) (v := 1) dL_act_269 rfl ?_
      refine g_goto (pc := 270) (tgt := 274) dL_act_270 rfl ?_
      refine g_iadd (pc := 274) dL_act_274 ?_
      rw [show nI w9 + 1 = nI (w9 + 1) from nI_add _ 1]
      refine g_istore (pc := 275) (lv' := [(0, _), (2, _), (4, _), (7, _), (10, _), (11, _), (12, _), (13, _), (16, _), (17, _), (18, _), (19, _), (20, _)]) dL_act_275 (nl rfl) rfl ?_
      refine g_iinc (pc := 277) (lv' := [(0, _), (2, _), (4, _), (7, _), (10, _), (11, _), (12, _), (13, _), (16, _), (17, _), (18, _), (19, _), (20, _)]) dL_act_277 rfl (nI_1 _) (nl rfl) rfl ?_
      refine g_goto (pc := 280) (tgt := 239) dL_act_280 rfl ?_
      exact g_subk ih ⟨rfl, rfl, rfl, rfl, rfl, rfl, rfl, rfl, rfl, rfl, rfl, rfl, rfl, trivial⟩
    · have n1 : ¬ nI i = nI a := fun z => e (nI_inj9 (by omega) (by omega) z)
      rw [decide_eq_false e, Bool.false_or] at ih
      cases hC : clB (fB (Am M s)) n i a
      · rw [hC] at hv ih
        refine g_iload (pc := 239) dL_act_239 rfl ?_
        refine g_aload (pc := 241) dL_act_241 rfl trivial ?_
        refine g_getf (pc := 243) (v := .int _) dL_act_243 fk_L_45 hD1.1.1 (fun _ => congrArg Value.int (hz1)) ?_
        refine g_icmp_ge (pc := 246) (tgt := 283) dL_act_246 rfl (fun h246 => absurd h246 (nI_ge hi (by omega))) (fun _ => ?_)
        refine g_iload (pc := 249) dL_act_249 rfl ?_
        refine g_iload (pc := 251) dL_act_251 rfl ?_
        refine g_iload (pc := 253) dL_act_253 rfl ?_
        refine g_icmp_eq (pc := 255) (tgt := 269) dL_act_255 rfl (fun h255 => absurd h255 (n1)) (fun _ => ?_)
        refine g_aload (pc := 258) dL_act_258 rfl trivial ?_
        refine g_iload (pc := 260) dL_act_260 rfl ?_
        refine g_aaload_Z1 (pc := 262) dL_act_262 w1.1 rfl hi (by omega) (w1.2 i hi).1 ?_
        refine g_iload (pc := 263) dL_act_263 rfl ?_
        refine g_zaload (pc := 265) dL_act_265 (w1.2 i hi).2.1 rfl ha (by omega) ?_
        rw [show mI M1 ((fun r => b9 + r) i) a = b1 false from hv]
        refine g_if_eq (pc := 266) (tgt := 273) dL_act_266 rfl (fun _ => ?_) (fun h266 => absurd (rfl) h266)
        refine g_iconst (pc := 273) (v := 0) dL_act_273 rfl ?_
        refine g_iadd (pc := 274) dL_act_274 ?_
        rw [show nI w9 + 0 = nI (w9 + 0) from nI_add _ 0]
        refine g_istore (pc := 275) (lv' := [(0, _), (2, _), (4, _), (7, _), (10, _), (11, _), (12, _), (13, _), (16, _), (17, _), (18, _), (19, _), (20, _)]) dL_act_275 (nl rfl) rfl ?_
        refine g_iinc (pc := 277) (lv' := [(0, _), (2, _), (4, _), (7, _), (10, _), (11, _), (12, _), (13, _), (16, _), (17, _), (18, _), (19, _), (20, _)]) dL_act_277 rfl (nI_1 _) (nl rfl) rfl ?_
        refine g_goto (pc := 280) (tgt := 239) dL_act_280 rfl ?_
        exact g_subk ih ⟨rfl, rfl, rfl, rfl, rfl, rfl, rfl, rfl, rfl, rfl, rfl, rfl, rfl, trivial⟩
      · rw [hC] at hv ih
        refine g_iload (pc := 239) dL_act_239 rfl ?_
        refine g_aload (pc := 241) dL_act_241 rfl trivial ?_
        refine g_getf (pc := 243) (v := .int _) dL_act_243 fk_L_45 hD1.1.1 (fun _ => congrArg Value.int (hz1)) ?_
        refine g_icmp_ge (pc := 246) (tgt := 283) dL_act_246 rfl (fun h246 => absurd h246 (nI_ge hi (by omega))) (fun _ => ?_)
        refine g_iload (pc := 249) dL_act_249 rfl ?_
        refine g_iload (pc := 251) dL_act_251 rfl ?_
        refine g_iload (pc := 253) dL_act_253 rfl ?_
        refine g_icmp_eq (pc := 255) (tgt := 269) dL_act_255 rfl (fun h255 => absurd h255 (n1)) (fun _ => ?_)
        refine g_aload (pc := 258) dL_act_258 rfl trivial ?_
        refine g_iload (pc := 260) dL_act_260 rfl ?_
        refine g_aaload_Z1 (pc := 262) dL_act_262 w1.1 rfl hi (by omega) (w1.2 i hi).1 ?_
        refine g_iload (pc := 263) dL_act_263 rfl ?_
        refine g_zaload (pc := 265) dL_act_265 (w1.2 i hi).2.1 rfl ha (by omega) ?_
        rw [show mI M1 ((fun r => b9 + r) i) a = b1 true from hv]
        refine g_if_eq (pc := 266) (tgt := 273) dL_act_266 rfl (fun h266 => absurd h266 ((by decide))) (fun _ => ?_)
        refine g_iconst (pc := 269) (v := 1) dL_act_269 rfl ?_
        refine g_goto (pc := 270) (tgt := 274) dL_act_270 rfl ?_
        refine g_iadd (pc := 274) dL_act_274 ?_
        rw [show nI w9 + 1 = nI (w9 + 1) from nI_add _ 1]
        refine g_istore (pc := 275) (lv' := [(0, _), (2, _), (4, _), (7, _), (10, _), (11, _), (12, _), (13, _), (16, _), (17, _), (18, _), (19, _), (20, _)]) dL_act_275 (nl rfl) rfl ?_
        refine g_iinc (pc := 277) (lv' := [(0, _), (2, _), (4, _), (7, _), (10, _), (11, _), (12, _), (13, _), (16, _), (17, _), (18, _), (19, _), (20, _)]) dL_act_277 rfl (nI_1 _) (nl rfl) rfl ?_
        refine g_goto (pc := 280) (tgt := 239) dL_act_280 rfl ?_
        exact g_subk ih ⟨rfl, rfl, rfl, rfl, rfl, rfl, rfl, rfl, rfl, rfl, rfl, rfl, rfl, trivial⟩
  · have hval : mI M1 (q.2.2.2.2.1 s a) b = b1 (hb (Am M s a) b) := (hm1.2 a ha).2.2 b hb9
    obtain ⟨⟨k, k1, k2⟩, -⟩ := (hD1.2.2.2 s hs).2
    have hlk := k_look (l := l) (x := (0 : Int32)) hD1 hs k1
    have hD2 : DK (dkLook M1 (q.2.2.2.2.2 s) k (0 : Int32)) d n q (lkU u s (0 : Int32)) := hD1.look hO hs k2
    have hx2 := dkLook_xt (M := M1) (c := q.2.2.2.2.2 s) (k := k) (x := (0 : Int32))
    have hm2 : Mt (dkLook M1 (q.2.2.2.2.2 s) k (0 : Int32)) (q.2.2.2.1 s) n (q.2.2.2.2.1 s) (fB (Am M s)) := hm1.xt hx2 (nρ (hO.2.2.2.2 s hs).1 on (by omega)) (fun r hr => nρ (oc r hr) on (by omega))
    generalize dkLook M1 (q.2.2.2.2.2 s) k (0 : Int32) = M2 at *
    have hru : ∀ r, r < n → rI (lkU u s (0 : Int32)) s r = Am M s r := fun r hr => by
      unfold rI
      rw [lkU_ne (by omega) (by omega)]
      exact hZ.1.rw hs hr
    have hD3 : DK (sI M2 (q.2.2.2.2.1 s a) (fun_set (mI M2 (q.2.2.2.2.1 s a)) b (vp_nar .boolean (b1 is)))) d n q (lkU u s 0) := hD2.cell hO hs hn ha (fun r c hr hc => by
      by_cases e : r = a ∧ c = b
      · rw [if_pos e, hru r hr, e.1, e.2, hq9]
      · rw [if_neg e]) (fun t ht e => ⟨fun _ _ => rfl, rfl, rfl, rfl, rfl⟩) ⟨rfl, rfl, rfl, rfl⟩ ⟨rfl, rfl, rfl⟩
    have hm3 : Mt (sI M2 (q.2.2.2.2.1 s a) (fun_set (mI M2 (q.2.2.2.2.1 s a)) b (vp_nar .boolean (b1 is)))) (q.2.2.2.1 s) n (q.2.2.2.2.1 s) (fB (Am M s)) := (hD3.2.2.2 s hs).1.2.cg (fun r c hr _ => by show hb (rI (lkU u s 0) s r) c = hb (Am M s r) c; rw [hru r hr])
    have hx3 : Xt (fun i => i = q.2.2.2.2.2 s ∨ i = q.2.2.2.2.1 s a) M1 (sI M2 (q.2.2.2.2.1 s a) (fun_set (mI M2 (q.2.2.2.2.1 s a)) b (vp_nar .boolean (b1 is)))) := (hx2.up (fun i _ e => Or.inl e)).sI (fun _ => Or.inr rfl)
    refine g_iload (pc := 239) dL_act_239 rfl ?_
    refine g_aload (pc := 241) dL_act_241 rfl trivial ?_
    refine g_getf (pc := 243) (v := .int _) dL_act_243 fk_L_45 hD1.1.1 (fun _ => congrArg Value.int (hz1)) ?_
    refine g_icmp_ge (pc := 246) (tgt := 283) dL_act_246 rfl (fun _ => ?_) (fun h246 => absurd (nI_le (Nat.le_refl _) (by omega)) h246)
    refine g_aload (pc := 283) dL_act_283 rfl trivial ?_
    refine g_iload (pc := 285) dL_act_285 rfl ?_
    refine g_aload (pc := 287) dL_act_287 rfl trivial ?_
    refine g_iload (pc := 289) dL_act_289 rfl ?_
    refine g_aaload_Z1 (pc := 291) dL_act_291 hm1.1 rfl ha (by omega) (hm1.2 a ha).1 ?_
    refine g_iload (pc := 292) dL_act_292 rfl ?_
    refine g_zaload (pc := 294) dL_act_294 (hm1.2 a ha).2.1 rfl hb9 (by omega) ?_
    rw [hval]
    refine g_iload (pc := 295) dL_act_295 rfl ?_
    refine g_icmp_ne (pc := 297) (tgt := 304) dL_act_297 rfl (fun h297 => absurd h297 ((fun z => z (by rw [hq9])))) (fun _ => ?_)
    refine g_iconst (pc := 300) (v := 0) dL_act_300 rfl ?_
    refine g_goto (pc := 301) (tgt := 306) dL_act_301 rfl ?_
    refine g_invV_r (pc := 306) (As := [_, _]) dL_act_306 rfl (hlk) rfl rfl hD1.1.1 rfl rfl lk_L_135 rfl (nb rfl) ⟨nb rfl, nb rfl⟩ rfl ?_
    refine g_aload (pc := 309) dL_act_309 rfl trivial ?_
    refine g_iload (pc := 311) dL_act_311 rfl ?_
    refine g_aaload_Z1 (pc := 313) dL_act_313 hm2.1 rfl ha (by omega) (hm2.2 a ha).1 ?_
    refine g_iload (pc := 314) dL_act_314 rfl ?_
    refine g_iload (pc := 316) dL_act_316 rfl ?_
    refine g_zastore (pc := 318) dL_act_318 (hm2.2 a ha).2.1 rfl hb9 (by omega) ?_
    show Go l _ _ _ _ _ _ _ _ _ _ _ (sI M2 (q.2.2.2.2.1 s a) (fun_set (mI M2 (q.2.2.2.2.1 s a)) b (vp_nar .boolean (b1 is))))
    generalize sI M2 (q.2.2.2.2.1 s a) (fun_set (mI M2 (q.2.2.2.2.1 s a)) b (vp_nar .boolean (b1 is))) = M3 at *
    have hX3 : mX M3 = true := hx3.2.1.trans (x1.2.1.trans hx)
    refine g_aload (pc := 319) dL_act_319 rfl trivial ?_
    refine g_aload (pc := 321) dL_act_321 rfl trivial ?_
    refine g_aload (pc := 323) dL_act_323 rfl trivial ?_
    refine g_aload (pc := 325) dL_act_325 rfl trivial ?_
    refine g_invV_o (pc := 327) (As := [_]) dL_act_327 rfl (k_closure hD3.1.1 hD3.z hm3 hn hX3) rfl rfl hD3.1.1 rfl rfl lk_L_131 rfl (nb rfl) ⟨nb rfl, nb rfl⟩ rfl (fun v2 M4 hq => ?_)
    obtain ⟨m4, b4, rfl, y1, y2, y3, x4⟩ := hq
    show Go l _ _ _ _ _ _ _ _ ([.ref m4, .ref m1, .ref d] : List Value) _ _ _
    have hD4 : DK M4 d n q (lkU u s 0) := hD3.xt hO x4 (fun _ _ z => z.elim)
    have hx4 : Xt (fun i => i = q.2.2.2.2.2 s ∨ i = q.2.2.2.2.1 s a) M1 M4 := hx3.tr' x4 (fun _ _ z => z.elim)
    have hx5 : Xt (fun i => i = q.2.2.2.2.2 s ∨ i = q.2.2.2.2.1 s a) M M4 := (x1.up (fun _ _ z => z.elim)).tr hx4
    have hw1 : Mt M4 m1 n (fun r => b9 + r) (clB (fB (Am M s)) n) := w1.xt hx4 (by omega) (fun r hr => by omega)
    have how : ∀ i, i < (mK M).length → (i = q.2.2.2.2.2 s ∨ i = q.2.2.2.2.1 s a) → (ρ i).1 = d := fun i _ e => by
      rcases e with e | e
      · rw [e, on]
      · rw [e, oc a ha]
    have hZ4 := hZ.xt hx5 how (fun _ _ => rfl)
    have hA4 := hZ.am hx5 how hs
    have hS4 : mS M4 = mS M := hx5.2.2.1
    have hdue : dM (clB (fB (Am M s)) n) (clB (fB (Am M s)) n) n n = 0 := (cM_0 n).mpr (fun r c _ _ => Bool.xor_self _)
    obtain ⟨M5, c1, c2, c3⟩ := c_put0 (l := l) (v := is) hZ4.1 hs ha hb9 (by rw [hA4]; exact hq9)
    have hdf := k_differ (l := l) hD4.1.1 hD4.z hw1 y1 hn
    rw [hdue] at hdf
    rw [← hS4]
    refine g_invV_r (pc := 330) (As := [_, _]) dL_act_330 rfl (hdf) rfl rfl hD4.1.1 rfl rfl lk_L_139 rfl (nb rfl) ⟨nb rfl, nb rfl⟩ rfl ?_
    refine g_istore (pc := 333) (lv' := [(0, _), (2, _), (4, _), (7, _), (10, _), (11, _), (12, _), (13, _), (16, _), (17, _), (18, _), (19, _), (20, _), (14, _)]) dL_act_333 (nl rfl) rfl ?_
    refine g_aload_n (pc := 335) dL_act_335 rfl trivial ?_
    refine g_iload (pc := 336) dL_act_336 rfl ?_
    refine g_iload (pc := 338) dL_act_338 rfl ?_
    refine g_iload (pc := 340) dL_act_340 rfl ?_
    refine g_iload (pc := 342) dL_act_342 rfl ?_
    refine g_invV_r (pc := 344) (As := [_, _, _, _]) dL_act_344 rfl (c1) rfl rfl (shK hZ4.1.S rfl) rfl rfl lk_L_143 rfl (nb rfl) ⟨nb rfl, nb rfl⟩ rfl ?_
    refine g_istore (pc := 347) (lv' := [(0, _), (2, _), (4, _), (7, _), (10, _), (11, _), (12, _), (13, _), (16, _), (17, _), (18, _), (19, _), (20, _), (14, _), (15, _)]) dL_act_347 (nl rfl) rfl ?_
    refine g_goto (pc := 349) (tgt := 1338) dL_act_349 rfl ?_
    refine g_wk (pc := 1338) (k := 2) (n := 16) (by decide) (by decide) ?_
    exact g_subk (k_fin hZ4 hu hD4 hO c2 c3) ⟨rfl, rfl, rfl, rfl, rfl, rfl, trivial⟩
theorem act_0d (hZ : AZ M A P n p os.length d u (usO os) ρ eo os nb) (hu : nb.2.2 = u) (hD : DK M d n q u) (hO : OW ρ d n q) (hs : s < 6) (ha : a < n) (hb9 : b < n) (hq9 : hb (Am M s a) b ≠ is) : Go l jL_act 12 400 MC MS (QA A P n (mS M)) 224 [(0, .ref 0), (2, .ref P), (4, .ref d), (7, .int (nI s)), (10, .int (nI a)), (11, .int (nI b)), (12, .int (b1 is)), (13, .ref nb.1), (16, .int 1), (17, .ref (q.2.2.2.1 s))] [] 1100 9000 M := by
  have hn := hZ.2.2.2.2.2.2
  have hx := hZ.x
  have hz := hD.z
  have hn32 : n ≤ 32 := by omega
  obtain ⟨-, hm⟩ := hD.m hZ.1 hs
  have hwf := hZ.1.wf hs
  have hlt := hD.lt
  have oc := (hO.2.2.2.2 s hs).2.2
  have on := (hO.2.2.2.2 s hs).2.1
  have hlr := (hlt.2.2.2.2 s hs).2.2 a ha
  have hlc := (hlt.2.2.2.2 s hs).2.1
  refine g_aload (pc := 224) dL_act_224 rfl trivial ?_
  refine g_aload (pc := 226) dL_act_226 rfl trivial ?_
  refine g_invV_o (pc := 228) (As := [_]) dL_act_228 rfl (k_closure hD.1.1 hz hm hn hx) rfl rfl hD.1.1 rfl rfl lk_L_131 rfl (nb rfl) ⟨nb rfl, nb rfl⟩ rfl (fun v1 M1 hq => ?_)
  obtain ⟨m1, b9, rfl, w1, w2, w3, x1⟩ := hq
  show Go l _ _ _ _ _ _ _ _ ([.ref m1] : List Value) _ _ _
  have hD1 : DK M1 d n q u := hD.xt hO x1 (fun _ _ z => z.elim)
  have hm1 := hm.xt x1 id (fun _ _ => id)
  have hz1 := hD1.z
  refine g_astore (pc := 231) (lv' := [(0, _), (2, _), (4, _), (7, _), (10, _), (11, _), (12, _), (13, _), (16, _), (17, _), (18, _)]) dL_act_231 trivial (nl rfl) rfl ?_
  refine g_iconst (pc := 233) (v := 0) dL_act_233 rfl ?_
  refine g_istore (pc := 234) (lv' := [(0, _), (2, _), (4, _), (7, _), (10, _), (11, _), (12, _), (13, _), (16, _), (17, _), (18, _), (19, _)]) dL_act_234 (nl rfl) rfl ?_
  refine g_iconst (pc := 236) (v := 0) dL_act_236 rfl ?_
  refine g_istore (pc := 237) (lv' := [(0, _), (2, _), (4, _), (7, _), (10, _), (11, _), (12, _), (13, _), (16, _), (17, _), (18, _), (19, _), (20, _)]) dL_act_237 (nl rfl) rfl ?_
  refine go_loop (pc := 239) n (fun i => [(0, .ref 0), (2, .ref P), (4, .ref d), (7, .int (nI s)), (10, .int (nI a)), (11, .int (nI b)), (12, .int (b1 is)), (13, .ref nb.1), (16, .int 1), (17, .ref (q.2.2.2.1 s)), (18, .ref m1), (19, .int (nI (cR (fun k => decide (k = a) || clB (fB (Am M s)) n k a) i))), (20, .int (nI i))]) (fun _ => M1) ⟨rfl, rfl, rfl, rfl, rfl, rfl, rfl, rfl, rfl, rfl, rfl, rfl, rfl, trivial⟩ rfl ?_ ?_
  · intro i hi ih
    have hv : mI M1 (b9 + i) a = b1 (clB (fB (Am M s)) n i a) := (w1.2 i hi).2.2 a ha
    have e9 : cR (fun k => decide (k = a) || clB (fB (Am M s)) n k a) (i + 1) = cR (fun k => decide (k = a) || clB (fB (Am M s)) n k a) i + (match (decide (i = a) || clB (fB (Am M s)) n i a) with | true => 1 | false => 0) := rfl
    rw [e9] at ih
    generalize cR (fun k => decide (k = a) || clB (fB (Am M s)) n k a) i = w9 at *
    by_cases e : i = a
    · rw [decide_eq_true e, Bool.true_or] at ih
      refine g_iload (pc := 239) dL_act_239 rfl ?_
      refine g_aload (pc := 241) dL_act_241 rfl trivial ?_
      refine g_getf (pc := 243) (v := .int _) dL_act_243 fk_L_45 hD1.1.1 (fun _ => congrArg Value.int (hz1)) ?_
      refine g_icmp_ge (pc := 246) (tgt := 283) dL_act_246 rfl (fun h246 => absurd h246 (nI_ge hi (by omega))) (fun _ => ?_)
      refine g_iload (pc := 249) dL_act_249 rfl ?_
      refine g_iload (pc := 251) dL_act_251 rfl ?_
      refine g_iload (pc := 253) dL_act_253 rfl ?_
      refine g_icmp_eq (pc := 255) (tgt := 269) dL_act_255 rfl (fun _ => ?_) (fun h255 => absurd ((by rw [e])) h255)
      refine g_iconst (pc := 269) (v := 1) dL_act_269 rfl ?_
      refine g_goto (pc := 270) (tgt := 274) dL_act_270 rfl ?_
      refine g_iadd (pc := 274) dL_act_274 ?_
      rw [show nI w9 + 1 = nI (w9 + 1) from nI_add _ 1]
      refine g_istore (pc := 275) (lv' := [(0, _), (2, _), (4, _), (7, _), (10, _), (11, _), (12, _), (13, _), (16, _), (17, _), (18, _), (19, _), (20, _)]) dL_act_275 (nl rfl) rfl ?_
      refine g_iinc (pc := 277) (lv' := [(0, _), (2, _), (4, _), (7, _), (10, _), (11, _), (12, _), (13, _), (16, _), (17, _), (18, _), (19, _), (20, _)]) dL_act_277 rfl (nI_1 _) (nl rfl) rfl ?_
      refine g_goto (pc := 280) (tgt := 239) dL_act_280 rfl ?_
      exact g_subk ih ⟨rfl, rfl, rfl, rfl, rfl, rfl, rfl, rfl, rfl, rfl, rfl, rfl, rfl, trivial⟩
    · have n1 : ¬ nI i = nI a := fun z => e (nI_inj9 (by omega) (by omega) z)
      rw [decide_eq_false e, Bool.false_or] at ih
      cases hC : clB (fB (Am M s)) n i a
      · rw [hC] at hv ih
        refine g_iload (pc := 239) dL_act_239 rfl ?_
        refine g_aload (pc := 241) dL_act_241 rfl trivial ?_
        refine g_getf (pc := 243) (v := .int _) dL_act_243 fk_L_45 hD1.1.1 (fun _ => congrArg Value.int (hz1)) ?_
        refine g_icmp_ge (pc := 246) (tgt := 283) dL_act_246 rfl (fun h246 => absurd h246 (nI_ge hi (by omega))) (fun _ => ?_)
        refine g_iload (pc := 249) dL_act_249 rfl ?_
        refine g_iload (pc := 251) dL_act_251 rfl ?_
        refine g_iload (pc := 253) dL_act_253 rfl ?_
        refine g_icmp_eq (pc := 255) (tgt := 269) dL_act_255 rfl (fun h255 => absurd h255 (n1)) (fun _ => ?_)
        refine g_aload (pc := 258) dL_act_258 rfl trivial ?_
        refine g_iload (pc := 260) dL_act_260 rfl ?_
        refine g_aaload_Z1 (pc := 262) dL_act_262 w1.1 rfl hi (by omega) (w1.2 i hi).1 ?_
        refine g_iload (pc := 263) dL_act_263 rfl ?_
        refine g_zaload (pc := 265) dL_act_265 (w1.2 i hi).2.1 rfl ha (by omega) ?_
        rw [show mI M1 ((fun r => b9 + r) i) a = b1 false from hv]
        refine g_if_eq (pc := 266) (tgt := 273) dL_act_266 rfl (fun _ => ?_) (fun h266 => absurd (rfl) h266)
        refine g_iconst (pc := 273) (v := 0) dL_act_273 rfl ?_
        refine g_iadd (pc := 274) dL_act_274 ?_
        rw [show nI w9 + 0 = nI (w9 + 0) from nI_add _ 0]
        refine g_istore (pc := 275) (lv' := [(0, _), (2, _), (4, _), (7, _), (10, _), (11, _), (12, _), (13, _), (16, _), (17, _), (18, _), (19, _), (20, _)]) dL_act_275 (nl rfl) rfl ?_
        refine g_iinc (pc := 277) (lv' := [(0, _), (2, _), (4, _), (7, _), (10, _), (11, _), (12, _), (13, _), (16, _), (17, _), (18, _), (19, _), (20, _)]) dL_act_277 rfl (nI_1 _) (nl rfl) rfl ?_
        refine g_goto (pc := 280) (tgt := 239) dL_act_280 rfl ?_
        exact g_subk ih ⟨rfl, rfl, rfl, rfl, rfl, rfl, rfl, rfl, rfl, rfl, rfl, rfl, rfl, trivial⟩
      · rw [hC] at hv ih
        refine g_iload (pc := 239) dL_act_239 rfl ?_
        refine g_aload (pc := 241) dL_act_241 rfl trivial ?_
        refine g_getf (pc := 243) (v := .int _) dL_act_243 fk_L_45 hD1.1.1 (fun _ => congrArg Value.int (hz1)) ?_
        refine g_icmp_ge (pc := 246) (tgt := 283) dL_act_246 rfl (fun h246 => absurd h246 (nI_ge hi (by omega))) (fun _ => ?_)
        refine g_iload (pc := 249) dL_act_249 rfl ?_
        refine g_iload (pc := 251) dL_act_251 rfl ?_
        refine g_iload (pc := 253) dL_act_253 rfl ?_
        refine g_icmp_eq (pc := 255) (tgt := 269) dL_act_255 rfl (fun h255 => absurd h255 (n1)) (fun _ => ?_)
        refine g_aload (pc := 258) dL_act_258 rfl trivial ?_
        refine g_iload (pc := 260) dL_act_260 rfl ?_
        refine g_aaload_Z1 (pc := 262) dL_act_262 w1.1 rfl hi (by omega) (w1.2 i hi).1 ?_
        refine g_iload (pc := 263) dL_act_263 rfl ?_
        refine g_zaload (pc := 265) dL_act_265 (w1.2 i hi).2.1 rfl ha (by omega) ?_
        rw [show mI M1 ((fun r => b9 + r) i) a = b1 true from hv]
        refine g_if_eq (pc := 266) (tgt := 273) dL_act_266 rfl (fun h266 => absurd h266 ((by decide))) (fun _ => ?_)
        refine g_iconst (pc := 269) (v := 1) dL_act_269 rfl ?_
        refine g_goto (pc := 270) (tgt := 274) dL_act_270 rfl ?_
        refine g_iadd (pc := 274) dL_act_274 ?_
        rw [show nI w9 + 1 = nI (w9 + 1) from nI_add _ 1]
        refine g_istore (pc := 275) (lv' := [(0, _), (2, _), (4, _), (7, _), (10, _), (11, _), (12, _), (13, _), (16, _), (17, _), (18, _), (19, _), (20, _)]) dL_act_275 (nl rfl) rfl ?_
        refine g_iinc (pc := 277) (lv' := [(0, _), (2, _), (4, _), (7, _), (10, _), (11, _), (12, _), (13, _), (16, _), (17, _), (18, _), (19, _), (20, _)]) dL_act_277 rfl (nI_1 _) (nl rfl) rfl ?_
        refine g_goto (pc := 280) (tgt := 239) dL_act_280 rfl ?_
        exact g_subk ih ⟨rfl, rfl, rfl, rfl, rfl, rfl, rfl, rfl, rfl, rfl, rfl, rfl, rfl, trivial⟩
  · have hval : mI M1 (q.2.2.2.2.1 s a) b = b1 (hb (Am M s a) b) := (hm1.2 a ha).2.2 b hb9
    obtain ⟨⟨k, k1, k2⟩, -⟩ := (hD1.2.2.2 s hs).2
    have hlk := k_look (l := l) (x := (nI (cR (fun k => decide (k = a) || clB (fB (Am M s)) n k a) n))) hD1 hs k1
    have hD2 : DK (dkLook M1 (q.2.2.2.2.2 s) k (nI (cR (fun k => decide (k = a) || clB (fB (Am M s)) n k a) n))) d n q (lkU u s (nI (cR (fun k => decide (k = a) || clB (fB (Am M s)) n k a) n))) := hD1.look hO hs k2
    have hx2 := dkLook_xt (M := M1) (c := q.2.2.2.2.2 s) (k := k) (x := (nI (cR (fun k => decide (k = a) || clB (fB (Am M s)) n k a) n)))
    have hm2 : Mt (dkLook M1 (q.2.2.2.2.2 s) k (nI (cR (fun k => decide (k = a) || clB (fB (Am M s)) n k a) n))) (q.2.2.2.1 s) n (q.2.2.2.2.1 s) (fB (Am M s)) := hm1.xt hx2 (nρ (hO.2.2.2.2 s hs).1 on (by omega)) (fun r hr => nρ (oc r hr) on (by omega))
    generalize dkLook M1 (q.2.2.2.2.2 s) k (nI (cR (fun k => decide (k = a) || clB (fB (Am M s)) n k a) n)) = M2 at *
    have hru : ∀ r, r < n → rI (lkU u s (nI (cR (fun k => decide (k = a) || clB (fB (Am M s)) n k a) n))) s r = Am M s r := fun r hr => by
      unfold rI
      rw [lkU_ne (by omega) (by omega)]
      exact hZ.1.rw hs hr
    have g3 : ∀ j, j ≠ 28 + 32 * s + a → fun_set (lkU u s (nI (cR (fun k => decide (k = a) || clB (fB (Am M s)) n k a) n))) (28 + 32 * s + a) (uL (Am M s a ^^^ bitI b)) j = lkU u s (nI (cR (fun k => decide (k = a) || clB (fB (Am M s)) n k a) n)) j := fun j hj => fs_ne _ _ hj
    have hrw : ∀ r c, r < n → hb (rI (fun_set (lkU u s (nI (cR (fun k => decide (k = a) || clB (fB (Am M s)) n k a) n))) (28 + 32 * s + a) (uL (Am M s a ^^^ bitI b))) s r) c = hb (tnF (Am M s) a b r) c := fun r c hr => by
      rw [hb_tn (by omega)]
      by_cases e : r = a
      · subst e
        unfold rI
        rw [if_pos rfl, fs_self, uL_32, hb_xor, hb_bitI (by omega)]
      · unfold rI
        rw [if_neg e, g3 _ (by omega)]
        show hb (rI (lkU u s (nI (cR (fun k => decide (k = a) || clB (fB (Am M s)) n k a) n))) s r) c = _
        rw [hru r hr]
    have hD3 : DK (sI M2 (q.2.2.2.2.1 s a) (fun_set (mI M2 (q.2.2.2.2.1 s a)) b (vp_nar .boolean (b1 is)))) d n q (fun_set (lkU u s (nI (cR (fun k => decide (k = a) || clB (fB (Am M s)) n k a) n))) (28 + 32 * s + a) (uL (Am M s a ^^^ bitI b))) := hD2.cell hO hs hn ha (fun r c hr hc => by
      rw [hrw r c hr, hb_tn (by omega)]
      by_cases e : r = a
      · rw [if_pos e, hru r hr, e]
        by_cases e2 : c = b
        · rw [if_pos ⟨rfl, e2⟩, e2, decide_eq_true rfl]
          revert hq9
          cases hb (Am M s a) b <;> cases is <;> decide
        · rw [if_neg (fun z => e2 z.2), decide_eq_false e2, Bool.xor_false]
      · rw [if_neg e, if_neg (fun z => e z.1), hru r hr]) (fun t ht e => ⟨fun r _ => g3 _ (by omega), g3 _ (by omega), g3 _ (by omega), g3 _ (by omega), g3 _ (by omega)⟩) ⟨g3 _ (by omega), g3 _ (by omega), g3 _ (by omega), g3 _ (by omega)⟩ ⟨g3 _ (by omega), g3 _ (by omega), g3 _ (by omega)⟩
    have hm3 : Mt (sI M2 (q.2.2.2.2.1 s a) (fun_set (mI M2 (q.2.2.2.2.1 s a)) b (vp_nar .boolean (b1 is)))) (q.2.2.2.1 s) n (q.2.2.2.2.1 s) (fB (tnF (Am M s) a b)) := (hD3.2.2.2 s hs).1.2.cg (fun r c hr _ => hrw r c hr)
    have hx3 : Xt (fun i => i = q.2.2.2.2.2 s ∨ i = q.2.2.2.2.1 s a) M1 (sI M2 (q.2.2.2.2.1 s a) (fun_set (mI M2 (q.2.2.2.2.1 s a)) b (vp_nar .boolean (b1 is)))) := (hx2.up (fun i _ e => Or.inl e)).sI (fun _ => Or.inr rfl)
    refine g_iload (pc := 239) dL_act_239 rfl ?_
    refine g_aload (pc := 241) dL_act_241 rfl trivial ?_
    refine g_getf (pc := 243) (v := .int _) dL_act_243 fk_L_45 hD1.1.1 (fun _ => congrArg Value.int (hz1)) ?_
    refine g_icmp_ge (pc := 246) (tgt := 283) dL_act_246 rfl (fun _ => ?_) (fun h246 => absurd (nI_le (Nat.le_refl _) (by omega)) h246)
    refine g_aload (pc := 283) dL_act_283 rfl trivial ?_
    refine g_iload (pc := 285) dL_act_285 rfl ?_
    refine g_aload (pc := 287) dL_act_287 rfl trivial ?_
    refine g_iload (pc := 289) dL_act_289 rfl ?_
    refine g_aaload_Z1 (pc := 291) dL_act_291 hm1.1 rfl ha (by omega) (hm1.2 a ha).1 ?_
    refine g_iload (pc := 292) dL_act_292 rfl ?_
    refine g_zaload (pc := 294) dL_act_294 (hm1.2 a ha).2.1 rfl hb9 (by omega) ?_
    rw [hval]
    refine g_iload (pc := 295) dL_act_295 rfl ?_
    refine g_icmp_ne (pc := 297) (tgt := 304) dL_act_297 rfl (fun _ => ?_) (fun h297 => absurd ((fun z => hq9 ((b1_eq _ _).mp z))) h297)
    refine g_iload (pc := 304) dL_act_304 rfl ?_
    refine g_invV_r (pc := 306) (As := [_, _]) dL_act_306 rfl (hlk) rfl rfl hD1.1.1 rfl rfl lk_L_135 rfl (nb rfl) ⟨nb rfl, nb rfl⟩ rfl ?_
    refine g_aload (pc := 309) dL_act_309 rfl trivial ?_
    refine g_iload (pc := 311) dL_act_311 rfl ?_
    refine g_aaload_Z1 (pc := 313) dL_act_313 hm2.1 rfl ha (by omega) (hm2.2 a ha).1 ?_
    refine g_iload (pc := 314) dL_act_314 rfl ?_
    refine g_iload (pc := 316) dL_act_316 rfl ?_
    refine g_zastore (pc := 318) dL_act_318 (hm2.2 a ha).2.1 rfl hb9 (by omega) ?_
    show Go l _ _ _ _ _ _ _ _ _ _ _ (sI M2 (q.2.2.2.2.1 s a) (fun_set (mI M2 (q.2.2.2.2.1 s a)) b (vp_nar .boolean (b1 is))))
    generalize sI M2 (q.2.2.2.2.1 s a) (fun_set (mI M2 (q.2.2.2.2.1 s a)) b (vp_nar .boolean (b1 is))) = M3 at *
    have hX3 : mX M3 = true := hx3.2.1.trans (x1.2.1.trans hx)
    refine g_aload (pc := 319) dL_act_319 rfl trivial ?_
    refine g_aload (pc := 321) dL_act_321 rfl trivial ?_
    refine g_aload (pc := 323) dL_act_323 rfl trivial ?_
    refine g_aload (pc := 325) dL_act_325 rfl trivial ?_
    refine g_invV_o (pc := 327) (As := [_]) dL_act_327 rfl (k_closure hD3.1.1 hD3.z hm3 hn hX3) rfl rfl hD3.1.1 rfl rfl lk_L_131 rfl (nb rfl) ⟨nb rfl, nb rfl⟩ rfl (fun v2 M4 hq => ?_)
    obtain ⟨m4, b4, rfl, y1, y2, y3, x4⟩ := hq
    show Go l _ _ _ _ _ _ _ _ ([.ref m4, .ref m1, .ref d] : List Value) _ _ _
    have hD4 : DK M4 d n q (fun_set (lkU u s (nI (cR (fun k => decide (k = a) || clB (fB (Am M s)) n k a) n))) (28 + 32 * s + a) (uL (Am M s a ^^^ bitI b))) := hD3.xt hO x4 (fun _ _ z => z.elim)
    have hx4 : Xt (fun i => i = q.2.2.2.2.2 s ∨ i = q.2.2.2.2.1 s a) M1 M4 := hx3.tr' x4 (fun _ _ z => z.elim)
    have hx5 : Xt (fun i => i = q.2.2.2.2.2 s ∨ i = q.2.2.2.2.1 s a) M M4 := (x1.up (fun _ _ z => z.elim)).tr hx4
    have hw1 : Mt M4 m1 n (fun r => b9 + r) (clB (fB (Am M s)) n) := w1.xt hx4 (by omega) (fun r hr => by omega)
    have how : ∀ i, i < (mK M).length → (i = q.2.2.2.2.2 s ∨ i = q.2.2.2.2.1 s a) → (ρ i).1 = d := fun i _ e => by
      rcases e with e | e
      · rw [e, on]
      · rw [e, oc a ha]
    have hZ4 := hZ.xt hx5 how (fun _ _ => rfl)
    have hA4 := hZ.am hx5 how hs
    have hS4 : mS M4 = mS M := hx5.2.2.1
    obtain ⟨M5, c1, c2, c3⟩ := c_put1 (l := l) (v := is) hZ4.1 hs ha hb9 (by rw [hA4]; exact hq9)
    rw [hA4] at c1 c3
    have htn := tn_wf hwf ha hb9 hn32
    rw [pr_c hwf] at c3
    rw [df_c hn32 (wO_n htn) (wO_n hwf) n (Nat.le_refl n), ← dM_cl htn hwf, dM_sw] at c1
    have hdf := k_differ (l := l) hD4.1.1 hD4.z hw1 y1 hn
    rw [← hS4]
    refine g_invV_r (pc := 330) (As := [_, _]) dL_act_330 rfl (hdf) rfl rfl hD4.1.1 rfl rfl lk_L_139 rfl (nb rfl) ⟨nb rfl, nb rfl⟩ rfl ?_
    refine g_istore (pc := 333) (lv' := [(0, _), (2, _), (4, _), (7, _), (10, _), (11, _), (12, _), (13, _), (16, _), (17, _), (18, _), (19, _), (20, _), (14, _)]) dL_act_333 (nl rfl) rfl ?_
    refine g_aload_n (pc := 335) dL_act_335 rfl trivial ?_
    refine g_iload (pc := 336) dL_act_336 rfl ?_
    refine g_iload (pc := 338) dL_act_338 rfl ?_
    refine g_iload (pc := 340) dL_act_340 rfl ?_
    refine g_iload (pc := 342) dL_act_342 rfl ?_
    refine g_invV_r (pc := 344) (As := [_, _, _, _]) dL_act_344 rfl (c1) rfl rfl (shK hZ4.1.S rfl) rfl rfl lk_L_143 rfl (nb rfl) ⟨nb rfl, nb rfl⟩ rfl ?_
    refine g_istore (pc := 347) (lv' := [(0, _), (2, _), (4, _), (7, _), (10, _), (11, _), (12, _), (13, _), (16, _), (17, _), (18, _), (19, _), (20, _), (14, _), (15, _)]) dL_act_347 (nl rfl) rfl ?_
    refine g_goto (pc := 349) (tgt := 1338) dL_act_349 rfl ?_
    refine g_wk (pc := 1338) (k := 2) (n := 16) (by decide) (by decide) ?_
    exact g_subk (k_fin hZ4 hu hD4 hO c2 c3) ⟨rfl, rfl, rfl, rfl, rfl, rfl, trivial⟩
end

