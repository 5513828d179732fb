/-! drawn: a row -/
section
variable {l : Launch} {M M0 : Mem} {b v0 d n s i r x w k MC MS kb nv : Nat} {q : DQ} {u : Nat → Int64} {ρ : Nat → Nat × Nat} {ts : List ST9} {Q : Res → Mem → Prop}
theorem drw_row (hV : DV M0 M b v0 d n q u ts) (ho : OW ρ d n q) (hc : ∀ i, cel d n q i → (mK M0).length ≤ i) (h1 : 1 ≤ n) (hn : n ≤ 9) (hs : s < 6) (hr : r < n) (hx : x < 2147483648) (htl : (szW n ++ sT n ts).length ≤ 6 + 18 * i) (hi : i < 14) (next : ∀ (M1 : Mem) (t : ST9), t.1 < 3 → sOk n t u → DV M0 M1 b v0 d n q (sU n t u) (ts ++ [t]) → Go l jL_drawn 9 300 MC MS Q 39 [(0, .retAddr 0), (1, .int 0), (2, .ref b), (3, .int (nI w)), (4, .ref d), (5, .int (nI (i + 1)))] [] kb nv M1) : Go l jL_drawn 9 300 MC MS Q 178 [(0, .retAddr 0), (1, .int 0), (2, .ref b), (3, .int (nI w)), (4, .ref d), (5, .int (nI i)), (6, .int (nI x)), (7, .int (nI s)), (8, .ref (q.2.2.2.1 s)), (9, .int (nI r))] [] (kb + 15) (nv + 10000) M := by
  obtain ⟨⟨a1, a2, a3, a4⟩, ⟨z0, z1, z2, z3⟩, ⟨c1, c2, c3⟩, hQ⟩ := hV.1
  obtain ⟨⟨g1, g2⟩, -⟩ := hQ s hs
  have hD := hV.1
  have hgr := g2.2 r hr
  have hcr := hc _ (Or.inr (Or.inr (Or.inr (Or.inr ⟨s, hs, Or.inr (Or.inr ⟨r, hr, rfl⟩)⟩))))
  have hrn : r < 10 := by omega
  have hB0 := hV.2.2
  generalize hT : szW n ++ sT n ts = tx at *
  refine g_aload_n (pc := 178) dL_drawn_178 rfl trivial ?_
  refine g_ldcS (pc := 179) (kS := 15) dL_drawn_179 rfl ?_
  refine g_invV_o (pc := 181) (As := [_]) dL_drawn_181 rfl (y_sbS (kS := 15) (w9 := [59, 114, 111, 119, 32]) (m := 5) hB0 rfl rfl (by omega)) rfl rfl hB0.k rfl rfl lk_L_40 rfl (nb rfl) ⟨nb rfl, nb rfl⟩ rfl (fun v0 N0 hq => ?_)
  obtain ⟨rfl, hb0, hx0⟩ := hq
  show Go l _ _ _ _ _ _ _ _ ([.ref b] : List Value) _ _ _
  have hl0 : (tx ++ ([59, 114, 111, 119, 32] : List Int32)).length = tx.length + 5 := by rw [List.length_append]; rfl
  generalize ht0 : tx ++ ([59, 114, 111, 119, 32] : List Int32) = tx0 at hb0 hl0
  refine g_iload (pc := 184) dL_drawn_184 rfl ?_
  refine g_invV_o (pc := 186) (As := [_]) dL_drawn_186 rfl (y_sbI (c := s) hb0 (by omega) (by omega)) rfl rfl hb0.k rfl rfl lk_L_49 rfl (nb rfl) ⟨nb rfl, nb rfl⟩ rfl (fun v1 N1 hq => ?_)
  obtain ⟨rfl, hb1, hx1⟩ := hq
  show Go l _ _ _ _ _ _ _ _ ([.ref b] : List Value) _ _ _
  have hl1 : (tx0 ++ [nI (48 + s)]).length = tx0.length + 1 := by rw [List.length_append]; rfl
  generalize ht1 : tx0 ++ [nI (48 + s)] = tx1 at hb1 hl1
  refine g_bipush (pc := 189) (v := 32) dL_drawn_189 rfl ?_
  refine g_invV_o (pc := 191) (As := [_]) dL_drawn_191 rfl (y_sbC (c := 32) hb1 (by decide) (by omega)) rfl rfl hb1.k rfl rfl lk_L_58 rfl (nb rfl) ⟨nb rfl, nb rfl⟩ rfl (fun v2 N2 hq => ?_)
  obtain ⟨rfl, hb2, hx2⟩ := hq
  show Go l _ _ _ _ _ _ _ _ ([.ref b] : List Value) _ _ _
  have hl2 : (tx1 ++ [nI 32]).length = tx1.length + 1 := by rw [List.length_append]; rfl
  generalize ht2 : tx1 ++ [nI 32] = tx2 at hb2 hl2
  refine g_iload (pc := 194) dL_drawn_194 rfl ?_
  refine g_invV_o (pc := 196) (As := [_]) dL_drawn_196 rfl (y_sbI (c := r) hb2 (by omega) (by omega)) rfl rfl hb2.k rfl rfl lk_L_49 rfl (nb rfl) ⟨nb rfl, nb rfl⟩ rfl (fun v3 N3 hq => ?_)
  obtain ⟨rfl, hb3, hx3⟩ := hq
  show Go l _ _ _ _ _ _ _ _ ([.ref b] : List Value) _ _ _
  have hl3 : (tx2 ++ [nI (48 + r)]).length = tx2.length + 1 := by rw [List.length_append]; rfl
  generalize ht3 : tx2 ++ [nI (48 + r)] = tx3 at hb3 hl3
  refine g_bipush (pc := 199) (v := 32) dL_drawn_199 rfl ?_
  refine g_invV_o (pc := 201) (As := [_]) dL_drawn_201 rfl (y_sbC (c := 32) hb3 (by decide) (by omega)) rfl rfl hb3.k rfl rfl lk_L_58 rfl (nb rfl) ⟨nb rfl, nb rfl⟩ rfl (fun v4 N4 hq => ?_)
  obtain ⟨rfl, hb4, hx4⟩ := hq
  show Go l _ _ _ _ _ _ _ _ ([.ref b] : List Value) _ _ _
  have hl4 : (tx3 ++ [nI 32]).length = tx3.length + 1 := by rw [List.length_append]; rfl
  generalize ht4 : tx3 ++ [nI 32] = tx4 at hb4 hl4
  have hD5 := ((((hD.xb hx0).xb hx1).xb hx2).xb hx3).xb hx4
  have hm5 : tx4 = tx ++ roW s r := by
    rw [← ht4, ← ht3, ← ht2, ← ht1, ← ht0]
    simp only [List.append_assoc]
    rfl
  generalize hg : (fun c : Nat => decide ((nI (x / 1024) >>> (nI c &&& 31)) &&& 1 = 1)) = g
  have hgc : ∀ c, decide ((nI (x / 1024) >>> (nI c &&& 31)) &&& 1 = 1) = g c := fun c => by rw [← hg]
  have hok : sOk n (1, s, r, 0, g) u := ⟨hs, hr⟩
  have hd9 : ¬ (d = q.2.2.2.2.1 s r ∨ ∃ x, (mK N4)[d]? = some x ∧ bkd x) := fun w => w.elim (fun e => by
    have k7 := hD5.1.1
    rw [e, ((hD5.2.2.2 s hs).1.2.2 r hr).2.1] at k7
    cases k7) (no_b hD5.1.1 (dk_no rfl))
  refine g_pop (pc := 204) dL_drawn_204 rfl ?_
  refine g_iconst (pc := 205) (v := 0) dL_drawn_205 rfl ?_
  refine g_istore (pc := 206) (lv' := [(0, _), (1, _), (2, _), (3, _), (4, _), (5, _), (6, _), (7, _), (8, _), (9, _), (10, _)]) dL_drawn_206 (nl rfl) rfl ?_
  refine g_wk (pc := 208) (k := kb + (9 - 0) * 1) (n := nv + (9 - 0) * 700) (by omega) (by omega) ?_
  refine go_forS (pc := 208) n (fun c (_ : Mem) => [(0, .retAddr 0), (1, .int 0), (2, .ref b), (3, .int (nI w)), (4, .ref d), (5, .int (nI i)), (6, .int (nI x)), (7, .int (nI s)), (8, .ref (q.2.2.2.1 s)), (9, .int (nI r)), (10, .int (nI c))]) id (fun c Mx => Mt Mx (q.2.2.2.1 s) n (q.2.2.2.2.1 s) (fun r9 c9 => if r9 = r ∧ c9 < c then g c9 else fB (rI u s) r9 c9) ∧ SBw M0 b v0 (tx4 ++ gW g c) Mx ∧ Xt (fun i => i = q.2.2.2.2.1 s r ∨ ∃ x, (mK N4)[i]? = some x ∧ bkd x) N4 Mx) (fun c => kb + (9 - c) * 1) (fun c => nv + (9 - c) * 700) N4 ⟨rfl, rfl, rfl, rfl, rfl, rfl, rfl, rfl, rfl, rfl, rfl, trivial⟩ rfl rfl rfl ⟨(hD5.2.2.2 s hs).1.2.cg (fun r9 c9 _ _ => (if_neg (fun z => Nat.not_lt_zero _ z.2)).symm), by rw [gW, List.append_nil]; exact hb4, Xt.rf _ _⟩ ?_ ?_
  · intro c Mx hcn ⟨hM, hB, hX⟩ ih0
    refine g_wk (k := kb + (9 - (c + 1)) * 1 + 1) (n := nv + (9 - (c + 1)) * 700 + 700) (by omega) (by omega) ?_
    have aX := hX.k hD5.1.1
    have zX := (congrFun (hX.I (k_lt hD5.1.1) hd9) 0).trans hD5.z
    have tail : Go l jL_drawn 9 300 MC MS Q 245 [(0, .retAddr 0), (1, .int 0), (2, .ref b), (3, .int (nI w)), (4, .ref d), (5, .int (nI i)), (6, .int (nI x)), (7, .int (nI s)), (8, .ref (q.2.2.2.1 s)), (9, .int (nI r)), (10, .int (nI c))] [.int (b1 (g c)), .int (nI c), .ref (q.2.2.2.2.1 s r)] (kb + (9 - (c + 1)) * 1 + 1) (nv + (9 - (c + 1)) * 700 + 700) Mx := by
      refine g_zastore (pc := 245) dL_drawn_245 (hM.2 r hr).2.1 rfl hcn (by omega) ?_
      show Go l _ _ _ _ _ _ _ _ _ _ _ (sI Mx (q.2.2.2.2.1 s r) (fun_set (mI Mx (q.2.2.2.2.1 s r)) c (vp_nar .boolean (b1 (g c)))))
      have hM1 : Mt (sI Mx (q.2.2.2.2.1 s r) (fun_set (mI Mx (q.2.2.2.2.1 s r)) c (vp_nar .boolean (b1 (g c))))) (q.2.2.2.1 s) n (q.2.2.2.2.1 s) (fun r9 c9 => if r9 = r ∧ c9 < c + 1 then g c9 else fB (rI u s) r9 c9) := (hM.put (v := g c) (j := c) hr (fun r9 hr9 e => ho.inj hs hr9 hr e)).cg (fun r9 c9 _ _ => by
        by_cases e : r9 = r ∧ c9 = c
        · rw [if_pos e, if_pos ⟨e.1, by omega⟩, e.2]
        · rw [if_neg e]
          by_cases e2 : r9 = r ∧ c9 < c
          · rw [if_pos e2, if_pos ⟨e2.1, by omega⟩]
          · rw [if_neg e2, if_neg (fun z => by omega)])
      have hB1 : SBw M0 b v0 (tx4 ++ gW g c) (sI Mx (q.2.2.2.2.1 s r) (fun_set (mI Mx (q.2.2.2.2.1 s r)) c (vp_nar .boolean (b1 (g c))))) := hB.w1 ((Xt.rf _ Mx).sI (fun _ => rfl)) hcr (hM.2 r hr).2.1 trivial
      have hX1 := hX.sI (a := q.2.2.2.2.1 s r) (f := fun_set (mI Mx (q.2.2.2.2.1 s r)) c (vp_nar .boolean (b1 (g c)))) (fun _ => Or.inl rfl)
      have hv1 : mI (sI Mx (q.2.2.2.2.1 s r) (fun_set (mI Mx (q.2.2.2.2.1 s r)) c (vp_nar .boolean (b1 (g c))))) (q.2.2.2.2.1 s r) c = b1 (g c) := by rw [sI_self, fs_self, nar_Z]
      generalize sI Mx (q.2.2.2.2.1 s r) (fun_set (mI Mx (q.2.2.2.2.1 s r)) c (vp_nar .boolean (b1 (g c)))) = My at *
      have hl9 : (tx4 ++ gW g c).length = tx4.length + c := by rw [List.length_append, gW_len]
      refine g_aload_n (pc := 246) dL_drawn_246 rfl trivial ?_
      refine g_aload (pc := 247) dL_drawn_247 rfl trivial ?_
      refine g_iload (pc := 249) dL_drawn_249 rfl ?_
      refine g_aaload_Z1 (pc := 251) dL_drawn_251 hM1.1 rfl hr (by omega) (hM1.2 r hr).1 ?_
      refine g_iload (pc := 252) dL_drawn_252 rfl ?_
      refine g_zaload (pc := 254) dL_drawn_254 (hM1.2 r hr).2.1 rfl hcn (by omega) ?_
      rw [hv1]
      skip
      cases hgv : g c
      · refine g_if_eq (pc := 255) (tgt := 262) dL_drawn_255 rfl (fun _ => ?_) (fun h255 => absurd (rfl) h255)
        refine g_iconst (pc := 262) (v := 0) dL_drawn_262 rfl ?_
        refine g_invV_o (pc := 263) (As := [_]) dL_drawn_263 rfl (y_sbI (c := 0) hB1 (by decide) (by omega)) rfl rfl hB1.k rfl rfl lk_L_49 rfl (nb rfl) ⟨nb rfl, nb rfl⟩ rfl (fun v9 M9 hq => ?_)
        obtain ⟨rfl, hB2, hX2⟩ := hq
        show Go l _ _ _ _ _ _ _ _ ([.ref b] : List Value) _ _ _
        refine g_pop (pc := 266) dL_drawn_266 rfl ?_
        refine g_iinc (pc := 267) (lv' := [(0, _), (1, _), (2, _), (3, _), (4, _), (5, _), (6, _), (7, _), (8, _), (9, _), (10, _)]) dL_drawn_267 rfl (nI_1 _) (nl rfl) rfl ?_
        refine g_goto (pc := 270) (tgt := 208) dL_drawn_270 rfl ?_
        refine g_subk (pc := 208) (ih0 M9 ⟨hM1.xb hX2, ?_, hX1.tr' hX2 (fun i hi w => Or.inr (cb9 hX1 hi w))⟩) ⟨rfl, rfl, rfl, rfl, rfl, rfl, rfl, rfl, rfl, rfl, rfl, trivial⟩
        rw [gW, hgv, ← List.append_assoc]
        exact hB2
      · refine g_if_eq (pc := 255) (tgt := 262) dL_drawn_255 rfl (fun h255 => absurd h255 ((by decide))) (fun _ => ?_)
        refine g_iconst (pc := 258) (v := 1) dL_drawn_258 rfl ?_
        refine g_goto (pc := 259) (tgt := 263) dL_drawn_259 rfl ?_
        refine g_invV_o (pc := 263) (As := [_]) dL_drawn_263 rfl (y_sbI (c := 1) hB1 (by decide) (by omega)) rfl rfl hB1.k rfl rfl lk_L_49 rfl (nb rfl) ⟨nb rfl, nb rfl⟩ rfl (fun v9 M9 hq => ?_)
        obtain ⟨rfl, hB2, hX2⟩ := hq
        show Go l _ _ _ _ _ _ _ _ ([.ref b] : List Value) _ _ _
        refine g_pop (pc := 266) dL_drawn_266 rfl ?_
        refine g_iinc (pc := 267) (lv' := [(0, _), (1, _), (2, _), (3, _), (4, _), (5, _), (6, _), (7, _), (8, _), (9, _), (10, _)]) dL_drawn_267 rfl (nI_1 _) (nl rfl) rfl ?_
        refine g_goto (pc := 270) (tgt := 208) dL_drawn_270 rfl ?_
        refine g_subk (pc := 208) (ih0 M9 ⟨hM1.xb hX2, ?_, hX1.tr' hX2 (fun i hi w => Or.inr (cb9 hX1 hi w))⟩) ⟨rfl, rfl, rfl, rfl, rfl, rfl, rfl, rfl, rfl, rfl, rfl, trivial⟩
        rw [gW, hgv, ← List.append_assoc]
        exact hB2
    refine g_iload (pc := 208) dL_drawn_208 rfl ?_
    refine g_aload (pc := 210) dL_drawn_210 rfl trivial ?_
    refine g_getf (pc := 212) (v := .int _) dL_drawn_212 fk_L_45 aX (fun _ => congrArg Value.int (zX)) ?_
    refine g_icmp_ge (pc := 215) (tgt := 273) dL_drawn_215 rfl (fun h215 => absurd h215 (nI_ge hcn (by omega))) (fun _ => ?_)
    refine g_aload (pc := 218) dL_drawn_218 rfl trivial ?_
    refine g_iload (pc := 220) dL_drawn_220 rfl ?_
    refine g_aaload_Z1 (pc := 222) dL_drawn_222 hM.1 rfl hr (by omega) (hM.2 r hr).1 ?_
    refine g_iload (pc := 223) dL_drawn_223 rfl ?_
    refine g_iload (pc := 225) dL_drawn_225 rfl ?_
    refine g_sipush (pc := 227) (v := 1024) dL_drawn_227 rfl ?_
    refine g_idiv (pc := 230) dL_drawn_230 (by decide) ?_
    rw [show nI x / 1024 = nI (x / 1024) from nI_q (y := 1024) hx (by decide)]
    refine g_iload (pc := 231) dL_drawn_231 rfl ?_
    refine g_ishr (pc := 233) dL_drawn_233 ?_
    refine g_iconst (pc := 234) (v := 1) dL_drawn_234 rfl ?_
    refine g_iand (pc := 235) dL_drawn_235 ?_
    refine g_iconst (pc := 236) (v := 1) dL_drawn_236 rfl ?_
    skip
    cases hgv : g c
    · rw [hgv] at tail
      refine g_icmp_ne (pc := 237) (tgt := 244) dL_drawn_237 rfl (fun _ => ?_) (fun h237 => absurd ((of_decide_eq_false ((hgc c).trans hgv))) h237)
      refine g_iconst (pc := 244) (v := 0) dL_drawn_244 rfl ?_
      exact tail
    · rw [hgv] at tail
      refine g_icmp_ne (pc := 237) (tgt := 244) dL_drawn_237 rfl (fun h237 => absurd h237 ((fun z => z (of_decide_eq_true ((hgc c).trans hgv))))) (fun _ => ?_)
      refine g_iconst (pc := 240) (v := 1) dL_drawn_240 rfl ?_
      refine g_goto (pc := 241) (tgt := 245) dL_drawn_241 rfl ?_
      exact tail
  · intro Mx ⟨hM, hB, hX⟩
    have aX := hX.k hD5.1.1
    have zX := (congrFun (hX.I (k_lt hD5.1.1) hd9) 0).trans hD5.z
    have hD6 : DK Mx d n q (sU n (1, s, r, 0, g) u) := hD5.rows2 ho hs hn hX (fun i w => w.elim (fun e => Or.inl ⟨r, hr, e⟩) (fun ⟨x, p1, p2⟩ => Or.inr ⟨x, p1, bkd_no p2⟩)) (hM.cg (fun r9 c9 hr9 hc9 => by
      show _ = hb (rI (sU n (1, s, r, 0, g) u) s r9) c9
      rw [sU_r1 hn hr hr9 hc9]
      by_cases e : r9 = r
      · rw [if_pos ⟨e, hc9⟩, if_pos e]
      · rw [if_neg (fun z => e z.1), if_neg e])) (fun t ht ne => sU_E hn (show 1 < 3 by decide) hok ht ne) ⟨sU_u hn (show 1 < 3 by decide) hok (by omega), sU_u hn (show 1 < 3 by decide) hok (by omega), sU_u hn (show 1 < 3 by decide) hok (by omega), sU_u hn (show 1 < 3 by decide) hok (by omega)⟩ ⟨sU_u hn (show 1 < 3 by decide) hok (by decide), sU_u hn (show 1 < 3 by decide) hok (by decide), sU_u hn (show 1 < 3 by decide) hok (by decide)⟩
    refine g_wk (k := kb) (n := nv) (by omega) (by omega) ?_
    refine g_iload (pc := 208) dL_drawn_208 rfl ?_
    refine g_aload (pc := 210) dL_drawn_210 rfl trivial ?_
    refine g_getf (pc := 212) (v := .int _) dL_drawn_212 fk_L_45 aX (fun _ => congrArg Value.int (zX)) ?_
    refine g_icmp_ge (pc := 215) (tgt := 273) dL_drawn_215 rfl (fun _ => ?_) (fun h215 => absurd (nI_le (Nat.le_refl _) (by omega)) h215)
    refine g_goto (pc := 273) (tgt := 458) dL_drawn_273 rfl ?_
    refine g_iinc (pc := 458) (lv' := [(0, _), (1, _), (2, _), (3, _), (4, _), (5, _), (6, _), (7, _), (8, _), (9, _), (10, _)]) dL_drawn_458 rfl (nI_1 _) (nl rfl) rfl ?_
    refine g_goto (pc := 461) (tgt := 39) dL_drawn_461 rfl ?_
    refine g_subk (pc := 39) (next _ (1, s, r, 0, g) (show 1 < 3 by decide) hok (hV.nx _ hok hD6 hB ?_)) ⟨rfl, rfl, rfl, rfl, rfl, rfl, trivial⟩
    rw [hm5, hT, List.append_assoc]
    rfl
end

