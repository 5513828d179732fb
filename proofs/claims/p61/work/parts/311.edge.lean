/-! drawn: an edge -/
section
variable {l : Launch} {M M0 : Mem} {b v0 d n s i r x w k MC MS kb nv : Nat} {q : DQ} {u : Nat → Int64} {ρ : Nat → Nat × Nat} {ts : List ST9} {Q : Res → Mem → Prop}
theorem drw_edge (hV : DV M0 M b v0 d n q u ts) (ho : OW ρ d n q) (hc : ∀ i, cel d n q i → (mK M0).length ≤ i) (h1 : 1 ≤ n) (hn : n ≤ 9) (hs : s < 6) (hr : r < n) (hx : x < 2147483648) (htl : (szW n ++ sT n ts).length ≤ 6 + 18 * i) (hi : i < 14) (next : ∀ (M1 : Mem) (t : ST9), t.1 < 3 → sOk n t u → DV M0 M1 b v0 d n q (sU n t u) (ts ++ [t]) → Go l jL_drawn 9 300 MC MS Q 39 [(0, .retAddr 0), (1, .int 0), (2, .ref b), (3, .int (nI w)), (4, .ref d), (5, .int (nI (i + 1)))] [] kb nv M1) : Go l jL_drawn 9 300 MC MS Q 120 [(0, .retAddr 0), (1, .int 0), (2, .ref b), (3, .int (nI w)), (4, .ref d), (5, .int (nI i)), (6, .int (nI x)), (7, .int (nI s)), (8, .ref (q.2.2.2.1 s)), (9, .int (nI r))] [] (kb + 15) (nv + 10000) M := by
  obtain ⟨⟨a1, a2, a3, a4⟩, ⟨z0, z1, z2, z3⟩, ⟨c1, c2, c3⟩, hQ⟩ := hV.1
  obtain ⟨⟨g1, g2⟩, -⟩ := hQ s hs
  have hD := hV.1
  have hgr := g2.2 r hr
  have hcr := hc _ (Or.inr (Or.inr (Or.inr (Or.inr ⟨s, hs, Or.inr (Or.inr ⟨r, hr, rfl⟩)⟩))))
  have hc9 : x / 256 % n < n := Nat.mod_lt _ (by omega)
  refine g_iload (pc := 120) dL_drawn_120 rfl ?_
  refine g_sipush (pc := 122) (v := 256) dL_drawn_122 rfl ?_
  refine g_idiv (pc := 125) dL_drawn_125 (by decide) ?_
  rw [show nI x / 256 = nI (x / 256) from nI_q (y := 256) hx (by decide)]
  refine g_aload (pc := 126) dL_drawn_126 rfl trivial ?_
  refine g_getf (pc := 128) (v := .int _) dL_drawn_128 fk_L_45 a1 (fun _ => congrArg Value.int (z0)) ?_
  refine g_irem (pc := 131) dL_drawn_131 (nI_nz h1 hn) ?_
  rw [nI_rem (dv_lt hx) (by omega)]
  skip
  generalize x / 256 % n = c at *
  refine g_istore (pc := 132) (lv' := [(0, _), (1, _), (2, _), (3, _), (4, _), (5, _), (6, _), (7, _), (8, _), (9, _), (10, _)]) dL_drawn_132 (nl rfl) rfl ?_
  refine g_aload (pc := 134) dL_drawn_134 rfl trivial ?_
  refine g_iload (pc := 136) dL_drawn_136 rfl ?_
  refine g_aaload_Z1 (pc := 138) dL_drawn_138 g2.1 rfl hr (by omega) hgr.1 ?_
  refine g_iload (pc := 139) dL_drawn_139 rfl ?_
  refine g_iconst (pc := 141) (v := 1) dL_drawn_141 rfl ?_
  refine g_zastore (pc := 142) dL_drawn_142 hgr.2.1 rfl hc9 (by omega) ?_
  show Go l _ _ _ _ _ _ _ _ _ _ _ (sI M (q.2.2.2.2.1 s r) (fun_set (mI M (q.2.2.2.2.1 s r)) c (vp_nar .boolean (b1 true))))
  have hok : sOk n (0, s, r, c, fun _ => false) u := ⟨hs, hr, hc9⟩
  have hD0 : DK (sI M (q.2.2.2.2.1 s r) (fun_set (mI M (q.2.2.2.2.1 s r)) c (vp_nar .boolean (b1 true)))) d n q (sU n (0, s, r, c, fun _ => false) u) := hD.cell ho hs hn hr (fun r9 c9 hr9 _ => sU_r0 hn hr hc9 hr9 c9) (fun t ht ne => sU_E hn (show 0 < 3 by decide) hok ht ne) ⟨sU_u hn (show 0 < 3 by decide) hok (by omega), sU_u hn (show 0 < 3 by decide) hok (by omega), sU_u hn (show 0 < 3 by decide) hok (by omega), sU_u hn (show 0 < 3 by decide) hok (by omega)⟩ ⟨sU_u hn (show 0 < 3 by decide) hok (by decide), sU_u hn (show 0 < 3 by decide) hok (by decide), sU_u hn (show 0 < 3 by decide) hok (by decide)⟩
  have hB0 : SBw M0 b v0 (szW n ++ sT n ts) (sI M (q.2.2.2.2.1 s r) (fun_set (mI M (q.2.2.2.2.1 s r)) c (vp_nar .boolean (b1 true)))) := hV.2.2.w1 ((Xt.rf _ M).sI (fun _ => rfl)) hcr hgr.2.1 trivial
  generalize sI M (q.2.2.2.2.1 s r) (fun_set (mI M (q.2.2.2.2.1 s r)) c (vp_nar .boolean (b1 true))) = MM at *
  have hcn : c < 10 := by omega
  have hrn : r < 10 := by omega
  generalize hT : szW n ++ sT n ts = tx at *
  refine g_aload_n (pc := 143) dL_drawn_143 rfl trivial ?_
  refine g_ldcS (pc := 144) (kS := 14) dL_drawn_144 rfl ?_
  refine g_invV_o (pc := 146) (As := [_]) dL_drawn_146 rfl (y_sbS (kS := 14) (w9 := [59, 32, 101, 100, 103, 101, 32]) (m := 7) hB0 rfl rfl (by omega)) rfl rfl hB0.k rfl rfl lk_L_40 rfl (nb rfl) ⟨nb rfl, nb rfl⟩ rfl (fun v0 N0 hq => ?_)
  obtain ⟨rfl, hb0, hx0⟩ := hq
  show Go l _ _ _ _ _ _ _ _ ([.ref b] : List Value) _ _ _
  have hl0 : (tx ++ ([59, 32, 101, 100, 103, 101, 32] : List Int32)).length = tx.length + 7 := by rw [List.length_append]; rfl
  generalize ht0 : tx ++ ([59, 32, 101, 100, 103, 101, 32] : List Int32) = tx0 at hb0 hl0
  refine g_iload (pc := 149) dL_drawn_149 rfl ?_
  refine g_invV_o (pc := 151) (As := [_]) dL_drawn_151 rfl (y_sbI (c := s) hb0 (by omega) (by omega)) rfl rfl hb0.k rfl rfl lk_L_49 rfl (nb rfl) ⟨nb rfl, nb rfl⟩ rfl (fun v1 N1 hq => ?_)
  obtain ⟨rfl, hb1, hx1⟩ := hq
  show Go l _ _ _ _ _ _ _ _ ([.ref b] : List Value) _ _ _
  have hl1 : (tx0 ++ [nI (48 + s)]).length = tx0.length + 1 := by rw [List.length_append]; rfl
  generalize ht1 : tx0 ++ [nI (48 + s)] = tx1 at hb1 hl1
  refine g_bipush (pc := 154) (v := 32) dL_drawn_154 rfl ?_
  refine g_invV_o (pc := 156) (As := [_]) dL_drawn_156 rfl (y_sbC (c := 32) hb1 (by decide) (by omega)) rfl rfl hb1.k rfl rfl lk_L_58 rfl (nb rfl) ⟨nb rfl, nb rfl⟩ rfl (fun v2 N2 hq => ?_)
  obtain ⟨rfl, hb2, hx2⟩ := hq
  show Go l _ _ _ _ _ _ _ _ ([.ref b] : List Value) _ _ _
  have hl2 : (tx1 ++ [nI 32]).length = tx1.length + 1 := by rw [List.length_append]; rfl
  generalize ht2 : tx1 ++ [nI 32] = tx2 at hb2 hl2
  refine g_iload (pc := 159) dL_drawn_159 rfl ?_
  refine g_invV_o (pc := 161) (As := [_]) dL_drawn_161 rfl (y_sbI (c := r) hb2 (by omega) (by omega)) rfl rfl hb2.k rfl rfl lk_L_49 rfl (nb rfl) ⟨nb rfl, nb rfl⟩ rfl (fun v3 N3 hq => ?_)
  obtain ⟨rfl, hb3, hx3⟩ := hq
  show Go l _ _ _ _ _ _ _ _ ([.ref b] : List Value) _ _ _
  have hl3 : (tx2 ++ [nI (48 + r)]).length = tx2.length + 1 := by rw [List.length_append]; rfl
  generalize ht3 : tx2 ++ [nI (48 + r)] = tx3 at hb3 hl3
  refine g_bipush (pc := 164) (v := 32) dL_drawn_164 rfl ?_
  refine g_invV_o (pc := 166) (As := [_]) dL_drawn_166 rfl (y_sbC (c := 32) hb3 (by decide) (by omega)) rfl rfl hb3.k rfl rfl lk_L_58 rfl (nb rfl) ⟨nb rfl, nb rfl⟩ rfl (fun v4 N4 hq => ?_)
  obtain ⟨rfl, hb4, hx4⟩ := hq
  show Go l _ _ _ _ _ _ _ _ ([.ref b] : List Value) _ _ _
  have hl4 : (tx3 ++ [nI 32]).length = tx3.length + 1 := by rw [List.length_append]; rfl
  generalize ht4 : tx3 ++ [nI 32] = tx4 at hb4 hl4
  refine g_iload (pc := 169) dL_drawn_169 rfl ?_
  refine g_invV_o (pc := 171) (As := [_]) dL_drawn_171 rfl (y_sbI (c := c) hb4 (by omega) (by omega)) rfl rfl hb4.k rfl rfl lk_L_49 rfl (nb rfl) ⟨nb rfl, nb rfl⟩ rfl (fun v5 N5 hq => ?_)
  obtain ⟨rfl, hb5, hx5⟩ := hq
  show Go l _ _ _ _ _ _ _ _ ([.ref b] : List Value) _ _ _
  have hl5 : (tx4 ++ [nI (48 + c)]).length = tx4.length + 1 := by rw [List.length_append]; rfl
  generalize ht5 : tx4 ++ [nI (48 + c)] = tx5 at hb5 hl5
  have hD6 := (((((hD0.xb hx0).xb hx1).xb hx2).xb hx3).xb hx4).xb hx5
  refine g_pop (pc := 174) dL_drawn_174 rfl ?_
  refine g_goto (pc := 175) (tgt := 458) dL_drawn_175 rfl ?_
  refine g_iinc (pc := 458) (lv' := [(0, _), (1, _), (2, _), (3, _), (4, _), (5, _), (6, _), (7, _), (8, _), (9, _), (10, _)]) dL_drawn_458 rfl (nI_1 _) (nl rfl) rfl ?_
  refine g_goto (pc := 461) (tgt := 39) dL_drawn_461 rfl ?_
  refine g_wk (pc := 39) (k := kb) (n := nv) (by omega) (by omega) ?_
  refine g_subk (next _ (0, s, r, c, fun _ => false) (show 0 < 3 by decide) hok (hV.nx _ hok hD6 hb5 ?_)) ⟨rfl, rfl, rfl, rfl, rfl, rfl, trivial⟩
  rw [← ht5, ← ht4, ← ht3, ← ht2, ← ht1, ← ht0, hT]
  simp only [List.append_assoc]
  rfl
end

