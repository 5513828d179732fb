-- 301.acta
/-! an action of the law: blocks, kept closures -/
section
variable {l : Launch} {M : Mem} {A P n p d x s t o a b MC MS : Nat} {is : Bool} {v0 : Int32} {u : Nat → Int64} {ρ : Nat → Nat × Nat} {eo : Option Nat} {os : List OD} {nv : OD} {q : DQ}
theorem act_13 (hZ : AZ M A P n p os.length d u (usO os) ρ eo os nv) (hu : nv.2.2 = u) (hD : DK M d n q u) (hO : OW ρ d n q) (hx : x < 2147483648) : Go l jL_act 12 400 MC MS (QA A P n (mS M)) 1308 [(0, .ref 0), (2, .ref P), (4, .ref d), (5, .int (nI x)), (13, .ref nv.1), (16, .int 1)] [] 1100 9000 M := by
  obtain ⟨bl, b1', b2, b3, b4⟩ := hZ.1.bl
  have hx1 : Xt (fun i => i = d) M (sI M d (fun_set (mI M d) 1 (nI (1 + x % 8)))) := (Xt.rf (fun i => i = d) M).sI (fun _ => rfl)
  have hD1 : DK (sI M d (fun_set (mI M d) 1 (nI (1 + x % 8)))) d n q (fun_set u 1 (lN (1 + x % 8))) := hD.head hO hx1 rfl (by rw [sI_self, fs_ne _ _ (by decide)]; exact hD.2.1.1) (by rw [sI_self, fs_self, fs_self, lN_any]) (by rw [sI_self, fs_ne _ _ (by decide), fs_ne _ _ (by decide)]; exact hD.2.1.2.2.1) (by rw [sI_self, fs_ne _ _ (by decide), fs_ne _ _ (by decide)]; exact hD.2.1.2.2.2) (fun t ht => ⟨fun r _ => fs_ne _ _ (by omega), fs_ne _ _ (by omega), fs_ne _ _ (by omega), fs_ne _ _ (by omega), fs_ne _ _ (by omega)⟩)
  have hZ1 : AZ (sI M d (fun_set (mI M d) 1 (nI (1 + x % 8)))) A P n p os.length d u (usO os) ρ eo os nv := hZ.xt hx1 (fun i _ e => by rw [e, hO.1]) (fun _ _ => rfl)
  have hd1 : mI (sI M d (fun_set (mI M d) 1 (nI (1 + x % 8)))) d 1 = nI (1 + x % 8) := by rw [sI_self, fs_self]
  have hS1 : mS (sI M d (fun_set (mI M d) 1 (nI (1 + x % 8)))) = mS M := rfl
  have hdue : mI M d 1 = nI bl := by rw [hD.2.1.2.1, b4, lN_any]
  have h32 : mI (sI M d (fun_set (mI M d) 1 (nI (1 + x % 8)))) 3 2 = nI bl := by
    rw [sI_ne (by have := hZ.2.2.2.2.2.1; omega)]
    exact b3
  refine g_aload (pc := 1308) dL_act_1308 rfl trivial ?_
  refine g_getf (pc := 1310) (v := .int _) dL_act_1310 fk_L_80 hD.1.1 (fun _ => congrArg Value.int (hdue)) ?_
  refine g_istore (pc := 1313) (lv' := [(0, _), (2, _), (4, _), (5, _), (13, _), (16, _), (14, _)]) dL_act_1313 (nl rfl) rfl ?_
  refine g_aload (pc := 1315) dL_act_1315 rfl trivial ?_
  refine g_iconst (pc := 1317) (v := 1) dL_act_1317 rfl ?_
  refine g_iload (pc := 1318) dL_act_1318 rfl ?_
  refine g_bipush (pc := 1320) (v := 8) dL_act_1320 rfl ?_
  refine g_irem (pc := 1322) dL_act_1322 (by decide) ?_
  rw [show nI x - nI x / 8 * 8 = nI (x % 8) from nI_rem (b := 8) hx (by decide)]
  refine g_iadd (pc := 1323) dL_act_1323 ?_
  rw [show 1 + nI (x % 8) = nI (1 + x % 8) from nI_add 1 _]
  refine g_putI (pc := 1324) dL_act_1324 fp_L_80 hD.1.1 ⟨rfl, rfl⟩ (fun _ _ _ _ => rfl) ?_
  show Go l _ _ _ _ _ _ _ _ _ _ _ (sI M d (fun_set (mI M d) 1 (nI (1 + x % 8))))
  rw [← hS1]
  generalize sI M d (fun_set (mI M d) 1 (nI (1 + x % 8))) = M1 at *
  obtain ⟨M2, e1, e2, e3⟩ := c_setBlock (l := l) hZ1.1 (m := 1 + x % 8) (by omega) (by omega)
  rw [h32] at e1
  refine g_wk (k := 2 + 1) (n := 16 + 6) (by decide) (by decide) ?_
  refine g_aload_n (pc := 1327) dL_act_1327 rfl trivial ?_
  refine g_aload (pc := 1328) dL_act_1328 rfl trivial ?_
  refine g_getf (pc := 1330) (v := .int _) dL_act_1330 fk_L_80 hD1.1.1 (fun _ => congrArg Value.int (hd1)) ?_
  refine g_invV_r (pc := 1333) (As := [_]) dL_act_1333 rfl (e1) rfl rfl (shK hZ1.1.S rfl) rfl rfl lk_L_207 rfl (nb rfl) ⟨nb rfl, nb rfl⟩ rfl ?_
  refine g_istore (pc := 1336) (lv' := [(0, _), (2, _), (4, _), (5, _), (13, _), (16, _), (14, _), (15, _)]) dL_act_1336 (nl rfl) rfl ?_
  exact g_subk (k_fin hZ1 hu hD1 hO e2 e3) ⟨rfl, rfl, rfl, rfl, rfl, rfl, trivial⟩
end

-- 3011.actk
/-! an action of the law: kept closures -/
section
variable {l : Launch} {M : Mem} {A P n p d x s t o a b MC MS : Nat} {is : Bool} {v0 : Int32} {u : Nat → Int64} {ρ : Nat → Nat × Nat} {eo : Option Nat} {os : List OD} {nv : OD} {q : DQ}
/-- how many are kept -/
theorem kc_c {K : Nat → Bool} : ∀ k, (∀ s, s < k → mI M (5 + 2 * s) 1 = b1 (K s)) → keptC M k = cR K k
  | 0, _ => by rw [keptC]; rfl
  | k + 1, h => by
    have h1 := h k (Nat.lt_succ_self k)
    rw [keptC, kc_c k (fun s hs => h s (by omega)), h1, cR]
    cases K k
    · rw [if_pos (show b1 false = 0 from rfl)]
      rfl
    · rw [if_neg (show ¬ b1 true = 0 by decide)]
theorem act_12 (hZ : AZ M A P n p os.length d u (usO os) ρ eo os nv) (hu : nv.2.2 = u) (hD : DK M d n q u) (hO : OW ρ d n q) (hs : s < 6) : Go l jL_act 12 400 MC MS (QA A P n (mS M)) 1225 [(0, .ref 0), (2, .ref P), (4, .ref d), (7, .int (nI s)), (12, .int (b1 is)), (13, .ref nv.1), (16, .int 1)] [] 1100 9000 M := by
  have hx1 : Xt (fun i => i = q.2.1) M (sI M q.2.1 (fun_set (mI M q.2.1) s (vp_nar .boolean (b1 is)))) := (Xt.rf (fun i => i = q.2.1) M).sI (fun _ => rfl)
  have hD1 : DK (sI M q.2.1 (fun_set (mI M q.2.1) s (vp_nar .boolean (b1 is)))) d n q (fun_set u (4 + s) (b1L is)) := hD.keep hO hs
  have hZ1 : AZ (sI M q.2.1 (fun_set (mI M q.2.1) s (vp_nar .boolean (b1 is)))) A P n p os.length d u (usO os) ρ eo os nv := hZ.xt hx1 (fun i _ e => by rw [e, hO.2.2.1]) (fun _ _ => rfl)
  have hk1 : mI (sI M q.2.1 (fun_set (mI M q.2.1) s (vp_nar .boolean (b1 is)))) q.2.1 s = b1 is := by rw [sI_self, fs_self, nar_Z]
  have hS1 : mS (sI M q.2.1 (fun_set (mI M q.2.1) s (vp_nar .boolean (b1 is)))) = mS M := rfl
  refine g_aload (pc := 1225) dL_act_1225 rfl trivial ?_
  refine g_getf (pc := 1227) dL_act_1227 fk_L_74 hD.1.1 (fv_arr hD.1.2.2.1) ?_
  refine g_iload (pc := 1230) dL_act_1230 rfl ?_
  refine g_iload (pc := 1232) dL_act_1232 rfl ?_
  refine g_zastore (pc := 1234) dL_act_1234 hD.2.2.1.2.1 rfl hs (by decide) ?_
  show Go l _ _ _ _ _ _ _ _ _ _ _ (sI M q.2.1 (fun_set (mI M q.2.1) s (vp_nar .boolean (b1 is))))
  rw [← hS1]
  generalize sI M q.2.1 (fun_set (mI M q.2.1) s (vp_nar .boolean (b1 is))) = M1 at *
  have hD2 : DK (dkAnew M1 (q.2.2.2.2.2 s) is (nI n)) d n q (anU (fun_set u (4 + s) (b1L is)) s (nI n)) := hD1.anew hO hs (fs_self _ _ _)
  have hx2 := dkAnew_xt (M := M1) (c := q.2.2.2.2.2 s) (k := is) (x := nI n)
  have hZ2 : AZ (dkAnew M1 (q.2.2.2.2.2 s) is (nI n)) A P n p os.length d u (usO os) ρ eo os nv := hZ1.xt hx2 (fun i _ e => by rw [e, (hO.2.2.2.2 s hs).2.1]) (fun _ _ => rfl)
  have hS2 : mS (dkAnew M1 (q.2.2.2.2.2 s) is (nI n)) = mS M1 := hx2.2.2.1
  refine g_wk (k := 2 + 1) (n := 16 + 6) (by decide) (by decide) ?_
  refine g_aload (pc := 1235) dL_act_1235 rfl trivial ?_
  refine g_iload (pc := 1237) dL_act_1237 rfl ?_
  refine g_invV_r (pc := 1239) (As := [_]) dL_act_1239 rfl (k_anew hD1 hO hs hk1) rfl rfl hD1.1.1 rfl rfl lk_L_85 rfl (nb rfl) ⟨nb rfl, nb rfl⟩ rfl ?_
  show Go l _ _ _ _ _ _ _ _ _ _ _ (dkAnew M1 (q.2.2.2.2.2 s) is (nI n))
  rw [← hS2]
  generalize dkAnew M1 (q.2.2.2.2.2 s) is (nI n) = M2 at *
  generalize hu2 : anU (fun_set u (4 + s) (b1L is)) s (nI n) = u2 at *
  have hK : ∀ t, t < 6 → mI M2 q.2.1 t = b1 (decide (u2 (4 + t) = 1)) := fun t ht => by
    obtain ⟨⟨k, k1, k2⟩, -⟩ := (hD2.2.2.2 t ht).2
    rw [k1, k2]
    cases k <;> decide
  obtain ⟨M3, e1, e2, e3⟩ := c_keep (l := l) (b := is) hZ2.1 hs
  rw [hu2] at e3
  have hkc : keptC M3 6 = cR (fun t => decide (u2 (4 + t) = 1)) 6 := kc_c 6 (fun t ht => by
    obtain ⟨⟨k, k1, k2⟩, -⟩ := e3.2.1.2.2.2.2 t ht
    rw [show 5 + 2 * t = 3 + 2 + 2 * t by omega, k1, k2]
    cases k <;> decide)
  rw [hkc] at e1
  refine g_iconst (pc := 1242) (v := 0) dL_act_1242 rfl ?_
  refine g_istore (pc := 1243) (lv' := [(0, _), (2, _), (4, _), (7, _), (12, _), (13, _), (16, _), (14, _)]) dL_act_1243 (nl rfl) rfl ?_
  refine g_aload (pc := 1245) dL_act_1245 rfl trivial ?_
  refine g_getf (pc := 1247) dL_act_1247 fk_L_74 hD2.1.1 (fv_arr hD2.1.2.2.1) ?_
  refine g_astore (pc := 1250) (lv' := [(0, _), (2, _), (4, _), (7, _), (12, _), (13, _), (16, _), (14, _), (18, _)]) dL_act_1250 trivial (nl rfl) rfl ?_
  refine g_aload (pc := 1252) dL_act_1252 rfl trivial ?_
  refine g_alen_Z (pc := 1254) dL_act_1254 (hD2.2.2.1.2.1) ?_
  refine g_istore (pc := 1255) (lv' := [(0, _), (2, _), (4, _), (7, _), (12, _), (13, _), (16, _), (14, _), (18, _), (19, _)]) dL_act_1255 (nl rfl) rfl ?_
  refine g_iconst (pc := 1257) (v := 0) dL_act_1257 rfl ?_
  refine g_istore (pc := 1258) (lv' := [(0, _), (2, _), (4, _), (7, _), (12, _), (13, _), (16, _), (14, _), (18, _), (19, _), (20, _)]) dL_act_1258 (nl rfl) rfl ?_
  refine go_loop (pc := 1260) 6 (fun i => [(0, .ref 0), (2, .ref P), (4, .ref d), (7, .int (nI s)), (12, .int (b1 is)), (13, .ref nv.1), (14, .int (nI (cR (fun t => decide (u2 (4 + t) = 1)) i))), (16, .int 1), (18, .ref q.2.1), (19, .int 6), (20, .int (nI i))]) (fun _ => M2) ⟨rfl, rfl, rfl, rfl, rfl, rfl, rfl, rfl, rfl, rfl, rfl, trivial⟩ rfl ?_ ?_
  · intro i hi ih
    have hv := hK i hi
    have e9 : cR (fun t => decide (u2 (4 + t) = 1)) (i + 1) = cR (fun t => decide (u2 (4 + t) = 1)) i + (match decide (u2 (4 + i) = 1) with | true => 1 | false => 0) := rfl
    rw [e9] at ih
    generalize cR (fun t => decide (u2 (4 + t) = 1)) i = w at *
    cases hf : decide (u2 (4 + i) = 1)
    · rw [hf] at hv ih
      refine g_iload (pc := 1260) dL_act_1260 rfl ?_
      refine g_iload (pc := 1262) dL_act_1262 rfl ?_
      refine g_icmp_ge (pc := 1264) (tgt := 1295) dL_act_1264 rfl (fun h1264 => absurd h1264 (nI_ge hi (by decide))) (fun _ => ?_)
      refine g_aload (pc := 1267) dL_act_1267 rfl trivial ?_
      refine g_iload (pc := 1269) dL_act_1269 rfl ?_
      refine g_zaload (pc := 1271) dL_act_1271 hD2.2.2.1.2.1 rfl hi (by decide) ?_
      rw [hv]
      refine g_istore (pc := 1272) (lv' := [(0, _), (2, _), (4, _), (7, _), (12, _), (13, _), (14, _), (16, _), (18, _), (19, _), (20, _), (21, _)]) dL_act_1272 (nl rfl) rfl ?_
      refine g_iload (pc := 1274) dL_act_1274 rfl ?_
      refine g_iload (pc := 1276) dL_act_1276 rfl ?_
      refine g_if_eq (pc := 1278) (tgt := 1285) dL_act_1278 rfl (fun _ => ?_) (fun h1278 => absurd (rfl) h1278)
      refine g_iconst (pc := 1285) (v := 0) dL_act_1285 rfl ?_
      refine g_iadd (pc := 1286) dL_act_1286 ?_
      rw [show nI w + 0 = nI (w + 0) from nI_add _ 0]
      refine g_istore (pc := 1287) (lv' := [(0, _), (2, _), (4, _), (7, _), (12, _), (13, _), (14, _), (16, _), (18, _), (19, _), (20, _), (21, _)]) dL_act_1287 (nl rfl) rfl ?_
      refine g_iinc (pc := 1289) (lv' := [(0, _), (2, _), (4, _), (7, _), (12, _), (13, _), (14, _), (16, _), (18, _), (19, _), (20, _), (21, _)]) dL_act_1289 rfl (nI_1 _) (nl rfl) rfl ?_
      refine g_goto (pc := 1292) (tgt := 1260) dL_act_1292 rfl ?_
      exact g_subk ih ⟨rfl, rfl, rfl, rfl, rfl, rfl, rfl, rfl, rfl, rfl, rfl, trivial⟩
    · rw [hf] at hv ih
      refine g_iload (pc := 1260) dL_act_1260 rfl ?_
      refine g_iload (pc := 1262) dL_act_1262 rfl ?_
      refine g_icmp_ge (pc := 1264) (tgt := 1295) dL_act_1264 rfl (fun h1264 => absurd h1264 (nI_ge hi (by decide))) (fun _ => ?_)
      refine g_aload (pc := 1267) dL_act_1267 rfl trivial ?_
      refine g_iload (pc := 1269) dL_act_1269 rfl ?_
      refine g_zaload (pc := 1271) dL_act_1271 hD2.2.2.1.2.1 rfl hi (by decide) ?_
      rw [hv]
      refine g_istore (pc := 1272) (lv' := [(0, _), (2, _), (4, _), (7, _), (12, _), (13, _), (14, _), (16, _), (18, _), (19, _), (20, _), (21, _)]) dL_act_1272 (nl rfl) rfl ?_
      refine g_iload (pc := 1274) dL_act_1274 rfl ?_
      refine g_iload (pc := 1276) dL_act_1276 rfl ?_
      refine g_if_eq (pc := 1278) (tgt := 1285) dL_act_1278 rfl (fun h1278 => absurd h1278 ((by decide))) (fun _ => ?_)
      refine g_iconst (pc := 1281) (v := 1) dL_act_1281 rfl ?_
      refine g_goto (pc := 1282) (tgt := 1286) dL_act_1282 rfl ?_
      refine g_iadd (pc := 1286) dL_act_1286 ?_
      rw [show nI w + 1 = nI (w + 1) from nI_add _ 1]
      refine g_istore (pc := 1287) (lv' := [(0, _), (2, _), (4, _), (7, _), (12, _), (13, _), (14, _), (16, _), (18, _), (19, _), (20, _), (21, _)]) dL_act_1287 (nl rfl) rfl ?_
      refine g_iinc (pc := 1289) (lv' := [(0, _), (2, _), (4, _), (7, _), (12, _), (13, _), (14, _), (16, _), (18, _), (19, _), (20, _), (21, _)]) dL_act_1289 rfl (nI_1 _) (nl rfl) rfl ?_
      refine g_goto (pc := 1292) (tgt := 1260) dL_act_1292 rfl ?_
      exact g_subk ih ⟨rfl, rfl, rfl, rfl, rfl, rfl, rfl, rfl, rfl, rfl, rfl, trivial⟩
  · refine g_iload (pc := 1260) dL_act_1260 rfl ?_
    refine g_iload (pc := 1262) dL_act_1262 rfl ?_
    refine g_icmp_ge (pc := 1264) (tgt := 1295) dL_act_1264 rfl (fun _ => ?_) (fun h1264 => absurd (nI_le (Nat.le_refl _) (by decide)) h1264)
    refine g_aload_n (pc := 1295) dL_act_1295 rfl trivial ?_
    refine g_iload (pc := 1296) dL_act_1296 rfl ?_
    refine g_iload (pc := 1298) dL_act_1298 rfl ?_
    refine g_invV_r (pc := 1300) (As := [_, _]) dL_act_1300 rfl (e1) rfl rfl (shK hZ2.1.S rfl) rfl rfl lk_L_203 rfl (nb rfl) ⟨nb rfl, nb rfl⟩ rfl ?_
    refine g_istore (pc := 1303) (lv' := [(0, _), (2, _), (4, _), (7, _), (12, _), (13, _), (14, _), (16, _), (18, _), (19, _), (20, _), (15, _)]) dL_act_1303 (nl rfl) rfl ?_
    refine g_goto (pc := 1305) (tgt := 1338) dL_act_1305 rfl ?_
    exact g_subk (k_fin hZ2 hu hD2 hO e2 e3) ⟨rfl, rfl, rfl, rfl, rfl, rfl, trivial⟩
end

-- 302.actb
/-! an action of the law: matrices filled cell by cell -/
section
variable {l : Launch} {M : Mem} {A P n p d x s t o a b w MC MS : Nat} {is : Bool} {u : Nat → Int64} {ρ : Nat → Nat × Nat} {eo : Option Nat} {os : List OD} {nv : OD} {q : DQ}
theorem Mt.fill {My : Mem} {N i j : Nat} {g : Nat → Int32} {τ σ : Nat → Nat} (h : Mt My N n (fun r => N + 1 + r) (fun r c => if τ r < i ∨ (τ r = i ∧ τ c < j) then hb (g r) c else false)) (hi : i < n) (hj : j < n) (hσ : ∀ r, r < n → σ r < n) (h1 : ∀ r, r < n → τ (σ r) = r) (h2 : ∀ r, r < n → σ (τ r) = r) (v : Bool) (hv : v = hb (g (σ i)) (σ j)) : Mt (sI My (N + 1 + σ i) (fun_set (mI My (N + 1 + σ i)) (σ j) (vp_nar .boolean (b1 v)))) N n (fun r => N + 1 + r) (fun r c => if τ r < i ∨ (τ r = i ∧ τ c < j + 1) then hb (g r) c else false) := by
  refine (h.put (v := v) (j := σ j) (hσ i hi) (fun r hr e => by omega)).cg (fun r c hr hc => ?_)
  by_cases e : r = σ i ∧ c = σ j
  · rw [if_pos e, hv, e.1, e.2, if_pos (Or.inr ⟨h1 i hi, by rw [h1 j hj]; exact Nat.lt_succ_self j⟩)]
  · rw [if_neg e]
    by_cases e2 : τ r < i ∨ (τ r = i ∧ τ c < j)
    · rw [if_pos e2, if_pos (by omega)]
    · rw [if_neg e2, if_neg (fun z => ?_)]
      have e3 : τ r = i ∧ τ c = j := by omega
      exact e ⟨by rw [← e3.1, h2 r hr], by rw [← e3.2, h2 c hc]⟩
theorem Mt.next {My : Mem} {N i : Nat} {g : Nat → Int32} {τ : Nat → Nat} (h : Mt My N n (fun r => N + 1 + r) (fun r c => if τ r < i ∨ (τ r = i ∧ τ c < n) then hb (g r) c else false)) (hτ : ∀ r, r < n → τ r < n) : Mt My N n (fun r => N + 1 + r) (fun r c => if τ r < i + 1 ∨ (τ r = i + 1 ∧ τ c < 0) then hb (g r) c else false) := h.cg (fun r c hr hc => by
  have := hτ c hc
  by_cases e : τ r < i ∨ (τ r = i ∧ τ c < n)
  · rw [if_pos e, if_pos (by omega)]
  · rw [if_neg e, if_neg (by omega)])
theorem act_4t (hZ : AZ M A P n p os.length d u (usO os) ρ eo os nv) (hu : nv.2.2 = u) (hD : DK M d n q u) (hO : OW ρ d n q) (hs : s < 6) (ht : t < 6) : Go l jL_act 12 400 MC MS (QA A P n (mS M)) 463 [(0, .ref 0), (2, .ref P), (4, .ref d), (7, .int (nI s)), (9, .int (nI t)), (12, .int 1), (13, .ref nv.1), (16, .int 1), (17, .ref (q.2.2.2.1 s))] [] 1100 9000 M := by
  have hn := hZ.2.2.2.2.2.2
  have hx := hZ.x
  have hz := hD.z
  have hn32 : n ≤ 32 := by omega
  obtain ⟨-, hm⟩ := hD.mm hZ.1 hs
  have hg9 : ∃ g : Nat → Int32, g = Am M s := ⟨_, rfl⟩
  obtain ⟨g, hg⟩ := hg9
  have hF := fresh_Mt M n
  have hX := os2_xt M .boolean n n
  have hdl := k_lt hD.1.1
  have hml := hm.lt
  refine g_aload (pc := 463) dL_act_463 rfl trivial ?_
  refine g_invV_r (pc := 465) (As := []) dL_act_465 rfl (k_fresh hD.1.1 hz hn hx) rfl rfl hD.1.1 rfl rfl lk_L_151 rfl (nb rfl) ⟨nb rfl, nb rfl⟩ rfl ?_
  show Go l _ _ _ _ _ _ _ _ ([.ref (mK M).length] : List Value) _ _ (opsM M (os2 .boolean n n (mK M).length))
  generalize hN : (mK M).length = N at *
  generalize opsM M (os2 .boolean n n N) = M1 at *
  have cl : ∀ {My : Mem}, Xt (fun y => N ≤ y) M My → (mK My)[d]? = some (.inr 7) ∧ mI My d 0 = nI n ∧ Mt My (q.2.2.2.1 s) n (q.2.2.2.2.1 s) (fB (Am M s)) := fun {My} h => ⟨h.k hD.1.1, (congrFun (h.I (k_lt hD.1.1) (by omega)) 0).trans hz, hm.xt h (by omega) (fun r hr => by have := hml.2 r hr; omega)⟩

  refine g_astore (pc := 468) (lv' := [(0, _), (2, _), (4, _), (7, _), (9, _), (12, _), (13, _), (16, _), (17, _), (18, _)]) dL_act_468 trivial (nl rfl) rfl ?_
  refine g_iconst (pc := 470) (v := 0) dL_act_470 rfl ?_
  refine g_istore (pc := 471) (lv' := [(0, _), (2, _), (4, _), (7, _), (9, _), (12, _), (13, _), (16, _), (17, _), (18, _), (19, _)]) dL_act_471 (nl rfl) rfl ?_
  refine go_forS (pc := 473) n (fun i (_ : Mem) => [(0, .ref 0), (2, .ref P), (4, .ref d), (7, .int (nI s)), (9, .int (nI t)), (12, .int 1), (13, .ref nv.1), (16, .int 1), (17, .ref (q.2.2.2.1 s)), (18, .ref N), (19, .int (nI i))]) (fun z => z) (fun i My => Xt (fun y => N ≤ y) M My ∧ Mt My N n (fun r => N + 1 + r) (fun r c => if r < i ∨ (r = i ∧ c < 0) then hb (g r) c else false)) (fun _ => 1090) (fun _ => 8910) M1 ⟨rfl, rfl, rfl, rfl, rfl, rfl, rfl, rfl, rfl, rfl, rfl, trivial⟩ rfl rfl rfl ⟨hX.up (fun _ _ z => z.elim), hF.cg (fun r c _ _ => (if_neg (by omega)).symm)⟩ ?_ ?_
  · rintro i My hi ⟨g1, g2⟩ ih
    obtain ⟨hd9, hz9, hm9⟩ := cl g1
    refine g_iload (pc := 473) dL_act_473 rfl ?_
    refine g_aload (pc := 475) dL_act_475 rfl trivial ?_
    refine g_getf (pc := 477) (v := .int _) dL_act_477 fk_L_45 hd9 (fun _ => congrArg Value.int (hz9)) ?_
    refine g_icmp_ge (pc := 480) (tgt := 540) dL_act_480 rfl (fun h480 => absurd h480 (nI_ge hi (by omega))) (fun _ => ?_)
    refine g_iconst (pc := 483) (v := 0) dL_act_483 rfl ?_
    refine g_istore (pc := 484) (lv' := [(0, _), (2, _), (4, _), (7, _), (9, _), (12, _), (13, _), (16, _), (17, _), (18, _), (19, _), (20, _)]) dL_act_484 (nl rfl) rfl ?_
    refine g_wk (pc := 486) (Nat.le_refl 1090) (Nat.le_refl 8910) ?_
    refine go_forS (pc := 486) n (fun j (_ : Mem) => [(0, .ref 0), (2, .ref P), (4, .ref d), (7, .int (nI s)), (9, .int (nI t)), (12, .int 1), (13, .ref nv.1), (16, .int 1), (17, .ref (q.2.2.2.1 s)), (18, .ref N), (19, .int (nI i)), (20, .int (nI j))]) (fun z => z) (fun j My => Xt (fun y => N ≤ y) M My ∧ Mt My N n (fun r => N + 1 + r) (fun r c => if r < i ∨ (r = i ∧ c < j) then hb (g r) c else false)) (fun _ => 1090) (fun _ => 8910) My ⟨rfl, rfl, rfl, rfl, rfl, rfl, rfl, rfl, rfl, rfl, rfl, rfl, trivial⟩ rfl rfl rfl ⟨g1, g2⟩ ?_ ?_
    · rintro j Mz hj ⟨f1, f2⟩ ih2
      obtain ⟨hd8, hz8, hm8⟩ := cl f1
      have hput : ∀ v : Bool, v = hb (g (i)) (j) → _ := fun v hv => ih2 (sI Mz (N + 1 + i) (fun_set (mI Mz (N + 1 + i)) (j) (vp_nar .boolean (b1 v)))) ⟨f1.sI (fun _ => by omega), Mt.fill (τ := fun r => r) (σ := fun i => i) f2 hi hj (fun _ h => h) (fun _ _ => rfl) (fun _ _ => rfl) v hv⟩
      have hv : hb (Am M s i) j = hb (g i) j := by rw [hg]
      refine g_iload (pc := 486) dL_act_486 rfl ?_
      refine g_aload (pc := 488) dL_act_488 rfl trivial ?_
      refine g_getf (pc := 490) (v := .int _) dL_act_490 fk_L_45 hd8 (fun _ => congrArg Value.int (hz8)) ?_
      refine g_icmp_ge (pc := 493) (tgt := 534) dL_act_493 rfl (fun h493 => absurd h493 (nI_ge hj (by omega))) (fun _ => ?_)
      refine g_aload (pc := 496) dL_act_496 rfl trivial ?_
      refine g_iload (pc := 498) dL_act_498 rfl ?_
      refine g_aaload_Z1 (pc := 500) dL_act_500 f2.1 rfl hi (by omega) (f2.2 i hi).1 ?_
      refine g_iload (pc := 501) dL_act_501 rfl ?_
      refine g_iload (pc := 503) dL_act_503 rfl ?_
      refine g_if_eq (pc := 505) (tgt := 519) dL_act_505 rfl (fun h505 => absurd h505 ((by decide))) (fun _ => ?_)
      refine g_aload (pc := 508) dL_act_508 rfl trivial ?_
      refine g_iload (pc := 510) dL_act_510 rfl ?_
      refine g_aaload_Z1 (pc := 512) dL_act_512 hm8.1 rfl hi (by omega) (hm8.2 i hi).1 ?_
      refine g_iload (pc := 513) dL_act_513 rfl ?_
      refine g_zaload (pc := 515) dL_act_515 (hm8.2 i hi).2.1 rfl hj (by omega) ?_
      rw [show mI Mz (q.2.2.2.2.1 s i) j = b1 (hb (Am M s i) j) from (hm8.2 i hi).2.2 j hj]
      refine g_goto (pc := 516) (tgt := 527) dL_act_516 rfl ?_
      refine g_zastore (pc := 527) dL_act_527 (f2.2 i hi).2.1 rfl hj (by omega) ?_
      refine g_iinc (pc := 528) (lv' := [(0, _), (2, _), (4, _), (7, _), (9, _), (12, _), (13, _), (16, _), (17, _), (18, _), (19, _), (20, _)]) dL_act_528 rfl (nI_1 _) (nl rfl) rfl ?_
      refine g_goto (pc := 531) (tgt := 486) dL_act_531 rfl ?_
      exact g_subk (hput _ hv) ⟨rfl, rfl, rfl, rfl, rfl, rfl, rfl, rfl, rfl, rfl, rfl, rfl, trivial⟩
    · rintro Mz ⟨f1, f2⟩
      obtain ⟨hd8, hz8, hm8⟩ := cl f1
      refine g_iload (pc := 486) dL_act_486 rfl ?_
      refine g_aload (pc := 488) dL_act_488 rfl trivial ?_
      refine g_getf (pc := 490) (v := .int _) dL_act_490 fk_L_45 hd8 (fun _ => congrArg Value.int (hz8)) ?_
      refine g_icmp_ge (pc := 493) (tgt := 534) dL_act_493 rfl (fun _ => ?_) (fun h493 => absurd (nI_le (Nat.le_refl _) (by omega)) h493)
      refine g_iinc (pc := 534) (lv' := [(0, _), (2, _), (4, _), (7, _), (9, _), (12, _), (13, _), (16, _), (17, _), (18, _), (19, _), (20, _)]) dL_act_534 rfl (nI_1 _) (nl rfl) rfl ?_
      refine g_goto (pc := 537) (tgt := 473) dL_act_537 rfl ?_
      exact g_subk (ih Mz ⟨f1, Mt.next (τ := fun r => r) f2 (fun _ h => h)⟩) ⟨rfl, rfl, rfl, rfl, rfl, rfl, rfl, rfl, rfl, rfl, rfl, trivial⟩
  · rintro My ⟨g1, g2⟩
    obtain ⟨hd9, hz9, hm9⟩ := cl g1
    have gM : Mt My N n (fun r => N + 1 + r) (fB g) := g2.cg (fun r c hr hc => if_pos (Or.inl hr))
    have gd : Xt (fun i => i = d) M My := g1.up (fun i hi z => by omega)
    have gD : DK My d n q u := hD.xt hO g1 (fun i hi z => by omega)
    refine g_wk (Nat.le_refl 1090) (Nat.le_refl 8910) ?_

    obtain ⟨M2, e1, e2, e3, e4, e5, e6, e7⟩ := st_law (l := l) (g := g) hD hO gd gD gM (Nat.le_of_eq hN) (by omega) ht (fun _ _ _ _ => rfl) hn32
    have hZ2 := hZ.xt e4 e6 e5
    have hS2 : mS M2 = mS M := e4.2.2.1
    obtain ⟨M3, c1, c2, c3⟩ := c_copy (l := l) hZ2.1 hs ht
    rw [hZ.am e4 e6 hs] at c1 c3
    have hw : onesF g n = nI (cM (fB g) n n) := on_c hn32 (by rw [hg]; exact hZ.1.wf hs) n (Nat.le_refl n)
    rw [← hg, hw] at c1
    rw [← hg] at c3
    rw [← hS2]
    refine g_iload (pc := 473) dL_act_473 rfl ?_
    refine g_aload (pc := 475) dL_act_475 rfl trivial ?_
    refine g_getf (pc := 477) (v := .int _) dL_act_477 fk_L_45 hd9 (fun _ => congrArg Value.int (hz9)) ?_
    refine g_icmp_ge (pc := 480) (tgt := 540) dL_act_480 rfl (fun _ => ?_) (fun h480 => absurd (nI_le (Nat.le_refl _) (by omega)) h480)
    refine g_aload (pc := 540) dL_act_540 rfl trivial ?_
    refine g_iload (pc := 542) dL_act_542 rfl ?_
    refine g_aload (pc := 544) dL_act_544 rfl trivial ?_
    refine g_invV_r (pc := 546) (As := [_, _]) dL_act_546 rfl (e1) rfl rfl hd9 rfl rfl lk_L_155 rfl (nb rfl) ⟨nb rfl, nb rfl⟩ rfl ?_
    refine g_aload (pc := 549) dL_act_549 rfl trivial ?_
    refine g_aload (pc := 551) dL_act_551 rfl trivial ?_
    refine g_invV_r (pc := 553) (As := [_]) dL_act_553 rfl (k_ones e7 hn) rfl rfl e2.1.1 rfl rfl lk_L_159 rfl (nb rfl) ⟨nb rfl, nb rfl⟩ rfl ?_
    refine g_istore (pc := 556) (lv' := [(0, _), (2, _), (4, _), (7, _), (9, _), (12, _), (13, _), (16, _), (17, _), (18, _), (19, _), (14, _)]) dL_act_556 (nl rfl) rfl ?_
    refine g_iload (pc := 558) dL_act_558 rfl ?_
    refine g_if_eq (pc := 560) (tgt := 574) dL_act_560 rfl (fun h560 => absurd h560 ((by decide))) (fun _ => ?_)
    refine g_aload_n (pc := 563) dL_act_563 rfl trivial ?_
    refine g_iload (pc := 564) dL_act_564 rfl ?_
    refine g_iload (pc := 566) dL_act_566 rfl ?_
    refine g_invV_r (pc := 568) (As := [_, _]) dL_act_568 rfl (c1) rfl rfl (shK hZ2.1.S rfl) rfl rfl lk_L_162 rfl (nb rfl) ⟨nb rfl, nb rfl⟩ rfl ?_
    refine g_goto (pc := 571) (tgt := 582) dL_act_571 rfl ?_
    refine g_istore (pc := 582) (lv' := [(0, _), (2, _), (4, _), (7, _), (9, _), (12, _), (13, _), (16, _), (17, _), (18, _), (19, _), (14, _), (15, _)]) dL_act_582 (nl rfl) rfl ?_
    refine g_goto (pc := 584) (tgt := 1338) dL_act_584 rfl ?_
    refine g_wk (pc := 1338) (k := 2) (n := 16) (by decide) (by decide) ?_
    exact g_subk (k_fin hZ2 hu e2 e3 c2 c3) ⟨rfl, rfl, rfl, rfl, rfl, rfl, trivial⟩
theorem act_4f (hZ : AZ M A P n p os.length d u (usO os) ρ eo os nv) (hu : nv.2.2 = u) (hD : DK M d n q u) (hO : OW ρ d n q) (hs : s < 6) (ht : t < 6) : Go l jL_act 12 400 MC MS (QA A P n (mS M)) 463 [(0, .ref 0), (2, .ref P), (4, .ref d), (7, .int (nI s)), (9, .int (nI t)), (12, .int 0), (13, .ref nv.1), (16, .int 1), (17, .ref (q.2.2.2.1 s))] [] 1100 9000 M := by
  have hn := hZ.2.2.2.2.2.2
  have hx := hZ.x
  have hz := hD.z
  have hn32 : n ≤ 32 := by omega
  obtain ⟨-, hm⟩ := hD.mm hZ.1 hs
  have hg9 : ∃ g : Nat → Int32, g = fun k => colOf (Am M s) k n := ⟨_, rfl⟩
  obtain ⟨g, hg⟩ := hg9
  have hF := fresh_Mt M n
  have hX := os2_xt M .boolean n n
  have hdl := k_lt hD.1.1
  have hml := hm.lt
  refine g_aload (pc := 463) dL_act_463 rfl trivial ?_
  refine g_invV_r (pc := 465) (As := []) dL_act_465 rfl (k_fresh hD.1.1 hz hn hx) rfl rfl hD.1.1 rfl rfl lk_L_151 rfl (nb rfl) ⟨nb rfl, nb rfl⟩ rfl ?_
  show Go l _ _ _ _ _ _ _ _ ([.ref (mK M).length] : List Value) _ _ (opsM M (os2 .boolean n n (mK M).length))
  generalize hN : (mK M).length = N at *
  generalize opsM M (os2 .boolean n n N) = M1 at *
  have cl : ∀ {My : Mem}, Xt (fun y => N ≤ y) M My → (mK My)[d]? = some (.inr 7) ∧ mI My d 0 = nI n ∧ Mt My (q.2.2.2.1 s) n (q.2.2.2.2.1 s) (fB (Am M s)) := fun {My} h => ⟨h.k hD.1.1, (congrFun (h.I (k_lt hD.1.1) (by omega)) 0).trans hz, hm.xt h (by omega) (fun r hr => by have := hml.2 r hr; omega)⟩

  refine g_astore (pc := 468) (lv' := [(0, _), (2, _), (4, _), (7, _), (9, _), (12, _), (13, _), (16, _), (17, _), (18, _)]) dL_act_468 trivial (nl rfl) rfl ?_
  refine g_iconst (pc := 470) (v := 0) dL_act_470 rfl ?_
  refine g_istore (pc := 471) (lv' := [(0, _), (2, _), (4, _), (7, _), (9, _), (12, _), (13, _), (16, _), (17, _), (18, _), (19, _)]) dL_act_471 (nl rfl) rfl ?_
  refine go_forS (pc := 473) n (fun i (_ : Mem) => [(0, .ref 0), (2, .ref P), (4, .ref d), (7, .int (nI s)), (9, .int (nI t)), (12, .int 0), (13, .ref nv.1), (16, .int 1), (17, .ref (q.2.2.2.1 s)), (18, .ref N), (19, .int (nI i))]) (fun z => z) (fun i My => Xt (fun y => N ≤ y) M My ∧ Mt My N n (fun r => N + 1 + r) (fun r c => if r < i ∨ (r = i ∧ c < 0) then hb (g r) c else false)) (fun _ => 1090) (fun _ => 8910) M1 ⟨rfl, rfl, rfl, rfl, rfl, rfl, rfl, rfl, rfl, rfl, rfl, trivial⟩ rfl rfl rfl ⟨hX.up (fun _ _ z => z.elim), hF.cg (fun r c _ _ => (if_neg (by omega)).symm)⟩ ?_ ?_
  · rintro i My hi ⟨g1, g2⟩ ih
    obtain ⟨hd9, hz9, hm9⟩ := cl g1
    refine g_iload (pc := 473) dL_act_473 rfl ?_
    refine g_aload (pc := 475) dL_act_475 rfl trivial ?_
    refine g_getf (pc := 477) (v := .int _) dL_act_477 fk_L_45 hd9 (fun _ => congrArg Value.int (hz9)) ?_
    refine g_icmp_ge (pc := 480) (tgt := 540) dL_act_480 rfl (fun h480 => absurd h480 (nI_ge hi (by omega))) (fun _ => ?_)
    refine g_iconst (pc := 483) (v := 0) dL_act_483 rfl ?_
    refine g_istore (pc := 484) (lv' := [(0, _), (2, _), (4, _), (7, _), (9, _), (12, _), (13, _), (16, _), (17, _), (18, _), (19, _), (20, _)]) dL_act_484 (nl rfl) rfl ?_
    refine g_wk (pc := 486) (Nat.le_refl 1090) (Nat.le_refl 8910) ?_
    refine go_forS (pc := 486) n (fun j (_ : Mem) => [(0, .ref 0), (2, .ref P), (4, .ref d), (7, .int (nI s)), (9, .int (nI t)), (12, .int 0), (13, .ref nv.1), (16, .int 1), (17, .ref (q.2.2.2.1 s)), (18, .ref N), (19, .int (nI i)), (20, .int (nI j))]) (fun z => z) (fun j My => Xt (fun y => N ≤ y) M My ∧ Mt My N n (fun r => N + 1 + r) (fun r c => if r < i ∨ (r = i ∧ c < j) then hb (g r) c else false)) (fun _ => 1090) (fun _ => 8910) My ⟨rfl, rfl, rfl, rfl, rfl, rfl, rfl, rfl, rfl, rfl, rfl, rfl, trivial⟩ rfl rfl rfl ⟨g1, g2⟩ ?_ ?_
    · rintro j Mz hj ⟨f1, f2⟩ ih2
      obtain ⟨hd8, hz8, hm8⟩ := cl f1
      have hput : ∀ v : Bool, v = hb (g (i)) (j) → _ := fun v hv => ih2 (sI Mz (N + 1 + i) (fun_set (mI Mz (N + 1 + i)) (j) (vp_nar .boolean (b1 v)))) ⟨f1.sI (fun _ => by omega), Mt.fill (τ := fun r => r) (σ := fun i => i) f2 hi hj (fun _ h => h) (fun _ _ => rfl) (fun _ _ => rfl) v hv⟩
      have hv : hb (Am M s j) i = hb (g i) j := by rw [hg]; exact (col_w hn32 hj).symm
      refine g_iload (pc := 486) dL_act_486 rfl ?_
      refine g_aload (pc := 488) dL_act_488 rfl trivial ?_
      refine g_getf (pc := 490) (v := .int _) dL_act_490 fk_L_45 hd8 (fun _ => congrArg Value.int (hz8)) ?_
      refine g_icmp_ge (pc := 493) (tgt := 534) dL_act_493 rfl (fun h493 => absurd h493 (nI_ge hj (by omega))) (fun _ => ?_)
      refine g_aload (pc := 496) dL_act_496 rfl trivial ?_
      refine g_iload (pc := 498) dL_act_498 rfl ?_
      refine g_aaload_Z1 (pc := 500) dL_act_500 f2.1 rfl hi (by omega) (f2.2 i hi).1 ?_
      refine g_iload (pc := 501) dL_act_501 rfl ?_
      refine g_iload (pc := 503) dL_act_503 rfl ?_
      refine g_if_eq (pc := 505) (tgt := 519) dL_act_505 rfl (fun _ => ?_) (fun h505 => absurd (rfl) h505)
      refine g_aload (pc := 519) dL_act_519 rfl trivial ?_
      refine g_iload (pc := 521) dL_act_521 rfl ?_
      refine g_aaload_Z1 (pc := 523) dL_act_523 hm8.1 rfl hj (by omega) (hm8.2 j hj).1 ?_
      refine g_iload (pc := 524) dL_act_524 rfl ?_
      refine g_zaload (pc := 526) dL_act_526 (hm8.2 j hj).2.1 rfl hi (by omega) ?_
      rw [show mI Mz (q.2.2.2.2.1 s j) i = b1 (hb (Am M s j) i) from (hm8.2 j hj).2.2 i hi]
      refine g_zastore (pc := 527) dL_act_527 (f2.2 i hi).2.1 rfl hj (by omega) ?_
      refine g_iinc (pc := 528) (lv' := [(0, _), (2, _), (4, _), (7, _), (9, _), (12, _), (13, _), (16, _), (17, _), (18, _), (19, _), (20, _)]) dL_act_528 rfl (nI_1 _) (nl rfl) rfl ?_
      refine g_goto (pc := 531) (tgt := 486) dL_act_531 rfl ?_
      exact g_subk (hput _ hv) ⟨rfl, rfl, rfl, rfl, rfl, rfl, rfl, rfl, rfl, rfl, rfl, rfl, trivial⟩
    · rintro Mz ⟨f1, f2⟩
      obtain ⟨hd8, hz8, hm8⟩ := cl f1
      refine g_iload (pc := 486) dL_act_486 rfl ?_
      refine g_aload (pc := 488) dL_act_488 rfl trivial ?_
      refine g_getf (pc := 490) (v := .int _) dL_act_490 fk_L_45 hd8 (fun _ => congrArg Value.int (hz8)) ?_
      refine g_icmp_ge (pc := 493) (tgt := 534) dL_act_493 rfl (fun _ => ?_) (fun h493 => absurd (nI_le (Nat.le_refl _) (by omega)) h493)
      refine g_iinc (pc := 534) (lv' := [(0, _), (2, _), (4, _), (7, _), (9, _), (12, _), (13, _), (16, _), (17, _), (18, _), (19, _), (20, _)]) dL_act_534 rfl (nI_1 _) (nl rfl) rfl ?_
      refine g_goto (pc := 537) (tgt := 473) dL_act_537 rfl ?_
      exact g_subk (ih Mz ⟨f1, Mt.next (τ := fun r => r) f2 (fun _ h => h)⟩) ⟨rfl, rfl, rfl, rfl, rfl, rfl, rfl, rfl, rfl, rfl, rfl, trivial⟩
  · rintro My ⟨g1, g2⟩
    obtain ⟨hd9, hz9, hm9⟩ := cl g1
    have gM : Mt My N n (fun r => N + 1 + r) (fB g) := g2.cg (fun r c hr hc => if_pos (Or.inl hr))
    have gd : Xt (fun i => i = d) M My := g1.up (fun i hi z => by omega)
    have gD : DK My d n q u := hD.xt hO g1 (fun i hi z => by omega)
    refine g_wk (Nat.le_refl 1090) (Nat.le_refl 8910) ?_

    obtain ⟨M2, e1, e2, e3, e4, e5, e6, e7⟩ := st_law (l := l) (g := g) hD hO gd gD gM (Nat.le_of_eq hN) (by omega) ht (fun _ _ _ _ => rfl) hn32
    have hZ2 := hZ.xt e4 e6 e5
    have hS2 : mS M2 = mS M := e4.2.2.1
    obtain ⟨M3, c1, c2, c3⟩ := c_transpose (l := l) hZ2.1 hs ht
    rw [hZ.am e4 e6 hs] at c1 c3
    have hw : onesF g n = nI (cM (fB g) n n) := on_c hn32 (by rw [hg]; exact wf_col hn32) n (Nat.le_refl n)
    rw [← hg, hw] at c1
    rw [← hg] at c3
    rw [← hS2]
    refine g_iload (pc := 473) dL_act_473 rfl ?_
    refine g_aload (pc := 475) dL_act_475 rfl trivial ?_
    refine g_getf (pc := 477) (v := .int _) dL_act_477 fk_L_45 hd9 (fun _ => congrArg Value.int (hz9)) ?_
    refine g_icmp_ge (pc := 480) (tgt := 540) dL_act_480 rfl (fun _ => ?_) (fun h480 => absurd (nI_le (Nat.le_refl _) (by omega)) h480)
    refine g_aload (pc := 540) dL_act_540 rfl trivial ?_
    refine g_iload (pc := 542) dL_act_542 rfl ?_
    refine g_aload (pc := 544) dL_act_544 rfl trivial ?_
    refine g_invV_r (pc := 546) (As := [_, _]) dL_act_546 rfl (e1) rfl rfl hd9 rfl rfl lk_L_155 rfl (nb rfl) ⟨nb rfl, nb rfl⟩ rfl ?_
    refine g_aload (pc := 549) dL_act_549 rfl trivial ?_
    refine g_aload (pc := 551) dL_act_551 rfl trivial ?_
    refine g_invV_r (pc := 553) (As := [_]) dL_act_553 rfl (k_ones e7 hn) rfl rfl e2.1.1 rfl rfl lk_L_159 rfl (nb rfl) ⟨nb rfl, nb rfl⟩ rfl ?_
    refine g_istore (pc := 556) (lv' := [(0, _), (2, _), (4, _), (7, _), (9, _), (12, _), (13, _), (16, _), (17, _), (18, _), (19, _), (14, _)]) dL_act_556 (nl rfl) rfl ?_
    refine g_iload (pc := 558) dL_act_558 rfl ?_
    refine g_if_eq (pc := 560) (tgt := 574) dL_act_560 rfl (fun _ => ?_) (fun h560 => absurd (rfl) h560)
    refine g_aload_n (pc := 574) dL_act_574 rfl trivial ?_
    refine g_iload (pc := 575) dL_act_575 rfl ?_
    refine g_iload (pc := 577) dL_act_577 rfl ?_
    refine g_invV_r (pc := 579) (As := [_, _]) dL_act_579 rfl (c1) rfl rfl (shK hZ2.1.S rfl) rfl rfl lk_L_164 rfl (nb rfl) ⟨nb rfl, nb rfl⟩ rfl ?_
    refine g_istore (pc := 582) (lv' := [(0, _), (2, _), (4, _), (7, _), (9, _), (12, _), (13, _), (16, _), (17, _), (18, _), (19, _), (14, _), (15, _)]) dL_act_582 (nl rfl) rfl ?_
    refine g_goto (pc := 584) (tgt := 1338) dL_act_584 rfl ?_
    refine g_wk (pc := 1338) (k := 2) (n := 16) (by decide) (by decide) ?_
    exact g_subk (k_fin hZ2 hu e2 e3 c2 c3) ⟨rfl, rfl, rfl, rfl, rfl, rfl, trivial⟩
theorem act_50 (hZ : AZ M A P n p os.length d u (usO os) ρ eo os nv) (hu : nv.2.2 = u) (hD : DK M d n q u) (hO : OW ρ d n q) (hx9 : x < 2147483648) (hw : x / 262144 % 4 = 0) (hs : s < 6) (ho : o < 6) (ht : t < 6) : Go l jL_act 12 400 MC MS (QA A P n (mS M)) 587 [(0, .ref 0), (2, .ref P), (4, .ref d), (5, .int (nI x)), (7, .int (nI s)), (8, .int (nI o)), (9, .int (nI t)), (13, .ref nv.1), (16, .int 1), (17, .ref (q.2.2.2.1 s))] [] 1100 9000 M := by
  have hn := hZ.2.2.2.2.2.2
  have hx := hZ.x
  have hz := hD.z
  have hn32 : n ≤ 32 := by omega
  obtain ⟨-, hm⟩ := hD.mm hZ.1 hs
  obtain ⟨-, hmo9⟩ := hD.mm hZ.1 ho
  have hmol := hmo9.lt
  have hg9 : ∃ g : Nat → Int32, g = fun k => comb (Am M s k) (Am M o k) 0 := ⟨_, rfl⟩
  obtain ⟨g, hg⟩ := hg9
  have hF := fresh_Mt M n
  have hX := os2_xt M .boolean n n
  have hdl := k_lt hD.1.1
  have hml := hm.lt
  refine g_aload (pc := 587) dL_act_587 rfl trivial ?_
  refine g_invV_r (pc := 589) (As := []) dL_act_589 rfl (k_fresh hD.1.1 hz hn hx) rfl rfl hD.1.1 rfl rfl lk_L_151 rfl (nb rfl) ⟨nb rfl, nb rfl⟩ rfl ?_
  show Go l _ _ _ _ _ _ _ _ ([.ref (mK M).length] : List Value) _ _ (opsM M (os2 .boolean n n (mK M).length))
  generalize hN : (mK M).length = N at *
  generalize opsM M (os2 .boolean n n N) = M1 at *
  have cl : ∀ {My : Mem}, Xt (fun y => N ≤ y) M My → (mK My)[d]? = some (.inr 7) ∧ mI My d 0 = nI n ∧ Mt My (q.2.2.2.1 s) n (q.2.2.2.2.1 s) (fB (Am M s)) := fun {My} h => ⟨h.k hD.1.1, (congrFun (h.I (k_lt hD.1.1) (by omega)) 0).trans hz, hm.xt h (by omega) (fun r hr => by have := hml.2 r hr; omega)⟩

  have hmo : ∀ {My : Mem}, Xt (fun y => N ≤ y) M My → Mt My (q.2.2.2.1 o) n (q.2.2.2.2.1 o) (fB (Am M o)) := fun {My} h => hmo9.xt h (by omega) (fun r hr => by have := hmol.2 r hr; omega)
  have hD1 : DK M1 d n q u := hD.xt hO hX (fun i hi z => z.elim)
  refine g_astore (pc := 592) (lv' := [(0, _), (2, _), (4, _), (5, _), (7, _), (8, _), (9, _), (13, _), (16, _), (17, _), (18, _)]) dL_act_592 trivial (nl rfl) rfl ?_
  refine g_iload (pc := 594) dL_act_594 rfl ?_
  refine g_ldc (pc := 596) dL_act_596 wd_x990 ?_
  refine g_idiv (pc := 598) dL_act_598 (by decide) ?_
  rw [show nI x / 262144 = nI (x / 262144) from nI_div (b := 262144) hx9 (by decide)]
  refine g_iconst (pc := 599) (v := 4) dL_act_599 rfl ?_
  refine g_irem (pc := 600) dL_act_600 (by decide) ?_
  rw [show nI (x / 262144) - nI (x / 262144) / 4 * 4 = nI (x / 262144 % 4) from nI_rem (b := 4) (by omega) (by decide), hw]
  refine g_istore (pc := 601) (lv' := [(0, _), (2, _), (4, _), (5, _), (7, _), (8, _), (9, _), (13, _), (16, _), (17, _), (18, _), (19, _)]) dL_act_601 (nl rfl) rfl ?_
  refine g_aload (pc := 603) dL_act_603 rfl trivial ?_
  refine g_getf (pc := 605) dL_act_605 fk_L_52 hD1.1.1 (fv_arr hD1.1.2.1) ?_
  refine g_iload (pc := 608) dL_act_608 rfl ?_
  refine g_aaload_Z2 (pc := 610) dL_act_610 hD1.2.2.1.1 rfl ho (by omega) (hD1.2.2.2 o ho).1.1 ?_
  refine g_astore (pc := 611) (lv' := [(0, _), (2, _), (4, _), (5, _), (7, _), (8, _), (9, _), (13, _), (16, _), (17, _), (18, _), (19, _), (20, _)]) dL_act_611 trivial (nl rfl) rfl ?_
  skip

  refine g_iconst (pc := 613) (v := 0) dL_act_613 rfl ?_
  refine g_istore (pc := 614) (lv' := [(0, _), (2, _), (4, _), (5, _), (7, _), (8, _), (9, _), (13, _), (16, _), (17, _), (18, _), (19, _), (20, _), (21, _)]) dL_act_614 (nl rfl) rfl ?_
  refine go_forS (pc := 616) n (fun i (_ : Mem) => [(0, .ref 0), (2, .ref P), (4, .ref d), (5, .int (nI x)), (7, .int (nI s)), (8, .int (nI o)), (9, .int (nI t)), (13, .ref nv.1), (16, .int 1), (17, .ref (q.2.2.2.1 s)), (18, .ref N), (19, .int 0), (20, .ref (q.2.2.2.1 o)), (21, .int (nI i))]) (fun z => z) (fun i My => Xt (fun y => N ≤ y) M My ∧ Mt My N n (fun r => N + 1 + r) (fun r c => if r < i ∨ (r = i ∧ c < 0) then hb (g r) c else false)) (fun _ => 1090) (fun _ => 8910) M1 ⟨rfl, rfl, rfl, rfl, rfl, rfl, rfl, rfl, rfl, rfl, rfl, rfl, rfl, rfl, trivial⟩ rfl rfl rfl ⟨hX.up (fun _ _ z => z.elim), hF.cg (fun r c _ _ => (if_neg (by omega)).symm)⟩ ?_ ?_
  · rintro i My hi ⟨g1, g2⟩ ih
    obtain ⟨hd9, hz9, hm9⟩ := cl g1
    refine g_iload (pc := 616) dL_act_616 rfl ?_
    refine g_aload (pc := 618) dL_act_618 rfl trivial ?_
    refine g_getf (pc := 620) (v := .int _) dL_act_620 fk_L_45 hd9 (fun _ => congrArg Value.int (hz9)) ?_
    refine g_icmp_ge (pc := 623) (tgt := 790) dL_act_623 rfl (fun h623 => absurd h623 (nI_ge hi (by omega))) (fun _ => ?_)
    refine g_iconst (pc := 626) (v := 0) dL_act_626 rfl ?_
    refine g_istore (pc := 627) (lv' := [(0, _), (2, _), (4, _), (5, _), (7, _), (8, _), (9, _), (13, _), (16, _), (17, _), (18, _), (19, _), (20, _), (21, _), (22, _)]) dL_act_627 (nl rfl) rfl ?_
    refine g_wk (pc := 629) (Nat.le_refl 1090) (Nat.le_refl 8910) ?_
    refine go_forS (pc := 629) n (fun j (_ : Mem) => [(0, .ref 0), (2, .ref P), (4, .ref d), (5, .int (nI x)), (7, .int (nI s)), (8, .int (nI o)), (9, .int (nI t)), (13, .ref nv.1), (16, .int 1), (17, .ref (q.2.2.2.1 s)), (18, .ref N), (19, .int 0), (20, .ref (q.2.2.2.1 o)), (21, .int (nI i)), (22, .int (nI j))]) (fun z => z) (fun j My => Xt (fun y => N ≤ y) M My ∧ Mt My N n (fun r => N + 1 + r) (fun r c => if r < i ∨ (r = i ∧ c < j) then hb (g r) c else false)) (fun _ => 1090) (fun _ => 8910) My ⟨rfl, rfl, rfl, rfl, rfl, rfl, rfl, rfl, rfl, rfl, rfl, rfl, rfl, rfl, rfl, trivial⟩ rfl rfl rfl ⟨g1, g2⟩ ?_ ?_
    · rintro j Mz hj ⟨f1, f2⟩ ih2
      obtain ⟨hd8, hz8, hm8⟩ := cl f1
      have hput : ∀ v : Bool, v = hb (g (i)) (j) → _ := fun v hv => ih2 (sI Mz (N + 1 + i) (fun_set (mI Mz (N + 1 + i)) (j) (vp_nar .boolean (b1 v)))) ⟨f1.sI (fun _ => by omega), Mt.fill (τ := fun r => r) (σ := fun i => i) f2 hi hj (fun _ h => h) (fun _ _ => rfl) (fun _ _ => rfl) v hv⟩
      have hv : (hb (Am M s i) j && hb (Am M o i) j) = hb (g i) j := by
        rw [hg]
        show _ = hb (comb (Am M s i) (Am M o i) 0) j
        rw [cb_w (by omega)]
        rfl
      have hp8 := hmo f1
      have vx : mI Mz (q.2.2.2.2.1 s i) j = b1 (hb (Am M s i) j) := (hm8.2 i hi).2.2 j hj
      have vy : mI Mz (q.2.2.2.2.1 o i) j = b1 (hb (Am M o i) j) := (hp8.2 i hi).2.2 j hj
      generalize hb (Am M s i) j = X at *
      generalize hb (Am M o i) j = Y at *
      cases X <;> cases Y
      · refine g_iload (pc := 629) dL_act_629 rfl ?_
        refine g_aload (pc := 631) dL_act_631 rfl trivial ?_
        refine g_getf (pc := 633) (v := .int _) dL_act_633 fk_L_45 hd8 (fun _ => congrArg Value.int (hz8)) ?_
        refine g_icmp_ge (pc := 636) (tgt := 784) dL_act_636 rfl (fun h636 => absurd h636 (nI_ge hj (by omega))) (fun _ => ?_)
        refine g_aload (pc := 639) dL_act_639 rfl trivial ?_
        refine g_iload (pc := 641) dL_act_641 rfl ?_
        refine g_aaload_Z1 (pc := 643) dL_act_643 f2.1 rfl hi (by omega) (f2.2 i hi).1 ?_
        refine g_iload (pc := 644) dL_act_644 rfl ?_
        refine g_iload (pc := 646) dL_act_646 rfl ?_
        refine g_if_ne (pc := 648) (tgt := 681) dL_act_648 rfl (fun h648 => absurd h648 ((fun z => z rfl))) (fun _ => ?_)
        refine g_aload (pc := 651) dL_act_651 rfl trivial ?_
        refine g_iload (pc := 653) dL_act_653 rfl ?_
        refine g_aaload_Z1 (pc := 655) dL_act_655 hm8.1 rfl hi (by omega) (hm8.2 i hi).1 ?_
        refine g_iload (pc := 656) dL_act_656 rfl ?_
        refine g_zaload (pc := 658) dL_act_658 (hm8.2 i hi).2.1 rfl hj (by omega) ?_
        rw [vx]
        refine g_if_eq (pc := 659) (tgt := 677) dL_act_659 rfl (fun _ => ?_) (fun h659 => absurd (rfl) h659)
        refine g_iconst (pc := 677) (v := 0) dL_act_677 rfl ?_
        refine g_goto (pc := 678) (tgt := 777) dL_act_678 rfl ?_
        refine g_zastore (pc := 777) dL_act_777 (f2.2 i hi).2.1 rfl hj (by omega) ?_
        refine g_iinc (pc := 778) (lv' := [(0, _), (2, _), (4, _), (5, _), (7, _), (8, _), (9, _), (13, _), (16, _), (17, _), (18, _), (19, _), (20, _), (21, _), (22, _)]) dL_act_778 rfl (nI_1 _) (nl rfl) rfl ?_
        refine g_goto (pc := 781) (tgt := 629) dL_act_781 rfl ?_
        exact g_subk (hput false hv) ⟨rfl, rfl, rfl, rfl, rfl, rfl, rfl, rfl, rfl, rfl, rfl, rfl, rfl, rfl, rfl, trivial⟩
      · refine g_iload (pc := 629) dL_act_629 rfl ?_
        refine g_aload (pc := 631) dL_act_631 rfl trivial ?_
        refine g_getf (pc := 633) (v := .int _) dL_act_633 fk_L_45 hd8 (fun _ => congrArg Value.int (hz8)) ?_
        refine g_icmp_ge (pc := 636) (tgt := 784) dL_act_636 rfl (fun h636 => absurd h636 (nI_ge hj (by omega))) (fun _ => ?_)
        refine g_aload (pc := 639) dL_act_639 rfl trivial ?_
        refine g_iload (pc := 641) dL_act_641 rfl ?_
        refine g_aaload_Z1 (pc := 643) dL_act_643 f2.1 rfl hi (by omega) (f2.2 i hi).1 ?_
        refine g_iload (pc := 644) dL_act_644 rfl ?_
        refine g_iload (pc := 646) dL_act_646 rfl ?_
        refine g_if_ne (pc := 648) (tgt := 681) dL_act_648 rfl (fun h648 => absurd h648 ((fun z => z rfl))) (fun _ => ?_)
        refine g_aload (pc := 651) dL_act_651 rfl trivial ?_
        refine g_iload (pc := 653) dL_act_653 rfl ?_
        refine g_aaload_Z1 (pc := 655) dL_act_655 hm8.1 rfl hi (by omega) (hm8.2 i hi).1 ?_
        refine g_iload (pc := 656) dL_act_656 rfl ?_
        refine g_zaload (pc := 658) dL_act_658 (hm8.2 i hi).2.1 rfl hj (by omega) ?_
        rw [vx]
        refine g_if_eq (pc := 659) (tgt := 677) dL_act_659 rfl (fun _ => ?_) (fun h659 => absurd (rfl) h659)
        refine g_iconst (pc := 677) (v := 0) dL_act_677 rfl ?_
        refine g_goto (pc := 678) (tgt := 777) dL_act_678 rfl ?_
        refine g_zastore (pc := 777) dL_act_777 (f2.2 i hi).2.1 rfl hj (by omega) ?_
        refine g_iinc (pc := 778) (lv' := [(0, _), (2, _), (4, _), (5, _), (7, _), (8, _), (9, _), (13, _), (16, _), (17, _), (18, _), (19, _), (20, _), (21, _), (22, _)]) dL_act_778 rfl (nI_1 _) (nl rfl) rfl ?_
        refine g_goto (pc := 781) (tgt := 629) dL_act_781 rfl ?_
        exact g_subk (hput false hv) ⟨rfl, rfl, rfl, rfl, rfl, rfl, rfl, rfl, rfl, rfl, rfl, rfl, rfl, rfl, rfl, trivial⟩
      · refine g_iload (pc := 629) dL_act_629 rfl ?_
        refine g_aload (pc := 631) dL_act_631 rfl trivial ?_
        refine g_getf (pc := 633) (v := .int _) dL_act_633 fk_L_45 hd8 (fun _ => congrArg Value.int (hz8)) ?_
        refine g_icmp_ge (pc := 636) (tgt := 784) dL_act_636 rfl (fun h636 => absurd h636 (nI_ge hj (by omega))) (fun _ => ?_)
        refine g_aload (pc := 639) dL_act_639 rfl trivial ?_
        refine g_iload (pc := 641) dL_act_641 rfl ?_
        refine g_aaload_Z1 (pc := 643) dL_act_643 f2.1 rfl hi (by omega) (f2.2 i hi).1 ?_
        refine g_iload (pc := 644) dL_act_644 rfl ?_
        refine g_iload (pc := 646) dL_act_646 rfl ?_
        refine g_if_ne (pc := 648) (tgt := 681) dL_act_648 rfl (fun h648 => absurd h648 ((fun z => z rfl))) (fun _ => ?_)
        refine g_aload (pc := 651) dL_act_651 rfl trivial ?_
        refine g_iload (pc := 653) dL_act_653 rfl ?_
        refine g_aaload_Z1 (pc := 655) dL_act_655 hm8.1 rfl hi (by omega) (hm8.2 i hi).1 ?_
        refine g_iload (pc := 656) dL_act_656 rfl ?_
        refine g_zaload (pc := 658) dL_act_658 (hm8.2 i hi).2.1 rfl hj (by omega) ?_
        rw [vx]
        refine g_if_eq (pc := 659) (tgt := 677) dL_act_659 rfl (fun h659 => absurd h659 ((by decide))) (fun _ => ?_)
        refine g_aload (pc := 662) dL_act_662 rfl trivial ?_
        refine g_iload (pc := 664) dL_act_664 rfl ?_
        refine g_aaload_Z1 (pc := 666) dL_act_666 hp8.1 rfl hi (by omega) (hp8.2 i hi).1 ?_
        refine g_iload (pc := 667) dL_act_667 rfl ?_
        refine g_zaload (pc := 669) dL_act_669 (hp8.2 i hi).2.1 rfl hj (by omega) ?_
        rw [vy]
        refine g_if_eq (pc := 670) (tgt := 677) dL_act_670 rfl (fun _ => ?_) (fun h670 => absurd (rfl) h670)
        refine g_iconst (pc := 677) (v := 0) dL_act_677 rfl ?_
        refine g_goto (pc := 678) (tgt := 777) dL_act_678 rfl ?_
        refine g_zastore (pc := 777) dL_act_777 (f2.2 i hi).2.1 rfl hj (by omega) ?_
        refine g_iinc (pc := 778) (lv' := [(0, _), (2, _), (4, _), (5, _), (7, _), (8, _), (9, _), (13, _), (16, _), (17, _), (18, _), (19, _), (20, _), (21, _), (22, _)]) dL_act_778 rfl (nI_1 _) (nl rfl) rfl ?_
        refine g_goto (pc := 781) (tgt := 629) dL_act_781 rfl ?_
        exact g_subk (hput false hv) ⟨rfl, rfl, rfl, rfl, rfl, rfl, rfl, rfl, rfl, rfl, rfl, rfl, rfl, rfl, rfl, trivial⟩
      · refine g_iload (pc := 629) dL_act_629 rfl ?_
        refine g_aload (pc := 631) dL_act_631 rfl trivial ?_
        refine g_getf (pc := 633) (v := .int _) dL_act_633 fk_L_45 hd8 (fun _ => congrArg Value.int (hz8)) ?_
        refine g_icmp_ge (pc := 636) (tgt := 784) dL_act_636 rfl (fun h636 => absurd h636 (nI_ge hj (by omega))) (fun _ => ?_)
        refine g_aload (pc := 639) dL_act_639 rfl trivial ?_
        refine g_iload (pc := 641) dL_act_641 rfl ?_
        refine g_aaload_Z1 (pc := 643) dL_act_643 f2.1 rfl hi (by omega) (f2.2 i hi).1 ?_
        refine g_iload (pc := 644) dL_act_644 rfl ?_
        refine g_iload (pc := 646) dL_act_646 rfl ?_
        refine g_if_ne (pc := 648) (tgt := 681) dL_act_648 rfl (fun h648 => absurd h648 ((fun z => z rfl))) (fun _ => ?_)
        refine g_aload (pc := 651) dL_act_651 rfl trivial ?_
        refine g_iload (pc := 653) dL_act_653 rfl ?_
        refine g_aaload_Z1 (pc := 655) dL_act_655 hm8.1 rfl hi (by omega) (hm8.2 i hi).1 ?_
        refine g_iload (pc := 656) dL_act_656 rfl ?_
        refine g_zaload (pc := 658) dL_act_658 (hm8.2 i hi).2.1 rfl hj (by omega) ?_
        rw [vx]
        refine g_if_eq (pc := 659) (tgt := 677) dL_act_659 rfl (fun h659 => absurd h659 ((by decide))) (fun _ => ?_)
        refine g_aload (pc := 662) dL_act_662 rfl trivial ?_
        refine g_iload (pc := 664) dL_act_664 rfl ?_
        refine g_aaload_Z1 (pc := 666) dL_act_666 hp8.1 rfl hi (by omega) (hp8.2 i hi).1 ?_
        refine g_iload (pc := 667) dL_act_667 rfl ?_
        refine g_zaload (pc := 669) dL_act_669 (hp8.2 i hi).2.1 rfl hj (by omega) ?_
        rw [vy]
        refine g_if_eq (pc := 670) (tgt := 677) dL_act_670 rfl (fun h670 => absurd h670 ((by decide))) (fun _ => ?_)
        refine g_iconst (pc := 673) (v := 1) dL_act_673 rfl ?_
        refine g_goto (pc := 674) (tgt := 777) dL_act_674 rfl ?_
        refine g_zastore (pc := 777) dL_act_777 (f2.2 i hi).2.1 rfl hj (by omega) ?_
        refine g_iinc (pc := 778) (lv' := [(0, _), (2, _), (4, _), (5, _), (7, _), (8, _), (9, _), (13, _), (16, _), (17, _), (18, _), (19, _), (20, _), (21, _), (22, _)]) dL_act_778 rfl (nI_1 _) (nl rfl) rfl ?_
        refine g_goto (pc := 781) (tgt := 629) dL_act_781 rfl ?_
        exact g_subk (hput true hv) ⟨rfl, rfl, rfl, rfl, rfl, rfl, rfl, rfl, rfl, rfl, rfl, rfl, rfl, rfl, rfl, trivial⟩
    · rintro Mz ⟨f1, f2⟩
      obtain ⟨hd8, hz8, hm8⟩ := cl f1
      refine g_iload (pc := 629) dL_act_629 rfl ?_
      refine g_aload (pc := 631) dL_act_631 rfl trivial ?_
      refine g_getf (pc := 633) (v := .int _) dL_act_633 fk_L_45 hd8 (fun _ => congrArg Value.int (hz8)) ?_
      refine g_icmp_ge (pc := 636) (tgt := 784) dL_act_636 rfl (fun _ => ?_) (fun h636 => absurd (nI_le (Nat.le_refl _) (by omega)) h636)
      refine g_iinc (pc := 784) (lv' := [(0, _), (2, _), (4, _), (5, _), (7, _), (8, _), (9, _), (13, _), (16, _), (17, _), (18, _), (19, _), (20, _), (21, _), (22, _)]) dL_act_784 rfl (nI_1 _) (nl rfl) rfl ?_
      refine g_goto (pc := 787) (tgt := 616) dL_act_787 rfl ?_
      exact g_subk (ih Mz ⟨f1, Mt.next (τ := fun r => r) f2 (fun _ h => h)⟩) ⟨rfl, rfl, rfl, rfl, rfl, rfl, rfl, rfl, rfl, rfl, rfl, rfl, rfl, rfl, trivial⟩
  · rintro My ⟨g1, g2⟩
    obtain ⟨hd9, hz9, hm9⟩ := cl g1
    have gM : Mt My N n (fun r => N + 1 + r) (fB g) := g2.cg (fun r c hr hc => if_pos (Or.inl hr))
    have gd : Xt (fun i => i = d) M My := g1.up (fun i hi z => by omega)
    have gD : DK My d n q u := hD.xt hO g1 (fun i hi z => by omega)
    refine g_wk (Nat.le_refl 1090) (Nat.le_refl 8910) ?_

    obtain ⟨M2, e1, e2, e3, e4, e5, e6, e7⟩ := st_law (l := l) (g := g) hD hO gd gD gM (Nat.le_of_eq hN) (by omega) ht (fun _ _ _ _ => rfl) hn32
    have hZ2 := hZ.xt e4 e6 e5
    have hS2 : mS M2 = mS M := e4.2.2.1
    obtain ⟨M3, c1, c2, c3⟩ := c_combine (l := l) hZ2.1 hs ho ht (w := 0) (by decide)
    rw [hZ.am e4 e6 hs, hZ.am e4 e6 ho] at c1 c3
    have hw : onesF g n = nI (cM (fB g) n n) := on_c hn32 (by rw [hg]; exact wf_comb (hZ.1.wf hs) (hZ.1.wf ho)) n (Nat.le_refl n)
    rw [← hg, hw] at c1
    rw [← hg] at c3
    rw [← hS2]
    refine g_iload (pc := 616) dL_act_616 rfl ?_
    refine g_aload (pc := 618) dL_act_618 rfl trivial ?_
    refine g_getf (pc := 620) (v := .int _) dL_act_620 fk_L_45 hd9 (fun _ => congrArg Value.int (hz9)) ?_
    refine g_icmp_ge (pc := 623) (tgt := 790) dL_act_623 rfl (fun _ => ?_) (fun h623 => absurd (nI_le (Nat.le_refl _) (by omega)) h623)
    refine g_aload (pc := 790) dL_act_790 rfl trivial ?_
    refine g_iload (pc := 792) dL_act_792 rfl ?_
    refine g_aload (pc := 794) dL_act_794 rfl trivial ?_
    refine g_invV_r (pc := 796) (As := [_, _]) dL_act_796 rfl (e1) rfl rfl hd9 rfl rfl lk_L_155 rfl (nb rfl) ⟨nb rfl, nb rfl⟩ rfl ?_
    refine g_aload (pc := 799) dL_act_799 rfl trivial ?_
    refine g_aload (pc := 801) dL_act_801 rfl trivial ?_
    refine g_invV_r (pc := 803) (As := [_]) dL_act_803 rfl (k_ones e7 hn) rfl rfl e2.1.1 rfl rfl lk_L_159 rfl (nb rfl) ⟨nb rfl, nb rfl⟩ rfl ?_
    refine g_istore (pc := 806) (lv' := [(0, _), (2, _), (4, _), (5, _), (7, _), (8, _), (9, _), (13, _), (16, _), (17, _), (18, _), (19, _), (20, _), (21, _), (14, _)]) dL_act_806 (nl rfl) rfl ?_
    refine g_aload_n (pc := 808) dL_act_808 rfl trivial ?_
    refine g_iload (pc := 809) dL_act_809 rfl ?_
    refine g_iload (pc := 811) dL_act_811 rfl ?_
    refine g_iload (pc := 813) dL_act_813 rfl ?_
    refine g_iload (pc := 815) dL_act_815 rfl ?_
    refine g_invV_r (pc := 817) (As := [_, _, _, _]) dL_act_817 rfl (c1) rfl rfl (shK hZ2.1.S rfl) rfl rfl lk_L_168 rfl (nb rfl) ⟨nb rfl, nb rfl⟩ rfl ?_
    refine g_istore (pc := 820) (lv' := [(0, _), (2, _), (4, _), (5, _), (7, _), (8, _), (9, _), (13, _), (16, _), (17, _), (18, _), (19, _), (20, _), (21, _), (14, _), (15, _)]) dL_act_820 (nl rfl) rfl ?_
    refine g_goto (pc := 822) (tgt := 1338) dL_act_822 rfl ?_
    refine g_wk (pc := 1338) (k := 2) (n := 16) (by decide) (by decide) ?_
    exact g_subk (k_fin hZ2 hu e2 e3 c2 c3) ⟨rfl, rfl, rfl, rfl, rfl, rfl, trivial⟩
theorem act_51 (hZ : AZ M A P n p os.length d u (usO os) ρ eo os nv) (hu : nv.2.2 = u) (hD : DK M d n q u) (hO : OW ρ d n q) (hx9 : x < 2147483648) (hw : x / 262144 % 4 = 1) (hs : s < 6) (ho : o < 6) (ht : t < 6) : Go l jL_act 12 400 MC MS (QA A P n (mS M)) 587 [(0, .ref 0), (2, .ref P), (4, .ref d), (5, .int (nI x)), (7, .int (nI s)), (8, .int (nI o)), (9, .int (nI t)), (13, .ref nv.1), (16, .int 1), (17, .ref (q.2.2.2.1 s))] [] 1100 9000 M := by
  have hn := hZ.2.2.2.2.2.2
  have hx := hZ.x
  have hz := hD.z
  have hn32 : n ≤ 32 := by omega
  obtain ⟨-, hm⟩ := hD.mm hZ.1 hs
  obtain ⟨-, hmo9⟩ := hD.mm hZ.1 ho
  have hmol := hmo9.lt
  have hg9 : ∃ g : Nat → Int32, g = fun k => comb (Am M s k) (Am M o k) 1 := ⟨_, rfl⟩
  obtain ⟨g, hg⟩ := hg9
  have hF := fresh_Mt M n
  have hX := os2_xt M .boolean n n
  have hdl := k_lt hD.1.1
  have hml := hm.lt
  refine g_aload (pc := 587) dL_act_587 rfl trivial ?_
  refine g_invV_r (pc := 589) (As := []) dL_act_589 rfl (k_fresh hD.1.1 hz hn hx) rfl rfl hD.1.1 rfl rfl lk_L_151 rfl (nb rfl) ⟨nb rfl, nb rfl⟩ rfl ?_
  show Go l _ _ _ _ _ _ _ _ ([.ref (mK M).length] : List Value) _ _ (opsM M (os2 .boolean n n (mK M).length))
  generalize hN : (mK M).length = N at *
  generalize opsM M (os2 .boolean n n N) = M1 at *
  have cl : ∀ {My : Mem}, Xt (fun y => N ≤ y) M My → (mK My)[d]? = some (.inr 7) ∧ mI My d 0 = nI n ∧ Mt My (q.2.2.2.1 s) n (q.2.2.2.2.1 s) (fB (Am M s)) := fun {My} h => ⟨h.k hD.1.1, (congrFun (h.I (k_lt hD.1.1) (by omega)) 0).trans hz, hm.xt h (by omega) (fun r hr => by have := hml.2 r hr; omega)⟩

  have hmo : ∀ {My : Mem}, Xt (fun y => N ≤ y) M My → Mt My (q.2.2.2.1 o) n (q.2.2.2.2.1 o) (fB (Am M o)) := fun {My} h => hmo9.xt h (by omega) (fun r hr => by have := hmol.2 r hr; omega)
  have hD1 : DK M1 d n q u := hD.xt hO hX (fun i hi z => z.elim)
  refine g_astore (pc := 592) (lv' := [(0, _), (2, _), (4, _), (5, _), (7, _), (8, _), (9, _), (13, _), (16, _), (17, _), (18, _)]) dL_act_592 trivial (nl rfl) rfl ?_
  refine g_iload (pc := 594) dL_act_594 rfl ?_
  refine g_ldc (pc := 596) dL_act_596 wd_x990 ?_
  refine g_idiv (pc := 598) dL_act_598 (by decide) ?_
  rw [show nI x / 262144 = nI (x / 262144) from nI_div (b := 262144) hx9 (by decide)]
  refine g_iconst (pc := 599) (v := 4) dL_act_599 rfl ?_
  refine g_irem (pc := 600) dL_act_600 (by decide) ?_
  rw [show nI (x / 262144) - nI (x / 262144) / 4 * 4 = nI (x / 262144 % 4) from nI_rem (b := 4) (by omega) (by decide), hw]
  refine g_istore (pc := 601) (lv' := [(0, _), (2, _), (4, _), (5, _), (7, _), (8, _), (9, _), (13, _), (16, _), (17, _), (18, _), (19, _)]) dL_act_601 (nl rfl) rfl ?_
  refine g_aload (pc := 603) dL_act_603 rfl trivial ?_
  refine g_getf (pc := 605) dL_act_605 fk_L_52 hD1.1.1 (fv_arr hD1.1.2.1) ?_
  refine g_iload (pc := 608) dL_act_608 rfl ?_
  refine g_aaload_Z2 (pc := 610) dL_act_610 hD1.2.2.1.1 rfl ho (by omega) (hD1.2.2.2 o ho).1.1 ?_
  refine g_astore (pc := 611) (lv' := [(0, _), (2, _), (4, _), (5, _), (7, _), (8, _), (9, _), (13, _), (16, _), (17, _), (18, _), (19, _), (20, _)]) dL_act_611 trivial (nl rfl) rfl ?_
  skip

  refine g_iconst (pc := 613) (v := 0) dL_act_613 rfl ?_
  refine g_istore (pc := 614) (lv' := [(0, _), (2, _), (4, _), (5, _), (7, _), (8, _), (9, _), (13, _), (16, _), (17, _), (18, _), (19, _), (20, _), (21, _)]) dL_act_614 (nl rfl) rfl ?_
  refine go_forS (pc := 616) n (fun i (_ : Mem) => [(0, .ref 0), (2, .ref P), (4, .ref d), (5, .int (nI x)), (7, .int (nI s)), (8, .int (nI o)), (9, .int (nI t)), (13, .ref nv.1), (16, .int 1), (17, .ref (q.2.2.2.1 s)), (18, .ref N), (19, .int 1), (20, .ref (q.2.2.2.1 o)), (21, .int (nI i))]) (fun z => z) (fun i My => Xt (fun y => N ≤ y) M My ∧ Mt My N n (fun r => N + 1 + r) (fun r c => if r < i ∨ (r = i ∧ c < 0) then hb (g r) c else false)) (fun _ => 1090) (fun _ => 8910) M1 ⟨rfl, rfl, rfl, rfl, rfl, rfl, rfl, rfl, rfl, rfl, rfl, rfl, rfl, rfl, trivial⟩ rfl rfl rfl ⟨hX.up (fun _ _ z => z.elim), hF.cg (fun r c _ _ => (if_neg (by omega)).symm)⟩ ?_ ?_
  · rintro i My hi ⟨g1, g2⟩ ih
    obtain ⟨hd9, hz9, hm9⟩ := cl g1
    refine g_iload (pc := 616) dL_act_616 rfl ?_
    refine g_aload (pc := 618) dL_act_618 rfl trivial ?_
    refine g_getf (pc := 620) (v := .int _) dL_act_620 fk_L_45 hd9 (fun _ => congrArg Value.int (hz9)) ?_
    refine g_icmp_ge (pc := 623) (tgt := 790) dL_act_623 rfl (fun h623 => absurd h623 (nI_ge hi (by omega))) (fun _ => ?_)
    refine g_iconst (pc := 626) (v := 0) dL_act_626 rfl ?_
    refine g_istore (pc := 627) (lv' := [(0, _), (2, _), (4, _), (5, _), (7, _), (8, _), (9, _), (13, _), (16, _), (17, _), (18, _), (19, _), (20, _), (21, _), (22, _)]) dL_act_627 (nl rfl) rfl ?_
    refine g_wk (pc := 629) (Nat.le_refl 1090) (Nat.le_refl 8910) ?_
    refine go_forS (pc := 629) n (fun j (_ : Mem) => [(0, .ref 0), (2, .ref P), (4, .ref d), (5, .int (nI x)), (7, .int (nI s)), (8, .int (nI o)), (9, .int (nI t)), (13, .ref nv.1), (16, .int 1), (17, .ref (q.2.2.2.1 s)), (18, .ref N), (19, .int 1), (20, .ref (q.2.2.2.1 o)), (21, .int (nI i)), (22, .int (nI j))]) (fun z => z) (fun j My => Xt (fun y => N ≤ y) M My ∧ Mt My N n (fun r => N + 1 + r) (fun r c => if r < i ∨ (r = i ∧ c < j) then hb (g r) c else false)) (fun _ => 1090) (fun _ => 8910) My ⟨rfl, rfl, rfl, rfl, rfl, rfl, rfl, rfl, rfl, rfl, rfl, rfl, rfl, rfl, rfl, trivial⟩ rfl rfl rfl ⟨g1, g2⟩ ?_ ?_
    · rintro j Mz hj ⟨f1, f2⟩ ih2
      obtain ⟨hd8, hz8, hm8⟩ := cl f1
      have hput : ∀ v : Bool, v = hb (g (i)) (j) → _ := fun v hv => ih2 (sI Mz (N + 1 + i) (fun_set (mI Mz (N + 1 + i)) (j) (vp_nar .boolean (b1 v)))) ⟨f1.sI (fun _ => by omega), Mt.fill (τ := fun r => r) (σ := fun i => i) f2 hi hj (fun _ h => h) (fun _ _ => rfl) (fun _ _ => rfl) v hv⟩
      have hv : (hb (Am M s i) j || hb (Am M o i) j) = hb (g i) j := by
        rw [hg]
        show _ = hb (comb (Am M s i) (Am M o i) 1) j
        rw [cb_w (by omega)]
        rfl
      have hp8 := hmo f1
      have vx : mI Mz (q.2.2.2.2.1 s i) j = b1 (hb (Am M s i) j) := (hm8.2 i hi).2.2 j hj
      have vy : mI Mz (q.2.2.2.2.1 o i) j = b1 (hb (Am M o i) j) := (hp8.2 i hi).2.2 j hj
      generalize hb (Am M s i) j = X at *
      generalize hb (Am M o i) j = Y at *
      cases X <;> cases Y
      · refine g_iload (pc := 629) dL_act_629 rfl ?_
        refine g_aload (pc := 631) dL_act_631 rfl trivial ?_
        refine g_getf (pc := 633) (v := .int _) dL_act_633 fk_L_45 hd8 (fun _ => congrArg Value.int (hz8)) ?_
        refine g_icmp_ge (pc := 636) (tgt := 784) dL_act_636 rfl (fun h636 => absurd h636 (nI_ge hj (by omega))) (fun _ => ?_)
        refine g_aload (pc := 639) dL_act_639 rfl trivial ?_
        refine g_iload (pc := 641) dL_act_641 rfl ?_
        refine g_aaload_Z1 (pc := 643) dL_act_643 f2.1 rfl hi (by omega) (f2.2 i hi).1 ?_
        refine g_iload (pc := 644) dL_act_644 rfl ?_
        refine g_iload (pc := 646) dL_act_646 rfl ?_
        refine g_if_ne (pc := 648) (tgt := 681) dL_act_648 rfl (fun _ => ?_) (fun h648 => absurd ((by decide)) h648)
        refine g_iload (pc := 681) dL_act_681 rfl ?_
        refine g_iconst (pc := 683) (v := 1) dL_act_683 rfl ?_
        refine g_icmp_ne (pc := 684) (tgt := 717) dL_act_684 rfl (fun h684 => absurd h684 ((fun z => z rfl))) (fun _ => ?_)
        refine g_aload (pc := 687) dL_act_687 rfl trivial ?_
        refine g_iload (pc := 689) dL_act_689 rfl ?_
        refine g_aaload_Z1 (pc := 691) dL_act_691 hm8.1 rfl hi (by omega) (hm8.2 i hi).1 ?_
        refine g_iload (pc := 692) dL_act_692 rfl ?_
        refine g_zaload (pc := 694) dL_act_694 (hm8.2 i hi).2.1 rfl hj (by omega) ?_
        rw [vx]
        refine g_if_ne (pc := 695) (tgt := 709) dL_act_695 rfl (fun h695 => absurd h695 ((fun z => z rfl))) (fun _ => ?_)
        refine g_aload (pc := 698) dL_act_698 rfl trivial ?_
        refine g_iload (pc := 700) dL_act_700 rfl ?_
        refine g_aaload_Z1 (pc := 702) dL_act_702 hp8.1 rfl hi (by omega) (hp8.2 i hi).1 ?_
        refine g_iload (pc := 703) dL_act_703 rfl ?_
        refine g_zaload (pc := 705) dL_act_705 (hp8.2 i hi).2.1 rfl hj (by omega) ?_
        rw [vy]
        refine g_if_eq (pc := 706) (tgt := 713) dL_act_706 rfl (fun _ => ?_) (fun h706 => absurd (rfl) h706)
        refine g_iconst (pc := 713) (v := 0) dL_act_713 rfl ?_
        refine g_goto (pc := 714) (tgt := 777) dL_act_714 rfl ?_
        refine g_zastore (pc := 777) dL_act_777 (f2.2 i hi).2.1 rfl hj (by omega) ?_
        refine g_iinc (pc := 778) (lv' := [(0, _), (2, _), (4, _), (5, _), (7, _), (8, _), (9, _), (13, _), (16, _), (17, _), (18, _), (19, _), (20, _), (21, _), (22, _)]) dL_act_778 rfl (nI_1 _) (nl rfl) rfl ?_
        refine g_goto (pc := 781) (tgt := 629) dL_act_781 rfl ?_
        exact g_subk (hput false hv) ⟨rfl, rfl, rfl, rfl, rfl, rfl, rfl, rfl, rfl, rfl, rfl, rfl, rfl, rfl, rfl, trivial⟩
      · refine g_iload (pc := 629) dL_act_629 rfl ?_
        refine g_aload (pc := 631) dL_act_631 rfl trivial ?_
        refine g_getf (pc := 633) (v := .int _) dL_act_633 fk_L_45 hd8 (fun _ => congrArg Value.int (hz8)) ?_
        refine g_icmp_ge (pc := 636) (tgt := 784) dL_act_636 rfl (fun h636 => absurd h636 (nI_ge hj (by omega))) (fun _ => ?_)
        refine g_aload (pc := 639) dL_act_639 rfl trivial ?_
        refine g_iload (pc := 641) dL_act_641 rfl ?_
        refine g_aaload_Z1 (pc := 643) dL_act_643 f2.1 rfl hi (by omega) (f2.2 i hi).1 ?_
        refine g_iload (pc := 644) dL_act_644 rfl ?_
        refine g_iload (pc := 646) dL_act_646 rfl ?_
        refine g_if_ne (pc := 648) (tgt := 681) dL_act_648 rfl (fun _ => ?_) (fun h648 => absurd ((by decide)) h648)
        refine g_iload (pc := 681) dL_act_681 rfl ?_
        refine g_iconst (pc := 683) (v := 1) dL_act_683 rfl ?_
        refine g_icmp_ne (pc := 684) (tgt := 717) dL_act_684 rfl (fun h684 => absurd h684 ((fun z => z rfl))) (fun _ => ?_)
        refine g_aload (pc := 687) dL_act_687 rfl trivial ?_
        refine g_iload (pc := 689) dL_act_689 rfl ?_
        refine g_aaload_Z1 (pc := 691) dL_act_691 hm8.1 rfl hi (by omega) (hm8.2 i hi).1 ?_
        refine g_iload (pc := 692) dL_act_692 rfl ?_
        refine g_zaload (pc := 694) dL_act_694 (hm8.2 i hi).2.1 rfl hj (by omega) ?_
        rw [vx]
        refine g_if_ne (pc := 695) (tgt := 709) dL_act_695 rfl (fun h695 => absurd h695 ((fun z => z rfl))) (fun _ => ?_)
        refine g_aload (pc := 698) dL_act_698 rfl trivial ?_
        refine g_iload (pc := 700) dL_act_700 rfl ?_
        refine g_aaload_Z1 (pc := 702) dL_act_702 hp8.1 rfl hi (by omega) (hp8.2 i hi).1 ?_
        refine g_iload (pc := 703) dL_act_703 rfl ?_
        refine g_zaload (pc := 705) dL_act_705 (hp8.2 i hi).2.1 rfl hj (by omega) ?_
        rw [vy]
        refine g_if_eq (pc := 706) (tgt := 713) dL_act_706 rfl (fun h706 => absurd h706 ((by decide))) (fun _ => ?_)
        refine g_iconst (pc := 709) (v := 1) dL_act_709 rfl ?_
        refine g_goto (pc := 710) (tgt := 777) dL_act_710 rfl ?_
        refine g_zastore (pc := 777) dL_act_777 (f2.2 i hi).2.1 rfl hj (by omega) ?_
        refine g_iinc (pc := 778) (lv' := [(0, _), (2, _), (4, _), (5, _), (7, _), (8, _), (9, _), (13, _), (16, _), (17, _), (18, _), (19, _), (20, _), (21, _), (22, _)]) dL_act_778 rfl (nI_1 _) (nl rfl) rfl ?_
        refine g_goto (pc := 781) (tgt := 629) dL_act_781 rfl ?_
        exact g_subk (hput true hv) ⟨rfl, rfl, rfl, rfl, rfl, rfl, rfl, rfl, rfl, rfl, rfl, rfl, rfl, rfl, rfl, trivial⟩
      · refine g_iload (pc := 629) dL_act_629 rfl ?_
        refine g_aload (pc := 631) dL_act_631 rfl trivial ?_
        refine g_getf (pc := 633) (v := .int _) dL_act_633 fk_L_45 hd8 (fun _ => congrArg Value.int (hz8)) ?_
        refine g_icmp_ge (pc := 636) (tgt := 784) dL_act_636 rfl (fun h636 => absurd h636 (nI_ge hj (by omega))) (fun _ => ?_)
        refine g_aload (pc := 639) dL_act_639 rfl trivial ?_
        refine g_iload (pc := 641) dL_act_641 rfl ?_
        refine g_aaload_Z1 (pc := 643) dL_act_643 f2.1 rfl hi (by omega) (f2.2 i hi).1 ?_
        refine g_iload (pc := 644) dL_act_644 rfl ?_
        refine g_iload (pc := 646) dL_act_646 rfl ?_
        refine g_if_ne (pc := 648) (tgt := 681) dL_act_648 rfl (fun _ => ?_) (fun h648 => absurd ((by decide)) h648)
        refine g_iload (pc := 681) dL_act_681 rfl ?_
        refine g_iconst (pc := 683) (v := 1) dL_act_683 rfl ?_
        refine g_icmp_ne (pc := 684) (tgt := 717) dL_act_684 rfl (fun h684 => absurd h684 ((fun z => z rfl))) (fun _ => ?_)
        refine g_aload (pc := 687) dL_act_687 rfl trivial ?_
        refine g_iload (pc := 689) dL_act_689 rfl ?_
        refine g_aaload_Z1 (pc := 691) dL_act_691 hm8.1 rfl hi (by omega) (hm8.2 i hi).1 ?_
        refine g_iload (pc := 692) dL_act_692 rfl ?_
        refine g_zaload (pc := 694) dL_act_694 (hm8.2 i hi).2.1 rfl hj (by omega) ?_
        rw [vx]
        refine g_if_ne (pc := 695) (tgt := 709) dL_act_695 rfl (fun _ => ?_) (fun h695 => absurd ((by decide)) h695)
        refine g_iconst (pc := 709) (v := 1) dL_act_709 rfl ?_
        refine g_goto (pc := 710) (tgt := 777) dL_act_710 rfl ?_
        refine g_zastore (pc := 777) dL_act_777 (f2.2 i hi).2.1 rfl hj (by omega) ?_
        refine g_iinc (pc := 778) (lv' := [(0, _), (2, _), (4, _), (5, _), (7, _), (8, _), (9, _), (13, _), (16, _), (17, _), (18, _), (19, _), (20, _), (21, _), (22, _)]) dL_act_778 rfl (nI_1 _) (nl rfl) rfl ?_
        refine g_goto (pc := 781) (tgt := 629) dL_act_781 rfl ?_
        exact g_subk (hput true hv) ⟨rfl, rfl, rfl, rfl, rfl, rfl, rfl, rfl, rfl, rfl, rfl, rfl, rfl, rfl, rfl, trivial⟩
      · refine g_iload (pc := 629) dL_act_629 rfl ?_
        refine g_aload (pc := 631) dL_act_631 rfl trivial ?_
        refine g_getf (pc := 633) (v := .int _) dL_act_633 fk_L_45 hd8 (fun _ => congrArg Value.int (hz8)) ?_
        refine g_icmp_ge (pc := 636) (tgt := 784) dL_act_636 rfl (fun h636 => absurd h636 (nI_ge hj (by omega))) (fun _ => ?_)
        refine g_aload (pc := 639) dL_act_639 rfl trivial ?_
        refine g_iload (pc := 641) dL_act_641 rfl ?_
        refine g_aaload_Z1 (pc := 643) dL_act_643 f2.1 rfl hi (by omega) (f2.2 i hi).1 ?_
        refine g_iload (pc := 644) dL_act_644 rfl ?_
        refine g_iload (pc := 646) dL_act_646 rfl ?_
        refine g_if_ne (pc := 648) (tgt := 681) dL_act_648 rfl (fun _ => ?_) (fun h648 => absurd ((by decide)) h648)
        refine g_iload (pc := 681) dL_act_681 rfl ?_
        refine g_iconst (pc := 683) (v := 1) dL_act_683 rfl ?_
        refine g_icmp_ne (pc := 684) (tgt := 717) dL_act_684 rfl (fun h684 => absurd h684 ((fun z => z rfl))) (fun _ => ?_)
        refine g_aload (pc := 687) dL_act_687 rfl trivial ?_
        refine g_iload (pc := 689) dL_act_689 rfl ?_
        refine g_aaload_Z1 (pc := 691) dL_act_691 hm8.1 rfl hi (by omega) (hm8.2 i hi).1 ?_
        refine g_iload (pc := 692) dL_act_692 rfl ?_
        refine g_zaload (pc := 694) dL_act_694 (hm8.2 i hi).2.1 rfl hj (by omega) ?_
        rw [vx]
        refine g_if_ne (pc := 695) (tgt := 709) dL_act_695 rfl (fun _ => ?_) (fun h695 => absurd ((by decide)) h695)
        refine g_iconst (pc := 709) (v := 1) dL_act_709 rfl ?_
        refine g_goto (pc := 710) (tgt := 777) dL_act_710 rfl ?_
        refine g_zastore (pc := 777) dL_act_777 (f2.2 i hi).2.1 rfl hj (by omega) ?_
        refine g_iinc (pc := 778) (lv' := [(0, _), (2, _), (4, _), (5, _), (7, _), (8, _), (9, _), (13, _), (16, _), (17, _), (18, _), (19, _), (20, _), (21, _), (22, _)]) dL_act_778 rfl (nI_1 _) (nl rfl) rfl ?_
        refine g_goto (pc := 781) (tgt := 629) dL_act_781 rfl ?_
        exact g_subk (hput true hv) ⟨rfl, rfl, rfl, rfl, rfl, rfl, rfl, rfl, rfl, rfl, rfl, rfl, rfl, rfl, rfl, trivial⟩
    · rintro Mz ⟨f1, f2⟩
      obtain ⟨hd8, hz8, hm8⟩ := cl f1
      refine g_iload (pc := 629) dL_act_629 rfl ?_
      refine g_aload (pc := 631) dL_act_631 rfl trivial ?_
      refine g_getf (pc := 633) (v := .int _) dL_act_633 fk_L_45 hd8 (fun _ => congrArg Value.int (hz8)) ?_
      refine g_icmp_ge (pc := 636) (tgt := 784) dL_act_636 rfl (fun _ => ?_) (fun h636 => absurd (nI_le (Nat.le_refl _) (by omega)) h636)
      refine g_iinc (pc := 784) (lv' := [(0, _), (2, _), (4, _), (5, _), (7, _), (8, _), (9, _), (13, _), (16, _), (17, _), (18, _), (19, _), (20, _), (21, _), (22, _)]) dL_act_784 rfl (nI_1 _) (nl rfl) rfl ?_
      refine g_goto (pc := 787) (tgt := 616) dL_act_787 rfl ?_
      exact g_subk (ih Mz ⟨f1, Mt.next (τ := fun r => r) f2 (fun _ h => h)⟩) ⟨rfl, rfl, rfl, rfl, rfl, rfl, rfl, rfl, rfl, rfl, rfl, rfl, rfl, rfl, trivial⟩
  · rintro My ⟨g1, g2⟩
    obtain ⟨hd9, hz9, hm9⟩ := cl g1
    have gM : Mt My N n (fun r => N + 1 + r) (fB g) := g2.cg (fun r c hr hc => if_pos (Or.inl hr))
    have gd : Xt (fun i => i = d) M My := g1.up (fun i hi z => by omega)
    have gD : DK My d n q u := hD.xt hO g1 (fun i hi z => by omega)
    refine g_wk (Nat.le_refl 1090) (Nat.le_refl 8910) ?_

    obtain ⟨M2, e1, e2, e3, e4, e5, e6, e7⟩ := st_law (l := l) (g := g) hD hO gd gD gM (Nat.le_of_eq hN) (by omega) ht (fun _ _ _ _ => rfl) hn32
    have hZ2 := hZ.xt e4 e6 e5
    have hS2 : mS M2 = mS M := e4.2.2.1
    obtain ⟨M3, c1, c2, c3⟩ := c_combine (l := l) hZ2.1 hs ho ht (w := 1) (by decide)
    rw [hZ.am e4 e6 hs, hZ.am e4 e6 ho] at c1 c3
    have hw : onesF g n = nI (cM (fB g) n n) := on_c hn32 (by rw [hg]; exact wf_comb (hZ.1.wf hs) (hZ.1.wf ho)) n (Nat.le_refl n)
    rw [← hg, hw] at c1
    rw [← hg] at c3
    rw [← hS2]
    refine g_iload (pc := 616) dL_act_616 rfl ?_
    refine g_aload (pc := 618) dL_act_618 rfl trivial ?_
    refine g_getf (pc := 620) (v := .int _) dL_act_620 fk_L_45 hd9 (fun _ => congrArg Value.int (hz9)) ?_
    refine g_icmp_ge (pc := 623) (tgt := 790) dL_act_623 rfl (fun _ => ?_) (fun h623 => absurd (nI_le (Nat.le_refl _) (by omega)) h623)
    refine g_aload (pc := 790) dL_act_790 rfl trivial ?_
    refine g_iload (pc := 792) dL_act_792 rfl ?_
    refine g_aload (pc := 794) dL_act_794 rfl trivial ?_
    refine g_invV_r (pc := 796) (As := [_, _]) dL_act_796 rfl (e1) rfl rfl hd9 rfl rfl lk_L_155 rfl (nb rfl) ⟨nb rfl, nb rfl⟩ rfl ?_
    refine g_aload (pc := 799) dL_act_799 rfl trivial ?_
    refine g_aload (pc := 801) dL_act_801 rfl trivial ?_
    refine g_invV_r (pc := 803) (As := [_]) dL_act_803 rfl (k_ones e7 hn) rfl rfl e2.1.1 rfl rfl lk_L_159 rfl (nb rfl) ⟨nb rfl, nb rfl⟩ rfl ?_
    refine g_istore (pc := 806) (lv' := [(0, _), (2, _), (4, _), (5, _), (7, _), (8, _), (9, _), (13, _), (16, _), (17, _), (18, _), (19, _), (20, _), (21, _), (14, _)]) dL_act_806 (nl rfl) rfl ?_
    refine g_aload_n (pc := 808) dL_act_808 rfl trivial ?_
    refine g_iload (pc := 809) dL_act_809 rfl ?_
    refine g_iload (pc := 811) dL_act_811 rfl ?_
    refine g_iload (pc := 813) dL_act_813 rfl ?_
    refine g_iload (pc := 815) dL_act_815 rfl ?_
    refine g_invV_r (pc := 817) (As := [_, _, _, _]) dL_act_817 rfl (c1) rfl rfl (shK hZ2.1.S rfl) rfl rfl lk_L_168 rfl (nb rfl) ⟨nb rfl, nb rfl⟩ rfl ?_
    refine g_istore (pc := 820) (lv' := [(0, _), (2, _), (4, _), (5, _), (7, _), (8, _), (9, _), (13, _), (16, _), (17, _), (18, _), (19, _), (20, _), (21, _), (14, _), (15, _)]) dL_act_820 (nl rfl) rfl ?_
    refine g_goto (pc := 822) (tgt := 1338) dL_act_822 rfl ?_
    refine g_wk (pc := 1338) (k := 2) (n := 16) (by decide) (by decide) ?_
    exact g_subk (k_fin hZ2 hu e2 e3 c2 c3) ⟨rfl, rfl, rfl, rfl, rfl, rfl, trivial⟩
theorem act_52 (hZ : AZ M A P n p os.length d u (usO os) ρ eo os nv) (hu : nv.2.2 = u) (hD : DK M d n q u) (hO : OW ρ d n q) (hx9 : x < 2147483648) (hw : x / 262144 % 4 = 2) (hs : s < 6) (ho : o < 6) (ht : t < 6) : Go l jL_act 12 400 MC MS (QA A P n (mS M)) 587 [(0, .ref 0), (2, .ref P), (4, .ref d), (5, .int (nI x)), (7, .int (nI s)), (8, .int (nI o)), (9, .int (nI t)), (13, .ref nv.1), (16, .int 1), (17, .ref (q.2.2.2.1 s))] [] 1100 9000 M := by
  have hn := hZ.2.2.2.2.2.2
  have hx := hZ.x
  have hz := hD.z
  have hn32 : n ≤ 32 := by omega
  obtain ⟨-, hm⟩ := hD.mm hZ.1 hs
  obtain ⟨-, hmo9⟩ := hD.mm hZ.1 ho
  have hmol := hmo9.lt
  have hg9 : ∃ g : Nat → Int32, g = fun k => comb (Am M s k) (Am M o k) 2 := ⟨_, rfl⟩
  obtain ⟨g, hg⟩ := hg9
  have hF := fresh_Mt M n
  have hX := os2_xt M .boolean n n
  have hdl := k_lt hD.1.1
  have hml := hm.lt
  refine g_aload (pc := 587) dL_act_587 rfl trivial ?_
  refine g_invV_r (pc := 589) (As := []) dL_act_589 rfl (k_fresh hD.1.1 hz hn hx) rfl rfl hD.1.1 rfl rfl lk_L_151 rfl (nb rfl) ⟨nb rfl, nb rfl⟩ rfl ?_
  show Go l _ _ _ _ _ _ _ _ ([.ref (mK M).length] : List Value) _ _ (opsM M (os2 .boolean n n (mK M).length))
  generalize hN : (mK M).length = N at *
  generalize opsM M (os2 .boolean n n N) = M1 at *
  have cl : ∀ {My : Mem}, Xt (fun y => N ≤ y) M My → (mK My)[d]? = some (.inr 7) ∧ mI My d 0 = nI n ∧ Mt My (q.2.2.2.1 s) n (q.2.2.2.2.1 s) (fB (Am M s)) := fun {My} h => ⟨h.k hD.1.1, (congrFun (h.I (k_lt hD.1.1) (by omega)) 0).trans hz, hm.xt h (by omega) (fun r hr => by have := hml.2 r hr; omega)⟩

  have hmo : ∀ {My : Mem}, Xt (fun y => N ≤ y) M My → Mt My (q.2.2.2.1 o) n (q.2.2.2.2.1 o) (fB (Am M o)) := fun {My} h => hmo9.xt h (by omega) (fun r hr => by have := hmol.2 r hr; omega)
  have hD1 : DK M1 d n q u := hD.xt hO hX (fun i hi z => z.elim)
  refine g_astore (pc := 592) (lv' := [(0, _), (2, _), (4, _), (5, _), (7, _), (8, _), (9, _), (13, _), (16, _), (17, _), (18, _)]) dL_act_592 trivial (nl rfl) rfl ?_
  refine g_iload (pc := 594) dL_act_594 rfl ?_
  refine g_ldc (pc := 596) dL_act_596 wd_x990 ?_
  refine g_idiv (pc := 598) dL_act_598 (by decide) ?_
  rw [show nI x / 262144 = nI (x / 262144) from nI_div (b := 262144) hx9 (by decide)]
  refine g_iconst (pc := 599) (v := 4) dL_act_599 rfl ?_
  refine g_irem (pc := 600) dL_act_600 (by decide) ?_
  rw [show nI (x / 262144) - nI (x / 262144) / 4 * 4 = nI (x / 262144 % 4) from nI_rem (b := 4) (by omega) (by decide), hw]
  refine g_istore (pc := 601) (lv' := [(0, _), (2, _), (4, _), (5, _), (7, _), (8, _), (9, _), (13, _), (16, _), (17, _), (18, _), (19, _)]) dL_act_601 (nl rfl) rfl ?_
  refine g_aload (pc := 603) dL_act_603 rfl trivial ?_
  refine g_getf (pc := 605) dL_act_605 fk_L_52 hD1.1.1 (fv_arr hD1.1.2.1) ?_
  refine g_iload (pc := 608) dL_act_608 rfl ?_
  refine g_aaload_Z2 (pc := 610) dL_act_610 hD1.2.2.1.1 rfl ho (by omega) (hD1.2.2.2 o ho).1.1 ?_
  refine g_astore (pc := 611) (lv' := [(0, _), (2, _), (4, _), (5, _), (7, _), (8, _), (9, _), (13, _), (16, _), (17, _), (18, _), (19, _), (20, _)]) dL_act_611 trivial (nl rfl) rfl ?_
  skip

  refine g_iconst (pc := 613) (v := 0) dL_act_613 rfl ?_
  refine g_istore (pc := 614) (lv' := [(0, _), (2, _), (4, _), (5, _), (7, _), (8, _), (9, _), (13, _), (16, _), (17, _), (18, _), (19, _), (20, _), (21, _)]) dL_act_614 (nl rfl) rfl ?_
  refine go_forS (pc := 616) n (fun i (_ : Mem) => [(0, .ref 0), (2, .ref P), (4, .ref d), (5, .int (nI x)), (7, .int (nI s)), (8, .int (nI o)), (9, .int (nI t)), (13, .ref nv.1), (16, .int 1), (17, .ref (q.2.2.2.1 s)), (18, .ref N), (19, .int 2), (20, .ref (q.2.2.2.1 o)), (21, .int (nI i))]) (fun z => z) (fun i My => Xt (fun y => N ≤ y) M My ∧ Mt My N n (fun r => N + 1 + r) (fun r c => if r < i ∨ (r = i ∧ c < 0) then hb (g r) c else false)) (fun _ => 1090) (fun _ => 8910) M1 ⟨rfl, rfl, rfl, rfl, rfl, rfl, rfl, rfl, rfl, rfl, rfl, rfl, rfl, rfl, trivial⟩ rfl rfl rfl ⟨hX.up (fun _ _ z => z.elim), hF.cg (fun r c _ _ => (if_neg (by omega)).symm)⟩ ?_ ?_
  · rintro i My hi ⟨g1, g2⟩ ih
    obtain ⟨hd9, hz9, hm9⟩ := cl g1
    refine g_iload (pc := 616) dL_act_616 rfl ?_
    refine g_aload (pc := 618) dL_act_618 rfl trivial ?_
    refine g_getf (pc := 620) (v := .int _) dL_act_620 fk_L_45 hd9 (fun _ => congrArg Value.int (hz9)) ?_
    refine g_icmp_ge (pc := 623) (tgt := 790) dL_act_623 rfl (fun h623 => absurd h623 (nI_ge hi (by omega))) (fun _ => ?_)
    refine g_iconst (pc := 626) (v := 0) dL_act_626 rfl ?_
    refine g_istore (pc := 627) (lv' := [(0, _), (2, _), (4, _), (5, _), (7, _), (8, _), (9, _), (13, _), (16, _), (17, _), (18, _), (19, _), (20, _), (21, _), (22, _)]) dL_act_627 (nl rfl) rfl ?_
    refine g_wk (pc := 629) (Nat.le_refl 1090) (Nat.le_refl 8910) ?_
    refine go_forS (pc := 629) n (fun j (_ : Mem) => [(0, .ref 0), (2, .ref P), (4, .ref d), (5, .int (nI x)), (7, .int (nI s)), (8, .int (nI o)), (9, .int (nI t)), (13, .ref nv.1), (16, .int 1), (17, .ref (q.2.2.2.1 s)), (18, .ref N), (19, .int 2), (20, .ref (q.2.2.2.1 o)), (21, .int (nI i)), (22, .int (nI j))]) (fun z => z) (fun j My => Xt (fun y => N ≤ y) M My ∧ Mt My N n (fun r => N + 1 + r) (fun r c => if r < i ∨ (r = i ∧ c < j) then hb (g r) c else false)) (fun _ => 1090) (fun _ => 8910) My ⟨rfl, rfl, rfl, rfl, rfl, rfl, rfl, rfl, rfl, rfl, rfl, rfl, rfl, rfl, rfl, trivial⟩ rfl rfl rfl ⟨g1, g2⟩ ?_ ?_
    · rintro j Mz hj ⟨f1, f2⟩ ih2
      obtain ⟨hd8, hz8, hm8⟩ := cl f1
      have hput : ∀ v : Bool, v = hb (g (i)) (j) → _ := fun v hv => ih2 (sI Mz (N + 1 + i) (fun_set (mI Mz (N + 1 + i)) (j) (vp_nar .boolean (b1 v)))) ⟨f1.sI (fun _ => by omega), Mt.fill (τ := fun r => r) (σ := fun i => i) f2 hi hj (fun _ h => h) (fun _ _ => rfl) (fun _ _ => rfl) v hv⟩
      have hv : (Bool.xor (hb (Am M s i) j) (hb (Am M o i) j)) = hb (g i) j := by
        rw [hg]
        show _ = hb (comb (Am M s i) (Am M o i) 2) j
        rw [cb_w (by omega)]
        rfl
      have hp8 := hmo f1
      have vx : mI Mz (q.2.2.2.2.1 s i) j = b1 (hb (Am M s i) j) := (hm8.2 i hi).2.2 j hj
      have vy : mI Mz (q.2.2.2.2.1 o i) j = b1 (hb (Am M o i) j) := (hp8.2 i hi).2.2 j hj
      generalize hb (Am M s i) j = X at *
      generalize hb (Am M o i) j = Y at *
      cases X <;> cases Y
      · refine g_iload (pc := 629) dL_act_629 rfl ?_
        refine g_aload (pc := 631) dL_act_631 rfl trivial ?_
        refine g_getf (pc := 633) (v := .int _) dL_act_633 fk_L_45 hd8 (fun _ => congrArg Value.int (hz8)) ?_
        refine g_icmp_ge (pc := 636) (tgt := 784) dL_act_636 rfl (fun h636 => absurd h636 (nI_ge hj (by omega))) (fun _ => ?_)
        refine g_aload (pc := 639) dL_act_639 rfl trivial ?_
        refine g_iload (pc := 641) dL_act_641 rfl ?_
        refine g_aaload_Z1 (pc := 643) dL_act_643 f2.1 rfl hi (by omega) (f2.2 i hi).1 ?_
        refine g_iload (pc := 644) dL_act_644 rfl ?_
        refine g_iload (pc := 646) dL_act_646 rfl ?_
        refine g_if_ne (pc := 648) (tgt := 681) dL_act_648 rfl (fun _ => ?_) (fun h648 => absurd ((by decide)) h648)
        refine g_iload (pc := 681) dL_act_681 rfl ?_
        refine g_iconst (pc := 683) (v := 1) dL_act_683 rfl ?_
        refine g_icmp_ne (pc := 684) (tgt := 717) dL_act_684 rfl (fun _ => ?_) (fun h684 => absurd ((by decide)) h684)
        refine g_iload (pc := 717) dL_act_717 rfl ?_
        refine g_iconst (pc := 719) (v := 2) dL_act_719 rfl ?_
        refine g_icmp_ne (pc := 720) (tgt := 750) dL_act_720 rfl (fun h720 => absurd h720 ((fun z => z rfl))) (fun _ => ?_)
        refine g_aload (pc := 723) dL_act_723 rfl trivial ?_
        refine g_iload (pc := 725) dL_act_725 rfl ?_
        refine g_aaload_Z1 (pc := 727) dL_act_727 hm8.1 rfl hi (by omega) (hm8.2 i hi).1 ?_
        refine g_iload (pc := 728) dL_act_728 rfl ?_
        refine g_zaload (pc := 730) dL_act_730 (hm8.2 i hi).2.1 rfl hj (by omega) ?_
        rw [vx]
        refine g_aload (pc := 731) dL_act_731 rfl trivial ?_
        refine g_iload (pc := 733) dL_act_733 rfl ?_
        refine g_aaload_Z1 (pc := 735) dL_act_735 hp8.1 rfl hi (by omega) (hp8.2 i hi).1 ?_
        refine g_iload (pc := 736) dL_act_736 rfl ?_
        refine g_zaload (pc := 738) dL_act_738 (hp8.2 i hi).2.1 rfl hj (by omega) ?_
        rw [vy]
        refine g_icmp_eq (pc := 739) (tgt := 746) dL_act_739 rfl (fun _ => ?_) (fun h739 => absurd (rfl) h739)
        refine g_iconst (pc := 746) (v := 0) dL_act_746 rfl ?_
        refine g_goto (pc := 747) (tgt := 777) dL_act_747 rfl ?_
        refine g_zastore (pc := 777) dL_act_777 (f2.2 i hi).2.1 rfl hj (by omega) ?_
        refine g_iinc (pc := 778) (lv' := [(0, _), (2, _), (4, _), (5, _), (7, _), (8, _), (9, _), (13, _), (16, _), (17, _), (18, _), (19, _), (20, _), (21, _), (22, _)]) dL_act_778 rfl (nI_1 _) (nl rfl) rfl ?_
        refine g_goto (pc := 781) (tgt := 629) dL_act_781 rfl ?_
        exact g_subk (hput false hv) ⟨rfl, rfl, rfl, rfl, rfl, rfl, rfl, rfl, rfl, rfl, rfl, rfl, rfl, rfl, rfl, trivial⟩
      · refine g_iload (pc := 629) dL_act_629 rfl ?_
        refine g_aload (pc := 631) dL_act_631 rfl trivial ?_
        refine g_getf (pc := 633) (v := .int _) dL_act_633 fk_L_45 hd8 (fun _ => congrArg Value.int (hz8)) ?_
        refine g_icmp_ge (pc := 636) (tgt := 784) dL_act_636 rfl (fun h636 => absurd h636 (nI_ge hj (by omega))) (fun _ => ?_)
        refine g_aload (pc := 639) dL_act_639 rfl trivial ?_
        refine g_iload (pc := 641) dL_act_641 rfl ?_
        refine g_aaload_Z1 (pc := 643) dL_act_643 f2.1 rfl hi (by omega) (f2.2 i hi).1 ?_
        refine g_iload (pc := 644) dL_act_644 rfl ?_
        refine g_iload (pc := 646) dL_act_646 rfl ?_
        refine g_if_ne (pc := 648) (tgt := 681) dL_act_648 rfl (fun _ => ?_) (fun h648 => absurd ((by decide)) h648)
        refine g_iload (pc := 681) dL_act_681 rfl ?_
        refine g_iconst (pc := 683) (v := 1) dL_act_683 rfl ?_
        refine g_icmp_ne (pc := 684) (tgt := 717) dL_act_684 rfl (fun _ => ?_) (fun h684 => absurd ((by decide)) h684)
        refine g_iload (pc := 717) dL_act_717 rfl ?_
        refine g_iconst (pc := 719) (v := 2) dL_act_719 rfl ?_
        refine g_icmp_ne (pc := 720) (tgt := 750) dL_act_720 rfl (fun h720 => absurd h720 ((fun z => z rfl))) (fun _ => ?_)
        refine g_aload (pc := 723) dL_act_723 rfl trivial ?_
        refine g_iload (pc := 725) dL_act_725 rfl ?_
        refine g_aaload_Z1 (pc := 727) dL_act_727 hm8.1 rfl hi (by omega) (hm8.2 i hi).1 ?_
        refine g_iload (pc := 728) dL_act_728 rfl ?_
        refine g_zaload (pc := 730) dL_act_730 (hm8.2 i hi).2.1 rfl hj (by omega) ?_
        rw [vx]
        refine g_aload (pc := 731) dL_act_731 rfl trivial ?_
        refine g_iload (pc := 733) dL_act_733 rfl ?_
        refine g_aaload_Z1 (pc := 735) dL_act_735 hp8.1 rfl hi (by omega) (hp8.2 i hi).1 ?_
        refine g_iload (pc := 736) dL_act_736 rfl ?_
        refine g_zaload (pc := 738) dL_act_738 (hp8.2 i hi).2.1 rfl hj (by omega) ?_
        rw [vy]
        refine g_icmp_eq (pc := 739) (tgt := 746) dL_act_739 rfl (fun h739 => absurd h739 ((by decide))) (fun _ => ?_)
        refine g_iconst (pc := 742) (v := 1) dL_act_742 rfl ?_
        refine g_goto (pc := 743) (tgt := 777) dL_act_743 rfl ?_
        refine g_zastore (pc := 777) dL_act_777 (f2.2 i hi).2.1 rfl hj (by omega) ?_
        refine g_iinc (pc := 778) (lv' := [(0, _), (2, _), (4, _), (5, _), (7, _), (8, _), (9, _), (13, _), (16, _), (17, _), (18, _), (19, _), (20, _), (21, _), (22, _)]) dL_act_778 rfl (nI_1 _) (nl rfl) rfl ?_
        refine g_goto (pc := 781) (tgt := 629) dL_act_781 rfl ?_
        exact g_subk (hput true hv) ⟨rfl, rfl, rfl, rfl, rfl, rfl, rfl, rfl, rfl, rfl, rfl, rfl, rfl, rfl, rfl, trivial⟩
      · refine g_iload (pc := 629) dL_act_629 rfl ?_
        refine g_aload (pc := 631) dL_act_631 rfl trivial ?_
        refine g_getf (pc := 633) (v := .int _) dL_act_633 fk_L_45 hd8 (fun _ => congrArg Value.int (hz8)) ?_
        refine g_icmp_ge (pc := 636) (tgt := 784) dL_act_636 rfl (fun h636 => absurd h636 (nI_ge hj (by omega))) (fun _ => ?_)
        refine g_aload (pc := 639) dL_act_639 rfl trivial ?_
        refine g_iload (pc := 641) dL_act_641 rfl ?_
        refine g_aaload_Z1 (pc := 643) dL_act_643 f2.1 rfl hi (by omega) (f2.2 i hi).1 ?_
        refine g_iload (pc := 644) dL_act_644 rfl ?_
        refine g_iload (pc := 646) dL_act_646 rfl ?_
        refine g_if_ne (pc := 648) (tgt := 681) dL_act_648 rfl (fun _ => ?_) (fun h648 => absurd ((by decide)) h648)
        refine g_iload (pc := 681) dL_act_681 rfl ?_
        refine g_iconst (pc := 683) (v := 1) dL_act_683 rfl ?_
        refine g_icmp_ne (pc := 684) (tgt := 717) dL_act_684 rfl (fun _ => ?_) (fun h684 => absurd ((by decide)) h684)
        refine g_iload (pc := 717) dL_act_717 rfl ?_
        refine g_iconst (pc := 719) (v := 2) dL_act_719 rfl ?_
        refine g_icmp_ne (pc := 720) (tgt := 750) dL_act_720 rfl (fun h720 => absurd h720 ((fun z => z rfl))) (fun _ => ?_)
        refine g_aload (pc := 723) dL_act_723 rfl trivial ?_
        refine g_iload (pc := 725) dL_act_725 rfl ?_
        refine g_aaload_Z1 (pc := 727) dL_act_727 hm8.1 rfl hi (by omega) (hm8.2 i hi).1 ?_
        refine g_iload (pc := 728) dL_act_728 rfl ?_
        refine g_zaload (pc := 730) dL_act_730 (hm8.2 i hi).2.1 rfl hj (by omega) ?_
        rw [vx]
        refine g_aload (pc := 731) dL_act_731 rfl trivial ?_
        refine g_iload (pc := 733) dL_act_733 rfl ?_
        refine g_aaload_Z1 (pc := 735) dL_act_735 hp8.1 rfl hi (by omega) (hp8.2 i hi).1 ?_
        refine g_iload (pc := 736) dL_act_736 rfl ?_
        refine g_zaload (pc := 738) dL_act_738 (hp8.2 i hi).2.1 rfl hj (by omega) ?_
        rw [vy]
        refine g_icmp_eq (pc := 739) (tgt := 746) dL_act_739 rfl (fun h739 => absurd h739 ((by decide))) (fun _ => ?_)
        refine g_iconst (pc := 742) (v := 1) dL_act_742 rfl ?_
        refine g_goto (pc := 743) (tgt := 777) dL_act_743 rfl ?_
        refine g_zastore (pc := 777) dL_act_777 (f2.2 i hi).2.1 rfl hj (by omega) ?_
        refine g_iinc (pc := 778) (lv' := [(0, _), (2, _), (4, _), (5, _), (7, _), (8, _), (9, _), (13, _), (16, _), (17, _), (18, _), (19, _), (20, _), (21, _), (22, _)]) dL_act_778 rfl (nI_1 _) (nl rfl) rfl ?_
        refine g_goto (pc := 781) (tgt := 629) dL_act_781 rfl ?_
        exact g_subk (hput true hv) ⟨rfl, rfl, rfl, rfl, rfl, rfl, rfl, rfl, rfl, rfl, rfl, rfl, rfl, rfl, rfl, trivial⟩
      · refine g_iload (pc := 629) dL_act_629 rfl ?_
        refine g_aload (pc := 631) dL_act_631 rfl trivial ?_
        refine g_getf (pc := 633) (v := .int _) dL_act_633 fk_L_45 hd8 (fun _ => congrArg Value.int (hz8)) ?_
        refine g_icmp_ge (pc := 636) (tgt := 784) dL_act_636 rfl (fun h636 => absurd h636 (nI_ge hj (by omega))) (fun _ => ?_)
        refine g_aload (pc := 639) dL_act_639 rfl trivial ?_
        refine g_iload (pc := 641) dL_act_641 rfl ?_
        refine g_aaload_Z1 (pc := 643) dL_act_643 f2.1 rfl hi (by omega) (f2.2 i hi).1 ?_
        refine g_iload (pc := 644) dL_act_644 rfl ?_
        refine g_iload (pc := 646) dL_act_646 rfl ?_
        refine g_if_ne (pc := 648) (tgt := 681) dL_act_648 rfl (fun _ => ?_) (fun h648 => absurd ((by decide)) h648)
        refine g_iload (pc := 681) dL_act_681 rfl ?_
        refine g_iconst (pc := 683) (v := 1) dL_act_683 rfl ?_
        refine g_icmp_ne (pc := 684) (tgt := 717) dL_act_684 rfl (fun _ => ?_) (fun h684 => absurd ((by decide)) h684)
        refine g_iload (pc := 717) dL_act_717 rfl ?_
        refine g_iconst (pc := 719) (v := 2) dL_act_719 rfl ?_
        refine g_icmp_ne (pc := 720) (tgt := 750) dL_act_720 rfl (fun h720 => absurd h720 ((fun z => z rfl))) (fun _ => ?_)
        refine g_aload (pc := 723) dL_act_723 rfl trivial ?_
        refine g_iload (pc := 725) dL_act_725 rfl ?_
        refine g_aaload_Z1 (pc := 727) dL_act_727 hm8.1 rfl hi (by omega) (hm8.2 i hi).1 ?_
        refine g_iload (pc := 728) dL_act_728 rfl ?_
        refine g_zaload (pc := 730) dL_act_730 (hm8.2 i hi).2.1 rfl hj (by omega) ?_
        rw [vx]
        refine g_aload (pc := 731) dL_act_731 rfl trivial ?_
        refine g_iload (pc := 733) dL_act_733 rfl ?_
        refine g_aaload_Z1 (pc := 735) dL_act_735 hp8.1 rfl hi (by omega) (hp8.2 i hi).1 ?_
        refine g_iload (pc := 736) dL_act_736 rfl ?_
        refine g_zaload (pc := 738) dL_act_738 (hp8.2 i hi).2.1 rfl hj (by omega) ?_
        rw [vy]
        refine g_icmp_eq (pc := 739) (tgt := 746) dL_act_739 rfl (fun _ => ?_) (fun h739 => absurd (rfl) h739)
        refine g_iconst (pc := 746) (v := 0) dL_act_746 rfl ?_
        refine g_goto (pc := 747) (tgt := 777) dL_act_747 rfl ?_
        refine g_zastore (pc := 777) dL_act_777 (f2.2 i hi).2.1 rfl hj (by omega) ?_
        refine g_iinc (pc := 778) (lv' := [(0, _), (2, _), (4, _), (5, _), (7, _), (8, _), (9, _), (13, _), (16, _), (17, _), (18, _), (19, _), (20, _), (21, _), (22, _)]) dL_act_778 rfl (nI_1 _) (nl rfl) rfl ?_
        refine g_goto (pc := 781) (tgt := 629) dL_act_781 rfl ?_
        exact g_subk (hput false hv) ⟨rfl, rfl, rfl, rfl, rfl, rfl, rfl, rfl, rfl, rfl, rfl, rfl, rfl, rfl, rfl, trivial⟩
    · rintro Mz ⟨f1, f2⟩
      obtain ⟨hd8, hz8, hm8⟩ := cl f1
      refine g_iload (pc := 629) dL_act_629 rfl ?_
      refine g_aload (pc := 631) dL_act_631 rfl trivial ?_
      refine g_getf (pc := 633) (v := .int _) dL_act_633 fk_L_45 hd8 (fun _ => congrArg Value.int (hz8)) ?_
      refine g_icmp_ge (pc := 636) (tgt := 784) dL_act_636 rfl (fun _ => ?_) (fun h636 => absurd (nI_le (Nat.le_refl _) (by omega)) h636)
      refine g_iinc (pc := 784) (lv' := [(0, _), (2, _), (4, _), (5, _), (7, _), (8, _), (9, _), (13, _), (16, _), (17, _), (18, _), (19, _), (20, _), (21, _), (22, _)]) dL_act_784 rfl (nI_1 _) (nl rfl) rfl ?_
      refine g_goto (pc := 787) (tgt := 616) dL_act_787 rfl ?_
      exact g_subk (ih Mz ⟨f1, Mt.next (τ := fun r => r) f2 (fun _ h => h)⟩) ⟨rfl, rfl, rfl, rfl, rfl, rfl, rfl, rfl, rfl, rfl, rfl, rfl, rfl, rfl, trivial⟩
  · rintro My ⟨g1, g2⟩
    obtain ⟨hd9, hz9, hm9⟩ := cl g1
    have gM : Mt My N n (fun r => N + 1 + r) (fB g) := g2.cg (fun r c hr hc => if_pos (Or.inl hr))
    have gd : Xt (fun i => i = d) M My := g1.up (fun i hi z => by omega)
    have gD : DK My d n q u := hD.xt hO g1 (fun i hi z => by omega)
    refine g_wk (Nat.le_refl 1090) (Nat.le_refl 8910) ?_

    obtain ⟨M2, e1, e2, e3, e4, e5, e6, e7⟩ := st_law (l := l) (g := g) hD hO gd gD gM (Nat.le_of_eq hN) (by omega) ht (fun _ _ _ _ => rfl) hn32
    have hZ2 := hZ.xt e4 e6 e5
    have hS2 : mS M2 = mS M := e4.2.2.1
    obtain ⟨M3, c1, c2, c3⟩ := c_combine (l := l) hZ2.1 hs ho ht (w := 2) (by decide)
    rw [hZ.am e4 e6 hs, hZ.am e4 e6 ho] at c1 c3
    have hw : onesF g n = nI (cM (fB g) n n) := on_c hn32 (by rw [hg]; exact wf_comb (hZ.1.wf hs) (hZ.1.wf ho)) n (Nat.le_refl n)
    rw [← hg, hw] at c1
    rw [← hg] at c3
    rw [← hS2]
    refine g_iload (pc := 616) dL_act_616 rfl ?_
    refine g_aload (pc := 618) dL_act_618 rfl trivial ?_
    refine g_getf (pc := 620) (v := .int _) dL_act_620 fk_L_45 hd9 (fun _ => congrArg Value.int (hz9)) ?_
    refine g_icmp_ge (pc := 623) (tgt := 790) dL_act_623 rfl (fun _ => ?_) (fun h623 => absurd (nI_le (Nat.le_refl _) (by omega)) h623)
    refine g_aload (pc := 790) dL_act_790 rfl trivial ?_
    refine g_iload (pc := 792) dL_act_792 rfl ?_
    refine g_aload (pc := 794) dL_act_794 rfl trivial ?_
    refine g_invV_r (pc := 796) (As := [_, _]) dL_act_796 rfl (e1) rfl rfl hd9 rfl rfl lk_L_155 rfl (nb rfl) ⟨nb rfl, nb rfl⟩ rfl ?_
    refine g_aload (pc := 799) dL_act_799 rfl trivial ?_
    refine g_aload (pc := 801) dL_act_801 rfl trivial ?_
    refine g_invV_r (pc := 803) (As := [_]) dL_act_803 rfl (k_ones e7 hn) rfl rfl e2.1.1 rfl rfl lk_L_159 rfl (nb rfl) ⟨nb rfl, nb rfl⟩ rfl ?_
    refine g_istore (pc := 806) (lv' := [(0, _), (2, _), (4, _), (5, _), (7, _), (8, _), (9, _), (13, _), (16, _), (17, _), (18, _), (19, _), (20, _), (21, _), (14, _)]) dL_act_806 (nl rfl) rfl ?_
    refine g_aload_n (pc := 808) dL_act_808 rfl trivial ?_
    refine g_iload (pc := 809) dL_act_809 rfl ?_
    refine g_iload (pc := 811) dL_act_811 rfl ?_
    refine g_iload (pc := 813) dL_act_813 rfl ?_
    refine g_iload (pc := 815) dL_act_815 rfl ?_
    refine g_invV_r (pc := 817) (As := [_, _, _, _]) dL_act_817 rfl (c1) rfl rfl (shK hZ2.1.S rfl) rfl rfl lk_L_168 rfl (nb rfl) ⟨nb rfl, nb rfl⟩ rfl ?_
    refine g_istore (pc := 820) (lv' := [(0, _), (2, _), (4, _), (5, _), (7, _), (8, _), (9, _), (13, _), (16, _), (17, _), (18, _), (19, _), (20, _), (21, _), (14, _), (15, _)]) dL_act_820 (nl rfl) rfl ?_
    refine g_goto (pc := 822) (tgt := 1338) dL_act_822 rfl ?_
    refine g_wk (pc := 1338) (k := 2) (n := 16) (by decide) (by decide) ?_
    exact g_subk (k_fin hZ2 hu e2 e3 c2 c3) ⟨rfl, rfl, rfl, rfl, rfl, rfl, trivial⟩
theorem act_53 (hZ : AZ M A P n p os.length d u (usO os) ρ eo os nv) (hu : nv.2.2 = u) (hD : DK M d n q u) (hO : OW ρ d n q) (hx9 : x < 2147483648) (hw : x / 262144 % 4 = 3) (hs : s < 6) (ho : o < 6) (ht : t < 6) : Go l jL_act 12 400 MC MS (QA A P n (mS M)) 587 [(0, .ref 0), (2, .ref P), (4, .ref d), (5, .int (nI x)), (7, .int (nI s)), (8, .int (nI o)), (9, .int (nI t)), (13, .ref nv.1), (16, .int 1), (17, .ref (q.2.2.2.1 s))] [] 1100 9000 M := by
  have hn := hZ.2.2.2.2.2.2
  have hx := hZ.x
  have hz := hD.z
  have hn32 : n ≤ 32 := by omega
  obtain ⟨-, hm⟩ := hD.mm hZ.1 hs
  obtain ⟨-, hmo9⟩ := hD.mm hZ.1 ho
  have hmol := hmo9.lt
  have hg9 : ∃ g : Nat → Int32, g = fun k => comb (Am M s k) (Am M o k) 3 := ⟨_, rfl⟩
  obtain ⟨g, hg⟩ := hg9
  have hF := fresh_Mt M n
  have hX := os2_xt M .boolean n n
  have hdl := k_lt hD.1.1
  have hml := hm.lt
  refine g_aload (pc := 587) dL_act_587 rfl trivial ?_
  refine g_invV_r (pc := 589) (As := []) dL_act_589 rfl (k_fresh hD.1.1 hz hn hx) rfl rfl hD.1.1 rfl rfl lk_L_151 rfl (nb rfl) ⟨nb rfl, nb rfl⟩ rfl ?_
  show Go l _ _ _ _ _ _ _ _ ([.ref (mK M).length] : List Value) _ _ (opsM M (os2 .boolean n n (mK M).length))
  generalize hN : (mK M).length = N at *
  generalize opsM M (os2 .boolean n n N) = M1 at *
  have cl : ∀ {My : Mem}, Xt (fun y => N ≤ y) M My → (mK My)[d]? = some (.inr 7) ∧ mI My d 0 = nI n ∧ Mt My (q.2.2.2.1 s) n (q.2.2.2.2.1 s) (fB (Am M s)) := fun {My} h => ⟨h.k hD.1.1, (congrFun (h.I (k_lt hD.1.1) (by omega)) 0).trans hz, hm.xt h (by omega) (fun r hr => by have := hml.2 r hr; omega)⟩

  have hmo : ∀ {My : Mem}, Xt (fun y => N ≤ y) M My → Mt My (q.2.2.2.1 o) n (q.2.2.2.2.1 o) (fB (Am M o)) := fun {My} h => hmo9.xt h (by omega) (fun r hr => by have := hmol.2 r hr; omega)
  have hD1 : DK M1 d n q u := hD.xt hO hX (fun i hi z => z.elim)
  refine g_astore (pc := 592) (lv' := [(0, _), (2, _), (4, _), (5, _), (7, _), (8, _), (9, _), (13, _), (16, _), (17, _), (18, _)]) dL_act_592 trivial (nl rfl) rfl ?_
  refine g_iload (pc := 594) dL_act_594 rfl ?_
  refine g_ldc (pc := 596) dL_act_596 wd_x990 ?_
  refine g_idiv (pc := 598) dL_act_598 (by decide) ?_
  rw [show nI x / 262144 = nI (x / 262144) from nI_div (b := 262144) hx9 (by decide)]
  refine g_iconst (pc := 599) (v := 4) dL_act_599 rfl ?_
  refine g_irem (pc := 600) dL_act_600 (by decide) ?_
  rw [show nI (x / 262144) - nI (x / 262144) / 4 * 4 = nI (x / 262144 % 4) from nI_rem (b := 4) (by omega) (by decide), hw]
  refine g_istore (pc := 601) (lv' := [(0, _), (2, _), (4, _), (5, _), (7, _), (8, _), (9, _), (13, _), (16, _), (17, _), (18, _), (19, _)]) dL_act_601 (nl rfl) rfl ?_
  refine g_aload (pc := 603) dL_act_603 rfl trivial ?_
  refine g_getf (pc := 605) dL_act_605 fk_L_52 hD1.1.1 (fv_arr hD1.1.2.1) ?_
  refine g_iload (pc := 608) dL_act_608 rfl ?_
  refine g_aaload_Z2 (pc := 610) dL_act_610 hD1.2.2.1.1 rfl ho (by omega) (hD1.2.2.2 o ho).1.1 ?_
  refine g_astore (pc := 611) (lv' := [(0, _), (2, _), (4, _), (5, _), (7, _), (8, _), (9, _), (13, _), (16, _), (17, _), (18, _), (19, _), (20, _)]) dL_act_611 trivial (nl rfl) rfl ?_
  skip

  refine g_iconst (pc := 613) (v := 0) dL_act_613 rfl ?_
  refine g_istore (pc := 614) (lv' := [(0, _), (2, _), (4, _), (5, _), (7, _), (8, _), (9, _), (13, _), (16, _), (17, _), (18, _), (19, _), (20, _), (21, _)]) dL_act_614 (nl rfl) rfl ?_
  refine go_forS (pc := 616) n (fun i (_ : Mem) => [(0, .ref 0), (2, .ref P), (4, .ref d), (5, .int (nI x)), (7, .int (nI s)), (8, .int (nI o)), (9, .int (nI t)), (13, .ref nv.1), (16, .int 1), (17, .ref (q.2.2.2.1 s)), (18, .ref N), (19, .int 3), (20, .ref (q.2.2.2.1 o)), (21, .int (nI i))]) (fun z => z) (fun i My => Xt (fun y => N ≤ y) M My ∧ Mt My N n (fun r => N + 1 + r) (fun r c => if r < i ∨ (r = i ∧ c < 0) then hb (g r) c else false)) (fun _ => 1090) (fun _ => 8910) M1 ⟨rfl, rfl, rfl, rfl, rfl, rfl, rfl, rfl, rfl, rfl, rfl, rfl, rfl, rfl, trivial⟩ rfl rfl rfl ⟨hX.up (fun _ _ z => z.elim), hF.cg (fun r c _ _ => (if_neg (by omega)).symm)⟩ ?_ ?_
  · rintro i My hi ⟨g1, g2⟩ ih
    obtain ⟨hd9, hz9, hm9⟩ := cl g1
    refine g_iload (pc := 616) dL_act_616 rfl ?_
    refine g_aload (pc := 618) dL_act_618 rfl trivial ?_
    refine g_getf (pc := 620) (v := .int _) dL_act_620 fk_L_45 hd9 (fun _ => congrArg Value.int (hz9)) ?_
    refine g_icmp_ge (pc := 623) (tgt := 790) dL_act_623 rfl (fun h623 => absurd h623 (nI_ge hi (by omega))) (fun _ => ?_)
    refine g_iconst (pc := 626) (v := 0) dL_act_626 rfl ?_
    refine g_istore (pc := 627) (lv' := [(0, _), (2, _), (4, _), (5, _), (7, _), (8, _), (9, _), (13, _), (16, _), (17, _), (18, _), (19, _), (20, _), (21, _), (22, _)]) dL_act_627 (nl rfl) rfl ?_
    refine g_wk (pc := 629) (Nat.le_refl 1090) (Nat.le_refl 8910) ?_
    refine go_forS (pc := 629) n (fun j (_ : Mem) => [(0, .ref 0), (2, .ref P), (4, .ref d), (5, .int (nI x)), (7, .int (nI s)), (8, .int (nI o)), (9, .int (nI t)), (13, .ref nv.1), (16, .int 1), (17, .ref (q.2.2.2.1 s)), (18, .ref N), (19, .int 3), (20, .ref (q.2.2.2.1 o)), (21, .int (nI i)), (22, .int (nI j))]) (fun z => z) (fun j My => Xt (fun y => N ≤ y) M My ∧ Mt My N n (fun r => N + 1 + r) (fun r c => if r < i ∨ (r = i ∧ c < j) then hb (g r) c else false)) (fun _ => 1090) (fun _ => 8910) My ⟨rfl, rfl, rfl, rfl, rfl, rfl, rfl, rfl, rfl, rfl, rfl, rfl, rfl, rfl, rfl, trivial⟩ rfl rfl rfl ⟨g1, g2⟩ ?_ ?_
    · rintro j Mz hj ⟨f1, f2⟩ ih2
      obtain ⟨hd8, hz8, hm8⟩ := cl f1
      have hput : ∀ v : Bool, v = hb (g (i)) (j) → _ := fun v hv => ih2 (sI Mz (N + 1 + i) (fun_set (mI Mz (N + 1 + i)) (j) (vp_nar .boolean (b1 v)))) ⟨f1.sI (fun _ => by omega), Mt.fill (τ := fun r => r) (σ := fun i => i) f2 hi hj (fun _ h => h) (fun _ _ => rfl) (fun _ _ => rfl) v hv⟩
      have hv : (hb (Am M s i) j && !(hb (Am M o i) j)) = hb (g i) j := by
        rw [hg]
        show _ = hb (comb (Am M s i) (Am M o i) 3) j
        rw [cb_w (by omega)]
        rfl
      have hp8 := hmo f1
      have vx : mI Mz (q.2.2.2.2.1 s i) j = b1 (hb (Am M s i) j) := (hm8.2 i hi).2.2 j hj
      have vy : mI Mz (q.2.2.2.2.1 o i) j = b1 (hb (Am M o i) j) := (hp8.2 i hi).2.2 j hj
      generalize hb (Am M s i) j = X at *
      generalize hb (Am M o i) j = Y at *
      cases X <;> cases Y
      · refine g_iload (pc := 629) dL_act_629 rfl ?_
        refine g_aload (pc := 631) dL_act_631 rfl trivial ?_
        refine g_getf (pc := 633) (v := .int _) dL_act_633 fk_L_45 hd8 (fun _ => congrArg Value.int (hz8)) ?_
        refine g_icmp_ge (pc := 636) (tgt := 784) dL_act_636 rfl (fun h636 => absurd h636 (nI_ge hj (by omega))) (fun _ => ?_)
        refine g_aload (pc := 639) dL_act_639 rfl trivial ?_
        refine g_iload (pc := 641) dL_act_641 rfl ?_
        refine g_aaload_Z1 (pc := 643) dL_act_643 f2.1 rfl hi (by omega) (f2.2 i hi).1 ?_
        refine g_iload (pc := 644) dL_act_644 rfl ?_
        refine g_iload (pc := 646) dL_act_646 rfl ?_
        refine g_if_ne (pc := 648) (tgt := 681) dL_act_648 rfl (fun _ => ?_) (fun h648 => absurd ((by decide)) h648)
        refine g_iload (pc := 681) dL_act_681 rfl ?_
        refine g_iconst (pc := 683) (v := 1) dL_act_683 rfl ?_
        refine g_icmp_ne (pc := 684) (tgt := 717) dL_act_684 rfl (fun _ => ?_) (fun h684 => absurd ((by decide)) h684)
        refine g_iload (pc := 717) dL_act_717 rfl ?_
        refine g_iconst (pc := 719) (v := 2) dL_act_719 rfl ?_
        refine g_icmp_ne (pc := 720) (tgt := 750) dL_act_720 rfl (fun _ => ?_) (fun h720 => absurd ((by decide)) h720)
        refine g_aload (pc := 750) dL_act_750 rfl trivial ?_
        refine g_iload (pc := 752) dL_act_752 rfl ?_
        refine g_aaload_Z1 (pc := 754) dL_act_754 hm8.1 rfl hi (by omega) (hm8.2 i hi).1 ?_
        refine g_iload (pc := 755) dL_act_755 rfl ?_
        refine g_zaload (pc := 757) dL_act_757 (hm8.2 i hi).2.1 rfl hj (by omega) ?_
        rw [vx]
        refine g_if_eq (pc := 758) (tgt := 776) dL_act_758 rfl (fun _ => ?_) (fun h758 => absurd (rfl) h758)
        refine g_iconst (pc := 776) (v := 0) dL_act_776 rfl ?_
        refine g_zastore (pc := 777) dL_act_777 (f2.2 i hi).2.1 rfl hj (by omega) ?_
        refine g_iinc (pc := 778) (lv' := [(0, _), (2, _), (4, _), (5, _), (7, _), (8, _), (9, _), (13, _), (16, _), (17, _), (18, _), (19, _), (20, _), (21, _), (22, _)]) dL_act_778 rfl (nI_1 _) (nl rfl) rfl ?_
        refine g_goto (pc := 781) (tgt := 629) dL_act_781 rfl ?_
        exact g_subk (hput false hv) ⟨rfl, rfl, rfl, rfl, rfl, rfl, rfl, rfl, rfl, rfl, rfl, rfl, rfl, rfl, rfl, trivial⟩
      · refine g_iload (pc := 629) dL_act_629 rfl ?_
        refine g_aload (pc := 631) dL_act_631 rfl trivial ?_
        refine g_getf (pc := 633) (v := .int _) dL_act_633 fk_L_45 hd8 (fun _ => congrArg Value.int (hz8)) ?_
        refine g_icmp_ge (pc := 636) (tgt := 784) dL_act_636 rfl (fun h636 => absurd h636 (nI_ge hj (by omega))) (fun _ => ?_)
        refine g_aload (pc := 639) dL_act_639 rfl trivial ?_
        refine g_iload (pc := 641) dL_act_641 rfl ?_
        refine g_aaload_Z1 (pc := 643) dL_act_643 f2.1 rfl hi (by omega) (f2.2 i hi).1 ?_
        refine g_iload (pc := 644) dL_act_644 rfl ?_
        refine g_iload (pc := 646) dL_act_646 rfl ?_
        refine g_if_ne (pc := 648) (tgt := 681) dL_act_648 rfl (fun _ => ?_) (fun h648 => absurd ((by decide)) h648)
        refine g_iload (pc := 681) dL_act_681 rfl ?_
        refine g_iconst (pc := 683) (v := 1) dL_act_683 rfl ?_
        refine g_icmp_ne (pc := 684) (tgt := 717) dL_act_684 rfl (fun _ => ?_) (fun h684 => absurd ((by decide)) h684)
        refine g_iload (pc := 717) dL_act_717 rfl ?_
        refine g_iconst (pc := 719) (v := 2) dL_act_719 rfl ?_
        refine g_icmp_ne (pc := 720) (tgt := 750) dL_act_720 rfl (fun _ => ?_) (fun h720 => absurd ((by decide)) h720)
        refine g_aload (pc := 750) dL_act_750 rfl trivial ?_
        refine g_iload (pc := 752) dL_act_752 rfl ?_
        refine g_aaload_Z1 (pc := 754) dL_act_754 hm8.1 rfl hi (by omega) (hm8.2 i hi).1 ?_
        refine g_iload (pc := 755) dL_act_755 rfl ?_
        refine g_zaload (pc := 757) dL_act_757 (hm8.2 i hi).2.1 rfl hj (by omega) ?_
        rw [vx]
        refine g_if_eq (pc := 758) (tgt := 776) dL_act_758 rfl (fun _ => ?_) (fun h758 => absurd (rfl) h758)
        refine g_iconst (pc := 776) (v := 0) dL_act_776 rfl ?_
        refine g_zastore (pc := 777) dL_act_777 (f2.2 i hi).2.1 rfl hj (by omega) ?_
        refine g_iinc (pc := 778) (lv' := [(0, _), (2, _), (4, _), (5, _), (7, _), (8, _), (9, _), (13, _), (16, _), (17, _), (18, _), (19, _), (20, _), (21, _), (22, _)]) dL_act_778 rfl (nI_1 _) (nl rfl) rfl ?_
        refine g_goto (pc := 781) (tgt := 629) dL_act_781 rfl ?_
        exact g_subk (hput false hv) ⟨rfl, rfl, rfl, rfl, rfl, rfl, rfl, rfl, rfl, rfl, rfl, rfl, rfl, rfl, rfl, trivial⟩
      · refine g_iload (pc := 629) dL_act_629 rfl ?_
        refine g_aload (pc := 631) dL_act_631 rfl trivial ?_
        refine g_getf (pc := 633) (v := .int _) dL_act_633 fk_L_45 hd8 (fun _ => congrArg Value.int (hz8)) ?_
        refine g_icmp_ge (pc := 636) (tgt := 784) dL_act_636 rfl (fun h636 => absurd h636 (nI_ge hj (by omega))) (fun _ => ?_)
        refine g_aload (pc := 639) dL_act_639 rfl trivial ?_
        refine g_iload (pc := 641) dL_act_641 rfl ?_
        refine g_aaload_Z1 (pc := 643) dL_act_643 f2.1 rfl hi (by omega) (f2.2 i hi).1 ?_
        refine g_iload (pc := 644) dL_act_644 rfl ?_
        refine g_iload (pc := 646) dL_act_646 rfl ?_
        refine g_if_ne (pc := 648) (tgt := 681) dL_act_648 rfl (fun _ => ?_) (fun h648 => absurd ((by decide)) h648)
        refine g_iload (pc := 681) dL_act_681 rfl ?_
        refine g_iconst (pc := 683) (v := 1) dL_act_683 rfl ?_
        refine g_icmp_ne (pc := 684) (tgt := 717) dL_act_684 rfl (fun _ => ?_) (fun h684 => absurd ((by decide)) h684)
        refine g_iload (pc := 717) dL_act_717 rfl ?_
        refine g_iconst (pc := 719) (v := 2) dL_act_719 rfl ?_
        refine g_icmp_ne (pc := 720) (tgt := 750) dL_act_720 rfl (fun _ => ?_) (fun h720 => absurd ((by decide)) h720)
        refine g_aload (pc := 750) dL_act_750 rfl trivial ?_
        refine g_iload (pc := 752) dL_act_752 rfl ?_
        refine g_aaload_Z1 (pc := 754) dL_act_754 hm8.1 rfl hi (by omega) (hm8.2 i hi).1 ?_
        refine g_iload (pc := 755) dL_act_755 rfl ?_
        refine g_zaload (pc := 757) dL_act_757 (hm8.2 i hi).2.1 rfl hj (by omega) ?_
        rw [vx]
        refine g_if_eq (pc := 758) (tgt := 776) dL_act_758 rfl (fun h758 => absurd h758 ((by decide))) (fun _ => ?_)
        refine g_aload (pc := 761) dL_act_761 rfl trivial ?_
        refine g_iload (pc := 763) dL_act_763 rfl ?_
        refine g_aaload_Z1 (pc := 765) dL_act_765 hp8.1 rfl hi (by omega) (hp8.2 i hi).1 ?_
        refine g_iload (pc := 766) dL_act_766 rfl ?_
        refine g_zaload (pc := 768) dL_act_768 (hp8.2 i hi).2.1 rfl hj (by omega) ?_
        rw [vy]
        refine g_if_ne (pc := 769) (tgt := 776) dL_act_769 rfl (fun h769 => absurd h769 ((fun z => z rfl))) (fun _ => ?_)
        refine g_iconst (pc := 772) (v := 1) dL_act_772 rfl ?_
        refine g_goto (pc := 773) (tgt := 777) dL_act_773 rfl ?_
        refine g_zastore (pc := 777) dL_act_777 (f2.2 i hi).2.1 rfl hj (by omega) ?_
        refine g_iinc (pc := 778) (lv' := [(0, _), (2, _), (4, _), (5, _), (7, _), (8, _), (9, _), (13, _), (16, _), (17, _), (18, _), (19, _), (20, _), (21, _), (22, _)]) dL_act_778 rfl (nI_1 _) (nl rfl) rfl ?_
        refine g_goto (pc := 781) (tgt := 629) dL_act_781 rfl ?_
        exact g_subk (hput true hv) ⟨rfl, rfl, rfl, rfl, rfl, rfl, rfl, rfl, rfl, rfl, rfl, rfl, rfl, rfl, rfl, trivial⟩
      · refine g_iload (pc := 629) dL_act_629 rfl ?_
        refine g_aload (pc := 631) dL_act_631 rfl trivial ?_
        refine g_getf (pc := 633) (v := .int _) dL_act_633 fk_L_45 hd8 (fun _ => congrArg Value.int (hz8)) ?_
        refine g_icmp_ge (pc := 636) (tgt := 784) dL_act_636 rfl (fun h636 => absurd h636 (nI_ge hj (by omega))) (fun _ => ?_)
        refine g_aload (pc := 639) dL_act_639 rfl trivial ?_
        refine g_iload (pc := 641) dL_act_641 rfl ?_
        refine g_aaload_Z1 (pc := 643) dL_act_643 f2.1 rfl hi (by omega) (f2.2 i hi).1 ?_
        refine g_iload (pc := 644) dL_act_644 rfl ?_
        refine g_iload (pc := 646) dL_act_646 rfl ?_
        refine g_if_ne (pc := 648) (tgt := 681) dL_act_648 rfl (fun _ => ?_) (fun h648 => absurd ((by decide)) h648)
        refine g_iload (pc := 681) dL_act_681 rfl ?_
        refine g_iconst (pc := 683) (v := 1) dL_act_683 rfl ?_
        refine g_icmp_ne (pc := 684) (tgt := 717) dL_act_684 rfl (fun _ => ?_) (fun h684 => absurd ((by decide)) h684)
        refine g_iload (pc := 717) dL_act_717 rfl ?_
        refine g_iconst (pc := 719) (v := 2) dL_act_719 rfl ?_
        refine g_icmp_ne (pc := 720) (tgt := 750) dL_act_720 rfl (fun _ => ?_) (fun h720 => absurd ((by decide)) h720)
        refine g_aload (pc := 750) dL_act_750 rfl trivial ?_
        refine g_iload (pc := 752) dL_act_752 rfl ?_
        refine g_aaload_Z1 (pc := 754) dL_act_754 hm8.1 rfl hi (by omega) (hm8.2 i hi).1 ?_
        refine g_iload (pc := 755) dL_act_755 rfl ?_
        refine g_zaload (pc := 757) dL_act_757 (hm8.2 i hi).2.1 rfl hj (by omega) ?_
        rw [vx]
        refine g_if_eq (pc := 758) (tgt := 776) dL_act_758 rfl (fun h758 => absurd h758 ((by decide))) (fun _ => ?_)
        refine g_aload (pc := 761) dL_act_761 rfl trivial ?_
        refine g_iload (pc := 763) dL_act_763 rfl ?_
        refine g_aaload_Z1 (pc := 765) dL_act_765 hp8.1 rfl hi (by omega) (hp8.2 i hi).1 ?_
        refine g_iload (pc := 766) dL_act_766 rfl ?_
        refine g_zaload (pc := 768) dL_act_768 (hp8.2 i hi).2.1 rfl hj (by omega) ?_
        rw [vy]
        refine g_if_ne (pc := 769) (tgt := 776) dL_act_769 rfl (fun _ => ?_) (fun h769 => absurd ((by decide)) h769)
        refine g_iconst (pc := 776) (v := 0) dL_act_776 rfl ?_
        refine g_zastore (pc := 777) dL_act_777 (f2.2 i hi).2.1 rfl hj (by omega) ?_
        refine g_iinc (pc := 778) (lv' := [(0, _), (2, _), (4, _), (5, _), (7, _), (8, _), (9, _), (13, _), (16, _), (17, _), (18, _), (19, _), (20, _), (21, _), (22, _)]) dL_act_778 rfl (nI_1 _) (nl rfl) rfl ?_
        refine g_goto (pc := 781) (tgt := 629) dL_act_781 rfl ?_
        exact g_subk (hput false hv) ⟨rfl, rfl, rfl, rfl, rfl, rfl, rfl, rfl, rfl, rfl, rfl, rfl, rfl, rfl, rfl, trivial⟩
    · rintro Mz ⟨f1, f2⟩
      obtain ⟨hd8, hz8, hm8⟩ := cl f1
      refine g_iload (pc := 629) dL_act_629 rfl ?_
      refine g_aload (pc := 631) dL_act_631 rfl trivial ?_
      refine g_getf (pc := 633) (v := .int _) dL_act_633 fk_L_45 hd8 (fun _ => congrArg Value.int (hz8)) ?_
      refine g_icmp_ge (pc := 636) (tgt := 784) dL_act_636 rfl (fun _ => ?_) (fun h636 => absurd (nI_le (Nat.le_refl _) (by omega)) h636)
      refine g_iinc (pc := 784) (lv' := [(0, _), (2, _), (4, _), (5, _), (7, _), (8, _), (9, _), (13, _), (16, _), (17, _), (18, _), (19, _), (20, _), (21, _), (22, _)]) dL_act_784 rfl (nI_1 _) (nl rfl) rfl ?_
      refine g_goto (pc := 787) (tgt := 616) dL_act_787 rfl ?_
      exact g_subk (ih Mz ⟨f1, Mt.next (τ := fun r => r) f2 (fun _ h => h)⟩) ⟨rfl, rfl, rfl, rfl, rfl, rfl, rfl, rfl, rfl, rfl, rfl, rfl, rfl, rfl, trivial⟩
  · rintro My ⟨g1, g2⟩
    obtain ⟨hd9, hz9, hm9⟩ := cl g1
    have gM : Mt My N n (fun r => N + 1 + r) (fB g) := g2.cg (fun r c hr hc => if_pos (Or.inl hr))
    have gd : Xt (fun i => i = d) M My := g1.up (fun i hi z => by omega)
    have gD : DK My d n q u := hD.xt hO g1 (fun i hi z => by omega)
    refine g_wk (Nat.le_refl 1090) (Nat.le_refl 8910) ?_

    obtain ⟨M2, e1, e2, e3, e4, e5, e6, e7⟩ := st_law (l := l) (g := g) hD hO gd gD gM (Nat.le_of_eq hN) (by omega) ht (fun _ _ _ _ => rfl) hn32
    have hZ2 := hZ.xt e4 e6 e5
    have hS2 : mS M2 = mS M := e4.2.2.1
    obtain ⟨M3, c1, c2, c3⟩ := c_combine (l := l) hZ2.1 hs ho ht (w := 3) (by decide)
    rw [hZ.am e4 e6 hs, hZ.am e4 e6 ho] at c1 c3
    have hw : onesF g n = nI (cM (fB g) n n) := on_c hn32 (by rw [hg]; exact wf_comb (hZ.1.wf hs) (hZ.1.wf ho)) n (Nat.le_refl n)
    rw [← hg, hw] at c1
    rw [← hg] at c3
    rw [← hS2]
    refine g_iload (pc := 616) dL_act_616 rfl ?_
    refine g_aload (pc := 618) dL_act_618 rfl trivial ?_
    refine g_getf (pc := 620) (v := .int _) dL_act_620 fk_L_45 hd9 (fun _ => congrArg Value.int (hz9)) ?_
    refine g_icmp_ge (pc := 623) (tgt := 790) dL_act_623 rfl (fun _ => ?_) (fun h623 => absurd (nI_le (Nat.le_refl _) (by omega)) h623)
    refine g_aload (pc := 790) dL_act_790 rfl trivial ?_
    refine g_iload (pc := 792) dL_act_792 rfl ?_
    refine g_aload (pc := 794) dL_act_794 rfl trivial ?_
    refine g_invV_r (pc := 796) (As := [_, _]) dL_act_796 rfl (e1) rfl rfl hd9 rfl rfl lk_L_155 rfl (nb rfl) ⟨nb rfl, nb rfl⟩ rfl ?_
    refine g_aload (pc := 799) dL_act_799 rfl trivial ?_
    refine g_aload (pc := 801) dL_act_801 rfl trivial ?_
    refine g_invV_r (pc := 803) (As := [_]) dL_act_803 rfl (k_ones e7 hn) rfl rfl e2.1.1 rfl rfl lk_L_159 rfl (nb rfl) ⟨nb rfl, nb rfl⟩ rfl ?_
    refine g_istore (pc := 806) (lv' := [(0, _), (2, _), (4, _), (5, _), (7, _), (8, _), (9, _), (13, _), (16, _), (17, _), (18, _), (19, _), (20, _), (21, _), (14, _)]) dL_act_806 (nl rfl) rfl ?_
    refine g_aload_n (pc := 808) dL_act_808 rfl trivial ?_
    refine g_iload (pc := 809) dL_act_809 rfl ?_
    refine g_iload (pc := 811) dL_act_811 rfl ?_
    refine g_iload (pc := 813) dL_act_813 rfl ?_
    refine g_iload (pc := 815) dL_act_815 rfl ?_
    refine g_invV_r (pc := 817) (As := [_, _, _, _]) dL_act_817 rfl (c1) rfl rfl (shK hZ2.1.S rfl) rfl rfl lk_L_168 rfl (nb rfl) ⟨nb rfl, nb rfl⟩ rfl ?_
    refine g_istore (pc := 820) (lv' := [(0, _), (2, _), (4, _), (5, _), (7, _), (8, _), (9, _), (13, _), (16, _), (17, _), (18, _), (19, _), (20, _), (21, _), (14, _), (15, _)]) dL_act_820 (nl rfl) rfl ?_
    refine g_goto (pc := 822) (tgt := 1338) dL_act_822 rfl ?_
    refine g_wk (pc := 1338) (k := 2) (n := 16) (by decide) (by decide) ?_
    exact g_subk (k_fin hZ2 hu e2 e3 c2 c3) ⟨rfl, rfl, rfl, rfl, rfl, rfl, trivial⟩
end

-- 303.actc
/-! an action of the law: nodes exchanged -/
section
variable {l : Launch} {M : Mem} {A P n p d x s t o a b w MC MS : Nat} {is : Bool} {u : Nat → Int64} {ρ : Nat → Nat × Nat} {eo : Option Nat} {os : List OD} {nv : OD} {q : DQ}
theorem act_11 (hZ : AZ M A P n p os.length d u (usO os) ρ eo os nv) (hu : nv.2.2 = u) (hD : DK M d n q u) (hO : OW ρ d n q) (hs : s < 6) (ha : a < n) (hb9 : b < n) : Go l jL_act 12 400 MC MS (QA A P n (mS M)) 1081 [(0, .ref 0), (2, .ref P), (4, .ref d), (7, .int (nI s)), (10, .int (nI a)), (11, .int (nI b)), (13, .ref nv.1), (16, .int 1), (17, .ref (q.2.2.2.1 s))] [] 1100 9000 M := by
  have hn := hZ.2.2.2.2.2.2
  have hx := hZ.x
  have hz := hD.z
  have hn32 : n ≤ 32 := by omega
  obtain ⟨-, hm⟩ := hD.mm hZ.1 hs
  have hg9 : ∃ g : Nat → Int32, g = exF (Am M s) a b := ⟨_, rfl⟩
  obtain ⟨g, hg⟩ := hg9
  have hF := fresh_Mt M n
  have hX := os2_xt M .boolean n n
  have hdl := k_lt hD.1.1
  have hml := hm.lt
  refine g_aload (pc := 1081) dL_act_1081 rfl trivial ?_
  refine g_invV_r (pc := 1083) (As := []) dL_act_1083 rfl (k_fresh hD.1.1 hz hn hx) rfl rfl hD.1.1 rfl rfl lk_L_151 rfl (nb rfl) ⟨nb rfl, nb rfl⟩ rfl ?_
  show Go l _ _ _ _ _ _ _ _ ([.ref (mK M).length] : List Value) _ _ (opsM M (os2 .boolean n n (mK M).length))
  generalize hN : (mK M).length = N at *
  generalize opsM M (os2 .boolean n n N) = M1 at *
  have cl : ∀ {My : Mem}, Xt (fun y => N ≤ y) M My → (mK My)[d]? = some (.inr 7) ∧ mI My d 0 = nI n ∧ Mt My (q.2.2.2.1 s) n (q.2.2.2.2.1 s) (fB (Am M s)) := fun {My} h => ⟨h.k hD.1.1, (congrFun (h.I (k_lt hD.1.1) (by omega)) 0).trans hz, hm.xt h (by omega) (fun r hr => by have := hml.2 r hr; omega)⟩

  refine g_astore (pc := 1086) (lv' := [(0, _), (2, _), (4, _), (7, _), (10, _), (11, _), (13, _), (16, _), (17, _), (18, _)]) dL_act_1086 trivial (nl rfl) rfl ?_
  refine g_iconst (pc := 1088) (v := 0) dL_act_1088 rfl ?_
  refine g_istore (pc := 1089) (lv' := [(0, _), (2, _), (4, _), (7, _), (10, _), (11, _), (13, _), (16, _), (17, _), (18, _), (19, _)]) dL_act_1089 (nl rfl) rfl ?_
  refine go_forS (pc := 1091) n (fun i (_ : Mem) => [(0, .ref 0), (2, .ref P), (4, .ref d), (7, .int (nI s)), (10, .int (nI a)), (11, .int (nI b)), (13, .ref nv.1), (16, .int 1), (17, .ref (q.2.2.2.1 s)), (18, .ref N), (19, .int (nI i))]) (fun z => z) (fun i My => Xt (fun y => N ≤ y) M My ∧ Mt My N n (fun r => N + 1 + r) (fun r c => if srcN a b r < i ∨ (srcN a b r = i ∧ srcN a b c < 0) then hb (g r) c else false)) (fun _ => 1090) (fun _ => 8910) M1 ⟨rfl, rfl, rfl, rfl, rfl, rfl, rfl, rfl, rfl, rfl, rfl, trivial⟩ rfl rfl rfl ⟨hX.up (fun _ _ z => z.elim), hF.cg (fun r c _ _ => (if_neg (by omega)).symm)⟩ ?_ ?_
  · rintro i My hi ⟨g1, g2⟩ ih
    obtain ⟨hd9, hz9, hm9⟩ := cl g1
    refine g_iload (pc := 1091) dL_act_1091 rfl ?_
    refine g_aload (pc := 1093) dL_act_1093 rfl trivial ?_
    refine g_getf (pc := 1095) (v := .int _) dL_act_1095 fk_L_45 hd9 (fun _ => congrArg Value.int (hz9)) ?_
    refine g_icmp_ge (pc := 1098) (tgt := 1190) dL_act_1098 rfl (fun h1098 => absurd h1098 (nI_ge hi (by omega))) (fun _ => ?_)
    refine g_iconst (pc := 1101) (v := 0) dL_act_1101 rfl ?_
    refine g_istore (pc := 1102) (lv' := [(0, _), (2, _), (4, _), (7, _), (10, _), (11, _), (13, _), (16, _), (17, _), (18, _), (19, _), (20, _)]) dL_act_1102 (nl rfl) rfl ?_
    refine g_wk (pc := 1104) (Nat.le_refl 1090) (Nat.le_refl 8910) ?_
    refine go_forS (pc := 1104) n (fun j (_ : Mem) => [(0, .ref 0), (2, .ref P), (4, .ref d), (7, .int (nI s)), (10, .int (nI a)), (11, .int (nI b)), (13, .ref nv.1), (16, .int 1), (17, .ref (q.2.2.2.1 s)), (18, .ref N), (19, .int (nI i)), (20, .int (nI j))]) (fun z => z) (fun j My => Xt (fun y => N ≤ y) M My ∧ Mt My N n (fun r => N + 1 + r) (fun r c => if srcN a b r < i ∨ (srcN a b r = i ∧ srcN a b c < j) then hb (g r) c else false)) (fun _ => 1090) (fun _ => 8910) My ⟨rfl, rfl, rfl, rfl, rfl, rfl, rfl, rfl, rfl, rfl, rfl, rfl, trivial⟩ rfl rfl rfl ⟨g1, g2⟩ ?_ ?_
    · rintro j Mz hj ⟨f1, f2⟩ ih2
      obtain ⟨hd8, hz8, hm8⟩ := cl f1
      have hput : ∀ v : Bool, v = hb (g (srcN a b i)) (srcN a b j) → _ := fun v hv => ih2 (sI Mz (N + 1 + srcN a b i) (fun_set (mI Mz (N + 1 + srcN a b i)) (srcN a b j) (vp_nar .boolean (b1 v)))) ⟨f1.sI (fun _ => by omega), Mt.fill (τ := fun r => srcN a b r) (σ := fun i => srcN a b i) f2 hi hj (fun _ h => src_lt ha hb9 h) (fun _ _ => src_src) (fun _ _ => src_src) v hv⟩
      have hv : hb (Am M s i) j = hb (g (srcN a b i)) (srcN a b j) := by
        rw [hg, ex_w hn32 ha hb9, src_src, src_src]
      have si := src_lt ha hb9 hi
      have sj := src_lt ha hb9 hj
      have key2 : Go l jL_act 12 400 MC MS (QA A P n (mS M)) 1169 [(0, .ref 0), (2, .ref P), (4, .ref d), (7, .int (nI s)), (10, .int (nI a)), (11, .int (nI b)), (13, .ref nv.1), (16, .int 1), (17, .ref (q.2.2.2.1 s)), (18, .ref N), (19, .int (nI i)), (20, .int (nI j))] [.int (nI (srcN a b j)), .ref (N + 1 + srcN a b i)] 1090 8910 Mz := by
        refine g_aload (pc := 1169) dL_act_1169 rfl trivial ?_
        refine g_iload (pc := 1171) dL_act_1171 rfl ?_
        refine g_aaload_Z1 (pc := 1173) dL_act_1173 hm8.1 rfl hi (by omega) (hm8.2 i hi).1 ?_
        refine g_iload (pc := 1174) dL_act_1174 rfl ?_
        refine g_zaload (pc := 1176) dL_act_1176 (hm8.2 i hi).2.1 rfl hj (by omega) ?_
        rw [show mI Mz (q.2.2.2.2.1 s i) j = b1 (hb (Am M s i) j) from (hm8.2 i hi).2.2 j hj]
        refine g_zastore (pc := 1177) dL_act_1177 (f2.2 (srcN a b i) si).2.1 rfl sj (by omega) ?_
        refine g_iinc (pc := 1178) (lv' := [(0, _), (2, _), (4, _), (7, _), (10, _), (11, _), (13, _), (16, _), (17, _), (18, _), (19, _), (20, _)]) dL_act_1178 rfl (nI_1 _) (nl rfl) rfl ?_
        refine g_goto (pc := 1181) (tgt := 1104) dL_act_1181 rfl ?_
        exact g_subk (hput _ hv) ⟨rfl, rfl, rfl, rfl, rfl, rfl, rfl, rfl, rfl, rfl, rfl, rfl, trivial⟩
      have key1 : Go l jL_act 12 400 MC MS (QA A P n (mS M)) 1142 [(0, .ref 0), (2, .ref P), (4, .ref d), (7, .int (nI s)), (10, .int (nI a)), (11, .int (nI b)), (13, .ref nv.1), (16, .int 1), (17, .ref (q.2.2.2.1 s)), (18, .ref N), (19, .int (nI i)), (20, .int (nI j))] [.int (nI (srcN a b i)), .ref N] 1090 8910 Mz := by
        have hsj : srcN a b j = if j = a then b else if j = b then a else j := rfl
        by_cases e1 : j = a
        · rw [hsj, if_pos e1] at key2
          refine g_aaload_Z1 (pc := 1142) dL_act_1142 f2.1 rfl si (by omega) (f2.2 (srcN a b i) si).1 ?_
          refine g_iload (pc := 1143) dL_act_1143 rfl ?_
          refine g_iload (pc := 1145) dL_act_1145 rfl ?_
          refine g_icmp_ne (pc := 1147) (tgt := 1155) dL_act_1147 rfl (fun h1147 => absurd h1147 ((fun z => z (by rw [e1])))) (fun _ => ?_)
          refine g_iload (pc := 1150) dL_act_1150 rfl ?_
          refine g_goto (pc := 1152) (tgt := 1169) dL_act_1152 rfl ?_
          exact key2
        · have n1 : ¬ nI j = nI a := fun z => e1 (nI_inj9 (by omega) (by omega) z)
          by_cases e2 : j = b
          · rw [hsj, if_neg e1, if_pos e2] at key2
            refine g_aaload_Z1 (pc := 1142) dL_act_1142 f2.1 rfl si (by omega) (f2.2 (srcN a b i) si).1 ?_
            refine g_iload (pc := 1143) dL_act_1143 rfl ?_
            refine g_iload (pc := 1145) dL_act_1145 rfl ?_
            refine g_icmp_ne (pc := 1147) (tgt := 1155) dL_act_1147 rfl (fun _ => ?_) (fun h1147 => absurd (n1) h1147)
            refine g_iload (pc := 1155) dL_act_1155 rfl ?_
            refine g_iload (pc := 1157) dL_act_1157 rfl ?_
            refine g_icmp_ne (pc := 1159) (tgt := 1167) dL_act_1159 rfl (fun h1159 => absurd h1159 ((fun z => z (by rw [e2])))) (fun _ => ?_)
            refine g_iload (pc := 1162) dL_act_1162 rfl ?_
            refine g_goto (pc := 1164) (tgt := 1169) dL_act_1164 rfl ?_
            exact key2
          · have n2 : ¬ nI j = nI b := fun z => e2 (nI_inj9 (by omega) (by omega) z)
            rw [hsj, if_neg e1, if_neg e2] at key2
            refine g_aaload_Z1 (pc := 1142) dL_act_1142 f2.1 rfl si (by omega) (f2.2 (srcN a b i) si).1 ?_
            refine g_iload (pc := 1143) dL_act_1143 rfl ?_
            refine g_iload (pc := 1145) dL_act_1145 rfl ?_
            refine g_icmp_ne (pc := 1147) (tgt := 1155) dL_act_1147 rfl (fun _ => ?_) (fun h1147 => absurd (n1) h1147)
            refine g_iload (pc := 1155) dL_act_1155 rfl ?_
            refine g_iload (pc := 1157) dL_act_1157 rfl ?_
            refine g_icmp_ne (pc := 1159) (tgt := 1167) dL_act_1159 rfl (fun _ => ?_) (fun h1159 => absurd (n2) h1159)
            refine g_iload (pc := 1167) dL_act_1167 rfl ?_
            exact key2
      have hsi : srcN a b i = if i = a then b else if i = b then a else i := rfl
      by_cases e1 : i = a
      · rw [hsi, if_pos e1] at key1
        refine g_iload (pc := 1104) dL_act_1104 rfl ?_
        refine g_aload (pc := 1106) dL_act_1106 rfl trivial ?_
        refine g_getf (pc := 1108) (v := .int _) dL_act_1108 fk_L_45 hd8 (fun _ => congrArg Value.int (hz8)) ?_
        refine g_icmp_ge (pc := 1111) (tgt := 1184) dL_act_1111 rfl (fun h1111 => absurd h1111 (nI_ge hj (by omega))) (fun _ => ?_)
        refine g_aload (pc := 1114) dL_act_1114 rfl trivial ?_
        refine g_iload (pc := 1116) dL_act_1116 rfl ?_
        refine g_iload (pc := 1118) dL_act_1118 rfl ?_
        refine g_icmp_ne (pc := 1120) (tgt := 1128) dL_act_1120 rfl (fun h1120 => absurd h1120 ((fun z => z (by rw [e1])))) (fun _ => ?_)
        refine g_iload (pc := 1123) dL_act_1123 rfl ?_
        refine g_goto (pc := 1125) (tgt := 1142) dL_act_1125 rfl ?_
        exact key1
      · have n1 : ¬ nI i = nI a := fun z => e1 (nI_inj9 (by omega) (by omega) z)
        by_cases e2 : i = b
        · rw [hsi, if_neg e1, if_pos e2] at key1
          refine g_iload (pc := 1104) dL_act_1104 rfl ?_
          refine g_aload (pc := 1106) dL_act_1106 rfl trivial ?_
          refine g_getf (pc := 1108) (v := .int _) dL_act_1108 fk_L_45 hd8 (fun _ => congrArg Value.int (hz8)) ?_
          refine g_icmp_ge (pc := 1111) (tgt := 1184) dL_act_1111 rfl (fun h1111 => absurd h1111 (nI_ge hj (by omega))) (fun _ => ?_)
          refine g_aload (pc := 1114) dL_act_1114 rfl trivial ?_
          refine g_iload (pc := 1116) dL_act_1116 rfl ?_
          refine g_iload (pc := 1118) dL_act_1118 rfl ?_
          refine g_icmp_ne (pc := 1120) (tgt := 1128) dL_act_1120 rfl (fun _ => ?_) (fun h1120 => absurd (n1) h1120)
          refine g_iload (pc := 1128) dL_act_1128 rfl ?_
          refine g_iload (pc := 1130) dL_act_1130 rfl ?_
          refine g_icmp_ne (pc := 1132) (tgt := 1140) dL_act_1132 rfl (fun h1132 => absurd h1132 ((fun z => z (by rw [e2])))) (fun _ => ?_)
          refine g_iload (pc := 1135) dL_act_1135 rfl ?_
          refine g_goto (pc := 1137) (tgt := 1142) dL_act_1137 rfl ?_
          exact key1
        · have n2 : ¬ nI i = nI b := fun z => e2 (nI_inj9 (by omega) (by omega) z)
          rw [hsi, if_neg e1, if_neg e2] at key1
          refine g_iload (pc := 1104) dL_act_1104 rfl ?_
          refine g_aload (pc := 1106) dL_act_1106 rfl trivial ?_
          refine g_getf (pc := 1108) (v := .int _) dL_act_1108 fk_L_45 hd8 (fun _ => congrArg Value.int (hz8)) ?_
          refine g_icmp_ge (pc := 1111) (tgt := 1184) dL_act_1111 rfl (fun h1111 => absurd h1111 (nI_ge hj (by omega))) (fun _ => ?_)
          refine g_aload (pc := 1114) dL_act_1114 rfl trivial ?_
          refine g_iload (pc := 1116) dL_act_1116 rfl ?_
          refine g_iload (pc := 1118) dL_act_1118 rfl ?_
          refine g_icmp_ne (pc := 1120) (tgt := 1128) dL_act_1120 rfl (fun _ => ?_) (fun h1120 => absurd (n1) h1120)
          refine g_iload (pc := 1128) dL_act_1128 rfl ?_
          refine g_iload (pc := 1130) dL_act_1130 rfl ?_
          refine g_icmp_ne (pc := 1132) (tgt := 1140) dL_act_1132 rfl (fun _ => ?_) (fun h1132 => absurd (n2) h1132)
          refine g_iload (pc := 1140) dL_act_1140 rfl ?_
          exact key1
    · rintro Mz ⟨f1, f2⟩
      obtain ⟨hd8, hz8, hm8⟩ := cl f1
      refine g_iload (pc := 1104) dL_act_1104 rfl ?_
      refine g_aload (pc := 1106) dL_act_1106 rfl trivial ?_
      refine g_getf (pc := 1108) (v := .int _) dL_act_1108 fk_L_45 hd8 (fun _ => congrArg Value.int (hz8)) ?_
      refine g_icmp_ge (pc := 1111) (tgt := 1184) dL_act_1111 rfl (fun _ => ?_) (fun h1111 => absurd (nI_le (Nat.le_refl _) (by omega)) h1111)
      refine g_iinc (pc := 1184) (lv' := [(0, _), (2, _), (4, _), (7, _), (10, _), (11, _), (13, _), (16, _), (17, _), (18, _), (19, _), (20, _)]) dL_act_1184 rfl (nI_1 _) (nl rfl) rfl ?_
      refine g_goto (pc := 1187) (tgt := 1091) dL_act_1187 rfl ?_
      exact g_subk (ih Mz ⟨f1, Mt.next (τ := fun r => srcN a b r) f2 (fun _ h => src_lt ha hb9 h)⟩) ⟨rfl, rfl, rfl, rfl, rfl, rfl, rfl, rfl, rfl, rfl, rfl, trivial⟩
  · rintro My ⟨g1, g2⟩
    obtain ⟨hd9, hz9, hm9⟩ := cl g1
    have gM : Mt My N n (fun r => N + 1 + r) (fB g) := g2.cg (fun r c hr hc => if_pos (Or.inl (src_lt ha hb9 hr)))
    have gd : Xt (fun i => i = d) M My := g1.up (fun i hi z => by omega)
    have gD : DK My d n q u := hD.xt hO g1 (fun i hi z => by omega)
    refine g_wk (Nat.le_refl 1090) (Nat.le_refl 8910) ?_

    obtain ⟨M2, e1, e2, e3, e4, e5, e6, e7⟩ := st_law (l := l) (t := s) (g := g) hD hO gd gD gM (Nat.le_of_eq hN) (by omega) hs (fun _ _ _ _ => rfl) hn32
    have hZ2 := hZ.xt e4 e6 e5
    have hS2 : mS M2 = mS M := e4.2.2.1
    obtain ⟨M3, c1, c2, c3⟩ := c_exchange (l := l) hZ2.1 hs ha hb9
    rw [hZ.am e4 e6 hs] at c1 c3
    rw [ex_c hn32 (hZ.1.wf hs) ha hb9, ← hg] at c1
    rw [← hg] at c3
    rw [← hS2]
    refine g_iload (pc := 1091) dL_act_1091 rfl ?_
    refine g_aload (pc := 1093) dL_act_1093 rfl trivial ?_
    refine g_getf (pc := 1095) (v := .int _) dL_act_1095 fk_L_45 hd9 (fun _ => congrArg Value.int (hz9)) ?_
    refine g_icmp_ge (pc := 1098) (tgt := 1190) dL_act_1098 rfl (fun _ => ?_) (fun h1098 => absurd (nI_le (Nat.le_refl _) (by omega)) h1098)
    refine g_aload (pc := 1190) dL_act_1190 rfl trivial ?_
    refine g_aload (pc := 1192) dL_act_1192 rfl trivial ?_
    refine g_aload (pc := 1194) dL_act_1194 rfl trivial ?_
    refine g_invV_r (pc := 1196) (As := [_, _]) dL_act_1196 rfl (k_differ hd9 hz9 hm9 gM hn) rfl rfl hd9 rfl rfl lk_L_139 rfl (nb rfl) ⟨nb rfl, nb rfl⟩ rfl ?_
    refine g_istore (pc := 1199) (lv' := [(0, _), (2, _), (4, _), (7, _), (10, _), (11, _), (13, _), (16, _), (17, _), (18, _), (19, _), (14, _)]) dL_act_1199 (nl rfl) rfl ?_
    refine g_aload (pc := 1201) dL_act_1201 rfl trivial ?_
    refine g_iload (pc := 1203) dL_act_1203 rfl ?_
    refine g_aload (pc := 1205) dL_act_1205 rfl trivial ?_
    refine g_invV_r (pc := 1207) (As := [_, _]) dL_act_1207 rfl (e1) rfl rfl hd9 rfl rfl lk_L_155 rfl (nb rfl) ⟨nb rfl, nb rfl⟩ rfl ?_
    refine g_aload_n (pc := 1210) dL_act_1210 rfl trivial ?_
    refine g_iload (pc := 1211) dL_act_1211 rfl ?_
    refine g_iload (pc := 1213) dL_act_1213 rfl ?_
    refine g_iload (pc := 1215) dL_act_1215 rfl ?_
    refine g_invV_r (pc := 1217) (As := [_, _, _]) dL_act_1217 rfl (c1) rfl rfl (shK hZ2.1.S rfl) rfl rfl lk_L_199 rfl (nb rfl) ⟨nb rfl, nb rfl⟩ rfl ?_
    refine g_istore (pc := 1220) (lv' := [(0, _), (2, _), (4, _), (7, _), (10, _), (11, _), (13, _), (16, _), (17, _), (18, _), (19, _), (14, _), (15, _)]) dL_act_1220 (nl rfl) rfl ?_
    refine g_goto (pc := 1222) (tgt := 1338) dL_act_1222 rfl ?_
    refine g_wk (pc := 1338) (k := 2) (n := 16) (by decide) (by decide) ?_
    exact g_subk (k_fin hZ2 hu e2 e3 c2 c3) ⟨rfl, rfl, rfl, rfl, rfl, rfl, trivial⟩
end

-- 304.actd
/-! an action of the law: products, powers, closures -/
section
variable {l : Launch} {M : Mem} {A P n p d x s t o a b w MC MS : Nat} {is : Bool} {u : Nat → Int64} {ρ : Nat → Nat × Nat} {eo : Option Nat} {os : List OD} {nv : OD} {q : DQ}
theorem act_6 (hZ : AZ M A P n p os.length d u (usO os) ρ eo os nv) (hu : nv.2.2 = u) (hD : DK M d n q u) (hO : OW ρ d n q) (hs : s < 6) (ho : o < 6) (ht : t < 6) : Go l jL_act 12 400 MC MS (QA A P n (mS M)) 825 [(0, .ref 0), (2, .ref P), (4, .ref d), (7, .int (nI s)), (8, .int (nI o)), (9, .int (nI t)), (12, .int (b1 is)), (13, .ref nv.1), (16, .int 1), (17, .ref (q.2.2.2.1 s))] [] 1100 9000 M := by
  have hn := hZ.2.2.2.2.2.2
  have hx := hZ.x
  have hz := hD.z
  have hn32 : n ≤ 32 := by omega
  obtain ⟨bl, h1, h8, hb2, hb3⟩ := hZ.1.bl
  have hbl : mI M d 1 = nI bl := by rw [hD.2.1.2.1, hb3, lN_any]
  obtain ⟨-, hm⟩ := hD.mm hZ.1 hs
  obtain ⟨-, hmo⟩ := hD.mm hZ.1 ho
  refine g_aload (pc := 825) dL_act_825 rfl trivial ?_
  refine g_iload (pc := 827) dL_act_827 rfl ?_
  refine g_aload (pc := 829) dL_act_829 rfl trivial ?_
  refine g_aload (pc := 831) dL_act_831 rfl trivial ?_
  refine g_aload (pc := 833) dL_act_833 rfl trivial ?_
  refine g_getf (pc := 835) dL_act_835 fk_L_52 hD.1.1 (fv_arr hD.1.2.1) ?_
  refine g_iload (pc := 838) dL_act_838 rfl ?_
  refine g_aaload_Z2 (pc := 840) dL_act_840 hD.2.2.1.1 rfl ho (by omega) (hD.2.2.2 o ho).1.1 ?_
  refine g_iload (pc := 841) dL_act_841 rfl ?_
  refine g_invV_o (pc := 843) (As := [_, _, _]) dL_act_843 rfl (k_product (is := is) hD.1.1 hz hbl h1 h8 hm hmo hn hx) rfl rfl hD.1.1 rfl rfl lk_L_172 rfl (nb rfl) ⟨nb rfl, nb rfl⟩ rfl (fun v1 M1 hq => ?_)
  obtain ⟨m9, b9, K, rfl, w1, w2, w3, ⟨w4, w5⟩, x1, x2, x3, x4, x5, x6⟩ := hq
  rw [tkB_w h1 h8 hn w5] at x6
  have hK := blk_eq h1 w4 w5
  subst hK
  show Go l _ _ _ _ _ _ _ _ ([.ref m9, .int (nI t), .ref d] : List Value) _ _ _
  have g1 : ∀ j, j ≠ 2 → j ≠ 3 → fun_set (fun_set u 2 (lN (mdN n bl (blocks n bl)))) 3 (lN (tkN (Am M s) n bl (blocks n bl))) j = u j := fun j h2 h3 => by rw [fs_ne _ _ h3, fs_ne _ _ h2]
  have hD1 : DK M1 d n q (fun_set (fun_set u 2 (lN (mdN n bl (blocks n bl)))) 3 (lN (tkN (Am M s) n bl (blocks n bl)))) := hD.head hO x1 x2 x3 (by rw [x4, g1 1 (by decide) (by decide), hb3, lN_any]) (by rw [x5, fs_ne _ _ (by decide), fs_self, lN_any]) (by rw [x6, fs_self, lN_any]) (fun t ht => ⟨fun r _ => g1 _ (by omega) (by omega), g1 _ (by omega) (by omega), g1 _ (by omega) (by omega), g1 _ (by omega) (by omega), g1 _ (by omega) (by omega)⟩)
  obtain ⟨g, hg⟩ : ∃ g : Nat → Int32, g = mlF is (Am M s) (Am M o) n := ⟨_, rfl⟩
  have gM : Mt M1 m9 n (fun r => b9 + r) (fB g) := w1.cg (fun r c _ _ => by rw [hg]; exact mlB_w)
  obtain ⟨M2, e1, e2, e3, e4, e5, e6, e7⟩ := st_law (l := l) (g := g) hD hO x1 hD1 gM w2 w3 ht (fun _ _ _ _ => rfl) hn32
  have hZ2 := hZ.xt e4 e6 e5
  have hS2 : mS M2 = mS M := e4.2.2.1
  obtain ⟨M3, c1, c2, c3⟩ := c_product (l := l) (fl := is) hZ2.1 hb3 (by rw [hZ.i e4 e6 (show 3 < 198 by decide)]; exact hb2) h1 h8 hs ho ht
  rw [hZ.am e4 e6 hs, hZ.am e4 e6 ho] at c1 c3
  have hw : onesF g n = nI (cM (fB g) n n) := on_c hn32 (by rw [hg]; exact wf_ml (hZ.1.wf ho)) n (Nat.le_refl n)
  rw [← hg, hw] at c1
  rw [← hg] at c3
  rw [← hS2]
  refine g_invV_r (pc := 846) (As := [_, _]) dL_act_846 rfl (e1) rfl rfl hD1.1.1 rfl rfl lk_L_155 rfl (nb rfl) ⟨nb rfl, nb rfl⟩ rfl ?_
  refine g_aload (pc := 849) dL_act_849 rfl trivial ?_
  refine g_aload (pc := 851) dL_act_851 rfl trivial ?_
  refine g_getf (pc := 853) dL_act_853 fk_L_52 e2.1.1 (fv_arr e2.1.2.1) ?_
  refine g_iload (pc := 856) dL_act_856 rfl ?_
  refine g_aaload_Z2 (pc := 858) dL_act_858 e2.2.2.1.1 rfl ht (by omega) (qM_t e2 ht) ?_
  refine g_invV_r (pc := 859) (As := [_]) dL_act_859 rfl (k_ones e7 hn) rfl rfl e2.1.1 rfl rfl lk_L_159 rfl (nb rfl) ⟨nb rfl, nb rfl⟩ rfl ?_
  refine g_istore (pc := 862) (lv' := [(0, _), (2, _), (4, _), (7, _), (8, _), (9, _), (12, _), (13, _), (16, _), (17, _), (14, _)]) dL_act_862 (nl rfl) rfl ?_
  refine g_aload_n (pc := 864) dL_act_864 rfl trivial ?_
  refine g_iload (pc := 865) dL_act_865 rfl ?_
  refine g_iload (pc := 867) dL_act_867 rfl ?_
  refine g_iload (pc := 869) dL_act_869 rfl ?_
  refine g_iload (pc := 871) dL_act_871 rfl ?_
  refine g_invV_r (pc := 873) (As := [_, _, _, _]) dL_act_873 rfl (c1) rfl rfl (shK hZ2.1.S rfl) rfl rfl lk_L_176 rfl (nb rfl) ⟨nb rfl, nb rfl⟩ rfl ?_
  refine g_istore (pc := 876) (lv' := [(0, _), (2, _), (4, _), (7, _), (8, _), (9, _), (12, _), (13, _), (16, _), (17, _), (14, _), (15, _)]) dL_act_876 (nl rfl) rfl ?_
  refine g_goto (pc := 878) (tgt := 1338) dL_act_878 rfl ?_
  refine g_wk (pc := 1338) (k := 2) (n := 16) (by decide) (by decide) ?_
  exact g_subk (k_fin hZ2 hu e2 e3 c2 c3) ⟨rfl, rfl, rfl, rfl, rfl, rfl, trivial⟩
theorem pwH_5 {is : Bool} {f : Nat → Nat → Bool} {e : Nat} (he : e < 64) : pwH is f n 5 e = pwH is f n 6 e := by
  unfold pwH
  rw [pwG_t 5 6 (e / 2) (by show e / 2 < 32; omega) (by show e / 2 < 64; omega)]
theorem act_8 (hZ : AZ M A P n p os.length d u (usO os) ρ eo os nv) (hu : nv.2.2 = u) (hD : DK M d n q u) (hO : OW ρ d n q) (hx9 : x < 2147483648) (hs : s < 6) (ht : t < 6) : Go l jL_act 12 400 MC MS (QA A P n (mS M)) 881 [(0, .ref 0), (2, .ref P), (4, .ref d), (5, .int (nI x)), (7, .int (nI s)), (9, .int (nI t)), (12, .int (b1 is)), (13, .ref nv.1), (16, .int 1), (17, .ref (q.2.2.2.1 s))] [] 1100 9000 M := by
  have hn := hZ.2.2.2.2.2.2
  have hx := hZ.x
  have hz := hD.z
  have hn32 : n ≤ 32 := by omega
  obtain ⟨bl, h1, h8, hb2, hb3⟩ := hZ.1.bl
  have hbl : mI M d 1 = nI bl := by rw [hD.2.1.2.1, hb3, lN_any]
  obtain ⟨-, hm⟩ := hD.mm hZ.1 hs
  refine g_iload (pc := 881) dL_act_881 rfl ?_
  refine g_ldc (pc := 883) dL_act_883 wd_x990 ?_
  refine g_idiv (pc := 885) dL_act_885 (by decide) ?_
  rw [show nI x / 262144 = nI (x / 262144) from nI_div (b := 262144) hx9 (by decide)]
  refine g_bipush (pc := 886) (v := 40) dL_act_886 rfl ?_
  refine g_irem (pc := 888) dL_act_888 (by decide) ?_
  rw [show nI (x / 262144) - nI (x / 262144) / 40 * 40 = nI (x / 262144 % 40) from nI_rem (b := 40) (by omega) (by decide)]
  refine g_istore (pc := 889) (lv' := [(0, _), (2, _), (4, _), (5, _), (7, _), (9, _), (12, _), (13, _), (16, _), (17, _), (18, _)]) dL_act_889 (nl rfl) rfl ?_
  skip
  have he40 : x / 262144 % 40 < 40 := Nat.mod_lt _ (by decide)
  generalize x / 262144 % 40 = e at *
  have he : e < 64 := by omega
  have hp9 : EvO l jX7_power 8 300 130 1170 [.ref d, .ref (q.2.2.2.1 s), .int (nI e), .int (b1 is)] M _ := k_power (is := is) hn h1 h8 6 e M he he hD.1.1 hz hbl hm hx
  refine g_aload (pc := 891) dL_act_891 rfl trivial ?_
  refine g_iload (pc := 893) dL_act_893 rfl ?_
  refine g_aload (pc := 895) dL_act_895 rfl trivial ?_
  refine g_aload (pc := 897) dL_act_897 rfl trivial ?_
  refine g_iload (pc := 899) dL_act_899 rfl ?_
  refine g_iload (pc := 901) dL_act_901 rfl ?_
  refine g_invV_o (pc := 903) (As := [_, _, _]) dL_act_903 rfl (hp9) rfl rfl hD.1.1 rfl rfl lk_L_178 rfl (nb rfl) ⟨nb rfl, nb rfl⟩ rfl (fun v1 M1 hq => ?_)
  obtain ⟨m9, b9, rfl, w1, w2, w3, x1, x2, x3, x4, x5, x6⟩ := hq
  obtain ⟨a1, a2, a3⟩ := pw_w (u := u) (is := is) (bl := bl) (f := Am M s) hn32 he
  show Go l _ _ _ _ _ _ _ _ ([.ref m9, .int (nI t), .ref d] : List Value) _ _ _
  obtain ⟨Z, hZZ⟩ : ∃ Z, Z = pwZ u (Am M s) is n bl e := ⟨_, rfl⟩
  rw [← hZZ] at a1 a2 a3
  have g1 : ∀ j, j ≠ 2 → j ≠ 3 → fun_set (fun_set u 2 Z.2.1) 3 Z.2.2.1 j = u j := fun j h2 h3 => by rw [fs_ne _ _ h3, fs_ne _ _ h2]
  have hnum : mI M1 d 2 = Z.2.1.toInt32 ∧ mI M1 d 3 = Z.2.2.1.toInt32 := by
    by_cases e0 : e = 0
    · obtain ⟨y1, y2⟩ := a3 e0
      rw [x5 e0, y1, y2]
      exact ⟨hD.2.1.2.2.1, hD.2.1.2.2.2⟩
    · obtain ⟨y1, B, y2, y3⟩ := a2 e0
      obtain ⟨K, ⟨w4, w5⟩, z1, z2⟩ := x6 e0
      have hK := blk_eq h1 w4 w5
      subst hK
      rw [y1, y2, z1, z2, lN_any, lN_any, ← tkB_w (f := B) h1 h8 hn w5, show (6 - 1 : Nat) = 5 from rfl, pwH_5 he]
      exact ⟨rfl, congrArg nI (tkB_cg (fun r c hr hc => (y3 r c hr hc).symm) _)⟩
  have hD1 : DK M1 d n q (fun_set (fun_set u 2 Z.2.1) 3 Z.2.2.1) := hD.head hO x1 x2 x3 (by rw [x4, g1 1 (by decide) (by decide), hb3, lN_any]) (by rw [fs_ne _ _ (by decide), fs_self]; exact hnum.1) (by rw [fs_self]; exact hnum.2) (fun t ht => ⟨fun r _ => g1 _ (by omega) (by omega), g1 _ (by omega) (by omega), g1 _ (by omega) (by omega), g1 _ (by omega) (by omega), g1 _ (by omega) (by omega)⟩)
  have gM : Mt M1 m9 n (fun r => b9 + r) (fB Z.1) := w1.cg (fun r c hr hc => (a1 r c hr hc).symm)
  obtain ⟨M2, e1, e2, e3, e4, e5, e6, e7⟩ := st_law (l := l) (g := Z.1) hD hO x1 hD1 gM w2 w3 ht (fun _ _ _ _ => rfl) hn32
  have hZ2 := hZ.xt e4 e6 e5
  have hS2 : mS M2 = mS M := e4.2.2.1
  obtain ⟨M3, c1, c2, c3⟩ := c_power (l := l) (fl := is) (m := e) hZ2.1 (by rw [hZ.i e4 e6 (show 3 < 198 by decide)]; exact hb2) h1 h8 hs ht (by omega)
  rw [hZ.am e4 e6 hs] at c1 c3
  have hwf : wfr n Z.1 := by
    rw [hZZ]
    exact wf_pwL (hZ.1.wf hs) _ _ (fun r hr c hc => by
      show hb (bitI r) c = false
      rw [hb_bitI (by omega), decide_eq_false (by omega)])
  have hw : onesF Z.1 n = nI (cM (fB Z.1) n n) := on_c hn32 hwf n (Nat.le_refl n)
  rw [← hZZ, hw] at c1
  rw [← hZZ] at c3
  rw [← hS2]
  refine g_invV_r (pc := 906) (As := [_, _]) dL_act_906 rfl (e1) rfl rfl hD1.1.1 rfl rfl lk_L_155 rfl (nb rfl) ⟨nb rfl, nb rfl⟩ rfl ?_
  refine g_aload (pc := 909) dL_act_909 rfl trivial ?_
  refine g_aload (pc := 911) dL_act_911 rfl trivial ?_
  refine g_getf (pc := 913) dL_act_913 fk_L_52 e2.1.1 (fv_arr e2.1.2.1) ?_
  refine g_iload (pc := 916) dL_act_916 rfl ?_
  refine g_aaload_Z2 (pc := 918) dL_act_918 e2.2.2.1.1 rfl ht (by omega) (qM_t e2 ht) ?_
  refine g_invV_r (pc := 919) (As := [_]) dL_act_919 rfl (k_ones e7 hn) rfl rfl e2.1.1 rfl rfl lk_L_159 rfl (nb rfl) ⟨nb rfl, nb rfl⟩ rfl ?_
  refine g_istore (pc := 922) (lv' := [(0, _), (2, _), (4, _), (5, _), (7, _), (9, _), (12, _), (13, _), (16, _), (17, _), (18, _), (14, _)]) dL_act_922 (nl rfl) rfl ?_
  refine g_aload_n (pc := 924) dL_act_924 rfl trivial ?_
  refine g_iload (pc := 925) dL_act_925 rfl ?_
  refine g_iload (pc := 927) dL_act_927 rfl ?_
  refine g_iload (pc := 929) dL_act_929 rfl ?_
  refine g_iload (pc := 931) dL_act_931 rfl ?_
  refine g_invV_r (pc := 933) (As := [_, _, _, _]) dL_act_933 rfl (c1) rfl rfl (shK hZ2.1.S rfl) rfl rfl lk_L_182 rfl (nb rfl) ⟨nb rfl, nb rfl⟩ rfl ?_
  refine g_istore (pc := 936) (lv' := [(0, _), (2, _), (4, _), (5, _), (7, _), (9, _), (12, _), (13, _), (16, _), (17, _), (18, _), (14, _), (15, _)]) dL_act_936 (nl rfl) rfl ?_
  refine g_goto (pc := 938) (tgt := 1338) dL_act_938 rfl ?_
  refine g_wk (pc := 1338) (k := 2) (n := 16) (by decide) (by decide) ?_
  exact g_subk (k_fin hZ2 hu e2 e3 c2 c3) ⟨rfl, rfl, rfl, rfl, rfl, rfl, trivial⟩
theorem act_10t (hZ : AZ M A P n p os.length d u (usO os) ρ eo os nv) (hu : nv.2.2 = u) (hD : DK M d n q u) (hO : OW ρ d n q) (hs : s < 6) (ht : t < 6) : Go l jL_act 12 400 MC MS (QA A P n (mS M)) 1008 [(0, .ref 0), (2, .ref P), (4, .ref d), (7, .int (nI s)), (9, .int (nI t)), (12, .int 1), (13, .ref nv.1), (16, .int 1), (17, .ref (q.2.2.2.1 s))] [] 1100 9000 M := by
  have hn := hZ.2.2.2.2.2.2
  have hx := hZ.x
  have hz := hD.z
  have hn32 : n ≤ 32 := by omega
  obtain ⟨-, hm⟩ := hD.mm hZ.1 hs
  have hwf := hZ.1.wf hs
  refine g_aload (pc := 1008) dL_act_1008 rfl trivial ?_
  refine g_iload (pc := 1010) dL_act_1010 rfl ?_
  refine g_iload (pc := 1012) dL_act_1012 rfl ?_
  refine g_if_eq (pc := 1014) (tgt := 1027) dL_act_1014 rfl (fun h1014 => absurd h1014 ((by decide))) (fun _ => ?_)
  refine g_aload (pc := 1017) dL_act_1017 rfl trivial ?_
  refine g_aload (pc := 1019) dL_act_1019 rfl trivial ?_
  refine g_invV_o (pc := 1021) (As := [_]) dL_act_1021 rfl (k_closure hD.1.1 hz hm hn hx) rfl rfl hD.1.1 rfl rfl lk_L_131 rfl (nb rfl) ⟨nb rfl, nb rfl⟩ rfl (fun v1 M1 hq => ?_)
  obtain ⟨m9, b9, rfl, w1, w2, w3, x1⟩ := hq
  show Go l _ _ _ _ _ _ _ _ ([.ref m9, .int (nI t), .ref d] : List Value) _ _ _
  have x1d : Xt (fun i => i = d) M M1 := x1.up (fun _ _ z => z.elim)
  have hD1 : DK M1 d n q u := hD.xt hO x1 (fun _ _ z => z.elim)
  have gM : Mt M1 m9 n (fun r => b9 + r) (fB (wOut (Am M s) n n)) := w1.cg (fun r c hr _ => clB_w hwf hr)
  obtain ⟨M2, e1, e2, e3, e4, e5, e6, e7⟩ := st_law (l := l) (g := wOut (Am M s) n n) hD hO x1d hD1 gM w2 w3 ht (fun _ _ _ _ => rfl) hn32
  have hZ2 := hZ.xt e4 e6 e5
  have hS2 : mS M2 = mS M := e4.2.2.1
  obtain ⟨M3, c1, c2, c3⟩ := c_close (l := l) hZ2.1 hs ht
  rw [hZ.am e4 e6 hs] at c1 c3
  have hw : onesF (wOut (Am M s) n n) n = nI (cM (fB (wOut (Am M s) n n)) n n) := on_c hn32 (wO_n hwf) n (Nat.le_refl n)
  rw [hw] at c1
  rw [← hS2]
  refine g_goto (pc := 1024) (tgt := 1034) dL_act_1024 rfl ?_
  refine g_invV_r (pc := 1034) (As := [_, _]) dL_act_1034 rfl (e1) rfl rfl hD1.1.1 rfl rfl lk_L_155 rfl (nb rfl) ⟨nb rfl, nb rfl⟩ rfl ?_
  refine g_aload (pc := 1037) dL_act_1037 rfl trivial ?_
  refine g_aload (pc := 1039) dL_act_1039 rfl trivial ?_
  refine g_getf (pc := 1041) dL_act_1041 fk_L_52 e2.1.1 (fv_arr e2.1.2.1) ?_
  refine g_iload (pc := 1044) dL_act_1044 rfl ?_
  refine g_aaload_Z2 (pc := 1046) dL_act_1046 e2.2.2.1.1 rfl ht (by omega) (qM_t e2 ht) ?_
  refine g_invV_r (pc := 1047) (As := [_]) dL_act_1047 rfl (k_ones e7 hn) rfl rfl e2.1.1 rfl rfl lk_L_159 rfl (nb rfl) ⟨nb rfl, nb rfl⟩ rfl ?_
  refine g_istore (pc := 1050) (lv' := [(0, _), (2, _), (4, _), (7, _), (9, _), (12, _), (13, _), (16, _), (17, _), (14, _)]) dL_act_1050 (nl rfl) rfl ?_
  refine g_iload (pc := 1052) dL_act_1052 rfl ?_
  refine g_if_eq (pc := 1054) (tgt := 1068) dL_act_1054 rfl (fun h1054 => absurd h1054 ((by decide))) (fun _ => ?_)
  refine g_aload_n (pc := 1057) dL_act_1057 rfl trivial ?_
  refine g_iload (pc := 1058) dL_act_1058 rfl ?_
  refine g_iload (pc := 1060) dL_act_1060 rfl ?_
  refine g_invV_r (pc := 1062) (As := [_, _]) dL_act_1062 rfl (c1) rfl rfl (shK hZ2.1.S rfl) rfl rfl lk_L_193 rfl (nb rfl) ⟨nb rfl, nb rfl⟩ rfl ?_
  refine g_goto (pc := 1065) (tgt := 1076) dL_act_1065 rfl ?_
  refine g_istore (pc := 1076) (lv' := [(0, _), (2, _), (4, _), (7, _), (9, _), (12, _), (13, _), (16, _), (17, _), (14, _), (15, _)]) dL_act_1076 (nl rfl) rfl ?_
  refine g_goto (pc := 1078) (tgt := 1338) dL_act_1078 rfl ?_
  refine g_wk (pc := 1338) (k := 2) (n := 16) (by decide) (by decide) ?_
  exact g_subk (k_fin hZ2 hu e2 e3 c2 c3) ⟨rfl, rfl, rfl, rfl, rfl, rfl, trivial⟩
theorem act_10f (hZ : AZ M A P n p os.length d u (usO os) ρ eo os nv) (hu : nv.2.2 = u) (hD : DK M d n q u) (hO : OW ρ d n q) (hs : s < 6) (ht : t < 6) : Go l jL_act 12 400 MC MS (QA A P n (mS M)) 1008 [(0, .ref 0), (2, .ref P), (4, .ref d), (7, .int (nI s)), (9, .int (nI t)), (12, .int 0), (13, .ref nv.1), (16, .int 1), (17, .ref (q.2.2.2.1 s))] [] 1100 9000 M := by
  have hn := hZ.2.2.2.2.2.2
  have hx := hZ.x
  have hz := hD.z
  have hn32 : n ≤ 32 := by omega
  obtain ⟨-, hm⟩ := hD.mm hZ.1 hs
  have hwf := hZ.1.wf hs
  refine g_aload (pc := 1008) dL_act_1008 rfl trivial ?_
  refine g_iload (pc := 1010) dL_act_1010 rfl ?_
  refine g_iload (pc := 1012) dL_act_1012 rfl ?_
  refine g_if_eq (pc := 1014) (tgt := 1027) dL_act_1014 rfl (fun _ => ?_) (fun h1014 => absurd (rfl) h1014)
  refine g_aload (pc := 1027) dL_act_1027 rfl trivial ?_
  refine g_aload (pc := 1029) dL_act_1029 rfl trivial ?_
  refine g_invV_o (pc := 1031) (As := [_]) dL_act_1031 rfl (k_reduced hD.1.1 hz hm hn hx) rfl rfl hD.1.1 rfl rfl lk_L_190 rfl (nb rfl) ⟨nb rfl, nb rfl⟩ rfl (fun v1 M1 hq => ?_)
  obtain ⟨m9, b9, rfl, w1, w2, w3, x1⟩ := hq
  show Go l _ _ _ _ _ _ _ _ ([.ref m9, .int (nI t), .ref d] : List Value) _ _ _
  have x1d : Xt (fun i => i = d) M M1 := x1.up (fun _ _ z => z.elim)
  have hD1 : DK M1 d n q u := hD.xt hO x1 (fun _ _ z => z.elim)
  have gM : Mt M1 m9 n (fun r => b9 + r) (fB (rcF (Am M s) n (n * n))) := w1.cg (fun r c hr hc => rd_w hwf hn32 n (Nat.le_refl n) r c hr hc)
  obtain ⟨M2, e1, e2, e3, e4, e5, e6, e7⟩ := st_law (l := l) (g := rcF (Am M s) n (n * n)) hD hO x1d hD1 gM w2 w3 ht (fun _ _ _ _ => rfl) hn32
  have hZ2 := hZ.xt e4 e6 e5
  have hS2 : mS M2 = mS M := e4.2.2.1
  obtain ⟨M3, c1, c2, c3⟩ := c_reduce (l := l) hZ2.1 hs ht
  rw [hZ.am e4 e6 hs] at c1 c3
  have hw : onesF (rcF (Am M s) n (n * n)) n = nI (cM (fB (rcF (Am M s) n (n * n))) n n) := on_c hn32 (rcf_wf hwf hn32 _ (Nat.le_refl _)) n (Nat.le_refl n)
  rw [hw] at c1
  rw [← hS2]
  refine g_invV_r (pc := 1034) (As := [_, _]) dL_act_1034 rfl (e1) rfl rfl hD1.1.1 rfl rfl lk_L_155 rfl (nb rfl) ⟨nb rfl, nb rfl⟩ rfl ?_
  refine g_aload (pc := 1037) dL_act_1037 rfl trivial ?_
  refine g_aload (pc := 1039) dL_act_1039 rfl trivial ?_
  refine g_getf (pc := 1041) dL_act_1041 fk_L_52 e2.1.1 (fv_arr e2.1.2.1) ?_
  refine g_iload (pc := 1044) dL_act_1044 rfl ?_
  refine g_aaload_Z2 (pc := 1046) dL_act_1046 e2.2.2.1.1 rfl ht (by omega) (qM_t e2 ht) ?_
  refine g_invV_r (pc := 1047) (As := [_]) dL_act_1047 rfl (k_ones e7 hn) rfl rfl e2.1.1 rfl rfl lk_L_159 rfl (nb rfl) ⟨nb rfl, nb rfl⟩ rfl ?_
  refine g_istore (pc := 1050) (lv' := [(0, _), (2, _), (4, _), (7, _), (9, _), (12, _), (13, _), (16, _), (17, _), (14, _)]) dL_act_1050 (nl rfl) rfl ?_
  refine g_iload (pc := 1052) dL_act_1052 rfl ?_
  refine g_if_eq (pc := 1054) (tgt := 1068) dL_act_1054 rfl (fun _ => ?_) (fun h1054 => absurd (rfl) h1054)
  refine g_aload_n (pc := 1068) dL_act_1068 rfl trivial ?_
  refine g_iload (pc := 1069) dL_act_1069 rfl ?_
  refine g_iload (pc := 1071) dL_act_1071 rfl ?_
  refine g_invV_r (pc := 1073) (As := [_, _]) dL_act_1073 rfl (c1) rfl rfl (shK hZ2.1.S rfl) rfl rfl lk_L_196 rfl (nb rfl) ⟨nb rfl, nb rfl⟩ rfl ?_
  refine g_istore (pc := 1076) (lv' := [(0, _), (2, _), (4, _), (7, _), (9, _), (12, _), (13, _), (16, _), (17, _), (14, _), (15, _)]) dL_act_1076 (nl rfl) rfl ?_
  refine g_goto (pc := 1078) (tgt := 1338) dL_act_1078 rfl ?_
  refine g_wk (pc := 1338) (k := 2) (n := 16) (by decide) (by decide) ?_
  exact g_subk (k_fin hZ2 hu e2 e3 c2 c3) ⟨rfl, rfl, rfl, rfl, rfl, rfl, trivial⟩
end

-- 305.acte
/-! an action of the law: inverses -/
section
variable {l : Launch} {M : Mem} {A P n p d x s t o a b w MC MS : Nat} {is : Bool} {u : Nat → Int64} {ρ : Nat → Nat × Nat} {eo : Option Nat} {os : List OD} {nv : OD} {q : DQ}
theorem act_9 (hZ : AZ M A P n p os.length d u (usO os) ρ eo os nv) (hu : nv.2.2 = u) (hD : DK M d n q u) (hO : OW ρ d n q) (hs : s < 6) (ht : t < 6) : Go l jL_act 12 400 MC MS (QA A P n (mS M)) 941 [(0, .ref 0), (2, .ref P), (4, .ref d), (7, .int (nI s)), (9, .int (nI t)), (13, .ref nv.1), (16, .int 1), (17, .ref (q.2.2.2.1 s))] [] 1100 9000 M := by
  have hn := hZ.2.2.2.2.2.2
  have hx := hZ.x
  have hz := hD.z
  have hn32 : n ≤ 32 := by omega
  obtain ⟨-, hm⟩ := hD.mm hZ.1 hs
  refine g_aload (pc := 941) dL_act_941 rfl trivial ?_
  refine g_aload (pc := 943) dL_act_943 rfl trivial ?_
  refine g_invV_o (pc := 945) (As := [_]) dL_act_945 rfl (k_inverse hD.1.1 hz hm hn hx) rfl rfl hD.1.1 rfl rfl lk_L_184 rfl (nb rfl) ⟨nb rfl, nb rfl⟩ rfl (fun v1 M1 hq => ?_)
  obtain ⟨x1, hr⟩ := hq
  have hS1 : mS M1 = mS M := x1.2.2.1
  have hZ1 := hZ.xt x1 (fun _ _ z => z.elim) (fun _ _ => rfl)
  have hD1 : DK M1 d n q u := hD.xt hO x1 (fun _ _ z => z.elim)
  have hA1 := hZ.am x1 (fun _ _ z => z.elim) hs
  rcases hr with ⟨rfl, c, hc, h0⟩ | ⟨hall, m9, b9, rfl, w1, w2, w3, -⟩
  · show Go l _ _ _ _ _ _ _ _ ([.null] : List Value) _ _ _
    rw [← hA1] at h0
    obtain ⟨M3, c1, c2, c3⟩ := c_invert0 (l := l) hZ1.1 hs ht (iv_no hn32 hc h0)
    have hZ3 := hZ1.cf c2 c3
    have hD3 := hD1.cf hO hZ1.2.2.2.2.2.1 hZ1.2.2.2.2.1 c2
    have hS3 : mS M3 = mS M := c2.2.2.2.2.2.1.trans hS1
    rw [← hS3]
    refine g_astoreN (pc := 948) (lv' := [(0, _), (2, _), (4, _), (7, _), (9, _), (13, _), (16, _), (17, _), (18, _)]) dL_act_948 (nl rfl) rfl ?_
    refine g_aloadN (pc := 950) dL_act_950 rfl ?_
    refine g_ifnull_t (pc := 952) (tgt := 959) dL_act_952 rfl  ?_
    refine g_iconst (pc := 959) (v := 0) dL_act_959 rfl ?_
    refine g_istore (pc := 960) (lv' := [(0, _), (2, _), (4, _), (7, _), (9, _), (13, _), (16, _), (17, _), (18, _)]) dL_act_960 (nl rfl) rfl ?_
    refine g_iload (pc := 962) dL_act_962 rfl ?_
    refine g_if_eq (pc := 964) (tgt := 976) dL_act_964 rfl (fun _ => ?_) (fun h964 => absurd (rfl) h964)
    refine g_iload (pc := 976) dL_act_976 rfl ?_
    refine g_if_eq (pc := 978) (tgt := 991) dL_act_978 rfl (fun _ => ?_) (fun h978 => absurd (rfl) h978)
    refine g_bipush (pc := 991) (v := (-3)) dL_act_991 rfl ?_
    refine g_istore (pc := 993) (lv' := [(0, _), (2, _), (4, _), (7, _), (9, _), (13, _), (16, _), (17, _), (18, _), (14, _)]) dL_act_993 (nl rfl) rfl ?_
    refine g_aload_n (pc := 995) dL_act_995 rfl trivial ?_
    refine g_iload (pc := 996) dL_act_996 rfl ?_
    refine g_iload (pc := 998) dL_act_998 rfl ?_
    refine g_invV_r (pc := 1000) (As := [_, _]) dL_act_1000 rfl (c1) rfl rfl (shK hZ1.1.S rfl) rfl rfl lk_L_187 rfl (nb rfl) ⟨nb rfl, nb rfl⟩ rfl ?_
    refine g_istore (pc := 1003) (lv' := [(0, _), (2, _), (4, _), (7, _), (9, _), (13, _), (16, _), (17, _), (18, _), (14, _), (15, _)]) dL_act_1003 (nl rfl) rfl ?_
    refine g_goto (pc := 1005) (tgt := 1338) dL_act_1005 rfl ?_
    refine g_wk (pc := 1338) (k := 2) (n := 16) (by decide) (by decide) ?_
    exact g_subk (k_tail0 hZ3 hD3 hO) ⟨rfl, rfl, rfl, rfl, rfl, trivial⟩
  · show Go l _ _ _ _ _ _ _ _ ([.ref m9] : List Value) _ _ _
    obtain ⟨y1, y2⟩ := iv_yes (M := M) (s := s) hn32 hall
    obtain ⟨g, hg⟩ : ∃ g : Nat → Int32, g = (ivE M s n).2.1 := ⟨_, rfl⟩
    have gM : Mt M1 m9 n (fun r => b9 + r) (fB g) := w1.cg (fun r c hr hc => by rw [hg]; exact y2 r c hr hc)
    have x1d : Xt (fun i => i = d) M M1 := x1.up (fun _ _ z => z.elim)
    obtain ⟨M2, e1, e2, e3, e4, e5, e6, e7⟩ := st_law (l := l) (g := g) hD hO x1d hD1 gM w2 w3 ht (fun _ _ _ _ => rfl) hn32
    have hZ2 := hZ.xt e4 e6 e5
    have hS2 : mS M2 = mS M := e4.2.2.1
    have hE : ivE M2 s n = ivE M s n := ivE_cg hs (fun i hi => hZ.i e4 e6 hi)
    obtain ⟨M3, c1, c2, c3⟩ := c_invert1 (l := l) hZ2.1 hs ht (by rw [hE]; exact y1)
    rw [hE, ← hg] at c1 c3
    have hw : onesF g n = nI (cM (fB g) n n) := on_c hn32 (by rw [hg]; exact ivE_wf hn32) n (Nat.le_refl n)
    rw [hw] at c1
    rw [← hS2]
    refine g_astore (pc := 948) (lv' := [(0, _), (2, _), (4, _), (7, _), (9, _), (13, _), (16, _), (17, _), (18, _)]) dL_act_948 trivial (nl rfl) rfl ?_
    refine g_aload (pc := 950) dL_act_950 rfl trivial ?_
    refine g_ifnull_r (pc := 952) dL_act_952 trivial ?_
    refine g_iconst (pc := 955) (v := 1) dL_act_955 rfl ?_
    refine g_goto (pc := 956) (tgt := 960) dL_act_956 rfl ?_
    refine g_istore (pc := 960) (lv' := [(0, _), (2, _), (4, _), (7, _), (9, _), (13, _), (16, _), (17, _), (18, _)]) dL_act_960 (nl rfl) rfl ?_
    refine g_iload (pc := 962) dL_act_962 rfl ?_
    refine g_if_eq (pc := 964) (tgt := 976) dL_act_964 rfl (fun h964 => absurd h964 ((by decide))) (fun _ => ?_)
    refine g_aload (pc := 967) dL_act_967 rfl trivial ?_
    refine g_iload (pc := 969) dL_act_969 rfl ?_
    refine g_aload (pc := 971) dL_act_971 rfl trivial ?_
    refine g_invV_r (pc := 973) (As := [_, _]) dL_act_973 rfl (e1) rfl rfl hD1.1.1 rfl rfl lk_L_155 rfl (nb rfl) ⟨nb rfl, nb rfl⟩ rfl ?_
    refine g_iload (pc := 976) dL_act_976 rfl ?_
    refine g_if_eq (pc := 978) (tgt := 991) dL_act_978 rfl (fun h978 => absurd h978 ((by decide))) (fun _ => ?_)
    refine g_aload (pc := 981) dL_act_981 rfl trivial ?_
    refine g_aload (pc := 983) dL_act_983 rfl trivial ?_
    refine g_invV_r (pc := 985) (As := [_]) dL_act_985 rfl (k_ones e7 hn) rfl rfl e2.1.1 rfl rfl lk_L_159 rfl (nb rfl) ⟨nb rfl, nb rfl⟩ rfl ?_
    refine g_goto (pc := 988) (tgt := 993) dL_act_988 rfl ?_
    refine g_istore (pc := 993) (lv' := [(0, _), (2, _), (4, _), (7, _), (9, _), (13, _), (16, _), (17, _), (18, _), (14, _)]) dL_act_993 (nl rfl) rfl ?_
    refine g_aload_n (pc := 995) dL_act_995 rfl trivial ?_
    refine g_iload (pc := 996) dL_act_996 rfl ?_
    refine g_iload (pc := 998) dL_act_998 rfl ?_
    refine g_invV_r (pc := 1000) (As := [_, _]) dL_act_1000 rfl (c1) rfl rfl (shK hZ2.1.S rfl) rfl rfl lk_L_187 rfl (nb rfl) ⟨nb rfl, nb rfl⟩ rfl ?_
    refine g_istore (pc := 1003) (lv' := [(0, _), (2, _), (4, _), (7, _), (9, _), (13, _), (16, _), (17, _), (18, _), (14, _), (15, _)]) dL_act_1003 (nl rfl) rfl ?_
    refine g_goto (pc := 1005) (tgt := 1338) dL_act_1005 rfl ?_
    refine g_wk (pc := 1338) (k := 2) (n := 16) (by decide) (by decide) ?_
    exact g_subk (k_fin hZ2 hu e2 e3 c2 c3) ⟨rfl, rfl, rfl, rfl, rfl, rfl, trivial⟩
end

-- 306.actf
/-! an action of the law: a row set -/
section
variable {l : Launch} {M : Mem} {A P n p d x s t o a b w MC MS : Nat} {is : Bool} {u : Nat → Int64} {ρ : Nat → Nat × Nat} {eo : Option Nat} {os : List OD} {nv : OD} {q : DQ}
theorem lg_eq {x y : Int64} : lg_cmp x y = 0 ↔ x = y := by
  refine ⟨fun h => ?_, lg_same⟩
  unfold lg_cmp at h
  by_cases h1 : x > y
  · rw [if_pos h1] at h
    exact absurd h (by decide)
  · rw [if_neg h1] at h
    by_cases h2 : x = y
    · exact h2
    · rw [if_neg h2] at h
      exact absurd h (by decide)
theorem hl_1 : ∀ i, i < 64 → hl 1 i = decide (i = 0) := by decide +kernel
theorem bit_1 {v : Int64} {c : Nat} (hc : c < 9) : lg_cmp (v >>> ((nI c).toInt64 &&& 63) &&& 1) 1 = 0 ↔ hl v c = true := by
  rw [lg_eq]
  have h0 : hl (v >>> ((nI c).toInt64 &&& 63) &&& 1) 0 = hl v c := by
    rw [hl_and, hl_shr _ (by omega) 0 (by decide), hl_1 0 (by decide), if_pos (by omega), Nat.add_zero]
    exact Bool.and_true _
  refine ⟨fun h => ?_, fun h => hl_ext fun i hi => ?_⟩
  · rw [h] at h0
    rw [← h0]
    exact hl_1 0 (by decide)
  · rw [hl_and, hl_1 i hi]
    by_cases e : i = 0
    · subst e
      rw [hl_and, hl_1 0 (by decide)] at h0
      rw [h0, h]
      rfl
    · rw [decide_eq_false e, Bool.and_false]
theorem act_3 (hZ : AZ M A P n p os.length d u (usO os) ρ eo os nv) (hu : nv.2.2 = u) (hD : DK M d n q u) (hO : OW ρ d n q) (hx9 : x < 2147483648) (hs : s < 6) (ha : a < n) : Go l jL_act 12 400 MC MS (QA A P n (mS M)) 352 [(0, .ref 0), (2, .ref P), (4, .ref d), (5, .int (nI x)), (7, .int (nI s)), (10, .int (nI a)), (13, .ref nv.1), (16, .int 1), (17, .ref (q.2.2.2.1 s))] [] 1100 9000 M := by
  have hn := hZ.2.2.2.2.2.2
  have hz := hD.z
  have hn32 : n ≤ 32 := by omega
  obtain ⟨-, hm⟩ := hD.mm hZ.1 hs
  have hwf := hZ.1.wf hs
  have oc := (hO.2.2.2.2 s hs).2.2
  refine g_iload (pc := 352) dL_act_352 rfl ?_
  refine g_i2l (pc := 354) dL_act_354 rfl ?_
  refine g_iconst (pc := 355) (v := 3) dL_act_355 rfl ?_
  refine g_lshl (pc := 356) dL_act_356 rfl ?_
  refine g_iload (pc := 357) dL_act_357 rfl ?_
  refine g_sipush (pc := 359) (v := 977) dL_act_359 rfl ?_
  refine g_idiv (pc := 362) dL_act_362 (by decide) ?_
  refine g_i2l (pc := 363) dL_act_363 rfl ?_
  refine g_lxor (pc := 364) dL_act_364 ?_
  skip
  generalize (nI x).toInt64 <<< ((3 : Int32).toInt64 &&& 63) ^^^ (nI x / 977).toInt64 = v
  have cl : ∀ {My : Mem}, Xt (fun i => i = q.2.2.2.2.1 s a) M My → (mK My)[d]? = some (.inr 7) ∧ mI My d 0 = nI n := fun {My} h => ⟨h.k hD.1.1, (congrFun (h.I (k_lt hD.1.1) (nρ hO.1 (oc a ha) (by omega))) 0).trans hz⟩
  refine g_lstore (pc := 365) (lv' := [(0, _), (2, _), (4, _), (5, _), (7, _), (10, _), (13, _), (16, _), (17, _), (18, _)]) dL_act_365 (nl rfl) rfl ?_
  refine g_iconst (pc := 367) (v := 0) dL_act_367 rfl ?_
  refine g_istore (pc := 368) (lv' := [(0, _), (2, _), (4, _), (5, _), (7, _), (10, _), (13, _), (16, _), (17, _), (18, _), (14, _)]) dL_act_368 (nl rfl) rfl ?_
  refine g_iconst (pc := 370) (v := 0) dL_act_370 rfl ?_
  refine g_istore (pc := 371) (lv' := [(0, _), (2, _), (4, _), (5, _), (7, _), (10, _), (13, _), (16, _), (17, _), (18, _), (14, _), (20, _)]) dL_act_371 (nl rfl) rfl ?_
  refine go_forS (pc := 373) n (fun i (_ : Mem) => [(0, .ref 0), (2, .ref P), (4, .ref d), (7, .int (nI s)), (10, .int (nI a)), (13, .ref nv.1), (14, .int (nI (cR (fun c => Bool.xor (hb (Am M s a) c) (hl v c)) i))), (16, .int 1), (17, .ref (q.2.2.2.1 s)), (18, .long v), (20, .int (nI i))]) (fun z => z) (fun i My => Xt (fun y => y = q.2.2.2.2.1 s a) M My ∧ Mt My (q.2.2.2.1 s) n (q.2.2.2.2.1 s) (fun r c => if r = a ∧ c < i then hl v c else hb (Am M s r) c)) (fun _ => 1100) (fun _ => 9000) M ⟨rfl, rfl, rfl, rfl, rfl, rfl, rfl, rfl, rfl, rfl, rfl, trivial⟩ rfl rfl rfl ⟨Xt.rf _ M, hm.cg (fun r c _ _ => (if_neg (fun z => Nat.not_lt_zero _ z.2)).symm)⟩ ?_ ?_
  · rintro j Mz hj ⟨f1, f2⟩ ih
    obtain ⟨hd8, hz8⟩ := cl f1
    have e9 : cR (fun c => Bool.xor (hb (Am M s a) c) (hl v c)) (j + 1) = cR (fun c => Bool.xor (hb (Am M s a) c) (hl v c)) j + (match Bool.xor (hb (Am M s a) j) (hl v j) with | true => 1 | false => 0) := rfl
    have hbit := bit_1 (v := v) (c := j) (by omega)
    have hval : mI Mz (q.2.2.2.2.1 s a) j = b1 (hb (Am M s a) j) := by
      rw [(f2.2 a ha).2.2 j hj]
      show b1 (if a = a ∧ j < j then hl v j else hb (Am M s a) j) = _
      rw [if_neg (fun z => Nat.lt_irrefl _ z.2)]
    have hput : Xt (fun y => y = q.2.2.2.2.1 s a) M (sI Mz (q.2.2.2.2.1 s a) (fun_set (mI Mz (q.2.2.2.2.1 s a)) j (vp_nar .boolean (b1 (hl v j))))) ∧ Mt (sI Mz (q.2.2.2.2.1 s a) (fun_set (mI Mz (q.2.2.2.2.1 s a)) j (vp_nar .boolean (b1 (hl v j))))) (q.2.2.2.1 s) n (q.2.2.2.2.1 s) (fun r c => if r = a ∧ c < j + 1 then hl v c else hb (Am M s r) c) := by
      refine ⟨f1.sI (fun _ => rfl), (f2.put (v := hl v j) (j := j) ha (fun r hr e => Classical.byContradiction fun z => nρ (oc r hr) (oc a ha) (by omega) e)).cg (fun r c _ _ => ?_)⟩
      by_cases e : r = a ∧ c = j
      · rw [if_pos e, if_pos ⟨e.1, by omega⟩, e.2]
      · rw [if_neg e]
        by_cases e2 : r = a ∧ c < j
        · rw [if_pos e2, if_pos ⟨e2.1, by omega⟩]
        · rw [if_neg e2, if_neg (by omega)]
    have ih2 := ih _ hput
    rw [e9] at ih2
    generalize cR (fun c => Bool.xor (hb (Am M s a) c) (hl v c)) j = w9 at *
    generalize hY : hl v j = Y at *
    generalize hb (Am M s a) j = X at *
    cases Y
    · have hne : ¬ lg_cmp (v >>> ((nI j).toInt64 &&& 63) &&& 1) 1 = 0 := fun z => by cases hbit.mp z
      cases X
      · refine g_iload (pc := 373) dL_act_373 rfl ?_
        refine g_aload (pc := 375) dL_act_375 rfl trivial ?_
        refine g_getf (pc := 377) (v := .int _) dL_act_377 fk_L_45 hd8 (fun _ => congrArg Value.int (hz8)) ?_
        refine g_icmp_ge (pc := 380) (tgt := 441) dL_act_380 rfl (fun h380 => absurd h380 (nI_ge hj (by omega))) (fun _ => ?_)
        refine g_lload (pc := 383) dL_act_383 rfl ?_
        refine g_iload (pc := 385) dL_act_385 rfl ?_
        refine g_lshr (pc := 387) dL_act_387 rfl ?_
        refine g_lconst (pc := 388) (v := 1) dL_act_388 rfl ?_
        refine g_land (pc := 389) dL_act_389 ?_
        refine g_lconst (pc := 390) (v := 1) dL_act_390 rfl ?_
        refine g_lcmp (pc := 391) dL_act_391 ?_
        refine g_if_ne (pc := 392) (tgt := 399) dL_act_392 rfl (fun _ => ?_) (fun h392 => absurd (hne) h392)
        refine g_iconst (pc := 399) (v := 0) dL_act_399 rfl ?_
        refine g_istore (pc := 400) (lv' := [(0, _), (2, _), (4, _), (7, _), (10, _), (13, _), (14, _), (16, _), (17, _), (18, _), (20, _), (21, _)]) dL_act_400 (nl rfl) rfl ?_
        refine g_iload (pc := 402) dL_act_402 rfl ?_
        refine g_aload (pc := 404) dL_act_404 rfl trivial ?_
        refine g_iload (pc := 406) dL_act_406 rfl ?_
        refine g_aaload_Z1 (pc := 408) dL_act_408 f2.1 rfl ha (by omega) (f2.2 a ha).1 ?_
        refine g_iload (pc := 409) dL_act_409 rfl ?_
        refine g_zaload (pc := 411) dL_act_411 (f2.2 a ha).2.1 rfl hj (by omega) ?_
        rw [hval]
        refine g_iload (pc := 412) dL_act_412 rfl ?_
        refine g_icmp_eq (pc := 414) (tgt := 421) dL_act_414 rfl (fun _ => ?_) (fun h414 => absurd (rfl) h414)
        refine g_iconst (pc := 421) (v := 0) dL_act_421 rfl ?_
        refine g_iadd (pc := 422) dL_act_422 ?_
        rw [show nI w9 + 0 = nI (w9 + 0) from nI_add _ 0]
        refine g_istore (pc := 423) (lv' := [(0, _), (2, _), (4, _), (7, _), (10, _), (13, _), (14, _), (16, _), (17, _), (18, _), (20, _), (21, _)]) dL_act_423 (nl rfl) rfl ?_
        refine g_aload (pc := 425) dL_act_425 rfl trivial ?_
        refine g_iload (pc := 427) dL_act_427 rfl ?_
        refine g_aaload_Z1 (pc := 429) dL_act_429 f2.1 rfl ha (by omega) (f2.2 a ha).1 ?_
        refine g_iload (pc := 430) dL_act_430 rfl ?_
        refine g_iload (pc := 432) dL_act_432 rfl ?_
        refine g_zastore (pc := 434) dL_act_434 (f2.2 a ha).2.1 rfl hj (by omega) ?_
        refine g_iinc (pc := 435) (lv' := [(0, _), (2, _), (4, _), (7, _), (10, _), (13, _), (14, _), (16, _), (17, _), (18, _), (20, _), (21, _)]) dL_act_435 rfl (nI_1 _) (nl rfl) rfl ?_
        refine g_goto (pc := 438) (tgt := 373) dL_act_438 rfl ?_
        exact g_subk ih2 ⟨rfl, rfl, rfl, rfl, rfl, rfl, rfl, rfl, rfl, rfl, rfl, trivial⟩
      · refine g_iload (pc := 373) dL_act_373 rfl ?_
        refine g_aload (pc := 375) dL_act_375 rfl trivial ?_
        refine g_getf (pc := 377) (v := .int _) dL_act_377 fk_L_45 hd8 (fun _ => congrArg Value.int (hz8)) ?_
        refine g_icmp_ge (pc := 380) (tgt := 441) dL_act_380 rfl (fun h380 => absurd h380 (nI_ge hj (by omega))) (fun _ => ?_)
        refine g_lload (pc := 383) dL_act_383 rfl ?_
        refine g_iload (pc := 385) dL_act_385 rfl ?_
        refine g_lshr (pc := 387) dL_act_387 rfl ?_
        refine g_lconst (pc := 388) (v := 1) dL_act_388 rfl ?_
        refine g_land (pc := 389) dL_act_389 ?_
        refine g_lconst (pc := 390) (v := 1) dL_act_390 rfl ?_
        refine g_lcmp (pc := 391) dL_act_391 ?_
        refine g_if_ne (pc := 392) (tgt := 399) dL_act_392 rfl (fun _ => ?_) (fun h392 => absurd (hne) h392)
        refine g_iconst (pc := 399) (v := 0) dL_act_399 rfl ?_
        refine g_istore (pc := 400) (lv' := [(0, _), (2, _), (4, _), (7, _), (10, _), (13, _), (14, _), (16, _), (17, _), (18, _), (20, _), (21, _)]) dL_act_400 (nl rfl) rfl ?_
        refine g_iload (pc := 402) dL_act_402 rfl ?_
        refine g_aload (pc := 404) dL_act_404 rfl trivial ?_
        refine g_iload (pc := 406) dL_act_406 rfl ?_
        refine g_aaload_Z1 (pc := 408) dL_act_408 f2.1 rfl ha (by omega) (f2.2 a ha).1 ?_
        refine g_iload (pc := 409) dL_act_409 rfl ?_
        refine g_zaload (pc := 411) dL_act_411 (f2.2 a ha).2.1 rfl hj (by omega) ?_
        rw [hval]
        refine g_iload (pc := 412) dL_act_412 rfl ?_
        refine g_icmp_eq (pc := 414) (tgt := 421) dL_act_414 rfl (fun h414 => absurd h414 ((by decide))) (fun _ => ?_)
        refine g_iconst (pc := 417) (v := 1) dL_act_417 rfl ?_
        refine g_goto (pc := 418) (tgt := 422) dL_act_418 rfl ?_
        refine g_iadd (pc := 422) dL_act_422 ?_
        rw [show nI w9 + 1 = nI (w9 + 1) from nI_add _ 1]
        refine g_istore (pc := 423) (lv' := [(0, _), (2, _), (4, _), (7, _), (10, _), (13, _), (14, _), (16, _), (17, _), (18, _), (20, _), (21, _)]) dL_act_423 (nl rfl) rfl ?_
        refine g_aload (pc := 425) dL_act_425 rfl trivial ?_
        refine g_iload (pc := 427) dL_act_427 rfl ?_
        refine g_aaload_Z1 (pc := 429) dL_act_429 f2.1 rfl ha (by omega) (f2.2 a ha).1 ?_
        refine g_iload (pc := 430) dL_act_430 rfl ?_
        refine g_iload (pc := 432) dL_act_432 rfl ?_
        refine g_zastore (pc := 434) dL_act_434 (f2.2 a ha).2.1 rfl hj (by omega) ?_
        refine g_iinc (pc := 435) (lv' := [(0, _), (2, _), (4, _), (7, _), (10, _), (13, _), (14, _), (16, _), (17, _), (18, _), (20, _), (21, _)]) dL_act_435 rfl (nI_1 _) (nl rfl) rfl ?_
        refine g_goto (pc := 438) (tgt := 373) dL_act_438 rfl ?_
        exact g_subk ih2 ⟨rfl, rfl, rfl, rfl, rfl, rfl, rfl, rfl, rfl, rfl, rfl, trivial⟩
    · have hq : lg_cmp (v >>> ((nI j).toInt64 &&& 63) &&& 1) 1 = 0 := hbit.mpr rfl
      cases X
      · refine g_iload (pc := 373) dL_act_373 rfl ?_
        refine g_aload (pc := 375) dL_act_375 rfl trivial ?_
        refine g_getf (pc := 377) (v := .int _) dL_act_377 fk_L_45 hd8 (fun _ => congrArg Value.int (hz8)) ?_
        refine g_icmp_ge (pc := 380) (tgt := 441) dL_act_380 rfl (fun h380 => absurd h380 (nI_ge hj (by omega))) (fun _ => ?_)
        refine g_lload (pc := 383) dL_act_383 rfl ?_
        refine g_iload (pc := 385) dL_act_385 rfl ?_
        refine g_lshr (pc := 387) dL_act_387 rfl ?_
        refine g_lconst (pc := 388) (v := 1) dL_act_388 rfl ?_
        refine g_land (pc := 389) dL_act_389 ?_
        refine g_lconst (pc := 390) (v := 1) dL_act_390 rfl ?_
        refine g_lcmp (pc := 391) dL_act_391 ?_
        refine g_if_ne (pc := 392) (tgt := 399) dL_act_392 rfl (fun h392 => absurd h392 ((fun z => z hq))) (fun _ => ?_)
        refine g_iconst (pc := 395) (v := 1) dL_act_395 rfl ?_
        refine g_goto (pc := 396) (tgt := 400) dL_act_396 rfl ?_
        refine g_istore (pc := 400) (lv' := [(0, _), (2, _), (4, _), (7, _), (10, _), (13, _), (14, _), (16, _), (17, _), (18, _), (20, _), (21, _)]) dL_act_400 (nl rfl) rfl ?_
        refine g_iload (pc := 402) dL_act_402 rfl ?_
        refine g_aload (pc := 404) dL_act_404 rfl trivial ?_
        refine g_iload (pc := 406) dL_act_406 rfl ?_
        refine g_aaload_Z1 (pc := 408) dL_act_408 f2.1 rfl ha (by omega) (f2.2 a ha).1 ?_
        refine g_iload (pc := 409) dL_act_409 rfl ?_
        refine g_zaload (pc := 411) dL_act_411 (f2.2 a ha).2.1 rfl hj (by omega) ?_
        rw [hval]
        refine g_iload (pc := 412) dL_act_412 rfl ?_
        refine g_icmp_eq (pc := 414) (tgt := 421) dL_act_414 rfl (fun h414 => absurd h414 ((by decide))) (fun _ => ?_)
        refine g_iconst (pc := 417) (v := 1) dL_act_417 rfl ?_
        refine g_goto (pc := 418) (tgt := 422) dL_act_418 rfl ?_
        refine g_iadd (pc := 422) dL_act_422 ?_
        rw [show nI w9 + 1 = nI (w9 + 1) from nI_add _ 1]
        refine g_istore (pc := 423) (lv' := [(0, _), (2, _), (4, _), (7, _), (10, _), (13, _), (14, _), (16, _), (17, _), (18, _), (20, _), (21, _)]) dL_act_423 (nl rfl) rfl ?_
        refine g_aload (pc := 425) dL_act_425 rfl trivial ?_
        refine g_iload (pc := 427) dL_act_427 rfl ?_
        refine g_aaload_Z1 (pc := 429) dL_act_429 f2.1 rfl ha (by omega) (f2.2 a ha).1 ?_
        refine g_iload (pc := 430) dL_act_430 rfl ?_
        refine g_iload (pc := 432) dL_act_432 rfl ?_
        refine g_zastore (pc := 434) dL_act_434 (f2.2 a ha).2.1 rfl hj (by omega) ?_
        refine g_iinc (pc := 435) (lv' := [(0, _), (2, _), (4, _), (7, _), (10, _), (13, _), (14, _), (16, _), (17, _), (18, _), (20, _), (21, _)]) dL_act_435 rfl (nI_1 _) (nl rfl) rfl ?_
        refine g_goto (pc := 438) (tgt := 373) dL_act_438 rfl ?_
        exact g_subk ih2 ⟨rfl, rfl, rfl, rfl, rfl, rfl, rfl, rfl, rfl, rfl, rfl, trivial⟩
      · refine g_iload (pc := 373) dL_act_373 rfl ?_
        refine g_aload (pc := 375) dL_act_375 rfl trivial ?_
        refine g_getf (pc := 377) (v := .int _) dL_act_377 fk_L_45 hd8 (fun _ => congrArg Value.int (hz8)) ?_
        refine g_icmp_ge (pc := 380) (tgt := 441) dL_act_380 rfl (fun h380 => absurd h380 (nI_ge hj (by omega))) (fun _ => ?_)
        refine g_lload (pc := 383) dL_act_383 rfl ?_
        refine g_iload (pc := 385) dL_act_385 rfl ?_
        refine g_lshr (pc := 387) dL_act_387 rfl ?_
        refine g_lconst (pc := 388) (v := 1) dL_act_388 rfl ?_
        refine g_land (pc := 389) dL_act_389 ?_
        refine g_lconst (pc := 390) (v := 1) dL_act_390 rfl ?_
        refine g_lcmp (pc := 391) dL_act_391 ?_
        refine g_if_ne (pc := 392) (tgt := 399) dL_act_392 rfl (fun h392 => absurd h392 ((fun z => z hq))) (fun _ => ?_)
        refine g_iconst (pc := 395) (v := 1) dL_act_395 rfl ?_
        refine g_goto (pc := 396) (tgt := 400) dL_act_396 rfl ?_
        refine g_istore (pc := 400) (lv' := [(0, _), (2, _), (4, _), (7, _), (10, _), (13, _), (14, _), (16, _), (17, _), (18, _), (20, _), (21, _)]) dL_act_400 (nl rfl) rfl ?_
        refine g_iload (pc := 402) dL_act_402 rfl ?_
        refine g_aload (pc := 404) dL_act_404 rfl trivial ?_
        refine g_iload (pc := 406) dL_act_406 rfl ?_
        refine g_aaload_Z1 (pc := 408) dL_act_408 f2.1 rfl ha (by omega) (f2.2 a ha).1 ?_
        refine g_iload (pc := 409) dL_act_409 rfl ?_
        refine g_zaload (pc := 411) dL_act_411 (f2.2 a ha).2.1 rfl hj (by omega) ?_
        rw [hval]
        refine g_iload (pc := 412) dL_act_412 rfl ?_
        refine g_icmp_eq (pc := 414) (tgt := 421) dL_act_414 rfl (fun _ => ?_) (fun h414 => absurd (rfl) h414)
        refine g_iconst (pc := 421) (v := 0) dL_act_421 rfl ?_
        refine g_iadd (pc := 422) dL_act_422 ?_
        rw [show nI w9 + 0 = nI (w9 + 0) from nI_add _ 0]
        refine g_istore (pc := 423) (lv' := [(0, _), (2, _), (4, _), (7, _), (10, _), (13, _), (14, _), (16, _), (17, _), (18, _), (20, _), (21, _)]) dL_act_423 (nl rfl) rfl ?_
        refine g_aload (pc := 425) dL_act_425 rfl trivial ?_
        refine g_iload (pc := 427) dL_act_427 rfl ?_
        refine g_aaload_Z1 (pc := 429) dL_act_429 f2.1 rfl ha (by omega) (f2.2 a ha).1 ?_
        refine g_iload (pc := 430) dL_act_430 rfl ?_
        refine g_iload (pc := 432) dL_act_432 rfl ?_
        refine g_zastore (pc := 434) dL_act_434 (f2.2 a ha).2.1 rfl hj (by omega) ?_
        refine g_iinc (pc := 435) (lv' := [(0, _), (2, _), (4, _), (7, _), (10, _), (13, _), (14, _), (16, _), (17, _), (18, _), (20, _), (21, _)]) dL_act_435 rfl (nI_1 _) (nl rfl) rfl ?_
        refine g_goto (pc := 438) (tgt := 373) dL_act_438 rfl ?_
        exact g_subk ih2 ⟨rfl, rfl, rfl, rfl, rfl, rfl, rfl, rfl, rfl, rfl, rfl, trivial⟩
  · rintro My ⟨g1, g2⟩
    obtain ⟨hd9, hz9⟩ := cl g1
    have hlow : ∀ c, c < n → hb (v.toInt32 &&& lowM n) c = hl v c := fun c hc => hb_low v hn32 hc
    have g3 : ∀ j, j ≠ 28 + 32 * s + a → fun_set u (28 + 32 * s + a) (uL (v.toInt32 &&& lowM n)) j = u j := fun j hj => fs_ne _ _ hj
    have hrow : ∀ r c, r < n → c < n → (if r = a ∧ c < n then hl v c else hb (Am M s r) c) = hb (rI (fun_set u (28 + 32 * s + a) (uL (v.toInt32 &&& lowM n))) s r) c := fun r c hr hc => by
      by_cases e : r = a
      · subst e
        unfold rI
        rw [if_pos ⟨rfl, hc⟩, fs_self, uL_32, hlow c hc]
      · rw [if_neg (fun z => e z.1)]
        unfold rI
        rw [g3 _ (by omega)]
        show _ = hb (rI u s r) c
        rw [hZ.1.rw hs hr]
    have hD1 : DK My d n q (fun_set u (28 + 32 * s + a) (uL (v.toInt32 &&& lowM n))) := hD.rows hO hs hn (g1.up (fun i _ e => ⟨a, ha, e⟩)) (g2.cg hrow) (fun t ht e => ⟨fun r hr => g3 _ (by omega), g3 _ (by omega), g3 _ (by omega), g3 _ (by omega), g3 _ (by omega)⟩) ⟨g3 _ (by omega), g3 _ (by omega), g3 _ (by omega), g3 _ (by omega)⟩ ⟨g3 _ (by omega), g3 _ (by omega), g3 _ (by omega)⟩
    obtain ⟨⟨k, k1, k2⟩, -⟩ := (hD1.2.2.2 s hs).2
    have hx2 := dkAnew_xt (M := My) (c := q.2.2.2.2.2 s) (k := k) (x := nI n)
    have hD2 : DK (dkAnew My (q.2.2.2.2.2 s) k (nI n)) d n q (anU (fun_set u (28 + 32 * s + a) (uL (v.toInt32 &&& lowM n))) s (nI n)) := hD1.anew hO hs k2
    have hZ1 := hZ.xt g1 (fun i _ e => by rw [e, oc a ha]) (fun _ _ => rfl)
    have hZ2 := hZ1.xt hx2 (fun i _ e => by rw [e, (hO.2.2.2.2 s hs).2.1]) (fun _ _ => rfl)
    have hA : Am (dkAnew My (q.2.2.2.2.2 s) k (nI n)) s = Am M s := (hZ1.am hx2 (fun i _ e => by rw [e, (hO.2.2.2.2 s hs).2.1]) hs).trans (hZ.am g1 (fun i _ e => by rw [e, oc a ha]) hs)
    have hS2 : mS (dkAnew My (q.2.2.2.2.2 s) k (nI n)) = mS M := hx2.2.2.1.trans g1.2.2.1
    have hka := k_anew (l := l) hD1 hO hs k1
    generalize dkAnew My (q.2.2.2.2.2 s) k (nI n) = M2 at *
    obtain ⟨M3, c1, c2, c3⟩ := c_setRow (l := l) (x := v) hZ2.1 hs ha
    rw [hA] at c1
    have hw : bcJ ((v.toInt32 &&& lowM n) ^^^ Am M s a) = nI (cR (fun c => Bool.xor (hb (Am M s a) c) (hl v c)) n) := by
      rw [bc_c hn32 (fun c hc => by rw [hb_xor, low_z hn32 c hc, hwf a ha c hc]; rfl)]
      exact congrArg nI (cR_cg n (fun c hc => by rw [hb_xor, hlow c hc, Bool.xor_comm]))
    rw [hw] at c1
    rw [← hS2]
    refine g_wk (Nat.le_refl 1100) (Nat.le_refl 9000) ?_
    refine g_iload (pc := 373) dL_act_373 rfl ?_
    refine g_aload (pc := 375) dL_act_375 rfl trivial ?_
    refine g_getf (pc := 377) (v := .int _) dL_act_377 fk_L_45 hd9 (fun _ => congrArg Value.int (hz9)) ?_
    refine g_icmp_ge (pc := 380) (tgt := 441) dL_act_380 rfl (fun _ => ?_) (fun h380 => absurd (nI_le (Nat.le_refl _) (by omega)) h380)
    refine g_aload (pc := 441) dL_act_441 rfl trivial ?_
    refine g_iload (pc := 443) dL_act_443 rfl ?_
    refine g_invV_r (pc := 445) (As := [_]) dL_act_445 rfl (hka) rfl rfl hD1.1.1 rfl rfl lk_L_85 rfl (nb rfl) ⟨nb rfl, nb rfl⟩ rfl ?_
    refine g_aload_n (pc := 448) dL_act_448 rfl trivial ?_
    refine g_iload (pc := 449) dL_act_449 rfl ?_
    refine g_iload (pc := 451) dL_act_451 rfl ?_
    refine g_lload (pc := 453) dL_act_453 rfl ?_
    refine g_invV_r (pc := 455) (As := [_, _, _]) dL_act_455 rfl (c1) rfl rfl (shK hZ2.1.S rfl) rfl rfl lk_L_147 rfl (nb rfl) ⟨nb rfl, nb rfl⟩ rfl ?_
    refine g_istore (pc := 458) (lv' := [(0, _), (2, _), (4, _), (7, _), (10, _), (13, _), (14, _), (16, _), (17, _), (18, _), (20, _), (15, _)]) dL_act_458 (nl rfl) rfl ?_
    refine g_goto (pc := 460) (tgt := 1338) dL_act_460 rfl ?_
    refine g_wk (pc := 1338) (k := 2) (n := 16) (by decide) (by decide) ?_
    exact g_subk (k_fin hZ2 hu hD2 hO c2 c3) ⟨rfl, rfl, rfl, rfl, rfl, rfl, trivial⟩
end

-- 307.actg
/-! an action of the law: a bit put -/
section
variable {l : Launch} {M : Mem} {A P n p d x s t o a b w MC MS : Nat} {is : Bool} {u : Nat → Int64} {ρ : Nat → Nat × Nat} {eo : Option Nat} {os : List OD} {nv : OD} {q : DQ}
theorem act_0s (hZ : AZ M A P n p os.length d u (usO os) ρ eo os nv) (hu : nv.2.2 = u) (hD : DK M d n q u) (hO : OW ρ d n q) (hs : s < 6) (ha : a < n) (hb9 : b < n) (hq9 : hb (Am M s a) b = is) : Go l jL_act 12 400 MC MS (QA A P n (mS M)) 224 [(0, .ref 0), (2, .ref P), (4, .ref d), (7, .int (nI s)), (10, .int (nI a)), (11, .int (nI b)), (12, .int (b1 is)), (13, .ref nv.1), (16, .int 1), (17, .ref (q.2.2.2.1 s))] [] 1100 9000 M := by
  have hn := hZ.2.2.2.2.2.2
  have hx := hZ.x
  have hz := hD.z
  have hn32 : n ≤ 32 := by omega
  obtain ⟨-, hm⟩ := hD.mm hZ.1 hs
  have hwf := hZ.1.wf hs
  have hlt := hD.lt
  have oc := (hO.2.2.2.2 s hs).2.2
  have on := (hO.2.2.2.2 s hs).2.1
  have hlr := (hlt.2.2.2.2 s hs).2.2 a ha
  have hlc := (hlt.2.2.2.2 s hs).2.1
  refine g_aload (pc := 224) dL_act_224 rfl trivial ?_
  refine g_aload (pc := 226) dL_act_226 rfl trivial ?_
  refine g_invV_o (pc := 228) (As := [_]) dL_act_228 rfl (k_closure hD.1.1 hz hm hn hx) rfl rfl hD.1.1 rfl rfl lk_L_131 rfl (nb rfl) ⟨nb rfl, nb rfl⟩ rfl (fun v1 M1 hq => ?_)
  obtain ⟨m1, b9, rfl, w1, w2, w3, x1⟩ := hq
  show Go l _ _ _ _ _ _ _ _ ([.ref m1] : List Value) _ _ _
  have hD1 : DK M1 d n q u := hD.xt hO x1 (fun _ _ z => z.elim)
  have hm1 := hm.xt x1 id (fun _ _ => id)
  have hz1 := hD1.z
  refine g_astore (pc := 231) (lv' := [(0, _), (2, _), (4, _), (7, _), (10, _), (11, _), (12, _), (13, _), (16, _), (17, _), (18, _)]) dL_act_231 trivial (nl rfl) rfl ?_
  refine g_iconst (pc := 233) (v := 0) dL_act_233 rfl ?_
  refine g_istore (pc := 234) (lv' := [(0, _), (2, _), (4, _), (7, _), (10, _), (11, _), (12, _), (13, _), (16, _), (17, _), (18, _), (19, _)]) dL_act_234 (nl rfl) rfl ?_
  refine g_iconst (pc := 236) (v := 0) dL_act_236 rfl ?_
  refine g_istore (pc := 237) (lv' := [(0, _), (2, _), (4, _), (7, _), (10, _), (11, _), (12, _), (13, _), (16, _), (17, _), (18, _), (19, _), (20, _)]) dL_act_237 (nl rfl) rfl ?_
  refine go_loop (pc := 239) n (fun i => [(0, .ref 0), (2, .ref P), (4, .ref d), (7, .int (nI s)), (10, .int (nI a)), (11, .int (nI b)), (12, .int (b1 is)), (13, .ref nv.1), (16, .int 1), (17, .ref (q.2.2.2.1 s)), (18, .ref m1), (19, .int (nI (cR (fun k => decide (k = a) || clB (fB (Am M s)) n k a) i))), (20, .int (nI i))]) (fun _ => M1) ⟨rfl, rfl, rfl, rfl, rfl, rfl, rfl, rfl, rfl, rfl, rfl, rfl, rfl, trivial⟩ rfl ?_ ?_
  · intro i hi ih
    have hv : mI M1 (b9 + i) a = b1 (clB (fB (Am M s)) n i a) := (w1.2 i hi).2.2 a ha
    have e9 : cR (fun k => decide (k = a) || clB (fB (Am M s)) n k a) (i + 1) = cR (fun k => decide (k = a) || clB (fB (Am M s)) n k a) i + (match (decide (i = a) || clB (fB (Am M s)) n i a) with | true => 1 | false => 0) := rfl
    rw [e9] at ih
    generalize cR (fun k => decide (k = a) || clB (fB (Am M s)) n k a) i = w9 at *
    by_cases e : i = a
    · rw [decide_eq_true e, Bool.true_or] at ih
      refine g_iload (pc := 239) dL_act_239 rfl ?_
      refine g_aload (pc := 241) dL_act_241 rfl trivial ?_
      refine g_getf (pc := 243) (v := .int _) dL_act_243 fk_L_45 hD1.1.1 (fun _ => congrArg Value.int (hz1)) ?_
      refine g_icmp_ge (pc := 246) (tgt := 283) dL_act_246 rfl (fun h246 => absurd h246 (nI_ge hi (by omega))) (fun _ => ?_)
      refine g_iload (pc := 249) dL_act_249 rfl ?_
      refine g_iload (pc := 251) dL_act_251 rfl ?_
      refine g_iload (pc := 253) dL_act_253 rfl ?_
      refine g_icmp_eq (pc := 255) (tgt := 269) dL_act_255 rfl (fun _ => ?_) (fun h255 => absurd ((by rw [e])) h255)
      refine g_iconst (pc := 269) (v := 1) dL_act_269 rfl ?_
      refine g_goto (pc := 270) (tgt := 274) dL_act_270 rfl ?_
      refine g_iadd (pc := 274) dL_act_274 ?_
      rw [show nI w9 + 1 = nI (w9 + 1) from nI_add _ 1]
      refine g_istore (pc := 275) (lv' := [(0, _), (2, _), (4, _), (7, _), (10, _), (11, _), (12, _), (13, _), (16, _), (17, _), (18, _), (19, _), (20, _)]) dL_act_275 (nl rfl) rfl ?_
      refine g_iinc (pc := 277) (lv' := [(0, _), (2, _), (4, _), (7, _), (10, _), (11, _), (12, _), (13, _), (16, _), (17, _), (18, _), (19, _), (20, _)]) dL_act_277 rfl (nI_1 _) (nl rfl) rfl ?_
      refine g_goto (pc := 280) (tgt := 239) dL_act_280 rfl ?_
      exact g_subk ih ⟨rfl, rfl, rfl, rfl, rfl, rfl, rfl, rfl, rfl, rfl, rfl, rfl, rfl, trivial⟩
    · have n1 : ¬ nI i = nI a := fun z => e (nI_inj9 (by omega) (by omega) z)
      rw [decide_eq_false e, Bool.false_or] at ih
      cases hC : clB (fB (Am M s)) n i a
      · rw [hC] at hv ih
        refine g_iload (pc := 239) dL_act_239 rfl ?_
        refine g_aload (pc := 241) dL_act_241 rfl trivial ?_
        refine g_getf (pc := 243) (v := .int _) dL_act_243 fk_L_45 hD1.1.1 (fun _ => congrArg Value.int (hz1)) ?_
        refine g_icmp_ge (pc := 246) (tgt := 283) dL_act_246 rfl (fun h246 => absurd h246 (nI_ge hi (by omega))) (fun _ => ?_)
        refine g_iload (pc := 249) dL_act_249 rfl ?_
        refine g_iload (pc := 251) dL_act_251 rfl ?_
        refine g_iload (pc := 253) dL_act_253 rfl ?_
        refine g_icmp_eq (pc := 255) (tgt := 269) dL_act_255 rfl (fun h255 => absurd h255 (n1)) (fun _ => ?_)
        refine g_aload (pc := 258) dL_act_258 rfl trivial ?_
        refine g_iload (pc := 260) dL_act_260 rfl ?_
        refine g_aaload_Z1 (pc := 262) dL_act_262 w1.1 rfl hi (by omega) (w1.2 i hi).1 ?_
        refine g_iload (pc := 263) dL_act_263 rfl ?_
        refine g_zaload (pc := 265) dL_act_265 (w1.2 i hi).2.1 rfl ha (by omega) ?_
        rw [show mI M1 ((fun r => b9 + r) i) a = b1 false from hv]
        refine g_if_eq (pc := 266) (tgt := 273) dL_act_266 rfl (fun _ => ?_) (fun h266 => absurd (rfl) h266)
        refine g_iconst (pc := 273) (v := 0) dL_act_273 rfl ?_
        refine g_iadd (pc := 274) dL_act_274 ?_
        rw [show nI w9 + 0 = nI (w9 + 0) from nI_add _ 0]
        refine g_istore (pc := 275) (lv' := [(0, _), (2, _), (4, _), (7, _), (10, _), (11, _), (12, _), (13, _), (16, _), (17, _), (18, _), (19, _), (20, _)]) dL_act_275 (nl rfl) rfl ?_
        refine g_iinc (pc := 277) (lv' := [(0, _), (2, _), (4, _), (7, _), (10, _), (11, _), (12, _), (13, _), (16, _), (17, _), (18, _), (19, _), (20, _)]) dL_act_277 rfl (nI_1 _) (nl rfl) rfl ?_
        refine g_goto (pc := 280) (tgt := 239) dL_act_280 rfl ?_
        exact g_subk ih ⟨rfl, rfl, rfl, rfl, rfl, rfl, rfl, rfl, rfl, rfl, rfl, rfl, rfl, trivial⟩
      · rw [hC] at hv ih
        refine g_iload (pc := 239) dL_act_239 rfl ?_
        refine g_aload (pc := 241) dL_act_241 rfl trivial ?_
        refine g_getf (pc := 243) (v := .int _) dL_act_243 fk_L_45 hD1.1.1 (fun _ => congrArg Value.int (hz1)) ?_
        refine g_icmp_ge (pc := 246) (tgt := 283) dL_act_246 rfl (fun h246 => absurd h246 (nI_ge hi (by omega))) (fun _ => ?_)
        refine g_iload (pc := 249) dL_act_249 rfl ?_
        refine g_iload (pc := 251) dL_act_251 rfl ?_
        refine g_iload (pc := 253) dL_act_253 rfl ?_
        refine g_icmp_eq (pc := 255) (tgt := 269) dL_act_255 rfl (fun h255 => absurd h255 (n1)) (fun _ => ?_)
        refine g_aload (pc := 258) dL_act_258 rfl trivial ?_
        refine g_iload (pc := 260) dL_act_260 rfl ?_
        refine g_aaload_Z1 (pc := 262) dL_act_262 w1.1 rfl hi (by omega) (w1.2 i hi).1 ?_
        refine g_iload (pc := 263) dL_act_263 rfl ?_
        refine g_zaload (pc := 265) dL_act_265 (w1.2 i hi).2.1 rfl ha (by omega) ?_
        rw [show mI M1 ((fun r => b9 + r) i) a = b1 true from hv]
        refine g_if_eq (pc := 266) (tgt := 273) dL_act_266 rfl (fun h266 => absurd h266 ((by decide))) (fun _ => ?_)
        refine g_iconst (pc := 269) (v := 1) dL_act_269 rfl ?_
        refine g_goto (pc := 270) (tgt := 274) dL_act_270 rfl ?_
        refine g_iadd (pc := 274) dL_act_274 ?_
        rw [show nI w9 + 1 = nI (w9 + 1) from nI_add _ 1]
        refine g_istore (pc := 275) (lv' := [(0, _), (2, _), (4, _), (7, _), (10, _), (11, _), (12, _), (13, _), (16, _), (17, _), (18, _), (19, _), (20, _)]) dL_act_275 (nl rfl) rfl ?_
        refine g_iinc (pc := 277) (lv' := [(0, _), (2, _), (4, _), (7, _), (10, _), (11, _), (12, _), (13, _), (16, _), (17, _), (18, _), (19, _), (20, _)]) dL_act_277 rfl (nI_1 _) (nl rfl) rfl ?_
        refine g_goto (pc := 280) (tgt := 239) dL_act_280 rfl ?_
        exact g_subk ih ⟨rfl, rfl, rfl, rfl, rfl, rfl, rfl, rfl, rfl, rfl, rfl, rfl, rfl, trivial⟩
  · have hval : mI M1 (q.2.2.2.2.1 s a) b = b1 (hb (Am M s a) b) := (hm1.2 a ha).2.2 b hb9
    obtain ⟨⟨k, k1, k2⟩, -⟩ := (hD1.2.2.2 s hs).2
    have hlk := k_look (l := l) (x := (0 : Int32)) hD1 hs k1
    have hD2 : DK (dkLook M1 (q.2.2.2.2.2 s) k (0 : Int32)) d n q (lkU u s (0 : Int32)) := hD1.look hO hs k2
    have hx2 := dkLook_xt (M := M1) (c := q.2.2.2.2.2 s) (k := k) (x := (0 : Int32))
    have hm2 : Mt (dkLook M1 (q.2.2.2.2.2 s) k (0 : Int32)) (q.2.2.2.1 s) n (q.2.2.2.2.1 s) (fB (Am M s)) := hm1.xt hx2 (nρ (hO.2.2.2.2 s hs).1 on (by omega)) (fun r hr => nρ (oc r hr) on (by omega))
    generalize dkLook M1 (q.2.2.2.2.2 s) k (0 : Int32) = M2 at *
    have hru : ∀ r, r < n → rI (lkU u s (0 : Int32)) s r = Am M s r := fun r hr => by
      unfold rI
      rw [lkU_ne (by omega) (by omega)]
      exact hZ.1.rw hs hr
    have hD3 : DK (sI M2 (q.2.2.2.2.1 s a) (fun_set (mI M2 (q.2.2.2.2.1 s a)) b (vp_nar .boolean (b1 is)))) d n q (lkU u s 0) := hD2.cell hO hs hn ha (fun r c hr hc => by
      by_cases e : r = a ∧ c = b
      · rw [if_pos e, hru r hr, e.1, e.2, hq9]
      · rw [if_neg e]) (fun t ht e => ⟨fun _ _ => rfl, rfl, rfl, rfl, rfl⟩) ⟨rfl, rfl, rfl, rfl⟩ ⟨rfl, rfl, rfl⟩
    have hm3 : Mt (sI M2 (q.2.2.2.2.1 s a) (fun_set (mI M2 (q.2.2.2.2.1 s a)) b (vp_nar .boolean (b1 is)))) (q.2.2.2.1 s) n (q.2.2.2.2.1 s) (fB (Am M s)) := (hD3.2.2.2 s hs).1.2.cg (fun r c hr _ => by show hb (rI (lkU u s 0) s r) c = hb (Am M s r) c; rw [hru r hr])
    have hx3 : Xt (fun i => i = q.2.2.2.2.2 s ∨ i = q.2.2.2.2.1 s a) M1 (sI M2 (q.2.2.2.2.1 s a) (fun_set (mI M2 (q.2.2.2.2.1 s a)) b (vp_nar .boolean (b1 is)))) := (hx2.up (fun i _ e => Or.inl e)).sI (fun _ => Or.inr rfl)
    refine g_iload (pc := 239) dL_act_239 rfl ?_
    refine g_aload (pc := 241) dL_act_241 rfl trivial ?_
    refine g_getf (pc := 243) (v := .int _) dL_act_243 fk_L_45 hD1.1.1 (fun _ => congrArg Value.int (hz1)) ?_
    refine g_icmp_ge (pc := 246) (tgt := 283) dL_act_246 rfl (fun _ => ?_) (fun h246 => absurd (nI_le (Nat.le_refl _) (by omega)) h246)
    refine g_aload (pc := 283) dL_act_283 rfl trivial ?_
    refine g_iload (pc := 285) dL_act_285 rfl ?_
    refine g_aload (pc := 287) dL_act_287 rfl trivial ?_
    refine g_iload (pc := 289) dL_act_289 rfl ?_
    refine g_aaload_Z1 (pc := 291) dL_act_291 hm1.1 rfl ha (by omega) (hm1.2 a ha).1 ?_
    refine g_iload (pc := 292) dL_act_292 rfl ?_
    refine g_zaload (pc := 294) dL_act_294 (hm1.2 a ha).2.1 rfl hb9 (by omega) ?_
    rw [hval]
    refine g_iload (pc := 295) dL_act_295 rfl ?_
    refine g_icmp_ne (pc := 297) (tgt := 304) dL_act_297 rfl (fun h297 => absurd h297 ((fun z => z (by rw [hq9])))) (fun _ => ?_)
    refine g_iconst (pc := 300) (v := 0) dL_act_300 rfl ?_
    refine g_goto (pc := 301) (tgt := 306) dL_act_301 rfl ?_
    refine g_invV_r (pc := 306) (As := [_, _]) dL_act_306 rfl (hlk) rfl rfl hD1.1.1 rfl rfl lk_L_135 rfl (nb rfl) ⟨nb rfl, nb rfl⟩ rfl ?_
    refine g_aload (pc := 309) dL_act_309 rfl trivial ?_
    refine g_iload (pc := 311) dL_act_311 rfl ?_
    refine g_aaload_Z1 (pc := 313) dL_act_313 hm2.1 rfl ha (by omega) (hm2.2 a ha).1 ?_
    refine g_iload (pc := 314) dL_act_314 rfl ?_
    refine g_iload (pc := 316) dL_act_316 rfl ?_
    refine g_zastore (pc := 318) dL_act_318 (hm2.2 a ha).2.1 rfl hb9 (by omega) ?_
    show Go l _ _ _ _ _ _ _ _ _ _ _ (sI M2 (q.2.2.2.2.1 s a) (fun_set (mI M2 (q.2.2.2.2.1 s a)) b (vp_nar .boolean (b1 is))))
    generalize sI M2 (q.2.2.2.2.1 s a) (fun_set (mI M2 (q.2.2.2.2.1 s a)) b (vp_nar .boolean (b1 is))) = M3 at *
    have hX3 : mX M3 = true := hx3.2.1.trans (x1.2.1.trans hx)
    refine g_aload (pc := 319) dL_act_319 rfl trivial ?_
    refine g_aload (pc := 321) dL_act_321 rfl trivial ?_
    refine g_aload (pc := 323) dL_act_323 rfl trivial ?_
    refine g_aload (pc := 325) dL_act_325 rfl trivial ?_
    refine g_invV_o (pc := 327) (As := [_]) dL_act_327 rfl (k_closure hD3.1.1 hD3.z hm3 hn hX3) rfl rfl hD3.1.1 rfl rfl lk_L_131 rfl (nb rfl) ⟨nb rfl, nb rfl⟩ rfl (fun v2 M4 hq => ?_)
    obtain ⟨m4, b4, rfl, y1, y2, y3, x4⟩ := hq
    show Go l _ _ _ _ _ _ _ _ ([.ref m4, .ref m1, .ref d] : List Value) _ _ _
    have hD4 : DK M4 d n q (lkU u s 0) := hD3.xt hO x4 (fun _ _ z => z.elim)
    have hx4 : Xt (fun i => i = q.2.2.2.2.2 s ∨ i = q.2.2.2.2.1 s a) M1 M4 := hx3.tr' x4 (fun _ _ z => z.elim)
    have hx5 : Xt (fun i => i = q.2.2.2.2.2 s ∨ i = q.2.2.2.2.1 s a) M M4 := (x1.up (fun _ _ z => z.elim)).tr hx4
    have hw1 : Mt M4 m1 n (fun r => b9 + r) (clB (fB (Am M s)) n) := w1.xt hx4 (by omega) (fun r hr => by omega)
    have how : ∀ i, i < (mK M).length → (i = q.2.2.2.2.2 s ∨ i = q.2.2.2.2.1 s a) → (ρ i).1 = d := fun i _ e => by
      rcases e with e | e
      · rw [e, on]
      · rw [e, oc a ha]
    have hZ4 := hZ.xt hx5 how (fun _ _ => rfl)
    have hA4 := hZ.am hx5 how hs
    have hS4 : mS M4 = mS M := hx5.2.2.1
    have hdue : dM (clB (fB (Am M s)) n) (clB (fB (Am M s)) n) n n = 0 := (cM_0 n).mpr (fun r c _ _ => Bool.xor_self _)
    obtain ⟨M5, c1, c2, c3⟩ := c_put0 (l := l) (v := is) hZ4.1 hs ha hb9 (by rw [hA4]; exact hq9)
    have hdf := k_differ (l := l) hD4.1.1 hD4.z hw1 y1 hn
    rw [hdue] at hdf
    rw [← hS4]
    refine g_invV_r (pc := 330) (As := [_, _]) dL_act_330 rfl (hdf) rfl rfl hD4.1.1 rfl rfl lk_L_139 rfl (nb rfl) ⟨nb rfl, nb rfl⟩ rfl ?_
    refine g_istore (pc := 333) (lv' := [(0, _), (2, _), (4, _), (7, _), (10, _), (11, _), (12, _), (13, _), (16, _), (17, _), (18, _), (19, _), (20, _), (14, _)]) dL_act_333 (nl rfl) rfl ?_
    refine g_aload_n (pc := 335) dL_act_335 rfl trivial ?_
    refine g_iload (pc := 336) dL_act_336 rfl ?_
    refine g_iload (pc := 338) dL_act_338 rfl ?_
    refine g_iload (pc := 340) dL_act_340 rfl ?_
    refine g_iload (pc := 342) dL_act_342 rfl ?_
    refine g_invV_r (pc := 344) (As := [_, _, _, _]) dL_act_344 rfl (c1) rfl rfl (shK hZ4.1.S rfl) rfl rfl lk_L_143 rfl (nb rfl) ⟨nb rfl, nb rfl⟩ rfl ?_
    refine g_istore (pc := 347) (lv' := [(0, _), (2, _), (4, _), (7, _), (10, _), (11, _), (12, _), (13, _), (16, _), (17, _), (18, _), (19, _), (20, _), (14, _), (15, _)]) dL_act_347 (nl rfl) rfl ?_
    refine g_goto (pc := 349) (tgt := 1338) dL_act_349 rfl ?_
    refine g_wk (pc := 1338) (k := 2) (n := 16) (by decide) (by decide) ?_
    exact g_subk (k_fin hZ4 hu hD4 hO c2 c3) ⟨rfl, rfl, rfl, rfl, rfl, rfl, trivial⟩
theorem act_0d (hZ : AZ M A P n p os.length d u (usO os) ρ eo os nv) (hu : nv.2.2 = u) (hD : DK M d n q u) (hO : OW ρ d n q) (hs : s < 6) (ha : a < n) (hb9 : b < n) (hq9 : hb (Am M s a) b ≠ is) : Go l jL_act 12 400 MC MS (QA A P n (mS M)) 224 [(0, .ref 0), (2, .ref P), (4, .ref d), (7, .int (nI s)), (10, .int (nI a)), (11, .int (nI b)), (12, .int (b1 is)), (13, .ref nv.1), (16, .int 1), (17, .ref (q.2.2.2.1 s))] [] 1100 9000 M := by
  have hn := hZ.2.2.2.2.2.2
  have hx := hZ.x
  have hz := hD.z
  have hn32 : n ≤ 32 := by omega
  obtain ⟨-, hm⟩ := hD.mm hZ.1 hs
  have hwf := hZ.1.wf hs
  have hlt := hD.lt
  have oc := (hO.2.2.2.2 s hs).2.2
  have on := (hO.2.2.2.2 s hs).2.1
  have hlr := (hlt.2.2.2.2 s hs).2.2 a ha
  have hlc := (hlt.2.2.2.2 s hs).2.1
  refine g_aload (pc := 224) dL_act_224 rfl trivial ?_
  refine g_aload (pc := 226) dL_act_226 rfl trivial ?_
  refine g_invV_o (pc := 228) (As := [_]) dL_act_228 rfl (k_closure hD.1.1 hz hm hn hx) rfl rfl hD.1.1 rfl rfl lk_L_131 rfl (nb rfl) ⟨nb rfl, nb rfl⟩ rfl (fun v1 M1 hq => ?_)
  obtain ⟨m1, b9, rfl, w1, w2, w3, x1⟩ := hq
  show Go l _ _ _ _ _ _ _ _ ([.ref m1] : List Value) _ _ _
  have hD1 : DK M1 d n q u := hD.xt hO x1 (fun _ _ z => z.elim)
  have hm1 := hm.xt x1 id (fun _ _ => id)
  have hz1 := hD1.z
  refine g_astore (pc := 231) (lv' := [(0, _), (2, _), (4, _), (7, _), (10, _), (11, _), (12, _), (13, _), (16, _), (17, _), (18, _)]) dL_act_231 trivial (nl rfl) rfl ?_
  refine g_iconst (pc := 233) (v := 0) dL_act_233 rfl ?_
  refine g_istore (pc := 234) (lv' := [(0, _), (2, _), (4, _), (7, _), (10, _), (11, _), (12, _), (13, _), (16, _), (17, _), (18, _), (19, _)]) dL_act_234 (nl rfl) rfl ?_
  refine g_iconst (pc := 236) (v := 0) dL_act_236 rfl ?_
  refine g_istore (pc := 237) (lv' := [(0, _), (2, _), (4, _), (7, _), (10, _), (11, _), (12, _), (13, _), (16, _), (17, _), (18, _), (19, _), (20, _)]) dL_act_237 (nl rfl) rfl ?_
  refine go_loop (pc := 239) n (fun i => [(0, .ref 0), (2, .ref P), (4, .ref d), (7, .int (nI s)), (10, .int (nI a)), (11, .int (nI b)), (12, .int (b1 is)), (13, .ref nv.1), (16, .int 1), (17, .ref (q.2.2.2.1 s)), (18, .ref m1), (19, .int (nI (cR (fun k => decide (k = a) || clB (fB (Am M s)) n k a) i))), (20, .int (nI i))]) (fun _ => M1) ⟨rfl, rfl, rfl, rfl, rfl, rfl, rfl, rfl, rfl, rfl, rfl, rfl, rfl, trivial⟩ rfl ?_ ?_
  · intro i hi ih
    have hv : mI M1 (b9 + i) a = b1 (clB (fB (Am M s)) n i a) := (w1.2 i hi).2.2 a ha
    have e9 : cR (fun k => decide (k = a) || clB (fB (Am M s)) n k a) (i + 1) = cR (fun k => decide (k = a) || clB (fB (Am M s)) n k a) i + (match (decide (i = a) || clB (fB (Am M s)) n i a) with | true => 1 | false => 0) := rfl
    rw [e9] at ih
    generalize cR (fun k => decide (k = a) || clB (fB (Am M s)) n k a) i = w9 at *
    by_cases e : i = a
    · rw [decide_eq_true e, Bool.true_or] at ih
      refine g_iload (pc := 239) dL_act_239 rfl ?_
      refine g_aload (pc := 241) dL_act_241 rfl trivial ?_
      refine g_getf (pc := 243) (v := .int _) dL_act_243 fk_L_45 hD1.1.1 (fun _ => congrArg Value.int (hz1)) ?_
      refine g_icmp_ge (pc := 246) (tgt := 283) dL_act_246 rfl (fun h246 => absurd h246 (nI_ge hi (by omega))) (fun _ => ?_)
      refine g_iload (pc := 249) dL_act_249 rfl ?_
      refine g_iload (pc := 251) dL_act_251 rfl ?_
      refine g_iload (pc := 253) dL_act_253 rfl ?_
      refine g_icmp_eq (pc := 255) (tgt := 269) dL_act_255 rfl (fun _ => ?_) (fun h255 => absurd ((by rw [e])) h255)
      refine g_iconst (pc := 269) (v := 1) dL_act_269 rfl ?_
      refine g_goto (pc := 270) (tgt := 274) dL_act_270 rfl ?_
      refine g_iadd (pc := 274) dL_act_274 ?_
      rw [show nI w9 + 1 = nI (w9 + 1) from nI_add _ 1]
      refine g_istore (pc := 275) (lv' := [(0, _), (2, _), (4, _), (7, _), (10, _), (11, _), (12, _), (13, _), (16, _), (17, _), (18, _), (19, _), (20, _)]) dL_act_275 (nl rfl) rfl ?_
      refine g_iinc (pc := 277) (lv' := [(0, _), (2, _), (4, _), (7, _), (10, _), (11, _), (12, _), (13, _), (16, _), (17, _), (18, _), (19, _), (20, _)]) dL_act_277 rfl (nI_1 _) (nl rfl) rfl ?_
      refine g_goto (pc := 280) (tgt := 239) dL_act_280 rfl ?_
      exact g_subk ih ⟨rfl, rfl, rfl, rfl, rfl, rfl, rfl, rfl, rfl, rfl, rfl, rfl, rfl, trivial⟩
    · have n1 : ¬ nI i = nI a := fun z => e (nI_inj9 (by omega) (by omega) z)
      rw [decide_eq_false e, Bool.false_or] at ih
      cases hC : clB (fB (Am M s)) n i a
      · rw [hC] at hv ih
        refine g_iload (pc := 239) dL_act_239 rfl ?_
        refine g_aload (pc := 241) dL_act_241 rfl trivial ?_
        refine g_getf (pc := 243) (v := .int _) dL_act_243 fk_L_45 hD1.1.1 (fun _ => congrArg Value.int (hz1)) ?_
        refine g_icmp_ge (pc := 246) (tgt := 283) dL_act_246 rfl (fun h246 => absurd h246 (nI_ge hi (by omega))) (fun _ => ?_)
        refine g_iload (pc := 249) dL_act_249 rfl ?_
        refine g_iload (pc := 251) dL_act_251 rfl ?_
        refine g_iload (pc := 253) dL_act_253 rfl ?_
        refine g_icmp_eq (pc := 255) (tgt := 269) dL_act_255 rfl (fun h255 => absurd h255 (n1)) (fun _ => ?_)
        refine g_aload (pc := 258) dL_act_258 rfl trivial ?_
        refine g_iload (pc := 260) dL_act_260 rfl ?_
        refine g_aaload_Z1 (pc := 262) dL_act_262 w1.1 rfl hi (by omega) (w1.2 i hi).1 ?_
        refine g_iload (pc := 263) dL_act_263 rfl ?_
        refine g_zaload (pc := 265) dL_act_265 (w1.2 i hi).2.1 rfl ha (by omega) ?_
        rw [show mI M1 ((fun r => b9 + r) i) a = b1 false from hv]
        refine g_if_eq (pc := 266) (tgt := 273) dL_act_266 rfl (fun _ => ?_) (fun h266 => absurd (rfl) h266)
        refine g_iconst (pc := 273) (v := 0) dL_act_273 rfl ?_
        refine g_iadd (pc := 274) dL_act_274 ?_
        rw [show nI w9 + 0 = nI (w9 + 0) from nI_add _ 0]
        refine g_istore (pc := 275) (lv' := [(0, _), (2, _), (4, _), (7, _), (10, _), (11, _), (12, _), (13, _), (16, _), (17, _), (18, _), (19, _), (20, _)]) dL_act_275 (nl rfl) rfl ?_
        refine g_iinc (pc := 277) (lv' := [(0, _), (2, _), (4, _), (7, _), (10, _), (11, _), (12, _), (13, _), (16, _), (17, _), (18, _), (19, _), (20, _)]) dL_act_277 rfl (nI_1 _) (nl rfl) rfl ?_
        refine g_goto (pc := 280) (tgt := 239) dL_act_280 rfl ?_
        exact g_subk ih ⟨rfl, rfl, rfl, rfl, rfl, rfl, rfl, rfl, rfl, rfl, rfl, rfl, rfl, trivial⟩
      · rw [hC] at hv ih
        refine g_iload (pc := 239) dL_act_239 rfl ?_
        refine g_aload (pc := 241) dL_act_241 rfl trivial ?_
        refine g_getf (pc := 243) (v := .int _) dL_act_243 fk_L_45 hD1.1.1 (fun _ => congrArg Value.int (hz1)) ?_
        refine g_icmp_ge (pc := 246) (tgt := 283) dL_act_246 rfl (fun h246 => absurd h246 (nI_ge hi (by omega))) (fun _ => ?_)
        refine g_iload (pc := 249) dL_act_249 rfl ?_
        refine g_iload (pc := 251) dL_act_251 rfl ?_
        refine g_iload (pc := 253) dL_act_253 rfl ?_
        refine g_icmp_eq (pc := 255) (tgt := 269) dL_act_255 rfl (fun h255 => absurd h255 (n1)) (fun _ => ?_)
        refine g_aload (pc := 258) dL_act_258 rfl trivial ?_
        refine g_iload (pc := 260) dL_act_260 rfl ?_
        refine g_aaload_Z1 (pc := 262) dL_act_262 w1.1 rfl hi (by omega) (w1.2 i hi).1 ?_
        refine g_iload (pc := 263) dL_act_263 rfl ?_
        refine g_zaload (pc := 265) dL_act_265 (w1.2 i hi).2.1 rfl ha (by omega) ?_
        rw [show mI M1 ((fun r => b9 + r) i) a = b1 true from hv]
        refine g_if_eq (pc := 266) (tgt := 273) dL_act_266 rfl (fun h266 => absurd h266 ((by decide))) (fun _ => ?_)
        refine g_iconst (pc := 269) (v := 1) dL_act_269 rfl ?_
        refine g_goto (pc := 270) (tgt := 274) dL_act_270 rfl ?_
        refine g_iadd (pc := 274) dL_act_274 ?_
        rw [show nI w9 + 1 = nI (w9 + 1) from nI_add _ 1]
        refine g_istore (pc := 275) (lv' := [(0, _), (2, _), (4, _), (7, _), (10, _), (11, _), (12, _), (13, _), (16, _), (17, _), (18, _), (19, _), (20, _)]) dL_act_275 (nl rfl) rfl ?_
        refine g_iinc (pc := 277) (lv' := [(0, _), (2, _), (4, _), (7, _), (10, _), (11, _), (12, _), (13, _), (16, _), (17, _), (18, _), (19, _), (20, _)]) dL_act_277 rfl (nI_1 _) (nl rfl) rfl ?_
        refine g_goto (pc := 280) (tgt := 239) dL_act_280 rfl ?_
        exact g_subk ih ⟨rfl, rfl, rfl, rfl, rfl, rfl, rfl, rfl, rfl, rfl, rfl, rfl, rfl, trivial⟩
  · have hval : mI M1 (q.2.2.2.2.1 s a) b = b1 (hb (Am M s a) b) := (hm1.2 a ha).2.2 b hb9
    obtain ⟨⟨k, k1, k2⟩, -⟩ := (hD1.2.2.2 s hs).2
    have hlk := k_look (l := l) (x := (nI (cR (fun k => decide (k = a) || clB (fB (Am M s)) n k a) n))) hD1 hs k1
    have hD2 : DK (dkLook M1 (q.2.2.2.2.2 s) k (nI (cR (fun k => decide (k = a) || clB (fB (Am M s)) n k a) n))) d n q (lkU u s (nI (cR (fun k => decide (k = a) || clB (fB (Am M s)) n k a) n))) := hD1.look hO hs k2
    have hx2 := dkLook_xt (M := M1) (c := q.2.2.2.2.2 s) (k := k) (x := (nI (cR (fun k => decide (k = a) || clB (fB (Am M s)) n k a) n)))
    have hm2 : Mt (dkLook M1 (q.2.2.2.2.2 s) k (nI (cR (fun k => decide (k = a) || clB (fB (Am M s)) n k a) n))) (q.2.2.2.1 s) n (q.2.2.2.2.1 s) (fB (Am M s)) := hm1.xt hx2 (nρ (hO.2.2.2.2 s hs).1 on (by omega)) (fun r hr => nρ (oc r hr) on (by omega))
    generalize dkLook M1 (q.2.2.2.2.2 s) k (nI (cR (fun k => decide (k = a) || clB (fB (Am M s)) n k a) n)) = M2 at *
    have hru : ∀ r, r < n → rI (lkU u s (nI (cR (fun k => decide (k = a) || clB (fB (Am M s)) n k a) n))) s r = Am M s r := fun r hr => by
      unfold rI
      rw [lkU_ne (by omega) (by omega)]
      exact hZ.1.rw hs hr
    have g3 : ∀ j, j ≠ 28 + 32 * s + a → fun_set (lkU u s (nI (cR (fun k => decide (k = a) || clB (fB (Am M s)) n k a) n))) (28 + 32 * s + a) (uL (Am M s a ^^^ bitI b)) j = lkU u s (nI (cR (fun k => decide (k = a) || clB (fB (Am M s)) n k a) n)) j := fun j hj => fs_ne _ _ hj
    have hrw : ∀ r c, r < n → hb (rI (fun_set (lkU u s (nI (cR (fun k => decide (k = a) || clB (fB (Am M s)) n k a) n))) (28 + 32 * s + a) (uL (Am M s a ^^^ bitI b))) s r) c = hb (tnF (Am M s) a b r) c := fun r c hr => by
      rw [hb_tn (by omega)]
      by_cases e : r = a
      · subst e
        unfold rI
        rw [if_pos rfl, fs_self, uL_32, hb_xor, hb_bitI (by omega)]
      · unfold rI
        rw [if_neg e, g3 _ (by omega)]
        show hb (rI (lkU u s (nI (cR (fun k => decide (k = a) || clB (fB (Am M s)) n k a) n))) s r) c = _
        rw [hru r hr]
    have hD3 : DK (sI M2 (q.2.2.2.2.1 s a) (fun_set (mI M2 (q.2.2.2.2.1 s a)) b (vp_nar .boolean (b1 is)))) d n q (fun_set (lkU u s (nI (cR (fun k => decide (k = a) || clB (fB (Am M s)) n k a) n))) (28 + 32 * s + a) (uL (Am M s a ^^^ bitI b))) := hD2.cell hO hs hn ha (fun r c hr hc => by
      rw [hrw r c hr, hb_tn (by omega)]
      by_cases e : r = a
      · rw [if_pos e, hru r hr, e]
        by_cases e2 : c = b
        · rw [if_pos ⟨rfl, e2⟩, e2, decide_eq_true rfl]
          revert hq9
          cases hb (Am M s a) b <;> cases is <;> decide
        · rw [if_neg (fun z => e2 z.2), decide_eq_false e2, Bool.xor_false]
      · rw [if_neg e, if_neg (fun z => e z.1), hru r hr]) (fun t ht e => ⟨fun r _ => g3 _ (by omega), g3 _ (by omega), g3 _ (by omega), g3 _ (by omega), g3 _ (by omega)⟩) ⟨g3 _ (by omega), g3 _ (by omega), g3 _ (by omega), g3 _ (by omega)⟩ ⟨g3 _ (by omega), g3 _ (by omega), g3 _ (by omega)⟩
    have hm3 : Mt (sI M2 (q.2.2.2.2.1 s a) (fun_set (mI M2 (q.2.2.2.2.1 s a)) b (vp_nar .boolean (b1 is)))) (q.2.2.2.1 s) n (q.2.2.2.2.1 s) (fB (tnF (Am M s) a b)) := (hD3.2.2.2 s hs).1.2.cg (fun r c hr _ => hrw r c hr)
    have hx3 : Xt (fun i => i = q.2.2.2.2.2 s ∨ i = q.2.2.2.2.1 s a) M1 (sI M2 (q.2.2.2.2.1 s a) (fun_set (mI M2 (q.2.2.2.2.1 s a)) b (vp_nar .boolean (b1 is)))) := (hx2.up (fun i _ e => Or.inl e)).sI (fun _ => Or.inr rfl)
    refine g_iload (pc := 239) dL_act_239 rfl ?_
    refine g_aload (pc := 241) dL_act_241 rfl trivial ?_
    refine g_getf (pc := 243) (v := .int _) dL_act_243 fk_L_45 hD1.1.1 (fun _ => congrArg Value.int (hz1)) ?_
    refine g_icmp_ge (pc := 246) (tgt := 283) dL_act_246 rfl (fun _ => ?_) (fun h246 => absurd (nI_le (Nat.le_refl _) (by omega)) h246)
    refine g_aload (pc := 283) dL_act_283 rfl trivial ?_
    refine g_iload (pc := 285) dL_act_285 rfl ?_
    refine g_aload (pc := 287) dL_act_287 rfl trivial ?_
    refine g_iload (pc := 289) dL_act_289 rfl ?_
    refine g_aaload_Z1 (pc := 291) dL_act_291 hm1.1 rfl ha (by omega) (hm1.2 a ha).1 ?_
    refine g_iload (pc := 292) dL_act_292 rfl ?_
    refine g_zaload (pc := 294) dL_act_294 (hm1.2 a ha).2.1 rfl hb9 (by omega) ?_
    rw [hval]
    refine g_iload (pc := 295) dL_act_295 rfl ?_
    refine g_icmp_ne (pc := 297) (tgt := 304) dL_act_297 rfl (fun _ => ?_) (fun h297 => absurd ((fun z => hq9 ((b1_eq _ _).mp z))) h297)
    refine g_iload (pc := 304) dL_act_304 rfl ?_
    refine g_invV_r (pc := 306) (As := [_, _]) dL_act_306 rfl (hlk) rfl rfl hD1.1.1 rfl rfl lk_L_135 rfl (nb rfl) ⟨nb rfl, nb rfl⟩ rfl ?_
    refine g_aload (pc := 309) dL_act_309 rfl trivial ?_
    refine g_iload (pc := 311) dL_act_311 rfl ?_
    refine g_aaload_Z1 (pc := 313) dL_act_313 hm2.1 rfl ha (by omega) (hm2.2 a ha).1 ?_
    refine g_iload (pc := 314) dL_act_314 rfl ?_
    refine g_iload (pc := 316) dL_act_316 rfl ?_
    refine g_zastore (pc := 318) dL_act_318 (hm2.2 a ha).2.1 rfl hb9 (by omega) ?_
    show Go l _ _ _ _ _ _ _ _ _ _ _ (sI M2 (q.2.2.2.2.1 s a) (fun_set (mI M2 (q.2.2.2.2.1 s a)) b (vp_nar .boolean (b1 is))))
    generalize sI M2 (q.2.2.2.2.1 s a) (fun_set (mI M2 (q.2.2.2.2.1 s a)) b (vp_nar .boolean (b1 is))) = M3 at *
    have hX3 : mX M3 = true := hx3.2.1.trans (x1.2.1.trans hx)
    refine g_aload (pc := 319) dL_act_319 rfl trivial ?_
    refine g_aload (pc := 321) dL_act_321 rfl trivial ?_
    refine g_aload (pc := 323) dL_act_323 rfl trivial ?_
    refine g_aload (pc := 325) dL_act_325 rfl trivial ?_
    refine g_invV_o (pc := 327) (As := [_]) dL_act_327 rfl (k_closure hD3.1.1 hD3.z hm3 hn hX3) rfl rfl hD3.1.1 rfl rfl lk_L_131 rfl (nb rfl) ⟨nb rfl, nb rfl⟩ rfl (fun v2 M4 hq => ?_)
    obtain ⟨m4, b4, rfl, y1, y2, y3, x4⟩ := hq
    show Go l _ _ _ _ _ _ _ _ ([.ref m4, .ref m1, .ref d] : List Value) _ _ _
    have hD4 : DK M4 d n q (fun_set (lkU u s (nI (cR (fun k => decide (k = a) || clB (fB (Am M s)) n k a) n))) (28 + 32 * s + a) (uL (Am M s a ^^^ bitI b))) := hD3.xt hO x4 (fun _ _ z => z.elim)
    have hx4 : Xt (fun i => i = q.2.2.2.2.2 s ∨ i = q.2.2.2.2.1 s a) M1 M4 := hx3.tr' x4 (fun _ _ z => z.elim)
    have hx5 : Xt (fun i => i = q.2.2.2.2.2 s ∨ i = q.2.2.2.2.1 s a) M M4 := (x1.up (fun _ _ z => z.elim)).tr hx4
    have hw1 : Mt M4 m1 n (fun r => b9 + r) (clB (fB (Am M s)) n) := w1.xt hx4 (by omega) (fun r hr => by omega)
    have how : ∀ i, i < (mK M).length → (i = q.2.2.2.2.2 s ∨ i = q.2.2.2.2.1 s a) → (ρ i).1 = d := fun i _ e => by
      rcases e with e | e
      · rw [e, on]
      · rw [e, oc a ha]
    have hZ4 := hZ.xt hx5 how (fun _ _ => rfl)
    have hA4 := hZ.am hx5 how hs
    have hS4 : mS M4 = mS M := hx5.2.2.1
    obtain ⟨M5, c1, c2, c3⟩ := c_put1 (l := l) (v := is) hZ4.1 hs ha hb9 (by rw [hA4]; exact hq9)
    rw [hA4] at c1 c3
    have htn := tn_wf hwf ha hb9 hn32
    rw [pr_c hwf] at c3
    rw [df_c hn32 (wO_n htn) (wO_n hwf) n (Nat.le_refl n), ← dM_cl htn hwf, dM_sw] at c1
    have hdf := k_differ (l := l) hD4.1.1 hD4.z hw1 y1 hn
    rw [← hS4]
    refine g_invV_r (pc := 330) (As := [_, _]) dL_act_330 rfl (hdf) rfl rfl hD4.1.1 rfl rfl lk_L_139 rfl (nb rfl) ⟨nb rfl, nb rfl⟩ rfl ?_
    refine g_istore (pc := 333) (lv' := [(0, _), (2, _), (4, _), (7, _), (10, _), (11, _), (12, _), (13, _), (16, _), (17, _), (18, _), (19, _), (20, _), (14, _)]) dL_act_333 (nl rfl) rfl ?_
    refine g_aload_n (pc := 335) dL_act_335 rfl trivial ?_
    refine g_iload (pc := 336) dL_act_336 rfl ?_
    refine g_iload (pc := 338) dL_act_338 rfl ?_
    refine g_iload (pc := 340) dL_act_340 rfl ?_
    refine g_iload (pc := 342) dL_act_342 rfl ?_
    refine g_invV_r (pc := 344) (As := [_, _, _, _]) dL_act_344 rfl (c1) rfl rfl (shK hZ4.1.S rfl) rfl rfl lk_L_143 rfl (nb rfl) ⟨nb rfl, nb rfl⟩ rfl ?_
    refine g_istore (pc := 347) (lv' := [(0, _), (2, _), (4, _), (7, _), (10, _), (11, _), (12, _), (13, _), (16, _), (17, _), (18, _), (19, _), (20, _), (14, _), (15, _)]) dL_act_347 (nl rfl) rfl ?_
    refine g_goto (pc := 349) (tgt := 1338) dL_act_349 rfl ?_
    refine g_wk (pc := 1338) (k := 2) (n := 16) (by decide) (by decide) ?_
    exact g_subk (k_fin hZ4 hu hD4 hO c2 c3) ⟨rfl, rfl, rfl, rfl, rfl, rfl, trivial⟩
end

-- 308.acth
/-! an action of the law, whole -/
section
variable {l : Launch} {M : Mem} {A P n p d x s t o a b w v MC MS : Nat} {is : Bool} {u : Nat → Int64} {ρ : Nat → Nat × Nat} {eo : Option Nat} {os : List OD} {nv : OD} {q : DQ}
theorem usO_l {os1 : List OD} {o1 : OD} {i : Nat} (hi : i < os1.length) : usO (os1 ++ [o1]) i = usO os1 i := by
  unfold usO
  rw [List.getElem?_append_left hi]
theorem usO_e {os1 : List OD} {o1 : OD} : usO (os1 ++ [o1]) os1.length = o1.2.2 := by
  unfold usO
  rw [List.getElem?_append_right (Nat.le_refl _), Nat.sub_self]
  rfl
theorem act_14 (h1 : CV M n p os.length u (usO os)) (h2 : AR M A d) (h3 : AL M P eo (os.map (fun o => o.1))) (hD : DK M d n q u) (hO : OW ρ d n q) (hd : 198 ≤ d) (hoo : OO M ρ n os) (hnd : (d :: os.map (fun o => o.1)).Nodup) (hN : NO ρ A P eo) (hn : n ≤ 9) : Go l jL_act 12 400 MC MS (QA A P n (mS M)) 96 [(0, .ref 0), (1, .ref A), (2, .ref P)] [] 1250 10400 M := by
  rcases List.eq_nil_or_concat os with e | ⟨os1, o1, e⟩
  · subst e
    refine g_aload_n (pc := 96) dL_act_96 rfl trivial ?_
    refine g_invV_r (pc := 97) (As := []) dL_act_97 rfl (k_alSize h3) rfl rfl h3.1.1 rfl rfl lk_L_116 rfl (nb rfl) ⟨nb rfl, nb rfl⟩ rfl ?_
    refine g_iconst (pc := 100) (v := 1) dL_act_100 rfl ?_
    refine g_isub (pc := 101) dL_act_101 ?_
    rw [show nI (List.map (fun o : OD => o.1) []).length - 1 = -1 by decide]
    refine g_istore (pc := 102) (lv' := [(0, _), (1, _), (2, _), (13, _)]) dL_act_102 (nl rfl) rfl ?_
    refine g_iload (pc := 104) dL_act_104 rfl ?_
    refine g_if_lt (pc := 106) (tgt := 121) dL_act_106 rfl (fun _ => ?_) (fun h106 => absurd ((by decide)) h106)
    refine g_aload_n (pc := 121) dL_act_121 rfl trivial ?_
    refine g_invV_r (pc := 122) (As := []) dL_act_122 rfl (c_undo0 h1) rfl rfl (shK h1.S rfl) rfl rfl lk_L_124 rfl (nb rfl) ⟨nb rfl, nb rfl⟩ rfl ?_
    refine g_iload (pc := 125) dL_act_125 rfl ?_
    refine g_icmp_ne (pc := 127) (tgt := 134) dL_act_127 rfl (fun h127 => absurd h127 ((fun z => z rfl))) (fun _ => ?_)
    refine g_iconst (pc := 130) (v := 1) dL_act_130 rfl ?_
    refine g_goto (pc := 131) (tgt := 135) dL_act_131 rfl ?_
    refine g_ireturn (pc := 135) dL_act_135 rfl rfl ?_
    exact ⟨_, rfl, rfl, ⟨p, u, d, q, ρ, eo, [], h1, ⟨h2, h3⟩, ⟨hD, hO, hd⟩, hoo, hnd, hN, hn⟩, rfl⟩
  · rw [List.concat_eq_append] at e
    subst e
    have hl : (os1 ++ [o1]).length = os1.length + 1 := by rw [List.length_append]; rfl
    have hm : (os1 ++ [o1]).map (fun o => o.1) = os1.map (fun o => o.1) ++ [o1.1] := by rw [List.map_append]; rfl
    have hml : (os1.map (fun o => o.1)).length = os1.length := List.length_map _
    rw [hm] at h3 hnd
    rw [hl] at h1
    have h8 := h1.c8
    cases eo with
    | none => exact absurd (congrArg List.length h3.2.1.1) (by rw [List.length_append]; exact Nat.succ_ne_zero _)
    | some e9 =>
      refine g_aload_n (pc := 96) dL_act_96 rfl trivial ?_
      refine g_invV_r (pc := 97) (As := []) dL_act_97 rfl (k_alSize h3) rfl rfl h3.1.1 rfl rfl lk_L_116 rfl (nb rfl) ⟨nb rfl, nb rfl⟩ rfl ?_
      refine g_iconst (pc := 100) (v := 1) dL_act_100 rfl ?_
      refine g_isub (pc := 101) dL_act_101 ?_
      rw [show (os1.map (fun o => o.1) ++ [o1.1]).length = (os1.map (fun o => o.1)).length + 1 by rw [List.length_append]; rfl, show nI ((os1.map (fun o => o.1)).length + 1) - 1 = nI (os1.map (fun o => o.1)).length from (nI_m1 (Nat.succ_pos _)).trans rfl]
      refine g_istore (pc := 102) (lv' := [(0, _), (1, _), (2, _), (13, _)]) dL_act_102 (nl rfl) rfl ?_
      refine g_iload (pc := 104) dL_act_104 rfl ?_
      refine g_if_lt (pc := 106) (tgt := 121) dL_act_106 rfl (fun h106 => absurd h106 (nI_pos (by omega))) (fun _ => ?_)
      refine g_aload_n (pc := 109) dL_act_109 rfl trivial ?_
      refine g_iconst (pc := 110) (v := 0) dL_act_110 rfl ?_
      refine g_aload_n (pc := 111) dL_act_111 rfl trivial ?_
      refine g_iload (pc := 112) dL_act_112 rfl ?_
      refine g_invV_o (pc := 114) (As := [_]) dL_act_114 rfl (k_alLast h3) rfl rfl h3.1.1 rfl rfl lk_L_120 rfl (nb rfl) ⟨nb rfl, nb rfl⟩ rfl (fun v1 M1 hq => ?_)
      obtain ⟨rfl, b1', b2⟩ := hq
      show Go l _ _ _ _ _ _ _ _ ([.ref o1.1, .int 0, .ref A] : List Value) _ _ _
      have c1 := h1.xt b2 (fun i hi w => by have := (alc_no hN w).1; omega)
      have c2 : AR M1 A d := h2.xt b2 (ar_no h2 h3)
      have c3 : OO M1 ρ n (os1 ++ [o1]) := hoo.xt b2 (fun i _ hi o ho => by
        rw [(alc_no hN hi).2]
        have := (hoo o ho).2.2
        omega) (fun _ _ => rfl)
      have hko : (mK M1)[o1.1]? = some (.inr 7) := (c3 o1 (List.mem_append_right _ (List.mem_singleton.mpr rfl))).1.1.1
      have hx2 : Xt (fun i => i = A) M1 (sR M1 A (fun_set (mR M1 A) 0 (some o1.1))) := (Xt.rf (fun i => i = A) M1).sR (fun _ => rfl)
      have hS2 : mS (sR M1 A (fun_set (mR M1 A) 0 (some o1.1))) = mS M := hx2.2.2.1.trans b2.2.2.1
      have d1 := c1.xt hx2 (fun i hi e => by have := hN.2.1.1.1; omega)
      have d2 : AR (sR M1 A (fun_set (mR M1 A) 0 (some o1.1))) A o1.1 := ⟨c2.1, by rw [sR_self, fs_self]⟩
      have hnA := ar_no c2 b1'
      have d3 : AL (sR M1 A (fun_set (mR M1 A) 0 (some o1.1))) P (some e9) (os1.map (fun o => o.1)) := b1'.xt hx2 (fun e => hnA (Or.inl e.symm)) (fun e he z => hnA (Or.inr (by rw [he, z])))
      have d4 : OO (sR M1 A (fun_set (mR M1 A) 0 (some o1.1))) ρ n (os1 ++ [o1]) := c3.xt hx2 (fun i _ hi o ho => by
        rw [hi, hN.2.1.1.2]
        have := (c3 o ho).2.2
        omega) (fun _ _ => rfl)
      refine g_castC (pc := 117) dL_act_117 wd_x400 (hko) rfl rfl ?_
      refine g_aastore_Desk (pc := 120) dL_act_120 c2.1 rfl (by decide) (by decide) hko rfl rfl ?_
      show Go l _ _ _ _ _ _ _ _ _ _ _ (sR M1 A (fun_set (mR M1 A) 0 (some o1.1)))
      rw [← hS2]
      generalize sR M1 A (fun_set (mR M1 A) 0 (some o1.1)) = M2 at *
      obtain ⟨M3, e1, e2, e3⟩ := c_undo (l := l) d1 (Nat.succ_pos _)
      have hw : nI (os1.length + 1 - 1) = nI (os1.map (fun o => o.1)).length := by rw [hml]; rfl
      rw [hw] at e1
      have hS3 : mS M3 = mS M2 := e2.2.2.2.2.2.1
      have hno : (o1.1 :: os1.map (fun o => o.1)).Nodup := by
        have h9 := (List.nodup_cons.mp hnd).2
        rw [List.nodup_append] at h9
        exact List.nodup_cons.mpr ⟨fun z => h9.2.2 _ z _ (List.mem_singleton.mpr rfl) rfl, h9.1⟩
      have hlast := d4 o1 (List.mem_append_right _ (List.mem_singleton.mpr rfl))
      have f4 : OO M3 ρ n (os1 ++ [o1]) := d4.xt e2.x (fun i _ hi o ho => by
        rw [hN.1 i hi]
        have := (d4 o ho).2.2
        omega) (fun _ _ => rfl)
      have f1 : CV M3 n (unP p) os1.length o1.2.2 (usO os1) := by
        have h9 : CV M3 n (unP p) os1.length (usO (os1 ++ [o1]) os1.length) (usO (os1 ++ [o1])) := e3
        rw [usO_e] at h9
        exact h9.uc (fun i hi => usO_l hi)
      have f2 := d2.xt e2.x (fun w => by have := hN.2.1.1.1; omega)
      have f3 := d3.xt e2.x (fun w => by have := hN.2.1.2.1; omega) (fun e he w => by have := (hN.2.2 e he).1; omega)
      have f5 := f4 o1 (List.mem_append_right _ (List.mem_singleton.mpr rfl))
      refine g_aload_n (pc := 121) dL_act_121 rfl trivial ?_
      refine g_invV_r (pc := 122) (As := []) dL_act_122 rfl (e1) rfl rfl (shK d1.S rfl) rfl rfl lk_L_124 rfl (nb rfl) ⟨nb rfl, nb rfl⟩ rfl ?_
      refine g_iload (pc := 125) dL_act_125 rfl ?_
      refine g_icmp_ne (pc := 127) (tgt := 134) dL_act_127 rfl (fun h127 => absurd h127 ((fun z => z rfl))) (fun _ => ?_)
      refine g_iconst (pc := 130) (v := 1) dL_act_130 rfl ?_
      refine g_goto (pc := 131) (tgt := 135) dL_act_131 rfl ?_
      refine g_ireturn (pc := 135) dL_act_135 rfl rfl ?_
      exact ⟨_, rfl, rfl, ⟨unP p, o1.2.2, o1.1, o1.2.1, ρ, some e9, os1, f1, ⟨f2, f3⟩, ⟨f5.1, f5.2.1, f5.2.2⟩, fun o ho => f4 o (List.mem_append_left _ ho), hno, hN, hn⟩, hS3⟩
/-- behind the copy -/
theorem act_az (h1 : CV M n p os.length u (usO os)) (h2 : AR M A d) (h3 : AL M P eo (os.map (fun o => o.1))) (hD : DK M d n q u) (hO : OW ρ d n q) (hd : 198 ≤ d) (hoo : OO M ρ n os) (hnd : (d :: os.map (fun o => o.1)).Nodup) (hN : NO ρ A P eo) (hn : n ≤ 9) {M1 : Mem} (c1 : DK M1 (mK M).length n (qC ((mK M).length + 1) n) u) (c2 : Xn M M1) : AZ M1 A P n p os.length d u (usO os) (rhoC ρ (mK M).length ((mK M).length + 1) n) eo os ((mK M).length, qC ((mK M).length + 1) n, u) ∧ DK M1 d n q u ∧ OW (rhoC ρ (mK M).length ((mK M).length + 1) n) d n q := by
  have hl := shp_len h1.S
  have hρ : ∀ i, i < (mK M).length → rhoC ρ (mK M).length ((mK M).length + 1) n i = ρ i := fun i hi => rhoC_old (by omega) (by omega)
  have hdl := hD.lt.1
  refine ⟨⟨h1.xt c2 (fun _ _ => id), ⟨h2.xt c2 id, h3.xt c2 id (fun _ _ => id)⟩, fun o ho => ?_, ?_, hN.cg hl (k_lt h2.1) h3.lt.1 h3.lt.2 hρ, hd, hn⟩, hD.xt hO c2 (fun _ _ z => z.elim), hO.cg hD hρ⟩
  · rcases List.mem_cons.mp ho with e | e
    · rw [e]
      exact ⟨c1, OW.cpy (Nat.lt_succ_self _), hl⟩
    · exact hoo.xt c2 (fun _ _ z => z.elim) hρ o e
  · rw [List.nodup_cons] at hnd
    rw [List.nodup_cons, List.nodup_cons]
    refine ⟨fun z => ?_, fun z => ?_, hnd.2⟩
    · rcases List.mem_cons.mp z with e | e
      · omega
      · exact hnd.1 e
    · obtain ⟨o9, k1, k2⟩ := List.mem_map.mp z
      have := (hoo o9 k1).1.lt.1
      omega
theorem act_89 (h1 : CV M n p os.length u (usO os)) (h2 : AR M A d) (h3 : AL M P eo (os.map (fun o => o.1))) (hD : DK M d n q u) (hO : OW ρ d n q) (hd : 198 ≤ d) (hoo : OO M ρ n os) (hnd : (d :: os.map (fun o => o.1)).Nodup) (hN : NO ρ A P eo) (hn : n ≤ 9) (hw : w < 15) (hx9 : x < 2147483648) (hs : s < 6) (ho : o < 6) (ht : t < 6) (ha : a < n) (hb9 : b < n) : Go l jL_act 12 400 MC MS (QA A P n (mS M)) 89 [(0, .ref 0), (1, .ref A), (2, .ref P), (4, .ref d), (5, .int (nI x)), (6, .int (nI w)), (7, .int (nI s)), (8, .int (nI o)), (9, .int (nI t)), (10, .int (nI a)), (11, .int (nI b)), (12, .int (b1 is))] [] 1250 10400 M := by
  by_cases e14 : w = 14
  · subst e14
    refine g_iload (pc := 89) dL_act_89 rfl ?_
    refine g_bipush (pc := 91) (v := 14) dL_act_91 rfl ?_
    refine g_icmp_ne (pc := 93) (tgt := 136) dL_act_93 rfl (fun h93 => absurd h93 ((fun z => z rfl))) (fun _ => ?_)
    exact g_subk (act_14 h1 h2 h3 hD hO hd hoo hnd hN hn) ⟨rfl, rfl, rfl, trivial⟩
  · refine g_iload (pc := 89) dL_act_89 rfl ?_
    refine g_bipush (pc := 91) (v := 14) dL_act_91 rfl ?_
    refine g_icmp_ne (pc := 93) (tgt := 136) dL_act_93 rfl (fun _ => ?_) (fun h93 => absurd ((fun z => e14 (nI_inj9 (b := 14) (by omega) (by decide) z))) h93)
    refine g_aload (pc := 136) dL_act_136 rfl trivial ?_
    refine g_invV_o (pc := 138) (As := []) dL_act_138 rfl (k_copy hD hO hn h3.1.2.2.2) rfl rfl hD.1.1 rfl rfl lk_L_127 rfl (nb rfl) ⟨nb rfl, nb rfl⟩ rfl (fun v1 M1 hq => ?_)
    obtain ⟨rfl, c1, c2⟩ := hq
    show Go l _ _ _ _ _ _ _ _ ([.ref (mK M).length] : List Value) _ _ _
    obtain ⟨hZ, hD1, hO1⟩ := act_az h1 h2 h3 hD hO hd hoo hnd hN hn c1 c2
    have hS1 : mS M1 = mS M := c2.2.2.1
    rw [← hS1]
    clear h1 h2 h3 hD hO hoo hnd hN c1 c2
    generalize hnb : (((mK M).length, qC ((mK M).length + 1) n, u) : OD) = nv at *
    have hu : nv.2.2 = u := by rw [← hnb]
    rw [show (mK M).length = nv.1 by rw [← hnb]]
    generalize rhoC ρ (mK M).length ((mK M).length + 1) n = ρ1 at *
    have hkey : Go l jL_act 12 400 MC MS (QA A P n (mS M1)) 156 [(0, .ref 0), (1, .ref A), (2, .ref P), (4, .ref d), (5, .int (nI x)), (6, .int (nI w)), (7, .int (nI s)), (8, .int (nI o)), (9, .int (nI t)), (10, .int (nI a)), (11, .int (nI b)), (12, .int (b1 is)), (13, .ref nv.1), (16, .int 1), (17, .ref (q.2.2.2.1 s))] [] 1100 9000 M1 := by
      rcases (by omega : w = 0 ∨ w = 1 ∨ w = 2 ∨ w = 3 ∨ w = 4 ∨ w = 5 ∨ w = 6 ∨ w = 7 ∨ w = 8 ∨ w = 9 ∨ w = 10 ∨ w = 11 ∨ w = 12 ∨ w = 13) with e | e | e | e | e | e | e | e | e | e | e | e | e | e <;> subst e
      · refine g_iload (pc := 156) dL_act_156 rfl ?_
        refine g_tableIn (pc := 158) (tgt := 224) (off := 66) dL_act_158 (by decide) (by decide) (by decide) (by decide) ?_
        skip
        by_cases e : hb (Am M1 s a) b = is
        · exact g_subk (act_0s hZ hu hD1 hO1 hs ha hb9 e) ⟨rfl, rfl, rfl, rfl, rfl, rfl, rfl, rfl, rfl, rfl, trivial⟩
        · exact g_subk (act_0d hZ hu hD1 hO1 hs ha hb9 e) ⟨rfl, rfl, rfl, rfl, rfl, rfl, rfl, rfl, rfl, rfl, trivial⟩
      · refine g_iload (pc := 156) dL_act_156 rfl ?_
        refine g_tableIn (pc := 158) (tgt := 224) (off := 66) dL_act_158 (by decide) (by decide) (by decide) (by decide) ?_
        skip
        by_cases e : hb (Am M1 s a) b = is
        · exact g_subk (act_0s hZ hu hD1 hO1 hs ha hb9 e) ⟨rfl, rfl, rfl, rfl, rfl, rfl, rfl, rfl, rfl, rfl, trivial⟩
        · exact g_subk (act_0d hZ hu hD1 hO1 hs ha hb9 e) ⟨rfl, rfl, rfl, rfl, rfl, rfl, rfl, rfl, rfl, rfl, trivial⟩
      · refine g_iload (pc := 156) dL_act_156 rfl ?_
        refine g_tableIn (pc := 158) (tgt := 224) (off := 66) dL_act_158 (by decide) (by decide) (by decide) (by decide) ?_
        skip
        by_cases e : hb (Am M1 s a) b = is
        · exact g_subk (act_0s hZ hu hD1 hO1 hs ha hb9 e) ⟨rfl, rfl, rfl, rfl, rfl, rfl, rfl, rfl, rfl, rfl, trivial⟩
        · exact g_subk (act_0d hZ hu hD1 hO1 hs ha hb9 e) ⟨rfl, rfl, rfl, rfl, rfl, rfl, rfl, rfl, rfl, rfl, trivial⟩
      · refine g_iload (pc := 156) dL_act_156 rfl ?_
        refine g_tableIn (pc := 158) (tgt := 352) (off := 194) dL_act_158 (by decide) (by decide) (by decide) (by decide) ?_
        skip
        exact g_subk (act_3 hZ hu hD1 hO1 hx9 hs ha) ⟨rfl, rfl, rfl, rfl, rfl, rfl, rfl, rfl, rfl, trivial⟩
      · refine g_iload (pc := 156) dL_act_156 rfl ?_
        refine g_tableIn (pc := 158) (tgt := 463) (off := 305) dL_act_158 (by decide) (by decide) (by decide) (by decide) ?_
        skip
        cases is
        · exact g_subk (act_4f hZ hu hD1 hO1 hs ht) ⟨rfl, rfl, rfl, rfl, rfl, rfl, rfl, rfl, rfl, trivial⟩
        · exact g_subk (act_4t hZ hu hD1 hO1 hs ht) ⟨rfl, rfl, rfl, rfl, rfl, rfl, rfl, rfl, rfl, trivial⟩
      · refine g_iload (pc := 156) dL_act_156 rfl ?_
        refine g_tableIn (pc := 158) (tgt := 587) (off := 429) dL_act_158 (by decide) (by decide) (by decide) (by decide) ?_
        skip
        rcases (by omega : x / 262144 % 4 = 0 ∨ x / 262144 % 4 = 1 ∨ x / 262144 % 4 = 2 ∨ x / 262144 % 4 = 3) with e | e | e | e
        · exact g_subk (act_50 hZ hu hD1 hO1 hx9 e hs ho ht) ⟨rfl, rfl, rfl, rfl, rfl, rfl, rfl, rfl, rfl, rfl, trivial⟩
        · exact g_subk (act_51 hZ hu hD1 hO1 hx9 e hs ho ht) ⟨rfl, rfl, rfl, rfl, rfl, rfl, rfl, rfl, rfl, rfl, trivial⟩
        · exact g_subk (act_52 hZ hu hD1 hO1 hx9 e hs ho ht) ⟨rfl, rfl, rfl, rfl, rfl, rfl, rfl, rfl, rfl, rfl, trivial⟩
        · exact g_subk (act_53 hZ hu hD1 hO1 hx9 e hs ho ht) ⟨rfl, rfl, rfl, rfl, rfl, rfl, rfl, rfl, rfl, rfl, trivial⟩
      · refine g_iload (pc := 156) dL_act_156 rfl ?_
        refine g_tableIn (pc := 158) (tgt := 825) (off := 667) dL_act_158 (by decide) (by decide) (by decide) (by decide) ?_
        skip
        exact g_subk (act_6 hZ hu hD1 hO1 hs ho ht) ⟨rfl, rfl, rfl, rfl, rfl, rfl, rfl, rfl, rfl, rfl, trivial⟩
      · refine g_iload (pc := 156) dL_act_156 rfl ?_
        refine g_tableIn (pc := 158) (tgt := 825) (off := 667) dL_act_158 (by decide) (by decide) (by decide) (by decide) ?_
        skip
        exact g_subk (act_6 hZ hu hD1 hO1 hs ho ht) ⟨rfl, rfl, rfl, rfl, rfl, rfl, rfl, rfl, rfl, rfl, trivial⟩
      · refine g_iload (pc := 156) dL_act_156 rfl ?_
        refine g_tableIn (pc := 158) (tgt := 881) (off := 723) dL_act_158 (by decide) (by decide) (by decide) (by decide) ?_
        skip
        exact g_subk (act_8 hZ hu hD1 hO1 hx9 hs ht) ⟨rfl, rfl, rfl, rfl, rfl, rfl, rfl, rfl, rfl, rfl, trivial⟩
      · refine g_iload (pc := 156) dL_act_156 rfl ?_
        refine g_tableIn (pc := 158) (tgt := 941) (off := 783) dL_act_158 (by decide) (by decide) (by decide) (by decide) ?_
        skip
        exact g_subk (act_9 hZ hu hD1 hO1 hs ht) ⟨rfl, rfl, rfl, rfl, rfl, rfl, rfl, rfl, trivial⟩
      · refine g_iload (pc := 156) dL_act_156 rfl ?_
        refine g_tableIn (pc := 158) (tgt := 1008) (off := 850) dL_act_158 (by decide) (by decide) (by decide) (by decide) ?_
        skip
        cases is
        · exact g_subk (act_10f hZ hu hD1 hO1 hs ht) ⟨rfl, rfl, rfl, rfl, rfl, rfl, rfl, rfl, rfl, trivial⟩
        · exact g_subk (act_10t hZ hu hD1 hO1 hs ht) ⟨rfl, rfl, rfl, rfl, rfl, rfl, rfl, rfl, rfl, trivial⟩
      · refine g_iload (pc := 156) dL_act_156 rfl ?_
        refine g_tableIn (pc := 158) (tgt := 1081) (off := 923) dL_act_158 (by decide) (by decide) (by decide) (by decide) ?_
        skip
        exact g_subk (act_11 hZ hu hD1 hO1 hs ha hb9) ⟨rfl, rfl, rfl, rfl, rfl, rfl, rfl, rfl, rfl, trivial⟩
      · refine g_iload (pc := 156) dL_act_156 rfl ?_
        refine g_tableIn (pc := 158) (tgt := 1225) (off := 1067) dL_act_158 (by decide) (by decide) (by decide) (by decide) ?_
        skip
        exact g_subk (act_12 hZ hu hD1 hO1 hs) ⟨rfl, rfl, rfl, rfl, rfl, rfl, rfl, trivial⟩
      · refine g_iload (pc := 156) dL_act_156 rfl ?_
        refine g_tableOut (pc := 158) (tgt := 1308) dL_act_158 (by decide) (by decide) ?_
        skip
        exact g_subk (act_13 hZ hu hD1 hO1 hx9) ⟨rfl, rfl, rfl, rfl, rfl, rfl, trivial⟩
    refine g_astore (pc := 141) (lv' := [(0, _), (1, _), (2, _), (4, _), (5, _), (6, _), (7, _), (8, _), (9, _), (10, _), (11, _), (12, _), (13, _)]) dL_act_141 trivial (nl rfl) rfl ?_
    refine g_iconst (pc := 143) (v := 1) dL_act_143 rfl ?_
    refine g_istore (pc := 144) (lv' := [(0, _), (1, _), (2, _), (4, _), (5, _), (6, _), (7, _), (8, _), (9, _), (10, _), (11, _), (12, _), (13, _), (16, _)]) dL_act_144 (nl rfl) rfl ?_
    refine g_aload (pc := 146) dL_act_146 rfl trivial ?_
    refine g_getf (pc := 148) dL_act_148 fk_L_52 hD1.1.1 (fv_arr hD1.1.2.1) ?_
    refine g_iload (pc := 151) dL_act_151 rfl ?_
    refine g_aaload_Z2 (pc := 153) dL_act_153 hD1.2.2.1.1 rfl hs (by omega) (hD1.2.2.2 s hs).1.1 ?_
    refine g_astore (pc := 154) (lv' := [(0, _), (1, _), (2, _), (4, _), (5, _), (6, _), (7, _), (8, _), (9, _), (10, _), (11, _), (12, _), (13, _), (16, _), (17, _)]) dL_act_154 trivial (nl rfl) rfl ?_
    refine g_wk (pc := 156) (k := 1100) (n := 9000) (by decide) (by decide) ?_
    exact g_subk hkey ⟨rfl, rfl, rfl, rfl, rfl, rfl, rfl, rfl, rfl, rfl, rfl, rfl, rfl, rfl, rfl, trivial⟩
theorem k_act (h : LV M A P n) (hv : v < 2147483648) : EvO l jL_act 12 400 1250 10400 [.ref 0, .ref A, .ref P, .int (nI v)] M (fun r M' => r = some (.int 1) ∧ LV M' A P n ∧ mS M' = mS M) := by
  obtain ⟨p, u, d, q, ρ, eo, os, h1, ⟨h2, h3⟩, ⟨hD, hO, hd⟩, hoo, hnd, hN, hn⟩ := h
  have n0 : ¬ nI n = 0 := fun z => by
    have := nI_inj9 (b := 0) (by omega) (by decide) z
    have := h1.n1
    omega
  have hn1 := h1.n1
  refine ev_intro rfl (nb rfl) rfl ?_
  show Go l jL_act 12 400 1250 10400 (QA A P n (mS M)) _ _ _ _ _ _
  refine g_aload_n (pc := 0) dL_act_0 rfl trivial ?_
  refine g_iconst (pc := 1) (v := 0) dL_act_1 rfl ?_
  refine g_aaload_Desk (pc := 2) dL_act_2 h2.1 rfl (by decide) (by decide) h2.2 ?_
  refine g_astore (pc := 3) (lv' := [(0, _), (1, _), (2, _), (3, _), (4, _)]) dL_act_3 trivial (nl rfl) rfl ?_
  refine g_iload_n (pc := 5) dL_act_5 rfl ?_
  refine g_bipush (pc := 6) (v := 16) dL_act_6 rfl ?_
  refine g_idiv (pc := 8) dL_act_8 (by decide) ?_
  rw [show nI v / 16 = nI (v / 16) from nI_div (b := 16) hv (by decide)]
  refine g_istore (pc := 9) (lv' := [(0, _), (1, _), (2, _), (3, _), (4, _), (5, _)]) dL_act_9 (nl rfl) rfl ?_
  refine g_iload_n (pc := 11) dL_act_11 rfl ?_
  refine g_bipush (pc := 12) (v := 15) dL_act_12 rfl ?_
  refine g_irem (pc := 14) dL_act_14 (by decide) ?_
  rw [show nI v - nI v / 15 * 15 = nI (v % 15) from nI_rem (b := 15) hv (by decide)]
  refine g_istore (pc := 15) (lv' := [(0, _), (1, _), (2, _), (3, _), (4, _), (5, _), (6, _)]) dL_act_15 (nl rfl) rfl ?_
  refine g_iload (pc := 17) dL_act_17 rfl ?_
  refine g_bipush (pc := 19) (v := 6) dL_act_19 rfl ?_
  refine g_irem (pc := 21) dL_act_21 (by decide) ?_
  rw [show nI (v / 16) - nI (v / 16) / 6 * 6 = nI (v / 16 % 6) from nI_rem (b := 6) (by omega) (by decide)]
  refine g_istore (pc := 22) (lv' := [(0, _), (1, _), (2, _), (3, _), (4, _), (5, _), (6, _), (7, _)]) dL_act_22 (nl rfl) rfl ?_
  refine g_iload (pc := 24) dL_act_24 rfl ?_
  refine g_bipush (pc := 26) (v := 8) dL_act_26 rfl ?_
  refine g_idiv (pc := 28) dL_act_28 (by decide) ?_
  rw [show nI (v / 16) / 8 = nI (v / 16 / 8) from nI_div (b := 8) (by omega) (by decide)]
  refine g_bipush (pc := 29) (v := 6) dL_act_29 rfl ?_
  refine g_irem (pc := 31) dL_act_31 (by decide) ?_
  rw [show nI (v / 16 / 8) - nI (v / 16 / 8) / 6 * 6 = nI (v / 16 / 8 % 6) from nI_rem (b := 6) (by omega) (by decide)]
  refine g_istore (pc := 32) (lv' := [(0, _), (1, _), (2, _), (3, _), (4, _), (5, _), (6, _), (7, _), (8, _)]) dL_act_32 (nl rfl) rfl ?_
  refine g_iload (pc := 34) dL_act_34 rfl ?_
  refine g_bipush (pc := 36) (v := 64) dL_act_36 rfl ?_
  refine g_idiv (pc := 38) dL_act_38 (by decide) ?_
  rw [show nI (v / 16) / 64 = nI (v / 16 / 64) from nI_div (b := 64) (by omega) (by decide)]
  refine g_bipush (pc := 39) (v := 6) dL_act_39 rfl ?_
  refine g_irem (pc := 41) dL_act_41 (by decide) ?_
  rw [show nI (v / 16 / 64) - nI (v / 16 / 64) / 6 * 6 = nI (v / 16 / 64 % 6) from nI_rem (b := 6) (by omega) (by decide)]
  refine g_istore (pc := 42) (lv' := [(0, _), (1, _), (2, _), (3, _), (4, _), (5, _), (6, _), (7, _), (8, _), (9, _)]) dL_act_42 (nl rfl) rfl ?_
  refine g_iload (pc := 44) dL_act_44 rfl ?_
  refine g_sipush (pc := 46) (v := 512) dL_act_46 rfl ?_
  refine g_idiv (pc := 49) dL_act_49 (by decide) ?_
  rw [show nI (v / 16) / 512 = nI (v / 16 / 512) from nI_div (b := 512) (by omega) (by decide)]
  refine g_aload (pc := 50) dL_act_50 rfl trivial ?_
  refine g_getf (pc := 52) (v := .int _) dL_act_52 fk_L_45 hD.1.1 (fun _ => congrArg Value.int (hD.2.1.1)) ?_
  refine g_irem (pc := 55) dL_act_55 n0 ?_
  rw [nI_rem (a := v / 16 / 512) (b := n) (by omega) (by omega)]
  refine g_istore (pc := 56) (lv' := [(0, _), (1, _), (2, _), (3, _), (4, _), (5, _), (6, _), (7, _), (8, _), (9, _), (10, _)]) dL_act_56 (nl rfl) rfl ?_
  refine g_iload (pc := 58) dL_act_58 rfl ?_
  refine g_sipush (pc := 60) (v := 8192) dL_act_60 rfl ?_
  refine g_idiv (pc := 63) dL_act_63 (by decide) ?_
  rw [show nI (v / 16) / 8192 = nI (v / 16 / 8192) from nI_div (b := 8192) (by omega) (by decide)]
  refine g_aload (pc := 64) dL_act_64 rfl trivial ?_
  refine g_getf (pc := 66) (v := .int _) dL_act_66 fk_L_45 hD.1.1 (fun _ => congrArg Value.int (hD.2.1.1)) ?_
  refine g_irem (pc := 69) dL_act_69 n0 ?_
  rw [nI_rem (a := v / 16 / 8192) (b := n) (by omega) (by omega)]
  refine g_istore (pc := 70) (lv' := [(0, _), (1, _), (2, _), (3, _), (4, _), (5, _), (6, _), (7, _), (8, _), (9, _), (10, _), (11, _)]) dL_act_70 (nl rfl) rfl ?_
  skip
  have hw : v % 15 < 15 := Nat.mod_lt _ (by decide)
  have hx9 : v / 16 < 2147483648 := by omega
  have hs : v / 16 % 6 < 6 := Nat.mod_lt _ (by decide)
  have ho : v / 16 / 8 % 6 < 6 := Nat.mod_lt _ (by decide)
  have ht : v / 16 / 64 % 6 < 6 := Nat.mod_lt _ (by decide)
  have ha : v / 16 / 512 % n < n := Nat.mod_lt _ hn1
  have hb9 : v / 16 / 8192 % n < n := Nat.mod_lt _ hn1
  generalize v / 16 % 6 = s at *
  generalize v / 16 / 8 % 6 = o at *
  generalize v / 16 / 64 % 6 = t at *
  generalize v / 16 / 512 % n = a at *
  generalize v / 16 / 8192 % n = b at *
  generalize v / 16 = x at *
  generalize v % 15 = w at *
  have key : ∀ is : Bool, Go l jL_act 12 400 1250 10400 (QA A P n (mS M)) 89 [(0, .ref 0), (1, .ref A), (2, .ref P), (4, .ref d), (5, .int (nI x)), (6, .int (nI w)), (7, .int (nI s)), (8, .int (nI o)), (9, .int (nI t)), (10, .int (nI a)), (11, .int (nI b)), (12, .int (b1 is))] [] 1250 10400 M := fun is => act_89 h1 h2 h3 hD hO hd hoo hnd hN hn hw hx9 hs ho ht ha hb9
  by_cases e : x / 131072 % 2 = 0
  · refine g_iload (pc := 72) dL_act_72 rfl ?_
    refine g_ldc (pc := 74) dL_act_74 wd_x845 ?_
    refine g_idiv (pc := 76) dL_act_76 (by decide) ?_
    rw [show nI x / 131072 = nI (x / 131072) from nI_div (b := 131072) hx9 (by decide)]
    refine g_iconst (pc := 77) (v := 2) dL_act_77 rfl ?_
    refine g_irem (pc := 78) dL_act_78 (by decide) ?_
    rw [show nI (x / 131072) - nI (x / 131072) / 2 * 2 = nI (x / 131072 % 2) from nI_rem (b := 2) (by omega) (by decide), e]
    refine g_if_ne (pc := 79) (tgt := 86) dL_act_79 rfl (fun h79 => absurd h79 ((fun z => z rfl))) (fun _ => ?_)
    refine g_iconst (pc := 82) (v := 1) dL_act_82 rfl ?_
    refine g_goto (pc := 83) (tgt := 87) dL_act_83 rfl ?_
    refine g_istore (pc := 87) (lv' := [(0, _), (1, _), (2, _), (3, _), (4, _), (5, _), (6, _), (7, _), (8, _), (9, _), (10, _), (11, _), (12, _)]) dL_act_87 (nl rfl) rfl ?_
    exact g_subk (key true) ⟨rfl, rfl, rfl, rfl, rfl, rfl, rfl, rfl, rfl, rfl, rfl, rfl, trivial⟩
  · have e1 : x / 131072 % 2 = 1 := by omega
    refine g_iload (pc := 72) dL_act_72 rfl ?_
    refine g_ldc (pc := 74) dL_act_74 wd_x845 ?_
    refine g_idiv (pc := 76) dL_act_76 (by decide) ?_
    rw [show nI x / 131072 = nI (x / 131072) from nI_div (b := 131072) hx9 (by decide)]
    refine g_iconst (pc := 77) (v := 2) dL_act_77 rfl ?_
    refine g_irem (pc := 78) dL_act_78 (by decide) ?_
    rw [show nI (x / 131072) - nI (x / 131072) / 2 * 2 = nI (x / 131072 % 2) from nI_rem (b := 2) (by omega) (by decide), e1]
    refine g_if_ne (pc := 79) (tgt := 86) dL_act_79 rfl (fun _ => ?_) (fun h79 => absurd ((by decide)) h79)
    refine g_iconst (pc := 86) (v := 0) dL_act_86 rfl ?_
    refine g_istore (pc := 87) (lv' := [(0, _), (1, _), (2, _), (3, _), (4, _), (5, _), (6, _), (7, _), (8, _), (9, _), (10, _), (11, _), (12, _)]) dL_act_87 (nl rfl) rfl ?_
    exact g_subk (key false) ⟨rfl, rfl, rfl, rfl, rfl, rfl, rfl, rfl, rfl, rfl, rfl, rfl, trivial⟩
end

