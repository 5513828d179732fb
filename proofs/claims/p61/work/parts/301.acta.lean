/-! an action of the law: blocks, kept closures -/
section
variable {l : Launch} {M : Mem} {A P n p d x s t o a b MC MS : Nat} {is : Bool} {v0 : Int32} {u : Nat → Int64} {ρ : Nat → Nat × Nat} {eo : Option Nat} {os : List OD} {nb : OD} {q : DQ}
theorem b1L_k {k : Bool} : (b1L k = 1) ↔ k = true := by rw [b1L_t]
theorem act_13 (hZ : AZ M A P n p os.length d u (usO os) ρ eo os nb) (hu : nb.2.2 = u) (hD : DK M d n q u) (hO : OW ρ d n q) (hx : x < 2147483648) : Go l jL_act 12 400 MC MS (QA A P n (mS M)) 1308 [(0, .ref 0), (2, .ref P), (4, .ref d), (5, .int (nI x)), (13, .ref nb.1), (16, .int 1)] [] 1100 9000 M := by
  obtain ⟨bl, b1', b2, b3, b4⟩ := hZ.1.bl
  have hx1 : Xt (fun i => i = d) M (sI M d (fun_set (mI M d) 1 (nI (1 + x % 8)))) := (Xt.rf (fun i => i = d) M).sI (fun _ => rfl)
  have hD1 : DK (sI M d (fun_set (mI M d) 1 (nI (1 + x % 8)))) d n q (fun_set u 1 (lN (1 + x % 8))) := hD.head hO hx1 rfl (by rw [sI_self, fs_ne _ _ (by decide)]; exact hD.2.1.1) (by rw [sI_self, fs_self, fs_self, lN_any]) (by rw [sI_self, fs_ne _ _ (by decide), fs_ne _ _ (by decide)]; exact hD.2.1.2.2.1) (by rw [sI_self, fs_ne _ _ (by decide), fs_ne _ _ (by decide)]; exact hD.2.1.2.2.2) (fun t ht => ⟨fun r _ => fs_ne _ _ (by omega), fs_ne _ _ (by omega), fs_ne _ _ (by omega), fs_ne _ _ (by omega), fs_ne _ _ (by omega)⟩)
  have hZ1 : AZ (sI M d (fun_set (mI M d) 1 (nI (1 + x % 8)))) A P n p os.length d u (usO os) ρ eo os nb := hZ.xt hx1 (fun i _ e => by rw [e, hO.1]) (fun _ _ => rfl)
  have hd1 : mI (sI M d (fun_set (mI M d) 1 (nI (1 + x % 8)))) d 1 = nI (1 + x % 8) := by rw [sI_self, fs_self]
  have hS1 : mS (sI M d (fun_set (mI M d) 1 (nI (1 + x % 8)))) = mS M := rfl
  have hdue : mI M d 1 = nI bl := by rw [hD.2.1.2.1, b4, lN_any]
  have h32 : mI (sI M d (fun_set (mI M d) 1 (nI (1 + x % 8)))) 3 2 = nI bl := by
    rw [sI_ne (by have := hZ.2.2.2.2.2.1; omega)]
    exact b3
  refine g_aload (pc := 1308) dL_act_1308 rfl trivial ?_
  refine g_getf (pc := 1310) (v := .int _) dL_act_1310 fk_L_80 hD.1.1 (fun _ => congrArg Value.int (hdue)) ?_
  refine g_istore (pc := 1313) (lv' := [(0, _), (2, _), (4, _), (5, _), (13, _), (16, _), (14, _)]) dL_act_1313 (nl rfl) rfl ?_
  refine g_aload (pc := 1315) dL_act_1315 rfl trivial ?_
  refine g_iconst (pc := 1317) (v := 1) dL_act_1317 rfl ?_
  refine g_iload (pc := 1318) dL_act_1318 rfl ?_
  refine g_bipush (pc := 1320) (v := 8) dL_act_1320 rfl ?_
  refine g_irem (pc := 1322) dL_act_1322 (by decide) ?_
  rw [show nI x - nI x / 8 * 8 = nI (x % 8) from nI_rem (b := 8) hx (by decide)]
  refine g_iadd (pc := 1323) dL_act_1323 ?_
  rw [show 1 + nI (x % 8) = nI (1 + x % 8) from nI_add 1 _]
  refine g_putI (pc := 1324) dL_act_1324 fp_L_80 hD.1.1 ⟨rfl, rfl⟩ (fun _ _ _ _ => rfl) ?_
  show Go l _ _ _ _ _ _ _ _ _ _ _ (sI M d (fun_set (mI M d) 1 (nI (1 + x % 8))))
  rw [← hS1]
  generalize sI M d (fun_set (mI M d) 1 (nI (1 + x % 8))) = M1 at *
  obtain ⟨M2, e1, e2, e3⟩ := c_setBlock (l := l) hZ1.1 (m := 1 + x % 8) (by omega) (by omega)
  rw [h32] at e1
  refine g_wk (k := 2 + 1) (n := 16 + 6) (by decide) (by decide) ?_
  refine g_aload_n (pc := 1327) dL_act_1327 rfl trivial ?_
  refine g_aload (pc := 1328) dL_act_1328 rfl trivial ?_
  refine g_getf (pc := 1330) (v := .int _) dL_act_1330 fk_L_80 hD1.1.1 (fun _ => congrArg Value.int (hd1)) ?_
  refine g_invV_r (pc := 1333) (As := [_]) dL_act_1333 rfl (e1) rfl rfl (shK hS rfl) rfl rfl lk_L_207 rfl (nb rfl) ⟨nb rfl, nb rfl⟩ rfl ?_
  refine g_istore (pc := 1336) (lv' := [(0, _), (2, _), (4, _), (5, _), (13, _), (14, _), (16, _), (15, _)]) dL_act_1336 (nl rfl) rfl ?_
  exact g_subk (k_fin hZ1 hu hD1 hO e2 e3) ⟨rfl, rfl, rfl, rfl, rfl, rfl, trivial⟩
/-- how many are kept -/
theorem kc_c {K : Nat → Bool} : ∀ k, (∀ s, s < k → mI M (5 + 2 * s) 1 = b1 (K s)) → keptC M k = cR K k
  | 0, _ => by rw [keptC]; rfl
  | k + 1, h => by
    have h1 := h k (Nat.lt_succ_self k)
    rw [keptC, kc_c k (fun s hs => h s (by omega)), h1, cR]
    cases K k
    · rw [if_pos rfl]
      rfl
    · rw [if_neg (by decide)]
theorem act_12 (hZ : AZ M A P n p os.length d u (usO os) ρ eo os nb) (hu : nb.2.2 = u) (hD : DK M d n q u) (hO : OW ρ d n q) (hs : s < 6) : Go l jL_act 12 400 MC MS (QA A P n (mS M)) 1225 [(0, .ref 0), (2, .ref P), (4, .ref d), (7, .int (nI s)), (12, .int (b1 is)), (13, .ref nb.1), (16, .int 1)] [] 1100 9000 M := by
  have hx1 : Xt (fun i => i = q.2.1) M (sI M q.2.1 (fun_set (mI M q.2.1) s (vp_nar .boolean (b1 is)))) := (Xt.rf (fun i => i = q.2.1) M).sI (fun _ => rfl)
  have hD1 : DK (sI M q.2.1 (fun_set (mI M q.2.1) s (vp_nar .boolean (b1 is)))) d n q (fun_set u (4 + s) (b1L is)) := hD.keep hO hs
  have hZ1 : AZ (sI M q.2.1 (fun_set (mI M q.2.1) s (vp_nar .boolean (b1 is)))) A P n p os.length d u (usO os) ρ eo os nb := hZ.xt hx1 (fun i _ e => by rw [e, hO.2.2.1]) (fun _ _ => rfl)
  have hk1 : mI (sI M q.2.1 (fun_set (mI M q.2.1) s (vp_nar .boolean (b1 is)))) q.2.1 s = b1 is := by rw [sI_self, fs_self, nar_Z]
  have hS1 : mS (sI M q.2.1 (fun_set (mI M q.2.1) s (vp_nar .boolean (b1 is)))) = mS M := rfl
  refine g_aload (pc := 1225) dL_act_1225 rfl trivial ?_
  refine g_getf (pc := 1227) dL_act_1227 fk_L_74 hD.1.1 (fv_arr hD.1.2.2.1) ?_
  refine g_iload (pc := 1230) dL_act_1230 rfl ?_
  refine g_iload (pc := 1232) dL_act_1232 rfl ?_
  refine g_zastore (pc := 1234) dL_act_1234 hD.2.2.1.2.1 rfl hs (by decide) ?_
  show Go l _ _ _ _ _ _ _ _ _ _ _ (sI M q.2.1 (fun_set (mI M q.2.1) s (vp_nar .boolean (b1 is))))
  rw [← hS1]
  generalize sI M q.2.1 (fun_set (mI M q.2.1) s (vp_nar .boolean (b1 is))) = M1 at *
  have hD2 : DK (dkAnew M1 (q.2.2.2.2.2 s) is (nI n)) d n q (anU (fun_set u (4 + s) (b1L is)) s (nI n)) := hD1.anew hO hs (fs_self _ _ _)
  have hx2 := dkAnew_xt (M := M1) (c := q.2.2.2.2.2 s) (k := is) (x := nI n)
  have hZ2 : AZ (dkAnew M1 (q.2.2.2.2.2 s) is (nI n)) A P n p os.length d u (usO os) ρ eo os nb := hZ1.xt hx2 (fun i _ e => by rw [e, (hO.2.2.2.2 s hs).2.1]) (fun _ _ => rfl)
  have hS2 : mS (dkAnew M1 (q.2.2.2.2.2 s) is (nI n)) = mS M1 := hx2.2.2.1
  refine g_wk (k := 2 + 1) (n := 16 + 6) (by decide) (by decide) ?_
  refine g_aload (pc := 1235) dL_act_1235 rfl trivial ?_
  refine g_iload (pc := 1237) dL_act_1237 rfl ?_
  refine g_invV_r (pc := 1239) (As := [_]) dL_act_1239 rfl (k_anew hD1 hO hs hk1) rfl rfl hD1.1.1 rfl rfl lk_L_85 rfl (nb rfl) ⟨nb rfl, nb rfl⟩ rfl ?_
  show Go l _ _ _ _ _ _ _ _ _ _ _ (dkAnew M1 (q.2.2.2.2.2 s) is (nI n))
  rw [← hS2]
  generalize dkAnew M1 (q.2.2.2.2.2 s) is (nI n) = M2 at *
  generalize hu2 : anU (fun_set u (4 + s) (b1L is)) s (nI n) = u2 at *
  have hK : ∀ t, t < 6 → mI M2 q.2.1 t = b1 (decide (u2 (4 + t) = 1)) := fun t ht => by
    obtain ⟨⟨k, k1, k2⟩, -⟩ := (hD2.2.2.2 t ht).2
    rw [k1, k2]
    cases k <;> decide
  obtain ⟨M3, e1, e2, e3⟩ := c_keep (l := l) (b := is) hZ2.1 hs
  rw [hu2] at e3
  have hkc : keptC M3 6 = cR (fun t => decide (u2 (4 + t) = 1)) 6 := kc_c 6 (fun t ht => by
    obtain ⟨⟨k, k1, k2⟩, -⟩ := e3.2.1.2.2.2.2 t ht
    rw [show 5 + 2 * t = 3 + 2 + 2 * t by omega, k1, k2]
    cases k <;> decide)
  rw [hkc] at e1
  refine g_iconst (pc := 1242) (v := 0) dL_act_1242 rfl ?_
  refine g_istore (pc := 1243) (lv' := [(0, _), (2, _), (4, _), (7, _), (12, _), (13, _), (16, _), (14, _)]) dL_act_1243 (nl rfl) rfl ?_
  refine g_aload (pc := 1245) dL_act_1245 rfl trivial ?_
  refine g_getf (pc := 1247) dL_act_1247 fk_L_74 hD2.1.1 (fv_arr hD2.1.2.2.1) ?_
  refine g_astore (pc := 1250) (lv' := [(0, _), (2, _), (4, _), (7, _), (12, _), (13, _), (16, _), (14, _), (18, _)]) dL_act_1250 trivial (nl rfl) rfl ?_
  refine g_aload (pc := 1252) dL_act_1252 rfl trivial ?_
  refine g_alen_Z (pc := 1254) dL_act_1254 (hD2.2.2.1.2.1) ?_
  refine g_istore (pc := 1255) (lv' := [(0, _), (2, _), (4, _), (7, _), (12, _), (13, _), (16, _), (14, _), (18, _), (19, _)]) dL_act_1255 (nl rfl) rfl ?_
  refine g_iconst (pc := 1257) (v := 0) dL_act_1257 rfl ?_
  refine g_istore (pc := 1258) (lv' := [(0, _), (2, _), (4, _), (7, _), (12, _), (13, _), (16, _), (14, _), (18, _), (19, _), (20, _)]) dL_act_1258 (nl rfl) rfl ?_
  refine go_loop (pc := 1260) 6 (fun i => [(0, .ref 0), (2, .ref P), (4, .ref d), (7, .int (nI s)), (12, .int (b1 is)), (13, .ref nb.1), (14, .int (nI (cR (fun t => decide (u2 (4 + t) = 1)) i))), (16, .int 1), (18, .ref q.2.1), (19, .int 6), (20, .int (nI i))]) (fun _ => M2) ⟨rfl, rfl, rfl, rfl, rfl, rfl, rfl, rfl, rfl, rfl, rfl, trivial⟩ rfl ?_ ?_
  · intro i hi ih
    have hv := hK i hi
    have e9 : cR (fun t => decide (u2 (4 + t) = 1)) (i + 1) = cR (fun t => decide (u2 (4 + t) = 1)) i + (match decide (u2 (4 + i) = 1) with | true => 1 | false => 0) := rfl
    rw [e9] at ih
    generalize cR (fun t => decide (u2 (4 + t) = 1)) i = w at *
    cases hf : decide (u2 (4 + i) = 1)
    · rw [hf] at hv ih
      refine g_iload (pc := 1260) dL_act_1260 rfl ?_
      refine g_iload (pc := 1262) dL_act_1262 rfl ?_
      refine g_icmp_ge (pc := 1264) (tgt := 1295) dL_act_1264 rfl (fun h1264 => absurd h1264 (nI_ge hi (by decide))) (fun _ => ?_)
      refine g_aload (pc := 1267) dL_act_1267 rfl trivial ?_
      refine g_iload (pc := 1269) dL_act_1269 rfl ?_
      refine g_zaload (pc := 1271) dL_act_1271 hD2.2.2.1.2.1 rfl hi (by decide) ?_
      rw [hv]
      refine g_istore (pc := 1272) (lv' := [(0, _), (2, _), (4, _), (7, _), (12, _), (13, _), (14, _), (16, _), (18, _), (19, _), (20, _), (21, _)]) dL_act_1272 (nl rfl) rfl ?_
      refine g_iload (pc := 1274) dL_act_1274 rfl ?_
      refine g_iload (pc := 1276) dL_act_1276 rfl ?_
      refine g_if_eq (pc := 1278) (tgt := 1285) dL_act_1278 rfl (fun _ => ?_) (fun h1278 => absurd (rfl) h1278)
      refine g_iconst (pc := 1285) (v := 0) dL_act_1285 rfl ?_
      refine g_iadd (pc := 1286) dL_act_1286 ?_
      rw [show nI w + 0 = nI (w + 0) from nI_add _ 0]
      refine g_istore (pc := 1287) (lv' := [(0, _), (2, _), (4, _), (7, _), (12, _), (13, _), (14, _), (16, _), (18, _), (19, _), (20, _), (21, _)]) dL_act_1287 (nl rfl) rfl ?_
      refine g_iinc (pc := 1289) (lv' := [(0, _), (2, _), (4, _), (7, _), (12, _), (13, _), (14, _), (16, _), (18, _), (19, _), (20, _), (21, _)]) dL_act_1289 rfl (nI_1 _) (nl rfl) rfl ?_
      refine g_goto (pc := 1292) (tgt := 1260) dL_act_1292 rfl ?_
      exact g_subk ih ⟨rfl, rfl, rfl, rfl, rfl, rfl, rfl, rfl, rfl, rfl, rfl, trivial⟩
    · rw [hf] at hv ih
      refine g_iload (pc := 1260) dL_act_1260 rfl ?_
      refine g_iload (pc := 1262) dL_act_1262 rfl ?_
      refine g_icmp_ge (pc := 1264) (tgt := 1295) dL_act_1264 rfl (fun h1264 => absurd h1264 (nI_ge hi (by decide))) (fun _ => ?_)
      refine g_aload (pc := 1267) dL_act_1267 rfl trivial ?_
      refine g_iload (pc := 1269) dL_act_1269 rfl ?_
      refine g_zaload (pc := 1271) dL_act_1271 hD2.2.2.1.2.1 rfl hi (by decide) ?_
      rw [hv]
      refine g_istore (pc := 1272) (lv' := [(0, _), (2, _), (4, _), (7, _), (12, _), (13, _), (14, _), (16, _), (18, _), (19, _), (20, _), (21, _)]) dL_act_1272 (nl rfl) rfl ?_
      refine g_iload (pc := 1274) dL_act_1274 rfl ?_
      refine g_iload (pc := 1276) dL_act_1276 rfl ?_
      refine g_if_eq (pc := 1278) (tgt := 1285) dL_act_1278 rfl (fun h1278 => absurd h1278 ((by decide))) (fun _ => ?_)
      refine g_iconst (pc := 1281) (v := 1) dL_act_1281 rfl ?_
      refine g_goto (pc := 1282) (tgt := 1286) dL_act_1282 rfl ?_
      refine g_iadd (pc := 1286) dL_act_1286 ?_
      rw [show nI w + 1 = nI (w + 1) from nI_add _ 1]
      refine g_istore (pc := 1287) (lv' := [(0, _), (2, _), (4, _), (7, _), (12, _), (13, _), (14, _), (16, _), (18, _), (19, _), (20, _), (21, _)]) dL_act_1287 (nl rfl) rfl ?_
      refine g_iinc (pc := 1289) (lv' := [(0, _), (2, _), (4, _), (7, _), (12, _), (13, _), (14, _), (16, _), (18, _), (19, _), (20, _), (21, _)]) dL_act_1289 rfl (nI_1 _) (nl rfl) rfl ?_
      refine g_goto (pc := 1292) (tgt := 1260) dL_act_1292 rfl ?_
      exact g_subk ih ⟨rfl, rfl, rfl, rfl, rfl, rfl, rfl, rfl, rfl, rfl, rfl, trivial⟩
  · refine g_iload (pc := 1260) dL_act_1260 rfl ?_
    refine g_iload (pc := 1262) dL_act_1262 rfl ?_
    refine g_icmp_ge (pc := 1264) (tgt := 1295) dL_act_1264 rfl (fun _ => ?_) (fun h1264 => absurd (nI_le (Nat.le_refl _) (by decide)) h1264)
    refine g_aload_n (pc := 1295) dL_act_1295 rfl trivial ?_
    refine g_iload (pc := 1296) dL_act_1296 rfl ?_
    refine g_iload (pc := 1298) dL_act_1298 rfl ?_
    refine g_invV_r (pc := 1300) (As := [_, _]) dL_act_1300 rfl (e1) rfl rfl (shK hS rfl) rfl rfl lk_L_203 rfl (nb rfl) ⟨nb rfl, nb rfl⟩ rfl ?_
    refine g_istore (pc := 1303) (lv' := [(0, _), (2, _), (4, _), (7, _), (12, _), (13, _), (14, _), (16, _), (18, _), (19, _), (20, _), (15, _)]) dL_act_1303 (nl rfl) rfl ?_
    refine g_goto (pc := 1305) (tgt := 1338) dL_act_1305 rfl ?_
    exact g_subk (k_fin hZ2 hu hD2 hO e2 e3) ⟨rfl, rfl, rfl, rfl, rfl, rfl, trivial⟩
end

