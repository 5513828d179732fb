/-! what does not exist -/
theorem wl_io : (Jvm.Cond.classLink "BitDeskLaw" (217 : Nat) "java/lang/IndexOutOfBoundsException") ∈ WS := ws_c5 178 rfl rfl
theorem wl_ia : (Jvm.Cond.classLink "BitDeskLaw" (219 : Nat) "java/lang/IllegalArgumentException") ∈ WS := ws_c5 186 rfl rfl
theorem hn_noBit : Hnd jL_isNoBit 4 xIO 11 := ⟨Or.inl rfl, [], (0, 8, 11, 217), [], rfl, fun z hz => absurd hz List.not_mem_nil, by decide, by decide, wl_io, rfl⟩
theorem hn_noPower1 : Hnd jL_isNoPower 5 xIO 12 := ⟨Or.inl rfl, [], (0, 9, 12, 217), [(0, 9, 17, 219)], rfl, fun z hz => absurd hz List.not_mem_nil, by decide, by decide, wl_io, rfl⟩
theorem hn_noPower2 : Hnd jL_isNoPower 5 xIA 17 := ⟨Or.inr rfl, [(0, 9, 12, 217)], (0, 9, 17, 219), [], rfl, fun z hz => by cases List.mem_singleton.mp hz; exact ⟨rfl, by decide, wl_io⟩, by decide, by decide, wl_ia, rfl⟩
theorem hn_noRank1 : Hnd jL_isNoRank 4 xIO 11 := ⟨Or.inl rfl, [], (0, 8, 11, 217), [(0, 8, 16, 219)], rfl, fun z hz => absurd hz List.not_mem_nil, by decide, by decide, wl_io, rfl⟩
theorem hn_noRank2 : Hnd jL_isNoRank 4 xIA 16 := ⟨Or.inr rfl, [(0, 8, 11, 217)], (0, 8, 16, 219), [], rfl, fun z hz => by cases List.mem_singleton.mp hz; exact ⟨rfl, by decide, wl_io⟩, by decide, by decide, wl_ia, rfl⟩
section
variable {l : Launch} {M : Mem} {n : Nat} {v w u x : Int32}
theorem k_noBit (hS : Shp M) (hx0 : mX M = false) (hz : mI M 3 1 = nI n) (h : ¬ (inR v 6 ∧ inR w n ∧ inR u n)) : EvR l jL_isNoBit 10 190 3 18 [.ref 0, .int v, .int w, .int u] M (.inl (some (.int 1))) M := by
  refine ev_introW rfl (nb rfl) (by decide) ?_
  refine g_aload_n (pc := 0) dL_isNoBit_0 rfl trivial ?_
  refine g_iload_n (pc := 1) dL_isNoBit_1 rfl ?_
  refine g_iload_n (pc := 2) dL_isNoBit_2 rfl ?_
  refine g_iload_n (pc := 3) dL_isNoBit_3 rfl ?_
  refine g_tVw_x (pc := 4) (As := [_, _, _]) (hpc := 11) dL_isNoBit_4 rfl (x_bit hS hx0 hz h) rfl rfl (shK hS rfl) rfl rfl lk_L_214 rfl (nb rfl) ⟨nb rfl, nb rfl⟩ (hn_noBit) dL_isNoBit_11 (by decide) ?_
  refine g_iconst (pc := 13) (v := 1) dL_isNoBit_13 rfl ?_
  refine g_ireturn (pc := 14) dL_isNoBit_14 rfl rfl ?_
  exact ⟨rfl, rfl⟩
theorem k_noPower1 (hS : Shp M) (hx0 : mX M = false) (hh : ¬ (inR v 6 ∧ inR w 6)) : EvR l jL_isNoPower 10 190 4 24 [.ref 0, .int v, .int x, .int w, .int 1] M (.inl (some (.int 1))) M := by
  refine ev_introW rfl (nb rfl) (by decide) ?_
  refine g_aload_n (pc := 0) dL_isNoPower_0 rfl trivial ?_
  refine g_iload_n (pc := 1) dL_isNoPower_1 rfl ?_
  refine g_iload_n (pc := 2) dL_isNoPower_2 rfl ?_
  refine g_iload_n (pc := 3) dL_isNoPower_3 rfl ?_
  refine g_iconst (pc := 4) (v := 1) dL_isNoPower_4 rfl ?_
  refine g_tVw_x (pc := 5) (As := [_, _, _, _]) (hpc := 12) dL_isNoPower_5 rfl (x_power hS hx0 hh) rfl rfl (shK hS rfl) rfl rfl lk_L_182 rfl (nb rfl) ⟨nb rfl, nb rfl⟩ (hn_noPower1) dL_isNoPower_12 (by decide) ?_
  refine g_iload (pc := 14) dL_isNoPower_14 rfl ?_
  refine g_ireturn (pc := 16) dL_isNoPower_16 rfl rfl ?_
  exact ⟨rfl, rfl⟩
theorem k_noPower2 (hS : Shp M) (hx0 : mX M = false) (h1 : inR v 6) (h2 : inR w 6) (h3 : ¬ (¬ x < 0 ∧ x ≤ 1000000)) : EvR l jL_isNoPower 10 190 4 24 [.ref 0, .int v, .int x, .int w, .int 0] M (.inl (some (.int 1))) M := by
  refine ev_introW rfl (nb rfl) (by decide) ?_
  refine g_aload_n (pc := 0) dL_isNoPower_0 rfl trivial ?_
  refine g_iload_n (pc := 1) dL_isNoPower_1 rfl ?_
  refine g_iload_n (pc := 2) dL_isNoPower_2 rfl ?_
  refine g_iload_n (pc := 3) dL_isNoPower_3 rfl ?_
  refine g_iconst (pc := 4) (v := 1) dL_isNoPower_4 rfl ?_
  refine g_tVw_x (pc := 5) (As := [_, _, _, _]) (hpc := 17) dL_isNoPower_5 rfl (y_power hS hx0 h1 h2 h3) rfl rfl (shK hS rfl) rfl rfl lk_L_182 rfl (nb rfl) ⟨nb rfl, nb rfl⟩ (hn_noPower2) dL_isNoPower_17 (by decide) ?_
  refine g_iload (pc := 19) dL_isNoPower_19 rfl ?_
  refine g_if_ne (pc := 21) (tgt := 28) dL_isNoPower_21 rfl (fun h21 => absurd h21 ((fun z => z rfl))) (fun _ => ?_)
  refine g_iconst (pc := 24) (v := 1) dL_isNoPower_24 rfl ?_
  refine g_goto (pc := 25) (tgt := 29) dL_isNoPower_25 rfl ?_
  refine g_ireturn (pc := 29) dL_isNoPower_29 rfl rfl ?_
  exact ⟨rfl, rfl⟩
theorem k_noRank1 (hS : Shp M) (hx0 : mX M = false) (hz : mI M 3 1 = nI n) (h : ¬ (inR v 6 ∧ inR w n)) : EvR l jL_isNoRank 10 190 3 18 [.ref 0, .int v, .int w, .int u, .int 1] M (.inl (some (.int 1))) M := by
  refine ev_introW rfl (nb rfl) (by decide) ?_
  refine g_aload_n (pc := 0) dL_isNoRank_0 rfl trivial ?_
  refine g_iload_n (pc := 1) dL_isNoRank_1 rfl ?_
  refine g_iload_n (pc := 2) dL_isNoRank_2 rfl ?_
  refine g_iload_n (pc := 3) dL_isNoRank_3 rfl ?_
  refine g_tVw_x (pc := 4) (As := [_, _, _]) (hpc := 11) dL_isNoRank_4 rfl (x_rank hS hx0 hz h) rfl rfl (shK hS rfl) rfl rfl lk_L_221 rfl (nb rfl) ⟨nb rfl, nb rfl⟩ (hn_noRank1) dL_isNoRank_11 (by decide) ?_
  refine g_iload (pc := 13) dL_isNoRank_13 rfl ?_
  refine g_ireturn (pc := 15) dL_isNoRank_15 rfl rfl ?_
  exact ⟨rfl, rfl⟩
theorem k_noRank2 (hS : Shp M) (hx0 : mX M = false) (hz : mI M 3 1 = nI n) (h : inR v 6) (h' : inR w n) (h2 : ¬ (¬ u < 0 ∧ u ≤ nI n)) : EvR l jL_isNoRank 10 190 3 18 [.ref 0, .int v, .int w, .int u, .int 0] M (.inl (some (.int 1))) M := by
  refine ev_introW rfl (nb rfl) (by decide) ?_
  refine g_aload_n (pc := 0) dL_isNoRank_0 rfl trivial ?_
  refine g_iload_n (pc := 1) dL_isNoRank_1 rfl ?_
  refine g_iload_n (pc := 2) dL_isNoRank_2 rfl ?_
  refine g_iload_n (pc := 3) dL_isNoRank_3 rfl ?_
  refine g_tVw_x (pc := 4) (As := [_, _, _]) (hpc := 16) dL_isNoRank_4 rfl (y_rank hS hx0 hz h h' h2) rfl rfl (shK hS rfl) rfl rfl lk_L_221 rfl (nb rfl) ⟨nb rfl, nb rfl⟩ (hn_noRank2) dL_isNoRank_16 (by decide) ?_
  refine g_iload (pc := 18) dL_isNoRank_18 rfl ?_
  refine g_if_ne (pc := 20) (tgt := 27) dL_isNoRank_20 rfl (fun h20 => absurd h20 ((fun z => z rfl))) (fun _ => ?_)
  refine g_iconst (pc := 23) (v := 1) dL_isNoRank_23 rfl ?_
  refine g_goto (pc := 24) (tgt := 28) dL_isNoRank_24 rfl ?_
  refine g_ireturn (pc := 28) dL_isNoRank_28 rfl rfl ?_
  exact ⟨rfl, rfl⟩
end

