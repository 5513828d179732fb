/-! RULES: throws, handlers. -/
section
variable {l : Launch} {J : Jm} {F L MC MS : Nat} {Q : Res → Mem → Prop} {pc : Nat} {lv : List (Nat × Value)} {st : List Value} {k n : Nat} {M : Mem}
def xIO : String := "java/lang/IndexOutOfBoundsException"
def xIA : String := "java/lang/IllegalArgumentException"
abbrev xNm : List String := ["java/lang/RuntimeException", "java/lang/Exception"]
def xB (E : String) : List Cond := .castable E E :: xDcl.map fun x => Cond.declares x
/-- how a class throws a new E(text) -/
def TH (own : String) (ik is ic kS : Nat) (E : String) : Prop := (E = xIO ∨ E = xIA) ∧ Cond.classLink own ik E ∈ WS ∧ Cond.initialized E ∈ WS ∧ (∃ tx by9, strT[kS]? = some (own, is, tx, by9)) ∧ (∀ w ∈ (vx_atS own ic E xNm).filter goodWord, w ∈ WS) ∧ (∀ w ∈ (vx_atS own ic E xNm).filter (fun w => !goodWord w), w ∈ xB E) ∧ (∀ w ∈ Cond.classLink own ik E :: Cond.initialized E :: vx_atS own ic E xNm, vx_ot w = true) ∧ Bundle.fit E = true ∧ (∀ n ∈ xNm, Bundle.fit n = true)
theorem ctx_cast {G : Gl} {s : State} {E : String} (hC : Ctx l G s) (hE : E = xIO ∨ E = xIA) : va_Nw (.castable E E) s := by
  rcases hE with rfl | rfl
  · exact hC.2.2.2.2.2.2.2.2.2.2.2.1
  · exact hC.2.2.2.2.2.2.2.2.2.2.2.2.1
theorem ctx_xB {G : Gl} {s : State} {args : Array Value} {E : String} (hC : Ctx l G s) (hE : E = xIO ∨ E = xIA) : ∀ w ∈ xB E, w.before args s = true := by
  intro w hw
  rcases List.mem_cons.mp hw with rfl | hw
  · exact va_Nw.use (by rfl) (ctx_cast hC hE)
  · obtain ⟨x, hx, rfl⟩ := List.mem_map.mp hw
    exact va_Nw.use (by rfl) (hC.2.2.2.2.2.2.2.2.2.2.2.2.2.2.2.2.2 x hx)
theorem g_throw {ik is ic kS : Nat} {E : String} (d0 : decode J.2.1 pc = .ok (.new ik, 3)) (d3 : decode J.2.1 (pc + 3) = .ok (.dup, 1)) (d4 : decode J.2.1 (pc + 4) = .ok (.ldc is, 2)) (d6 : decode J.2.1 (pc + 6) = .ok (.invokespecial ic, 3)) (d9 : decode J.2.1 (pc + 9) = .ok (.athrow, 1)) (hT : TH J.1.cls ik is ic kS E) (hh : J.2.2.2.2 = []) (hF : 5 < F) (hL : (st.map fun v => v.category).sum + 82 ≤ L) (hx : mX M = false) (hq : Q (.inr E) M) : Go l J F L MC MS Q pc lv st (k + 1) (n + 6) M := by
  intro p e s m args below meth c G H locs cells slots ls hX hC hR hS hl hc hs
  obtain ⟨t1, t2, t3, ⟨tx, by9, t4⟩, t5, t6, t7, t8, t9⟩ := hT
  have hts := hX.1.2.2.2.2
  refine vx_throwS (names := xNm) (sa := gSK G kS) (A := Go_A G) hX.1.1 hX.1.2.1 hC.1.1 hX.1.2.2.2.1 t8 t9 (hts _ t2) (hts _ t3) (hC.2.2.2.2.2.1 kS _ t4).1 (vx_hat (fun w hw => hts _ (t5 w hw)) t6 (ctx_xB hC t1)) t7 hC.2.2.2.1 hC.2.2.2.2.1 hS (hl.1.trans hX.1.2.2.1.symm) d0 d3 d4 d6 d9 (by rw [hX.2.2.2.1, hh]; intro x hx; cases hx) (by show 5 < F; exact hF) (by rw [cv_cats]; show _ + 82 ≤ L; exact hL) (by show cells + 1 ≤ MC; omega) (by show slots + 6 ≤ MS; omega) hX.2.2.1 ?_ hS.2.2 (by omega) (by omega)
  intro t hA hz hk
  exact ⟨⟨M, hq, hR.same hx hz hk⟩, Nat.le_trans hS.1 hz, fun q h1 h2 => (hk q (Nat.lt_of_lt_of_le h1 hS.1)).trans (hS.2.1 q h1 h2)⟩
theorem g_throwW {ik is ic kS : Nat} {E : String} (d0 : decode J.2.1 pc = .ok (.new ik, 3)) (d3 : decode J.2.1 (pc + 3) = .ok (.dup, 1)) (d4 : decode J.2.1 (pc + 4) = .ok (.ldc_w is, 3)) (d6 : decode J.2.1 (pc + 7) = .ok (.invokespecial ic, 3)) (d9 : decode J.2.1 (pc + 10) = .ok (.athrow, 1)) (hT : TH J.1.cls ik is ic kS E) (hh : J.2.2.2.2 = []) (hF : 5 < F) (hL : (st.map fun v => v.category).sum + 82 ≤ L) (hx : mX M = false) (hq : Q (.inr E) M) : Go l J F L MC MS Q pc lv st (k + 1) (n + 6) M := by
  intro p e s m args below meth c G H locs cells slots ls hX hC hR hS hl hc hs
  obtain ⟨t1, t2, t3, ⟨tx, by9, t4⟩, t5, t6, t7, t8, t9⟩ := hT
  have hts := hX.1.2.2.2.2
  refine vx_throwSW (names := xNm) (sa := gSK G kS) (A := Go_A G) hX.1.1 hX.1.2.1 hC.1.1 hX.1.2.2.2.1 t8 t9 (hts _ t2) (hts _ t3) (hC.2.2.2.2.2.1 kS _ t4).1 (vx_hat (fun w hw => hts _ (t5 w hw)) t6 (ctx_xB hC t1)) t7 hC.2.2.2.1 hC.2.2.2.2.1 hS (hl.1.trans hX.1.2.2.1.symm) d0 d3 d4 d6 d9 (by rw [hX.2.2.2.1, hh]; intro x hx; cases hx) (by show 5 < F; exact hF) (by rw [cv_cats]; show _ + 82 ≤ L; exact hL) (by show cells + 1 ≤ MC; omega) (by show slots + 6 ≤ MS; omega) hX.2.2.1 ?_ hS.2.2 (by omega) (by omega)
  intro t hA hz hk
  exact ⟨⟨M, hq, hR.same hx hz hk⟩, Nat.le_trans hS.1 hz, fun q h1 h2 => (hk q (Nat.lt_of_lt_of_le h1 hS.1)).trans (hS.2.1 q h1 h2)⟩
/-- the handler of E at pc: the table's rows ahead don't take it -/
def Hnd (J : Jm) (pc : Nat) (E : String) (hpc : Nat) : Prop := (E = xIO ∨ E = xIA) ∧ ∃ (pre : List (Nat × Nat × Nat × Nat)) (x : Nat × Nat × Nat × Nat) (suf : List (Nat × Nat × Nat × Nat)), J.2.2.2.2 = pre ++ x :: suf ∧ (∀ z ∈ pre, E = xIA ∧ z.2.2.2 ≠ 0 ∧ Cond.classLink J.1.cls z.2.2.2 xIO ∈ WS) ∧ covers ⟨x.1, x.2.1, x.2.2.1, x.2.2.2⟩ pc = true ∧ x.2.2.2 ≠ 0 ∧ Cond.classLink J.1.cls x.2.2.2 E ∈ WS ∧ x.2.2.1 = hpc
theorem lvF1_mem' {i : Nat} {lv : List (Nat × Value)} {q : Nat × Value} (h : q ∈ lvF1 i lv) : q ∈ lv ∧ pr1 i q = true := lvF1_mem h
theorem g_catch_n {p : Program} {e : Env} {s : State} {m : MethodId} {args : Array Value} {below : List Frame} {meth : Method} {c : Code} {G : Gl} {H : Heap} {locs : List Loc} {cells slots : Nat} {ls : Array Slot} {rest : List Value} {E : String} {ce : Cell} {q9 : Addr} {hpc : Nat} {lv' : List (Nat × Value)} {j : Fin 4} (hX : Stn l J p m args s meth c) (hC : Ctx l G s) (hR : Rel G M H) (hS : va_S (Go_A G) s.heap H locs) (hl : lv_has ls J.2.2.1 (lv.map (cvp G))) (hc : cells + k ≤ MC) (hs : slots + n ≤ MS) (hH : Hnd J pc E hpc) (h5 : H[q9]? = some ce) (h6 : ce.vm = .none) (h7 : s.vm.findClass E = some ce.cls)
    (hd : decode J.2.1 hpc = .ok (.astore_n j, 1)) (hn : j.val < J.2.2.1) (hv : lvF1 j.val lv = lv') (kk : Go l J F L MC MS Q (hpc + 1) lv' [] k n M) :
    vx_W p l e ({ frames := F, cells := MC, slots := MS, locals := L } : Room) s m args below meth c H locs cells slots (vx_MQ below (QcOf G Q) (XCOf G Q) args s MC MS (Go_A G)) (F0 m pc ls rest) q9 := by
  obtain ⟨hE, pre, x, suf, t1, t2, t3, t4, t5, rfl⟩ := hH
  have hts := hX.1.2.2.2.2
  refine vx_catch (name := E) hX.1.2.2.2.1 (tableOf pre) ⟨x.1, x.2.1, x.2.2.1, x.2.2.2⟩ (tableOf suf) (by rw [hX.2.2.2.1, t1]; simp [tableOf]) (fun z hz => ?_) t3 t4 (hts _ t5) (va_Nw.use (by rfl) (ctx_cast hC hE)) h5 h6 h7 ?_
  · obtain ⟨u, hu, rfl⟩ := List.mem_map.mp hz
    obtain ⟨e1, e2, e3⟩ := t2 u hu
    refine Or.inr ⟨e2, xIO, hts _ e3, ?_⟩
    rw [e1]
    exact hC.2.2.2.2.2.2.2.2.2.2.2.2.2.1
  · refine lv_astore_n hX.1.1 hX.1.2.1 hd rfl hl hn rfl (fun ls' hl' => ?_)
    refine kk p e s m args below meth c G H locs cells slots ls' hX hC hR hS ⟨hl'.1, hl'.2.1, fun q hq => hl'.2.2 q ?_⟩ hc hs
    subst hv
    obtain ⟨u, hu, rfl⟩ := List.mem_map.mp hq
    obtain ⟨h1, h2⟩ := lvF1_mem hu
    refine List.mem_cons_of_mem _ (List.mem_filter.mpr ⟨List.mem_map.mpr ⟨u, h1, rfl⟩, ?_⟩)
    simp only [cvp, pr1, cv_cat] at h2 ⊢
    exact h2
/-- a call in a body with handlers -/
theorem g_invV_try_n {ix nA F' L' mc' ms' : Nat} {J' : Jm} {As rest : List Value} {Q' : Res → Mem → Prop} {id ci : Nat} {q0 : vw_C} {j : Fin 4} (hd : decode J.2.1 pc = .ok (.invokevirtual ix, 3)) (hlk : LkV J.1.cls ix J' nA) (hn : As.length = nA) (hcat : (rest.map fun v => v.category).sum ≤ 8) (hF : F' + 1 ≤ F ∧ 8 + (J'.2.2.1 + 11) + L' ≤ L) (hE : Ev l J' F' L' mc' ms' (.ref id :: As) M Q') (hst : st = As.reverse ++ .ref id :: rest) (hk : (mK M)[id]? = some (.inr ci)) (hc0 : vwCl[ci]? = some q0) (hq0 : q0.1 = J'.1.cls)
    (kk : ∀ v M', Q' (.inl v) M' → Go l J F L MC MS Q (pc + 3) lv (v.toList ++ rest) k n M') (hi : j.val < J.2.2.1) (kx : ∀ E M', Q' (.inr E) M' → ∃ hpc, Hnd J pc E hpc ∧ decode J.2.1 hpc = .ok (.astore_n j, 1) ∧ Go l J F L MC MS Q (hpc + 1) (lvF1 j.val lv) [] k n M') : Go l J F L MC MS Q pc lv st (k + mc') (n + ms') M := by
  subst hst
  intro p e s m args below meth c G H locs cells slots ls hX hC hR hS hl hc hs
  have hts := hX.1.2.2.2.2
  have he := wl_get (G := G) hk
  have hrun := vx_runV (As := As.map (cv G)) (rest := rest.map (cv G)) (e := e) (below := below) (meth := meth) (g := F0 m pc ls ((As.reverse ++ .ref id :: rest).map (cv G))) (locs := locs) (cells := cells) (slots := slots) (H := H) (b := gB G + id) hX.1 (hE G) ⟨lk_B hlk.1 hts hF, hts _ hlk.2.1, hts _ hlk.2.2⟩
    ⟨blind G _ l M, by have := va_recv (q := q0) hC.2.1 hR.1 hc0 he; rw [hq0] at this; exact this, fun U hU hW => ⟨by rw [List.map_cons]; rfl, ctx_call hC hS hU hW, by rw [hU]; exact hR⟩⟩
    rfl (by rw [List.length_map]; exact hn) hl.1 (by show (List.map (cv G) _) = _; rw [List.map_append, List.map_reverse, List.map_cons]; rfl) (by show 2 * 0 + _ ≤ 8; rw [cv_cats]; omega) hd ⟨by show cells + mc' ≤ MC; omega, by show slots + ms' ≤ MS; omega⟩
  refine vx_go (hrun) hS (fun v M' H1 locs1 hq hR1 hS1 => ?_) (fun E ce q9 M' H1 locs1 hq hR1 hS1 h5 h6 h7 => ?_)
  · have h1 := kk v M' hq p e s m args below meth c G H1 locs1 (cells + mc') (slots + ms') ls hX hC hR1 hS1 hl (by omega) (by omega)
    rw [List.map_append] at h1
    cases v <;> exact h1
  · obtain ⟨hpc, hH, hd9, hg⟩ := kx E M' hq
    exact g_catch_n hX hC hR1 hS1 hl (by omega) (by omega) hH h5 h6 h7 hd9 hi rfl hg
theorem g_catch_w {p : Program} {e : Env} {s : State} {m : MethodId} {args : Array Value} {below : List Frame} {meth : Method} {c : Code} {G : Gl} {H : Heap} {locs : List Loc} {cells slots : Nat} {ls : Array Slot} {rest : List Value} {E : String} {ce : Cell} {q9 : Addr} {hpc : Nat} {lv' : List (Nat × Value)} {i : Nat} (hX : Stn l J p m args s meth c) (hC : Ctx l G s) (hR : Rel G M H) (hS : va_S (Go_A G) s.heap H locs) (hl : lv_has ls J.2.2.1 (lv.map (cvp G))) (hc : cells + k ≤ MC) (hs : slots + n ≤ MS) (hH : Hnd J pc E hpc) (h5 : H[q9]? = some ce) (h6 : ce.vm = .none) (h7 : s.vm.findClass E = some ce.cls)
    (hd : decode J.2.1 hpc = .ok (.astore i, 2)) (hn : i < J.2.2.1) (hv : lvF1 i lv = lv') (kk : Go l J F L MC MS Q (hpc + 2) lv' [] k n M) :
    vx_W p l e ({ frames := F, cells := MC, slots := MS, locals := L } : Room) s m args below meth c H locs cells slots (vx_MQ below (QcOf G Q) (XCOf G Q) args s MC MS (Go_A G)) (F0 m pc ls rest) q9 := by
  obtain ⟨hE, pre, x, suf, t1, t2, t3, t4, t5, rfl⟩ := hH
  have hts := hX.1.2.2.2.2
  refine vx_catch (name := E) hX.1.2.2.2.1 (tableOf pre) ⟨x.1, x.2.1, x.2.2.1, x.2.2.2⟩ (tableOf suf) (by rw [hX.2.2.2.1, t1]; simp [tableOf]) (fun z hz => ?_) t3 t4 (hts _ t5) (va_Nw.use (by rfl) (ctx_cast hC hE)) h5 h6 h7 ?_
  · obtain ⟨u, hu, rfl⟩ := List.mem_map.mp hz
    obtain ⟨e1, e2, e3⟩ := t2 u hu
    refine Or.inr ⟨e2, xIO, hts _ e3, ?_⟩
    rw [e1]
    exact hC.2.2.2.2.2.2.2.2.2.2.2.2.2.1
  · refine lv_astore hX.1.1 hX.1.2.1 hd hl hn rfl (fun ls' hl' => ?_)
    refine kk p e s m args below meth c G H locs cells slots ls' hX hC hR hS ⟨hl'.1, hl'.2.1, fun q hq => hl'.2.2 q ?_⟩ hc hs
    subst hv
    obtain ⟨u, hu, rfl⟩ := List.mem_map.mp hq
    obtain ⟨h1, h2⟩ := lvF1_mem hu
    refine List.mem_cons_of_mem _ (List.mem_filter.mpr ⟨List.mem_map.mpr ⟨u, h1, rfl⟩, ?_⟩)
    simp only [cvp, pr1, cv_cat] at h2 ⊢
    exact h2
/-- a call in a body with handlers -/
theorem g_invV_try_w {ix nA F' L' mc' ms' : Nat} {J' : Jm} {As rest : List Value} {Q' : Res → Mem → Prop} {id ci : Nat} {q0 : vw_C} {i : Nat} (hd : decode J.2.1 pc = .ok (.invokevirtual ix, 3)) (hlk : LkV J.1.cls ix J' nA) (hn : As.length = nA) (hcat : (rest.map fun v => v.category).sum ≤ 8) (hF : F' + 1 ≤ F ∧ 8 + (J'.2.2.1 + 11) + L' ≤ L) (hE : Ev l J' F' L' mc' ms' (.ref id :: As) M Q') (hst : st = As.reverse ++ .ref id :: rest) (hk : (mK M)[id]? = some (.inr ci)) (hc0 : vwCl[ci]? = some q0) (hq0 : q0.1 = J'.1.cls)
    (kk : ∀ v M', Q' (.inl v) M' → Go l J F L MC MS Q (pc + 3) lv (v.toList ++ rest) k n M') (hi : i < J.2.2.1) (kx : ∀ E M', Q' (.inr E) M' → ∃ hpc, Hnd J pc E hpc ∧ decode J.2.1 hpc = .ok (.astore i, 2) ∧ Go l J F L MC MS Q (hpc + 2) (lvF1 i lv) [] k n M') : Go l J F L MC MS Q pc lv st (k + mc') (n + ms') M := by
  subst hst
  intro p e s m args below meth c G H locs cells slots ls hX hC hR hS hl hc hs
  have hts := hX.1.2.2.2.2
  have he := wl_get (G := G) hk
  have hrun := vx_runV (As := As.map (cv G)) (rest := rest.map (cv G)) (e := e) (below := below) (meth := meth) (g := F0 m pc ls ((As.reverse ++ .ref id :: rest).map (cv G))) (locs := locs) (cells := cells) (slots := slots) (H := H) (b := gB G + id) hX.1 (hE G) ⟨lk_B hlk.1 hts hF, hts _ hlk.2.1, hts _ hlk.2.2⟩
    ⟨blind G _ l M, by have := va_recv (q := q0) hC.2.1 hR.1 hc0 he; rw [hq0] at this; exact this, fun U hU hW => ⟨by rw [List.map_cons]; rfl, ctx_call hC hS hU hW, by rw [hU]; exact hR⟩⟩
    rfl (by rw [List.length_map]; exact hn) hl.1 (by show (List.map (cv G) _) = _; rw [List.map_append, List.map_reverse, List.map_cons]; rfl) (by show 2 * 0 + _ ≤ 8; rw [cv_cats]; omega) hd ⟨by show cells + mc' ≤ MC; omega, by show slots + ms' ≤ MS; omega⟩
  refine vx_go (hrun) hS (fun v M' H1 locs1 hq hR1 hS1 => ?_) (fun E ce q9 M' H1 locs1 hq hR1 hS1 h5 h6 h7 => ?_)
  · have h1 := kk v M' hq p e s m args below meth c G H1 locs1 (cells + mc') (slots + ms') ls hX hC hR1 hS1 hl (by omega) (by omega)
    rw [List.map_append] at h1
    cases v <;> exact h1
  · obtain ⟨hpc, hH, hd9, hg⟩ := kx E M' hq
    exact g_catch_w hX hC hR1 hS1 hl (by omega) (by omega) hH h5 h6 h7 hd9 hi rfl hg
def LkSX (own : String) (ix : Nat) (J' : Jm) (nA : Nat) : Prop := Cond.methodLink own ix J'.1 ∈ WS ∧ (J'.2.2.2.2 ≠ [] ∧ cwd J' ∈ WS) ∧ Cond.initialized J'.1.cls ∈ WS ∧ (J'.1.cls ≠ "java/lang/invoke/MethodHandle" ∧ J'.1.cls ≠ "java/lang/invoke/VarHandle") ∧ (parseMethodDescriptor J'.1.desc).map (fun d => d.parameters.length) = some nA ∧ Cond.static J'.1 ∈ WS
theorem g_invSX {ix nA F' L' mc' ms' : Nat} {J' : Jm} {As rest : List Value} {Q' : Res → Mem → Prop} (hd : decode J.2.1 pc = .ok (.invokestatic ix, 3)) (hlk : LkSX J.1.cls ix J' nA) (hn : As.length = nA) (hcat : (rest.map fun v => v.category).sum ≤ 8) (hF : F' + 1 ≤ F ∧ 8 + (J'.2.2.1 + 11) + L' ≤ L) (hE : Ev l J' F' L' mc' ms' As M Q') (hst : st = As.reverse ++ rest) (hh : J.2.2.2.2 = [])
    (kk : ∀ v M', Q' (.inl v) M' → Go l J F L MC MS Q (pc + 3) lv (v.toList ++ rest) k n M') (kx : ∀ E M', Q' (.inr E) M' → Q (.inr E) M') : Go l J F L MC MS Q pc lv st (k + mc') (n + ms') M := by
  subst hst
  intro p e s m args below meth c G H locs cells slots ls hX hC hR hS hl hc hs
  have hts := hX.1.2.2.2.2
  obtain ⟨u1, ⟨u2, u3⟩, u4, u5, u6, u7⟩ := hlk
  have e9 : cwd J' = Cond.codeWith J'.1 J'.2.1 J'.2.2.1 J'.2.2.2.1 J'.2.2.2.2 := by unfold cwd; rw [if_neg u2]
  have hrun := vx_runSX (rm := ({ frames := F', cells := mc', slots := ms', locals := L' } : Room)) (As := As.map (cv G)) (rest := rest.map (cv G)) (e := e) (below := below) (meth := meth) (g := F0 m pc ls ((As.reverse ++ rest).map (cv G))) (locs := locs) (cells := cells) (slots := slots) (H := H) (R := ({ frames := F, cells := MC, slots := MS, locals := L } : Room)) hX.1 (hE G) ⟨⟨rfl, rfl, hF.1, hF.2, ws_warm hts u3, by rw [← e9]; exact List.mem_cons_self⟩, by rw [← e9]; exact hts _ u3, hts _ u4, u5, fun sig h9 => by rw [h9] at u6; exact (Option.some.inj u6).symm, hts _ u1, hts _ u7⟩
    ⟨blind G _ l M, fun U hU hW => ⟨rfl, ctx_call hC hS hU hW, by rw [hU]; exact hR⟩⟩
    rfl (by rw [List.length_map]; exact hn) hl.1 (by show (List.map (cv G) _) = _; rw [List.map_append, List.map_reverse]) (by show 2 * 0 + _ ≤ 8; rw [cv_cats]; omega) hd ⟨by show cells + mc' ≤ MC; omega, by show slots + ms' ≤ MS; omega⟩
  refine vx_go (hrun) hS (fun v M' H1 locs1 hq hR1 hS1 => ?_) (fun E ce q9 M' H1 locs1 hq hR1 hS1 h5 h6 h7 => ?_)
  · have h1 := kk v M' hq p e s m args below meth c G H1 locs1 (cells + mc') (slots + ms') ls hX hC hR1 hS1 hl (by omega) (by omega)
    rw [List.map_append] at h1
    cases v <;> exact h1
  · exact vx_out (by rw [hX.2.2.2.1, hh]; intro x hx; cases hx) hX.2.2.1 h5 h6 h7 (fun t ht _ => ⟨⟨M', kx E M' hq, by rw [ht]; exact hR1⟩, hS1.F ht⟩) hS1.2.2 (by omega) (by omega)
/-- System.arraycopy of one cell to another: the heap keeps its size -/
theorem w_copy {p : Program} {e : Env} {R : Room} {s : State} {m : MethodId} {args : Array Value} {below : List Frame} {meth : Method} {c : Code} {H : Heap} {locs : List Loc} {cells slots : Nat} {Z : State → Prop} {cc : ByteArray} {ls : Array Slot} {rest : List Value} (hexec : p.tables.exec = Jvm.exec) (hb : c.code = cc) (hml : c.maxLocals = ls.size) {own : String} {index : Nat} (hown : s.vm.findClass own = some m.cls) (hlink : (Cond.methodLink own index arraycopyName).before args s = true) (hnat : (Cond.native arraycopyName).before args s = true) (hstat : (Cond.static arraycopyName).before args s = true) (hini : (Cond.initialized "java/lang/System").before args s = true)
    {a0 a : Nat} {cs cd : Cell} {ks kd : Class} {sComp dComp : ClassId} {sType dType : FieldType} (hc0 : H[a0]? = some cs) (hc1 : H[a]? = some cd) (hs1 : ∀ k, cs.vm ≠ .statics k) (hd1 : ∀ k, cd.vm ≠ .statics k) (hs2 : cs.vm ≠ .unknown) (hd2 : cd.vm ≠ .unknown) (hks : s.vm.classes[cs.cls]? = some ks) (hkd : s.vm.classes[cd.cls]? = some kd) (hsk : ks.kind = .array sComp sType) (hdk : kd.kind = .array dComp dType)
    (hty : ((refKind sType != refKind dType) || (!refKind sType && sType != dType)) = false) {sp dp cnt : Nat} (h4 : sp + cnt ≤ cs.slots.size) (h5 : dp + cnt ≤ cd.slots.size) (hsz : sp < 100000 ∧ dp < 100000 ∧ cnt < 100000)
    (hvals : ∀ vm' : Vm, s.vm.Alike vm' → ∀ T : State, T.heap = H → ∀ i, i < cnt → fits dType (cs.slots.getD (sp + i) .null) = true ∧ (T.setVm vm').takes dComp (cs.slots.getD (sp + i) .null))
    (hframes : 1 ≤ R.frames) (hlocals : (rest.map fun v => v.category).sum + (nativeFrameWords "java/lang/System" "arraycopy" 5 + 11) ≤ R.locals) {pc : Nat} (hdg : decode cc pc = .ok (.invokestatic index, 3))
    (kk : ∀ (H1 : Heap) (L9 : List Loc), H1.size = H.size → H1[a]? = some (copied cs cd (nI sp) (nI dp) (nI cnt)) → (∀ q : Nat, q ≠ a → H1[q]? = H[q]?) → (∀ z ∈ L9, z.base = a) → W p l e R s m args below meth c H1 (locs ++ L9) cells slots Z (F0 m (pc + 3) ls rest)) : W p l e R s m args below meth c H locs cells slots Z (F0 m pc ls (.int (nI cnt) :: .int (nI dp) :: .ref a :: .int (nI sp) :: .ref a0 :: rest)) := by
  have nn : ∀ z : Nat, z < 100000 → (nI z).toInt = (z : Int) := fun z hz => nI_toInt (by omega)
  have c1 := nI_clamp (n := sp) (by omega)
  have c3 := nI_clamp (n := cnt) (by omega)
  intro T hT X
  obtain ⟨vm', X', step⟩ := X.arraycopy hexec hown hlink hnat hstat hini (src := a0) (dst := a) (cs := cs) (cd := cd) (srcPos := nI sp) (destPos := nI dp) (n := nI cnt) (by rw [hT]; exact hc0) (by rw [hT]; exact hc1) hs1 hd1 hs2 hd2 hks hkd hsk hdk hty (nI_pos (by omega)) (nI_pos (by omega)) (nI_pos (by omega))
    (by rw [nn sp (by omega), nn cnt (by omega)]; omega) (by rw [nn dp (by omega), nn cnt (by omega)]; omega) (fun vm₁ hal i hi => by rw [c1]; rw [c3] at hi; exact hvals vm₁ hal T hT i hi)
    (g := F0 m pc ls (.int (nI cnt) :: .int (nI dp) :: .ref a :: .int (nI sp) :: .ref a0 :: rest)) rfl (by rw [hml]) (rest := rest) rfl (by rw [hb]; exact hdg) hframes (by show 2 * 0 + _ + _ ≤ _; omega)
  have hl : a < H.size := (Array.getElem?_eq_some_iff.mp hc1).1
  have hheap : ((T.setVm vm').setCell a (copied cs cd (nI sp) (nI dp) (nI cnt))).heap = H.setIfInBounds a (copied cs cd (nI sp) (nI dp) (nI cnt)) := by rw [← hT]; rfl
  obtain ⟨t, a1, b1⟩ := kk (H.setIfInBounds a (copied cs cd (nI sp) (nI dp) (nI cnt))) _ (by simp) (by simp [Array.getElem?_setIfInBounds, hl]) (fun q hq => by simp [Array.getElem?_setIfInBounds, Ne.symm hq]) (fun z hz => by
    obtain ⟨y, -, hy⟩ := List.mem_map.mp hz
    rw [← hy]) _ hheap X'
  exact ⟨t, step t a1, b1⟩
theorem copied_nI {f g : Nat → Int32} (c0 c1 : ClassId) {na nb sp dp cnt : Nat} (h4 : sp + cnt ≤ na) (h5 : dp < 100000) (hL : na < 100000) : copied (arrV c0 na (fun j => .int (f j))) (arrV c1 nb (fun j => .int (g j))) (nI sp) (nI dp) (nI cnt) = arrV c1 nb (fun j => .int (va_cpy f g sp dp cnt j)) := by
  have h := va_copied (fun z => Value.int z) c0 c1 (n0 := na) (n1 := nb) (sp := sp) (dp := dp) (n := cnt) f g h4
  show (arrV c1 nb (fun j => .int (g j))).storeRun (nI dp).toNatClampNeg ((arrV c0 na (fun j => .int (f j))).stretch (nI sp).toNatClampNeg (nI cnt).toNatClampNeg) = _
  rw [nI_clamp (by omega), nI_clamp (by omega), nI_clamp (by omega)]
  exact h
/-- a copy of ints of one cell to another of its kind -/
theorem g_copyT {ty : FieldType} {t0 : Nat} {ix a b na nb sp dp cnt : Nat} {i0 i1 i2 : Int32} (hd : decode J.2.1 pc = .ok (.invokestatic ix, 3)) (w1 : Cond.methodLink J.1.cls ix arraycopyName ∈ WS) (w2 : Cond.native arraycopyName ∈ WS) (w3 : Cond.static arraycopyName ∈ WS) (w4 : Cond.initialized "java/lang/System" ∈ WS) (hty : refKind ty = false) (htl : ∀ G : Gl, (tyl G)[t0]? = some (gA G ty, ty)) (had : ∀ (G : Gl) (M : Mem) (i : Nat), adat G M i ty = .inl (mI M i)) (hfit : ∀ i, i < cnt → fits ty (.int (mI M a (sp + i))) = true) (ha : (mK M)[a]? = some (.inl (ty, na))) (hb : (mK M)[b]? = some (.inl (ty, nb))) (e0 : i0 = nI sp) (e1 : i1 = nI dp) (e2 : i2 = nI cnt) (h4 : sp + cnt ≤ na) (h5 : dp + cnt ≤ nb) (hL : na < 100000 ∧ nb < 100000) (hF : 1 ≤ F) (hLL : (st.map fun v => v.category).sum + (nativeFrameWords "java/lang/System" "arraycopy" 5 + 11) ≤ L)
    (kk : Go l J F L MC MS Q (pc + 3) lv st k n (sI M b (va_cpy (mI M a) (mI M b) sp dp cnt))) : Go l J F L MC MS Q pc lv (.int i2 :: .int i1 :: .ref b :: .int i0 :: .ref a :: st) k n M := by
  subst e0; subst e1; subst e2
  intro p e s m args below meth c G H locs cells slots ls hX hC hR hS hl hc hs
  have hts := hX.1.2.2.2.2
  have c0 : H[gB G + a]? = some (arrV (gA G ty) na (fun j => .int (mI M a j))) := by
    have h9 : H[gB G + a]? = some (vp_cell (gA G ty) (na, adat G M a ty)) := hR.1 a _ (wl_get ha)
    rw [had, vp_cell_i] at h9
    exact h9
  have c1 : H[gB G + b]? = some (arrV (gA G ty) nb (fun j => .int (mI M b j))) := by
    have h9 : H[gB G + b]? = some (vp_cell (gA G ty) (nb, adat G M b ty)) := hR.1 b _ (wl_get hb)
    rw [had, vp_cell_i] at h9
    exact h9
  obtain ⟨-, k0, hk0, cm0, hkk0⟩ := (hC.2.1.2 t0 _ (htl G)).1 na (fun j => .int (mI M a j))
  obtain ⟨-, k1, hk1, cm1, hkk1⟩ := (hC.2.1.2 t0 _ (htl G)).1 nb (fun j => .int (mI M b j))
  refine w_copy (R := ({ frames := F, cells := MC, slots := MS, locals := L } : Room)) hX.1.1 hX.1.2.1 (hX.1.2.2.1.trans hl.1.symm) hX.1.2.2.2.1 (hts _ w1) (hts _ w2) (hts _ w3) (hts _ w4) c0 c1 (fun _ h => by cases h) (fun _ h => by cases h) (fun h => by cases h) (fun h => by cases h) hk0 hk1 hkk0 hkk1 (by simp [hty]) (by rw [arrV_size]; exact h4) (by rw [arrV_size]; exact h5) (by omega) (fun vm₁ _ T hT i hi => ?_) hF (by rw [cv_cats]; exact hLL) hd (fun H1 L9 z eb oq hL9 => ?_)
  · have e9 : (arrV (gA G ty) na (fun j => .int (mI M a j))).slots.getD (sp + i) .null = .int (mI M a (sp + i)) := by
      rw [Array.getD_eq_getD_getElem?, arrV_read _ _ (by omega)]
      rfl
    rw [e9]
    exact ⟨hfit i hi, trivial⟩
  · have hR1 : Rel G (sI M b (va_cpy (mI M a) (mI M b) sp dp cnt)) H1 := by
      refine rel_set hR hb rfl rfl rfl (fun i y hi _ => ent_sI y hi) z (hR.1.set (wl_D G M) (wl_get hb) ?_ oq)
      show H1[gB G + b]? = some (vp_cell (gA G ty) (nb, adat G (sI M b (va_cpy (mI M a) (mI M b) sp dp cnt)) b ty))
      rw [eb, had, copied_nI _ _ h4 (by omega) hL.1]
      simp only [sI, mI, fs_self]
      rw [vp_cell_i]
    exact kk p e s m args below meth c G H1 _ cells slots ls hX hC hR1 ⟨by rw [z]; exact hS.1, fun q g1 g2 => by
      rw [oq q (fun e => g2 (by rw [e]; show gB G ≤ _; omega))]
      exact hS.2.1 q g1 g2, fun q hq => by
      rcases List.mem_append.mp hq with h | h
      · exact hS.2.2 q h
      · rw [hL9 q h]
        show gB G ≤ _
        omega⟩ hl hc hs
theorem g_copyI {ix a b na nb sp dp cnt : Nat} {i0 i1 i2 : Int32} (hd : decode J.2.1 pc = .ok (.invokestatic ix, 3)) (w1 : Cond.methodLink J.1.cls ix arraycopyName ∈ WS) (w2 : Cond.native arraycopyName ∈ WS) (w3 : Cond.static arraycopyName ∈ WS) (w4 : Cond.initialized "java/lang/System" ∈ WS) (ha : (mK M)[a]? = some (.inl (.int, na))) (hb : (mK M)[b]? = some (.inl (.int, nb))) (e0 : i0 = nI sp) (e1 : i1 = nI dp) (e2 : i2 = nI cnt) (h4 : sp + cnt ≤ na) (h5 : dp + cnt ≤ nb) (hL : na < 100000 ∧ nb < 100000) (hF : 1 ≤ F) (hLL : (st.map fun v => v.category).sum + (nativeFrameWords "java/lang/System" "arraycopy" 5 + 11) ≤ L)
    (kk : Go l J F L MC MS Q (pc + 3) lv st k n (sI M b (va_cpy (mI M a) (mI M b) sp dp cnt))) : Go l J F L MC MS Q pc lv (.int i2 :: .int i1 :: .ref b :: .int i0 :: .ref a :: st) k n M :=
  g_copyT (ty := .int) (t0 := 0) hd w1 w2 w3 w4 rfl (fun _ => rfl) (fun _ _ _ => rfl) (fun _ _ => rfl) ha hb e0 e1 e2 h4 h5 hL hF hLL kk
/-- the script, and its length -/
theorem g_scriptLoad {i : Int32} {j : Nat} (hd : decode J.2.1 pc = .ok (.iaload, 1)) (hi : i = nI j) (hj : j < (mS M).1) (hL : (mS M).1 < 2147483648) (kk : Go l J F L MC MS Q (pc + 1) lv (.int ((mS M).2 j) :: st) k n M) : Go l J F L MC MS Q pc lv (.int i :: .retAddr 0 :: st) k n M := by
  subst hi
  intro p e s m args below meth c G H locs cells slots ls hX hC hR hS hl hc hs
  have h1 := kk p e s m args below meth c G H locs cells slots ls hX hC hR hS hl hc hs
  rw [hR.2.2.2] at h1 hj hL
  refine va_sld (A := Go_A G) hX.1.1 hX.1.2.1 hC.2.2.2.2.2.2.2.2.1 (Nat.lt_of_lt_of_le hC.2.2.2.2.2.2.2.2.2.1 hC.2.2.2.2.2.2.2.2.2.2.1) (Nat.not_le.mpr hC.2.2.2.2.2.2.2.2.2.1) hS (vp_in_nI hj hL) hd ?_
  rw [nI_clamp (by have : gLen G < 2147483648 := hL; have : j < gLen G := hj; omega)]
  exact h1
theorem g_scriptLen (hd : decode J.2.1 pc = .ok (.arraylength, 1)) (kk : Go l J F L MC MS Q (pc + 1) lv (.int (nI (mS M).1) :: st) k n M) : Go l J F L MC MS Q pc lv (.retAddr 0 :: st) k n M := by
  intro p e s m args below meth c G H locs cells slots ls hX hC hR hS hl hc hs
  have h1 := kk p e s m args below meth c G H locs cells slots ls hX hC hR hS hl hc hs
  rw [hR.2.2.2] at h1
  exact va_slen (A := Go_A G) hX.1.1 hX.1.2.1 hC.2.2.2.2.2.2.2.2.1 (Nat.lt_of_lt_of_le hC.2.2.2.2.2.2.2.2.2.1 hC.2.2.2.2.2.2.2.2.2.2.1) (Nat.not_le.mpr hC.2.2.2.2.2.2.2.2.2.1) hS hd h1
/-- String constants -/
theorem g_ldcS {is kS : Nat} {tx : String} {by9 : List Int32} (hd : decode J.2.1 pc = .ok (.ldc is, 2)) (hk : strT[kS]? = some (J.1.cls, is, tx, by9)) (kk : Go l J F L MC MS Q (pc + 2) lv (.retAddr (2 * kS + 2) :: st) k n M) : Go l J F L MC MS Q pc lv st k n M := by
  intro p e s m args below meth c G H locs cells slots ls hX hC hR hS hl hc hs
  have h1 := kk p e s m args below meth c G H locs cells slots ls hX hC hR hS hl hc hs
  rw [List.map_cons, show cv G (.retAddr (2 * kS + 2)) = .ref (gSK G kS) by show (if 2 * kS % 2 = 0 then _ else _) = _; rw [if_pos (by omega), show 2 * kS / 2 = kS by omega]] at h1
  exact va_ldcS hX.1.1 hX.1.2.1 hX.1.2.2.2.1 (hC.2.2.2.2.2.1 kS _ hk).1 hd h1
theorem g_strValue {ix kS : Nat} {q : String × Nat × String × List Int32} (hd : decode J.2.1 pc = .ok (.getfield ix, 3)) (hk : strT[kS]? = some q) (hw : Cond.fieldLink J.1.cls ix "java/lang/String" "value" "[B" ∈ WS) (kk : Go l J F L MC MS Q (pc + 3) lv (.retAddr (2 * kS + 3) :: st) k n M) : Go l J F L MC MS Q pc lv (.retAddr (2 * kS + 2) :: st) k n M := by
  intro p e s m args below meth c G H locs cells slots ls hX hC hR hS hl hc hs
  have h1 := kk p e s m args below meth c G H locs cells slots ls hX hC hR hS hl hc hs
  rw [List.map_cons, show cv G (.retAddr (2 * kS + 3)) = .ref (gSV G kS) by show (if (2 * kS + 1) % 2 = 0 then _ else _) = _; rw [if_neg (by omega), show (2 * kS + 1) / 2 = kS by omega]] at h1
  rw [List.map_cons, show cv G (.retAddr (2 * kS + 2)) = .ref (gSK G kS) by show (if 2 * kS % 2 = 0 then _ else _) = _; rw [if_pos (by omega), show 2 * kS / 2 = kS by omega]]
  exact vk_getf hX.1.1 hX.1.2.1 (((hC.2.2.2.2.2.1 kS _ hk).2.1 0 (by decide)).2.2.1) hS hX.1.2.2.2.1 (hX.1.2.2.2.2 _ hw) (fun x hx => hx) hd h1
theorem g_strCoder {ix kS : Nat} {q : String × Nat × String × List Int32} (hd : decode J.2.1 pc = .ok (.getfield ix, 3)) (hk : strT[kS]? = some q) (hw : Cond.fieldLink J.1.cls ix "java/lang/String" "coder" "B" ∈ WS) (kk : Go l J F L MC MS Q (pc + 3) lv (.int 0 :: st) k n M) : Go l J F L MC MS Q pc lv (.retAddr (2 * kS + 2) :: st) k n M := by
  intro p e s m args below meth c G H locs cells slots ls hX hC hR hS hl hc hs
  have h1 := kk p e s m args below meth c G H locs cells slots ls hX hC hR hS hl hc hs
  rw [List.map_cons, show cv G (.retAddr (2 * kS + 2)) = .ref (gSK G kS) by show (if 2 * kS % 2 = 0 then _ else _) = _; rw [if_pos (by omega), show 2 * kS / 2 = kS by omega]]
  exact vk_getf hX.1.1 hX.1.2.1 (((hC.2.2.2.2.2.1 kS _ hk).2.1 0 (by decide)).2.1) hS hX.1.2.2.2.1 (hX.1.2.2.2.2 _ hw) (fun x hx => hx) hd h1
theorem g_compact {ix : Nat} (hd : decode J.2.1 pc = .ok (.getstatic ix, 3)) (hw : Cond.fieldLink J.1.cls ix "java/lang/String" "COMPACT_STRINGS" "Z" ∈ WS) (kk : Go l J F L MC MS Q (pc + 3) lv (.int 1 :: st) k n M) : Go l J F L MC MS Q pc lv st k n M := by
  intro p e s m args below meth c G H locs cells slots ls hX hC hR hS hl hc hs
  exact va_gets hX.1.1 hX.1.2.1 hC.2.2.2.2.2.2.1 hS hX.1.2.2.2.1 (hX.1.2.2.2.2 _ hw) (fun x hx => hx) hd (kk p e s m args below meth c G H locs cells slots ls hX hC hR hS hl hc hs)
theorem g_formatter {ix : Nat} (hd : decode J.2.1 pc = .ok (.getstatic ix, 3)) (hw : Cond.fieldLink J.1.cls ix "jdk/internal/util/Preconditions" "SIOOBE_FORMATTER" "Ljava/util/function/BiFunction;" ∈ WS) (kk : Go l J F L MC MS Q (pc + 3) lv (.retAddr 1 :: st) k n M) : Go l J F L MC MS Q pc lv st k n M := by
  intro p e s m args below meth c G H locs cells slots ls hX hC hR hS hl hc hs
  have h1 := kk p e s m args below meth c G H locs cells slots ls hX hC hR hS hl hc hs
  have h2 := hC.2.2.2.2.2.2.2.1
  rw [List.map_cons, show cv G (.retAddr 1) = gFm G by show gFc (gFm G) = _; rcases h2.2 with h | ⟨a, h⟩ <;> rw [h] <;> rfl] at h1
  exact va_gets hX.1.1 hX.1.2.1 h2.1 hS hX.1.2.2.2.1 (hX.1.2.2.2.2 _ hw) (fun x hx => hx) hd h1
theorem g_strLen {kS : Nat} {q : String × Nat × String × List Int32} (hd : decode J.2.1 pc = .ok (.arraylength, 1)) (hk : strT[kS]? = some q) (kk : Go l J F L MC MS Q (pc + 1) lv (.int (nI q.2.2.2.length) :: st) k n M) : Go l J F L MC MS Q pc lv (.retAddr (2 * kS + 3) :: st) k n M := by
  intro p e s m args below meth c G H locs cells slots ls hX hC hR hS hl hc hs
  have h1 := kk p e s m args below meth c G H locs cells slots ls hX hC hR hS hl hc hs
  obtain ⟨cell, c1, c2, c3, c4, c5, c6, c7⟩ := ((hC.2.2.2.2.2.1 kS _ hk).2.1 0 (by decide)).2.2.2.kept hS.2.1
  rw [List.map_cons, show cv G (.retAddr (2 * kS + 3)) = .ref (gSV G kS) by show (if (2 * kS + 1) % 2 = 0 then _ else _) = _; rw [if_neg (by omega), show (2 * kS + 1) / 2 = kS by omega]]
  exact W.alen hX.1.1 hX.1.2.1 c1 c2 c5 rfl rfl hd h1
theorem g_strByte {kS j : Nat} {i : Int32} {q : String × Nat × String × List Int32} (hd : decode J.2.1 pc = .ok (.baload, 1)) (hk : strT[kS]? = some q) (hi : i = nI j) (hj : j < q.2.2.2.length) (hL : q.2.2.2.length < 2147483648) (kk : Go l J F L MC MS Q (pc + 1) lv (.int (q.2.2.2.getD j 0) :: st) k n M) : Go l J F L MC MS Q pc lv (.int i :: .retAddr (2 * kS + 3) :: st) k n M := by
  subst hi
  intro p e s m args below meth c G H locs cells slots ls hX hC hR hS hl hc hs
  have h1 := kk p e s m args below meth c G H locs cells slots ls hX hC hR hS hl hc hs
  obtain ⟨cell, c1, c2, c3, c4, c5, c6, c7⟩ := ((hC.2.2.2.2.2.1 kS _ hk).2.1 0 (by decide)).2.2.2.kept hS.2.1
  rw [List.map_cons, List.map_cons, show cv G (.retAddr (2 * kS + 3)) = .ref (gSV G kS) by show (if (2 * kS + 1) % 2 = 0 then _ else _) = _; rw [if_neg (by omega), show (2 * kS + 1) / 2 = kS by omega]]
  have c4' : q.2.2.2.length ≤ cell.slots.size := c4
  have hin : ¬ (nI j < 0 ∨ cell.slots.size ≤ (nI j).toNatClampNeg) := by
    rintro (h | h)
    · exact nI_pos (by omega) h
    · rw [nI_clamp (by omega)] at h
      omega
  exact W.bald (v := .int (q.2.2.2.getD j 0)) hX.1.1 hX.1.2.1 c1 c2 c3 hin (by rw [nI_clamp (by omega)]; exact c6 j hj) rfl rfl hd h1
theorem g_mmin {ix : Nat} {x y : Int32} (hd : decode J.2.1 pc = .ok (.invokestatic ix, 3)) (w1 : Cond.methodLink J.1.cls ix Lib.Math.min.name ∈ WS) (w2 : Cond.static Lib.Math.min.name ∈ WS) (w3 : Cond.initialized "java/lang/Math" ∈ WS) (w4 : Cond.code Lib.Math.min.name Lib.Math.min.code 2 (some .int) ∈ WS) (hF : 1 ≤ F) (hLL : (st.map fun v => v.category).sum + 13 ≤ L) (kk : Go l J F L MC MS Q (pc + 3) lv (.int (if y < x then y else x) :: st) k n M) : Go l J F L MC MS Q pc lv (.int y :: .int x :: st) k n M := by
  intro p e s m args below meth c G H locs cells slots ls hX hC hR hS hl hc hs
  have hts := hX.1.2.2.2.2
  exact va_mmin hX.1.1 hX.1.2.1 (hX.1.2.2.1.trans hl.1.symm) hX.1.2.2.2.1 (hts _ w1) (hts _ w2) (hts _ w3) (hts _ w4) hF (by rw [cv_cats]; exact hLL) (by show cells ≤ MC; omega) (by show slots ≤ MS; omega) hd (kk p e s m args below meth c G H locs cells slots ls hX hC hR hS hl hc hs)
theorem g_mmax {ix : Nat} {x y : Int32} (hd : decode J.2.1 pc = .ok (.invokestatic ix, 3)) (w1 : Cond.methodLink J.1.cls ix Lib.Math.max.name ∈ WS) (w2 : Cond.static Lib.Math.max.name ∈ WS) (w3 : Cond.initialized "java/lang/Math" ∈ WS) (w4 : Cond.code Lib.Math.max.name Lib.Math.max.code 2 (some .int) ∈ WS) (hF : 1 ≤ F) (hLL : (st.map fun v => v.category).sum + 13 ≤ L) (kk : Go l J F L MC MS Q (pc + 3) lv (.int (if x < y then y else x) :: st) k n M) : Go l J F L MC MS Q pc lv (.int y :: .int x :: st) k n M := by
  intro p e s m args below meth c G H locs cells slots ls hX hC hR hS hl hc hs
  have hts := hX.1.2.2.2.2
  exact va_mmax hX.1.1 hX.1.2.1 (hX.1.2.2.1.trans hl.1.symm) hX.1.2.2.2.1 (hts _ w1) (hts _ w2) (hts _ w3) (hts _ w4) hF (by rw [cv_cats]; exact hLL) (by show cells ≤ MC; omega) (by show slots ≤ MS; omega) hd (kk p e s m args below meth c G H locs cells slots ls hX hC hR hS hl hc hs)
theorem g_mabs {ix : Nat} {x y : Int32} (hd : decode J.2.1 pc = .ok (.invokestatic ix, 3)) (w1 : Cond.methodLink J.1.cls ix Lib.Math.abs.name ∈ WS) (w2 : Cond.static Lib.Math.abs.name ∈ WS) (w3 : Cond.initialized "java/lang/Math" ∈ WS) (w4 : Cond.code Lib.Math.abs.name Lib.Math.abs.code 1 (some .int) ∈ WS) (hF : 1 ≤ F) (hLL : (st.map fun v => v.category).sum + 13 ≤ L) (kk : Go l J F L MC MS Q (pc + 3) lv (.int (if 0 ≤ x then x else 0 - x) :: st) k n M) : Go l J F L MC MS Q pc lv (.int x :: st) k n M := by
  intro p e s m args below meth c G H locs cells slots ls hX hC hR hS hl hc hs
  have hts := hX.1.2.2.2.2
  exact va_mabs hX.1.1 hX.1.2.1 (hX.1.2.2.1.trans hl.1.symm) hX.1.2.2.2.1 (hts _ w1) (hts _ w2) (hts _ w3) (hts _ w4) hF (by rw [cv_cats]; exact hLL) (by show cells ≤ MC; omega) (by show slots ≤ MS; omega) hd (kk p e s m args below meth c G H locs cells slots ls hX hC hR hS hl hc hs)
end
