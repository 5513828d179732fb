/-! RULES: calls, entries, throws, handlers. -/
section
variable {l : Launch} {J : Jm} {F L MC MS : Nat} {Q : Res → Mem → Prop} {pc : Nat} {lv : List (Nat × Value)} {st : List Value} {k n : Nat} {M : Mem}
theorem rel_of_P {G : Gl} {M : Mem} {H : Heap} (hx : mX M = false) (hP : va_P (gD G) vwCl (wl G M) H) (hb : gB G ≤ H.size) (hSc : mS M = (gLen G, gXs G)) : Rel G M H := by
  refine ⟨hP, fun h => absurd (hx.symm.trans h) (by decide), ?_, hSc⟩
  rcases Nat.eq_zero_or_pos (mK M).length with h | h
  · omega
  · have h1 : (mK M)[(mK M).length - 1]? = some ((mK M)[(mK M).length - 1]'(by omega)) := List.getElem?_eq_getElem (by omega)
    have h2 : gB G + ((mK M).length - 1) < H.size := (hP _ _ (wl_get h1)).lt
    omega
theorem Rel.same {G : Gl} {M : Mem} {H H1 : Heap} (h : Rel G M H) (hx : mX M = false) (hz : H.size ≤ H1.size) (hk : ∀ q : Nat, q < H.size → H1[q]? = H[q]?) : Rel G M H1 :=
  rel_of_P hx (h.1.kept (fun i q hq => hk _ (h.1 i q hq).lt)) (by have := h.2.2.1; omega) h.2.2.2
theorem blind (G : Gl) (As : List Value) (l : Launch) (M : Mem) : FrameBlind (va_Pc As (fun s => Ctx l G s ∧ Rel G M s.heap)) := by
  intro a U g mk h
  obtain ⟨h1, h2, h3⟩ := h
  exact ⟨h1, h2.warm (U := U.calling g mk a) (State.WarmedH.refl U) (Nat.le_refl _) (fun _ _ _ => rfl), h3⟩
/-- into a method -/
theorem ev_intro {J : Jm} {F L mc ms : Nat} {As : List Value} {Q : Res → Mem → Prop} (hy : plainName J.1.cls = true) (hlen : (lg_sl As).length ≤ J.2.2.1) (hh : J.2.2.2.2 = []) (kk : Go l J F L mc ms Q 0 (lv_args 0 As) [] mc ms M) : Ev l J F L mc ms As M Q := by
  intro G
  have hcw : cwd J :: WS = Cond.code J.1 J.2.1 J.2.2.1 J.2.2.2.1 :: WS := by unfold cwd; rw [if_pos hh]
  refine vx_ofW (cc := J.2.1) (maxL := J.2.2.1) (ret := J.2.2.2.1) hy hcw ?_
  intro p e s m args below meth c s₁ B hml htab hv
  obtain ⟨rfl, hC, hR⟩ := hv
  have hts := atoms_spec (ws := cwd J :: WS) B.pre
  have hl := lv_entry (As.map (cv G)) (n := J.2.2.1) (by rw [lg_sl_cv]; exact hlen)
  rw [lg_entry_eq]
  rw [lv_args_cv] at hl
  have hX : Stn l J p m (As.map (cv G)).toArray s meth c := ⟨⟨B.exec, B.bytes, hml, findClass_of_methodNamed B.named, fun w hw => hts w (List.mem_cons_of_mem _ hw)⟩, B.returns, B.notSynchronized, by
    rw [hh]
    cases h9 : c.exceptionTable.toList with
    | nil => rfl
    | cons x xs => exact absurd (htab x (by rw [h9]; exact List.mem_cons_self)) id, (name_of_methodNamed B.named B.method).1⟩
  exact kk p e s m _ below meth c G s.heap [] 0 0 _ hX hC hR va_S.rf hl (by omega) (by omega)
/-- into a method with handlers -/
theorem ev_introW {J : Jm} {F L mc ms : Nat} {As : List Value} {Q : Res → Mem → Prop} (hy : plainName J.1.cls = true) (hlen : (lg_sl As).length ≤ J.2.2.1) (hh : J.2.2.2.2 ≠ []) (kk : Go l J F L mc ms Q 0 (lv_args 0 As) [] mc ms M) : Ev l J F L mc ms As M Q := by
  intro G
  have hcw : cwd J :: WS = Cond.codeWith J.1 J.2.1 J.2.2.1 J.2.2.2.1 J.2.2.2.2 :: WS := by unfold cwd; rw [if_neg hh]
  refine vx_ofWH (cc := J.2.1) (maxL := J.2.2.1) (ret := J.2.2.2.1) (hh := J.2.2.2.2) hy hcw ?_
  intro p e s m args below meth c s₁ B hml hv
  obtain ⟨rfl, hC, hR⟩ := hv
  have hts := atoms_spec (ws := cwd J :: WS) B.pre
  have hl := lv_entry (As.map (cv G)) (n := J.2.2.1) (by rw [lg_sl_cv]; exact hlen)
  rw [lg_entry_eq]
  rw [lv_args_cv] at hl
  have hX : Stn l J p m (As.map (cv G)).toArray s meth c := ⟨⟨B.exec, B.bytes, hml, findClass_of_methodNamed B.named, fun w hw => hts w (List.mem_cons_of_mem _ hw)⟩, B.returns, B.notSynchronized, vx_table (x := J.1) B (hts _ (by rw [hcw]; exact List.mem_cons_self)), (name_of_methodNamed B.named B.method).1⟩
  exact kk p e s m _ below meth c G s.heap [] 0 0 _ hX hC hR va_S.rf hl (by omega) (by omega)
/-- how a class's pool names a method -/
def LkB (own : String) (ix : Nat) (J' : Jm) (nA : Nat) : Prop := Cond.methodLink own ix J'.1 ∈ WS ∧ (J'.2.2.2.2 = [] ∧ cwd J' ∈ WS) ∧ Cond.initialized J'.1.cls ∈ WS ∧ (J'.1.cls ≠ "java/lang/invoke/MethodHandle" ∧ J'.1.cls ≠ "java/lang/invoke/VarHandle") ∧ (parseMethodDescriptor J'.1.desc).map (fun d => d.parameters.length) = some nA
def LkN (own : String) (ix : Nat) (J' : Jm) (nA : Nat) : Prop := (∃ host, Cond.methodLinkNest own ix J'.1 host ∈ NWL) ∧ (J'.2.2.2.2 = [] ∧ cwd J' ∈ WS) ∧ Cond.initialized J'.1.cls ∈ WS ∧ (J'.1.cls ≠ "java/lang/invoke/MethodHandle" ∧ J'.1.cls ≠ "java/lang/invoke/VarHandle") ∧ (parseMethodDescriptor J'.1.desc).map (fun d => d.parameters.length) = some nA
def LkV (own : String) (ix : Nat) (J' : Jm) (nA : Nat) : Prop := LkB own ix J' nA ∧ Cond.instanceMethod J'.1 ∈ WS ∧ Cond.selects J'.1.cls J'.1 J'.1 ∈ WS
def LkS (own : String) (ix : Nat) (J' : Jm) (nA : Nat) : Prop := LkB own ix J' nA ∧ Cond.static J'.1 ∈ WS
def LkI (own : String) (ix : Nat) (J' : Jm) (nA : Nat) : Prop := LkB own ix J' nA ∧ Cond.instanceMethod J'.1 ∈ WS ∧ J'.1.name = "<init>" ∧ J'.2.2.2.1 = none
def LkSN (own : String) (ix : Nat) (J' : Jm) (nA : Nat) : Prop := LkN own ix J' nA ∧ Cond.static J'.1 ∈ WS
theorem ws_warm {args : Array Value} {s : State} (hts : ∀ w ∈ WS, w.before args s = true) {J' : Jm} (hc : cwd J' ∈ WS) : ∀ w ∈ cwd J' :: WS, ∀ (a' : Array Value) (U : State), s.WarmedH U.vm → w.before a' U = true := by
  intro w hw a' U hW
  have hw' : w ∈ WS := by
    rcases List.mem_cons.mp hw with rfl | h
    · exact hc
    · exact h
  exact word_at hW (ws_good hw') (hts w hw')
theorem lk_B {own : String} {ix nA : Nat} {J' : Jm} {args : Array Value} {s : State} {F L mc ms F' L' : Nat} (h : LkB own ix J' nA) (hts : ∀ w ∈ WS, w.before args s = true) (hF : F' + 1 ≤ F ∧ 8 + (J'.2.2.1 + 11) + L' ≤ L) :
    CallB ({ frames := F, cells := MC, slots := MS, locals := L } : Room) s args own ix J'.1 J'.2.1 J'.2.2.1 J'.2.2.2.1 (cwd J' :: WS) ({ frames := F', cells := mc, slots := ms, locals := L' } : Room) mc ms nA := by
  obtain ⟨h1, ⟨h2, h3⟩, h4, h5, h6⟩ := h
  have e : cwd J' = Cond.code J'.1 J'.2.1 J'.2.2.1 J'.2.2.2.1 := by unfold cwd; rw [if_pos h2]
  refine ⟨rfl, rfl, hF.1, hF.2, ws_warm hts h3, by rw [← e]; exact List.mem_cons_self, by rw [← e]; exact hts _ h3, hts _ h4, h5, fun sig h9 => ?_, hts _ h1⟩
  rw [h9] at h6
  exact (Option.some.inj h6).symm
theorem lk_N {own : String} {ix nA : Nat} {J' : Jm} {G : Gl} {args : Array Value} {s : State} {F L mc ms F' L' : Nat} (h : LkN own ix J' nA) (hC : Ctx l G s) (hts : ∀ w ∈ WS, w.before args s = true) (hF : F' + 1 ≤ F ∧ 8 + (J'.2.2.1 + 11) + L' ≤ L) :
    ∃ host, va_CN ({ frames := F, cells := MC, slots := MS, locals := L } : Room) s args own ix J'.1 host J'.2.1 J'.2.2.1 J'.2.2.2.1 (cwd J' :: WS) ({ frames := F', cells := mc, slots := ms, locals := L' } : Room) mc ms nA := by
  obtain ⟨⟨host, h1⟩, ⟨h2, h3⟩, h4, h5, h6⟩ := h
  have e : cwd J' = Cond.code J'.1 J'.2.1 J'.2.2.1 J'.2.2.2.1 := by unfold cwd; rw [if_pos h2]
  refine ⟨host, ⟨rfl, rfl, hF.1, hF.2, ws_warm hts h3, by rw [← e]; exact List.mem_cons_self⟩, by rw [← e]; exact hts _ h3, hts _ h4, h5, fun sig h9 => ?_, va_Nw.use (by rfl) (hC.2.2.1 _ h1)⟩
  rw [h9] at h6
  exact (Option.some.inj h6).symm
section Run
variable {p : Program} {e : Env} {R : Room} {s : State} {m : MethodId} {args : Array Value} {below : List Frame} {meth : Method} {c : Code} {H : Heap} {locs : List Loc} {cells slots mc ms : Nat} {Z : State → Prop} {G : Gl} {Q' : Res → Mem → Prop} {ls : Array Slot} {st0 rest : List Value} {a : Array Value}
theorem vx_go (hr : vx_Run p l e R s m args below meth c H locs cells slots mc ms (F0 m pc ls st0) rest (QcOf G Q' a) (XCOf G Q') (Go_A G)) (hS : va_S (Go_A G) s.heap H locs)
    (kk : ∀ (v : Option Value) (M' : Mem) (H1 : Heap) (locs1 : List Loc), Q' (.inl v) M' → Rel G M' H1 → va_S (Go_A G) s.heap H1 locs1 → W p l e R s m args below meth c H1 locs1 (cells + mc) (slots + ms) Z (F0 m (pc + 3) ls ((v.map (cv G)).toList ++ rest)))
    (kx : ∀ (E : String) (ce : Cell) (q9 : Addr) (M' : Mem) (H1 : Heap) (locs1 : List Loc), Q' (.inr E) M' → Rel G M' H1 → va_S (Go_A G) s.heap H1 locs1 → H1[q9]? = some ce → ce.vm = .none → s.vm.findClass E = some ce.cls → vx_W p l e R s m args below meth c H1 locs1 (cells + mc) (slots + ms) Z (F0 m pc ls rest) q9) :
    W p l e R s m args below meth c H locs cells slots Z (F0 m pc ls st0) := by
  intro T hT X
  rcases hr T hT X with ⟨v, st₀, t, T', L9, h0, X', hL, e1, e2, ⟨⟨v', M', hv, hq, hR⟩, hF⟩, st⟩ | ⟨q, st₀, t, T', L9, E, ce, h0, X', hL, e1, e2, ⟨⟨M', hq, hR⟩, hF⟩, hce, hcv, hcl, st⟩
  · cases hv
    obtain ⟨k1, k2, k3⟩ := vx_keep h0 e1 hS (fun _ _ h => h) (fun _ h => h) hL hF
    obtain ⟨t2, a1, b1⟩ := kk v' M' T'.heap (locs ++ L9) hq (by rw [e1]; exact hR) k3 T' rfl X'
    exact ⟨t2, st t2 a1, b1⟩
  · obtain ⟨k1, k2, k3⟩ := vx_keep h0 e1 hS (fun _ _ h => h) (fun _ h => h) hL hF
    obtain ⟨t2, a1, b1⟩ := kx E ce q M' T'.heap (locs ++ L9) hq (by rw [e1]; exact hR) k3 (by rw [e1]; exact hce) hcv hcl T' rfl X'
    exact ⟨t2, st.trans a1, b1⟩
end Run
theorem ctx_call {G : Gl} {s U : State} {H : Heap} {locs : List Loc} (hC : Ctx l G s) (hS : va_S (Go_A G) s.heap H locs) (hU : U.heap = H) (hW : s.WarmedH U.vm) : Ctx l G U :=
  hC.warm hW (by rw [hU]; exact hS.1) (fun q h1 h2 => by rw [hU]; exact hS.2.1 q h1 h2)
theorem g_invV {ix nA F' L' mc' ms' : Nat} {J' : Jm} {As rest : List Value} {Q' : Res → Mem → Prop} {id ci : Nat} {q0 : vw_C} (hd : decode J.2.1 pc = .ok (.invokevirtual ix, 3)) (hlk : LkV J.1.cls ix J' nA) (hn : As.length = nA) (hcat : (rest.map fun v => v.category).sum ≤ 8) (hF : F' + 1 ≤ F ∧ 8 + (J'.2.2.1 + 11) + L' ≤ L) (hE : Ev l J' F' L' mc' ms' (.ref id :: As) M Q') (hst : st = As.reverse ++ .ref id :: rest) (hk : (mK M)[id]? = some (.inr ci)) (hc0 : vwCl[ci]? = some q0) (hq0 : q0.1 = J'.1.cls) (hh : J.2.2.2.2 = [])
    (kk : ∀ v M', Q' (.inl v) M' → Go l J F L MC MS Q (pc + 3) lv (v.toList ++ rest) k n M') (kx : ∀ E M', Q' (.inr E) M' → Q (.inr E) M') : Go l J F L MC MS Q pc lv st (k + mc') (n + ms') M := by
  subst hst
  intro p e s m args below meth c G H locs cells slots ls hX hC hR hS hl hc hs
  have hts := hX.1.2.2.2.2
  have he := wl_get (G := G) hk
  have hrun := vx_runV (As := As.map (cv G)) (rest := rest.map (cv G)) (e := e) (below := below) (meth := meth) (g := F0 m pc ls ((As.reverse ++ .ref id :: rest).map (cv G))) (locs := locs) (cells := cells) (slots := slots) (H := H) (b := gB G + id) hX.1 (hE G) ⟨lk_B hlk.1 hts hF, hts _ hlk.2.1, hts _ hlk.2.2⟩
    ⟨blind G _ l M, by have := va_recv (q := q0) hC.2.1 hR.1 hc0 he; rw [hq0] at this; exact this, fun U hU hW => ⟨by rw [List.map_cons]; rfl, ctx_call hC hS hU hW, by rw [hU]; exact hR⟩⟩
    rfl (by rw [List.length_map]; exact hn) hl.1 (by show (List.map (cv G) _) = _; rw [List.map_append, List.map_reverse, List.map_cons]; rfl) (by show 2 * 0 + _ ≤ 8; rw [cv_cats]; omega) hd ⟨by show cells + mc' ≤ MC; omega, by show slots + ms' ≤ MS; omega⟩
  refine vx_go (hrun) hS (fun v M' H1 locs1 hq hR1 hS1 => ?_) (fun E ce q9 M' H1 locs1 hq hR1 hS1 h5 h6 h7 => ?_)
  · have h1 := kk v M' hq p e s m args below meth c G H1 locs1 (cells + mc') (slots + ms') ls hX hC hR1 hS1 hl (by omega) (by omega)
    rw [List.map_append] at h1
    cases v <;> exact h1
  · exact vx_out (by rw [hX.2.2.2.1, hh]; intro x hx; cases hx) hX.2.2.1 h5 h6 h7 (fun t ht _ => ⟨⟨M', kx E M' hq, by rw [ht]; exact hR1⟩, hS1.F ht⟩) hS1.2.2 (by omega) (by omega)
theorem g_invS {ix nA F' L' mc' ms' : Nat} {J' : Jm} {As rest : List Value} {Q' : Res → Mem → Prop} (hd : decode J.2.1 pc = .ok (.invokestatic ix, 3)) (hlk : LkS J.1.cls ix J' nA) (hn : As.length = nA) (hcat : (rest.map fun v => v.category).sum ≤ 8) (hF : F' + 1 ≤ F ∧ 8 + (J'.2.2.1 + 11) + L' ≤ L) (hE : Ev l J' F' L' mc' ms' (As) M Q') (hst : st = As.reverse ++ rest) (hh : J.2.2.2.2 = [])
    (kk : ∀ v M', Q' (.inl v) M' → Go l J F L MC MS Q (pc + 3) lv (v.toList ++ rest) k n M') (kx : ∀ E M', Q' (.inr E) M' → Q (.inr E) M') : Go l J F L MC MS Q pc lv st (k + mc') (n + ms') M := by
  subst hst
  intro p e s m args below meth c G H locs cells slots ls hX hC hR hS hl hc hs
  have hts := hX.1.2.2.2.2
  have hrun := vx_runS (As := As.map (cv G)) (rest := rest.map (cv G)) (e := e) (below := below) (meth := meth) (g := F0 m pc ls ((As.reverse ++ rest).map (cv G))) (locs := locs) (cells := cells) (slots := slots) (H := H) hX.1 (hE G) ⟨lk_B hlk.1 hts hF, hts _ hlk.2⟩
    ⟨blind G _ l M, fun U hU hW => ⟨rfl, ctx_call hC hS hU hW, by rw [hU]; exact hR⟩⟩
    rfl (by rw [List.length_map]; exact hn) hl.1 (by show (List.map (cv G) _) = _; rw [List.map_append, List.map_reverse]) (by show 2 * 0 + _ ≤ 8; rw [cv_cats]; omega) hd ⟨by show cells + mc' ≤ MC; omega, by show slots + ms' ≤ MS; omega⟩
  refine vx_go (hrun) hS (fun v M' H1 locs1 hq hR1 hS1 => ?_) (fun E ce q9 M' H1 locs1 hq hR1 hS1 h5 h6 h7 => ?_)
  · have h1 := kk v M' hq p e s m args below meth c G H1 locs1 (cells + mc') (slots + ms') ls hX hC hR1 hS1 hl (by omega) (by omega)
    rw [List.map_append] at h1
    cases v <;> exact h1
  · exact vx_out (by rw [hX.2.2.2.1, hh]; intro x hx; cases hx) hX.2.2.1 h5 h6 h7 (fun t ht _ => ⟨⟨M', kx E M' hq, by rw [ht]; exact hR1⟩, hS1.F ht⟩) hS1.2.2 (by omega) (by omega)
theorem g_invSN {ix nA F' L' mc' ms' : Nat} {J' : Jm} {As rest : List Value} {Q' : Res → Mem → Prop} (hd : decode J.2.1 pc = .ok (.invokestatic ix, 3)) (hlk : LkSN J.1.cls ix J' nA) (hn : As.length = nA) (hcat : (rest.map fun v => v.category).sum ≤ 8) (hF : F' + 1 ≤ F ∧ 8 + (J'.2.2.1 + 11) + L' ≤ L) (hE : Ev l J' F' L' mc' ms' (As) M Q') (hst : st = As.reverse ++ rest) (hh : J.2.2.2.2 = [])
    (kk : ∀ v M', Q' (.inl v) M' → Go l J F L MC MS Q (pc + 3) lv (v.toList ++ rest) k n M') (kx : ∀ E M', Q' (.inr E) M' → Q (.inr E) M') : Go l J F L MC MS Q pc lv st (k + mc') (n + ms') M := by
  subst hst
  intro p e s m args below meth c G H locs cells slots ls hX hC hR hS hl hc hs
  have hts := hX.1.2.2.2.2
  obtain ⟨host, hcn⟩ := lk_N (MC := MC) (MS := MS) (mc := mc') (ms := ms') hlk.1 hC hts hF
  have hrun := vx_runSN (As := As.map (cv G)) (rest := rest.map (cv G)) (e := e) (below := below) (meth := meth) (g := F0 m pc ls ((As.reverse ++ rest).map (cv G))) (locs := locs) (cells := cells) (slots := slots) (H := H) hX.1 (hE G) ⟨hcn, hts _ hlk.2, trivial⟩
    ⟨blind G _ l M, fun U hU hW => ⟨rfl, ctx_call hC hS hU hW, by rw [hU]; exact hR⟩⟩
    rfl (by rw [List.length_map]; exact hn) hl.1 (by show (List.map (cv G) _) = _; rw [List.map_append, List.map_reverse]) (by show 2 * 0 + _ ≤ 8; rw [cv_cats]; omega) hd ⟨by show cells + mc' ≤ MC; omega, by show slots + ms' ≤ MS; omega⟩
  refine vx_go (hrun) hS (fun v M' H1 locs1 hq hR1 hS1 => ?_) (fun E ce q9 M' H1 locs1 hq hR1 hS1 h5 h6 h7 => ?_)
  · have h1 := kk v M' hq p e s m args below meth c G H1 locs1 (cells + mc') (slots + ms') ls hX hC hR1 hS1 hl (by omega) (by omega)
    rw [List.map_append] at h1
    cases v <;> exact h1
  · exact vx_out (by rw [hX.2.2.2.1, hh]; intro x hx; cases hx) hX.2.2.1 h5 h6 h7 (fun t ht _ => ⟨⟨M', kx E M' hq, by rw [ht]; exact hR1⟩, hS1.F ht⟩) hS1.2.2 (by omega) (by omega)
theorem g_invI {ix nA F' L' mc' ms' : Nat} {J' : Jm} {As rest : List Value} {Q' : Res → Mem → Prop} {id ci : Nat} {q0 : vw_C} (hd : decode J.2.1 pc = .ok (.invokespecial ix, 3)) (hlk : LkI J.1.cls ix J' nA) (hn : As.length = nA) (hcat : (rest.map fun v => v.category).sum ≤ 8) (hF : F' + 1 ≤ F ∧ 8 + (J'.2.2.1 + 11) + L' ≤ L) (hE : Ev l J' F' L' mc' ms' (.ref id :: As) M Q') (hst : st = As.reverse ++ .ref id :: rest) (hk : (mK M)[id]? = some (.inr ci)) (hc0 : vwCl[ci]? = some q0) (hq0 : q0.1 = J'.1.cls) (hh : J.2.2.2.2 = [])
    (kk : ∀ v M', Q' (.inl v) M' → Go l J F L MC MS Q (pc + 3) lv (v.toList ++ rest) k n M') (kx : ∀ E M', Q' (.inr E) M' → Q (.inr E) M') : Go l J F L MC MS Q pc lv st (k + mc') (n + ms') M := by
  subst hst
  intro p e s m args below meth c G H locs cells slots ls hX hC hR hS hl hc hs
  have hts := hX.1.2.2.2.2
  have hrun := vx_runI (y := J'.1) (bytes := J'.2.1) (maxL := J'.2.2.1) (ws := cwd J' :: WS) (rm := ({ frames := F', cells := mc', slots := ms', locals := L' } : Room)) (R := ({ frames := F, cells := MC, slots := MS, locals := L } : Room)) (As := As.map (cv G)) (rest := rest.map (cv G)) (e := e) (below := below) (meth := meth) (g := F0 m pc ls ((As.reverse ++ .ref id :: rest).map (cv G))) (locs := locs) (cells := cells) (slots := slots) (H := H) (b := gB G + id) hX.1 (hE G) ⟨by have h9 := lk_B (MC := MC) (MS := MS) (mc := mc') (ms := ms') hlk.1 hts hF; rw [hlk.2.2.2] at h9; exact h9, hlk.2.2.1, hts _ hlk.2.1⟩
    ⟨blind G _ l M, fun U hU hW => ⟨by rw [List.map_cons]; rfl, ctx_call hC hS hU hW, by rw [hU]; exact hR⟩⟩
    rfl (by rw [List.length_map]; exact hn) hl.1 (by show (List.map (cv G) _) = _; rw [List.map_append, List.map_reverse, List.map_cons]; rfl) (by show 2 * 0 + _ ≤ 8; rw [cv_cats]; omega) hd ⟨by show cells + mc' ≤ MC; omega, by show slots + ms' ≤ MS; omega⟩
  refine vx_go (hrun) hS (fun v M' H1 locs1 hq hR1 hS1 => ?_) (fun E ce q9 M' H1 locs1 hq hR1 hS1 h5 h6 h7 => ?_)
  · have h1 := kk v M' hq p e s m args below meth c G H1 locs1 (cells + mc') (slots + ms') ls hX hC hR1 hS1 hl (by omega) (by omega)
    rw [List.map_append] at h1
    cases v <;> exact h1
  · exact vx_out (by rw [hX.2.2.2.1, hh]; intro x hx; cases hx) hX.2.2.1 h5 h6 h7 (fun t ht _ => ⟨⟨M', kx E M' hq, by rw [ht]; exact hR1⟩, hS1.F ht⟩) hS1.2.2 (by omega) (by omega)
/-- a method of a class above, on an object of class C -/
def LkP (own : String) (ix : Nat) (J' : Jm) (nA : Nat) (C : String) : Prop := LkB own ix J' nA ∧ Cond.instanceMethod J'.1 ∈ WS ∧ (Cond.selects C J'.1 J'.1 ∈ WS ∨ Cond.selects C J'.1 J'.1 ∈ CX2)
theorem g_invP {ix nA F' L' mc' ms' : Nat} {J' : Jm} {As rest : List Value} {Q' : Res → Mem → Prop} {id ci : Nat} {q0 : vw_C} {C : String} (hd : decode J.2.1 pc = .ok (.invokevirtual ix, 3)) (hlk : LkP J.1.cls ix J' nA C) (hn : As.length = nA) (hcat : (rest.map fun v => v.category).sum ≤ 8) (hF : F' + 1 ≤ F ∧ 8 + (J'.2.2.1 + 11) + L' ≤ L) (hE : Ev l J' F' L' mc' ms' (.ref id :: As) M Q') (hst : st = As.reverse ++ .ref id :: rest) (hk : (mK M)[id]? = some (.inr ci)) (hc0 : vwCl[ci]? = some q0) (hq0 : q0.1 = C) (hh : J.2.2.2.2 = [])
    (kk : ∀ v M', Q' (.inl v) M' → Go l J F L MC MS Q (pc + 3) lv (v.toList ++ rest) k n M') (kx : ∀ E M', Q' (.inr E) M' → Q (.inr E) M') : Go l J F L MC MS Q pc lv st (k + mc') (n + ms') M := by
  subst hst
  intro p e s m args below meth c G H locs cells slots ls hX hC hR hS hl hc hs
  have hts := hX.1.2.2.2.2
  have he := wl_get (G := G) hk
  have hrv : ∃ cell : Cell, H[gB G + id]? = some cell ∧ cell.vm.isStatics = false ∧ s.vm.findClass C = some cell.cls := by
    have := va_recv (q := q0) hC.2.1 hR.1 hc0 he
    rw [hq0] at this
    exact this
  have hrun := vx_runV (As := As.map (cv G)) (rest := rest.map (cv G)) (e := e) (below := below) (meth := meth) (g := F0 m pc ls ((As.reverse ++ .ref id :: rest).map (cv G))) (locs := locs) (cells := cells) (slots := slots) (H := H) (b := gB G + id) hX.1 (hE G) ⟨lk_B hlk.1 hts hF, hts _ hlk.2.1, hlk.2.2.elim (fun h => hts _ h) (fun h => va_Nw.use (cx2_ok _ h).1 (hC.1.2.1.2 _ h))⟩
    ⟨blind G _ l M, hrv, fun U hU hW => ⟨by rw [List.map_cons]; rfl, ctx_call hC hS hU hW, by rw [hU]; exact hR⟩⟩
    rfl (by rw [List.length_map]; exact hn) hl.1 (by show (List.map (cv G) _) = _; rw [List.map_append, List.map_reverse, List.map_cons]; rfl) (by show 2 * 0 + _ ≤ 8; rw [cv_cats]; omega) hd ⟨by show cells + mc' ≤ MC; omega, by show slots + ms' ≤ MS; omega⟩
  refine vx_go (hrun) hS (fun v M' H1 locs1 hq hR1 hS1 => ?_) (fun E ce q9 M' H1 locs1 hq hR1 hS1 h5 h6 h7 => ?_)
  · have h1 := kk v M' hq p e s m args below meth c G H1 locs1 (cells + mc') (slots + ms') ls hX hC hR1 hS1 hl (by omega) (by omega)
    rw [List.map_append] at h1
    cases v <;> exact h1
  · exact vx_out (by rw [hX.2.2.2.1, hh]; intro x hx; cases hx) hX.2.2.1 h5 h6 h7 (fun t ht _ => ⟨⟨M', kx E M' hq, by rw [ht]; exact hR1⟩, hS1.F ht⟩) hS1.2.2 (by omega) (by omega)
/-- the method that an object of class C selects for the one that is named -/
def LkU (own : String) (ix : Nat) (xn : MethodName) (J' : Jm) (nA : Nat) (C : String) : Prop := (J'.2.2.2.2 = [] ∧ cwd J' ∈ WS) ∧ Cond.initialized J'.1.cls ∈ WS ∧ (xn.cls ≠ "java/lang/invoke/MethodHandle" ∧ xn.cls ≠ "java/lang/invoke/VarHandle") ∧ (parseMethodDescriptor xn.desc).map (fun d => d.parameters.length) = some nA ∧ Cond.methodLink own ix xn ∈ WS ∧ Cond.sameMethod xn.cls xn.cls xn.name xn.desc ∈ WS ∧ (Cond.instanceMethod xn ∈ WS ∧ ∃ b0 m0 r0, Cond.code xn b0 m0 r0 ∈ WS) ∧ Cond.selects C xn J'.1 ∈ WS ∧ Cond.instanceMethod J'.1 ∈ WS
theorem g_invU {ix nA F' L' mc' ms' : Nat} {J' : Jm} {As rest : List Value} {Q' : Res → Mem → Prop} {id ci : Nat} {q0 : vw_C} {C : String} {xn : MethodName} (hd : decode J.2.1 pc = .ok (.invokevirtual ix, 3)) (hlk : LkU J.1.cls ix xn J' nA C) (hn : As.length = nA) (hcat : (rest.map fun v => v.category).sum ≤ 8) (hF : F' + 1 ≤ F ∧ 8 + (J'.2.2.1 + 11) + L' ≤ L) (hE : Ev l J' F' L' mc' ms' (.ref id :: As) M Q') (hst : st = As.reverse ++ .ref id :: rest) (hk : (mK M)[id]? = some (.inr ci)) (hc0 : vwCl[ci]? = some q0) (hq0 : q0.1 = C) (hh : J.2.2.2.2 = [])
    (kk : ∀ v M', Q' (.inl v) M' → Go l J F L MC MS Q (pc + 3) lv (v.toList ++ rest) k n M') (kx : ∀ E M', Q' (.inr E) M' → Q (.inr E) M') : Go l J F L MC MS Q pc lv st (k + mc') (n + ms') M := by
  subst hst
  intro p e s m args below meth c G H locs cells slots ls hX hC hR hS hl hc hs
  have hts := hX.1.2.2.2.2
  have he := wl_get (G := G) hk
  have hrv : ∃ cell : Cell, H[gB G + id]? = some cell ∧ cell.vm.isStatics = false ∧ s.vm.findClass C = some cell.cls := by
    have := va_recv (q := q0) hC.2.1 hR.1 hc0 he
    rw [hq0] at this
    exact this
  obtain ⟨⟨h2, h3⟩, h4, h5, h6, h7, h8, ⟨h9, b0, m0, r0, h10⟩, h11, h12⟩ := hlk
  have e9 : cwd J' = Cond.code J'.1 J'.2.1 J'.2.2.1 J'.2.2.2.1 := by unfold cwd; rw [if_pos h2]
  have cw : va_CU ({ frames := F, cells := MC, slots := MS, locals := L } : Room) s args J.1.cls C xn.cls ix xn J'.1 J'.2.1 J'.2.2.1 J'.2.2.2.1 (cwd J' :: WS) ({ frames := F', cells := mc', slots := ms', locals := L' } : Room) mc' ms' nA :=
    ⟨⟨rfl, rfl, hF.1, hF.2, ws_warm hts h3, by rw [← e9]; exact List.mem_cons_self⟩, by rw [← e9]; exact hts _ h3, hts _ h4, h5, fun sig hs9 => by rw [hs9] at h6; exact (Option.some.inj h6).symm, hts _ h7, hts _ h8, va_Decl.of (hts _ h9) (hts _ h10), hts _ h11, hts _ h12⟩
  have hrun := vx_runU (As := As.map (cv G)) (rest := rest.map (cv G)) (e := e) (below := below) (meth := meth) (g := F0 m pc ls ((As.reverse ++ .ref id :: rest).map (cv G))) (locs := locs) (cells := cells) (slots := slots) (H := H) (b := gB G + id) hX.1 (hE G) cw
    ⟨blind G _ l M, hrv, fun U hU hW => ⟨by rw [List.map_cons]; rfl, ctx_call hC hS hU hW, by rw [hU]; exact hR⟩⟩
    rfl (by rw [List.length_map]; exact hn) hl.1 (by show (List.map (cv G) _) = _; rw [List.map_append, List.map_reverse, List.map_cons]; rfl) (by show 2 * 0 + _ ≤ 8; rw [cv_cats]; omega) hd ⟨by show cells + mc' ≤ MC; omega, by show slots + ms' ≤ MS; omega⟩
  refine vx_go (hrun) hS (fun v M' H1 locs1 hq hR1 hS1 => ?_) (fun E ce q9 M' H1 locs1 hq hR1 hS1 h5 h6 h7 => ?_)
  · have h1 := kk v M' hq p e s m args below meth c G H1 locs1 (cells + mc') (slots + ms') ls hX hC hR1 hS1 hl (by omega) (by omega)
    rw [List.map_append] at h1
    cases v <;> exact h1
  · exact vx_out (by rw [hX.2.2.2.1, hh]; intro x hx; cases hx) hX.2.2.1 h5 h6 h7 (fun t ht _ => ⟨⟨M', kx E M' hq, by rw [ht]; exact hR1⟩, hS1.F ht⟩) hS1.2.2 (by omega) (by omega)
/-- the superclass's own method -/
def LkSU (own : String) (ix : Nat) (J' : Jm) (nA : Nat) : Prop := (J'.2.2.2.2 = [] ∧ cwd J' ∈ WS) ∧ Cond.methodLink own ix J'.1 ∈ WS ∧ Cond.sameMethod J'.1.cls J'.1.cls J'.1.name J'.1.desc ∈ WS ∧ Cond.superclass own J'.1.cls ∈ WS ∧ Cond.instanceMethod J'.1 ∈ WS ∧ Cond.initialized J'.1.cls ∈ WS ∧ J'.1.name ≠ "<init>" ∧ (parseMethodDescriptor J'.1.desc).map (fun d => d.parameters.length) = some nA
theorem g_invSU {ix nA F' L' mc' ms' : Nat} {J' : Jm} {As rest : List Value} {Q' : Res → Mem → Prop} {id ci : Nat} {q0 : vw_C} {C : String} (hd : decode J.2.1 pc = .ok (.invokespecial ix, 3)) (hlk : LkSU J.1.cls ix J' nA) (hn : As.length = nA) (hcat : (rest.map fun v => v.category).sum ≤ 8) (hF : F' + 1 ≤ F ∧ 8 + (J'.2.2.1 + 11) + L' ≤ L) (hE : Ev l J' F' L' mc' ms' (.ref id :: As) M Q') (hst : st = As.reverse ++ .ref id :: rest) (hk : (mK M)[id]? = some (.inr ci)) (hc0 : vwCl[ci]? = some q0) (hq0 : q0.1 = C) (hh : J.2.2.2.2 = [])
    (kk : ∀ v M', Q' (.inl v) M' → Go l J F L MC MS Q (pc + 3) lv (v.toList ++ rest) k n M') (kx : ∀ E M', Q' (.inr E) M' → Q (.inr E) M') : Go l J F L MC MS Q pc lv st (k + mc') (n + ms') M := by
  subst hst
  intro p e s m args below meth c G H locs cells slots ls hX hC hR hS hl hc hs
  have hts := hX.1.2.2.2.2
  have he := wl_get (G := G) hk
  have hrv : ∃ cell : Cell, H[gB G + id]? = some cell ∧ cell.vm.isStatics = false ∧ s.vm.findClass C = some cell.cls := by
    have := va_recv (q := q0) hC.2.1 hR.1 hc0 he
    rw [hq0] at this
    exact this
  obtain ⟨⟨h2, h3⟩, h4, h5, h6, h7, h8, h9, h10⟩ := hlk
  have e9 : cwd J' = Cond.code J'.1 J'.2.1 J'.2.2.1 J'.2.2.2.1 := by unfold cwd; rw [if_pos h2]
  have cw : va_CS ({ frames := F, cells := MC, slots := MS, locals := L } : Room) s args J.1.cls ix J'.1 J'.2.1 J'.2.2.1 J'.2.2.2.1 (cwd J' :: WS) ({ frames := F', cells := mc', slots := ms', locals := L' } : Room) mc' ms' nA :=
    ⟨⟨rfl, rfl, hF.1, hF.2, ws_warm hts h3, by rw [← e9]; exact List.mem_cons_self⟩, hts _ h4, hts _ h5, hts _ h6, hts _ h7, hts _ h8, by rw [← e9]; exact hts _ h3, h9, fun sig hs9 => by rw [hs9] at h10; exact (Option.some.inj h10).symm⟩
  have hat : ClassAt s C ((gD G).1 ci) := by
    have := (hC.2.1.1 ci q0 hc0).2
    rw [hq0] at this
    exact this
  have hrun := vx_runSU (cC := (gD G).1 ci) (C := C) (As := As.map (cv G)) (rest := rest.map (cv G)) (e := e) (below := below) (meth := meth) (g := F0 m pc ls ((As.reverse ++ .ref id :: rest).map (cv G))) (locs := locs) (cells := cells) (slots := slots) (H := H) (b := gB G + id) hat hX.1 (hE G) cw
    ⟨blind G _ l M, hrv, fun U hU hW => ⟨by rw [List.map_cons]; rfl, ctx_call hC hS hU hW, by rw [hU]; exact hR⟩⟩
    rfl (by rw [List.length_map]; exact hn) hl.1 (by show (List.map (cv G) _) = _; rw [List.map_append, List.map_reverse, List.map_cons]; rfl) (by show 2 * 0 + _ ≤ 8; rw [cv_cats]; omega) hd ⟨by show cells + mc' ≤ MC; omega, by show slots + ms' ≤ MS; omega⟩
  refine vx_go (hrun) hS (fun v M' H1 locs1 hq hR1 hS1 => ?_) (fun E ce q9 M' H1 locs1 hq hR1 hS1 h5 h6 h7 => ?_)
  · have h1 := kk v M' hq p e s m args below meth c G H1 locs1 (cells + mc') (slots + ms') ls hX hC hR1 hS1 hl (by omega) (by omega)
    rw [List.map_append] at h1
    cases v <;> exact h1
  · exact vx_out (by rw [hX.2.2.2.1, hh]; intro x hx; cases hx) hX.2.2.1 h5 h6 h7 (fun t ht _ => ⟨⟨M', kx E M' hq, by rw [ht]; exact hR1⟩, hS1.F ht⟩) hS1.2.2 (by omega) (by omega)
/-- a constructor on any cell -/
theorem g_invIx {ix nA F' L' mc' ms' : Nat} {J' : Jm} {As rest : List Value} {Q' : Res → Mem → Prop} {id : Nat} (hd : decode J.2.1 pc = .ok (.invokespecial ix, 3)) (hlk : LkI J.1.cls ix J' nA) (hn : As.length = nA) (hcat : (rest.map fun v => v.category).sum ≤ 8) (hF : F' + 1 ≤ F ∧ 8 + (J'.2.2.1 + 11) + L' ≤ L) (hE : Ev l J' F' L' mc' ms' (.ref id :: As) M Q') (hst : st = As.reverse ++ .ref id :: rest) (hh : J.2.2.2.2 = [])
    (kk : ∀ v M', Q' (.inl v) M' → Go l J F L MC MS Q (pc + 3) lv (v.toList ++ rest) k n M') (kx : ∀ E M', Q' (.inr E) M' → Q (.inr E) M') : Go l J F L MC MS Q pc lv st (k + mc') (n + ms') M := by
  subst hst
  intro p e s m args below meth c G H locs cells slots ls hX hC hR hS hl hc hs
  have hts := hX.1.2.2.2.2
  have hrun := vx_runI (y := J'.1) (bytes := J'.2.1) (maxL := J'.2.2.1) (ws := cwd J' :: WS) (rm := ({ frames := F', cells := mc', slots := ms', locals := L' } : Room)) (R := ({ frames := F, cells := MC, slots := MS, locals := L } : Room)) (As := As.map (cv G)) (rest := rest.map (cv G)) (e := e) (below := below) (meth := meth) (g := F0 m pc ls ((As.reverse ++ .ref id :: rest).map (cv G))) (locs := locs) (cells := cells) (slots := slots) (H := H) (b := gB G + id) hX.1 (hE G) ⟨by have h9 := lk_B (MC := MC) (MS := MS) (mc := mc') (ms := ms') hlk.1 hts hF; rw [hlk.2.2.2] at h9; exact h9, hlk.2.2.1, hts _ hlk.2.1⟩
    ⟨blind G _ l M, fun U hU hW => ⟨by rw [List.map_cons]; rfl, ctx_call hC hS hU hW, by rw [hU]; exact hR⟩⟩
    rfl (by rw [List.length_map]; exact hn) hl.1 (by show (List.map (cv G) _) = _; rw [List.map_append, List.map_reverse, List.map_cons]; rfl) (by show 2 * 0 + _ ≤ 8; rw [cv_cats]; omega) hd ⟨by show cells + mc' ≤ MC; omega, by show slots + ms' ≤ MS; omega⟩
  refine vx_go (hrun) hS (fun v M' H1 locs1 hq hR1 hS1 => ?_) (fun E ce q9 M' H1 locs1 hq hR1 hS1 h5 h6 h7 => ?_)
  · have h1 := kk v M' hq p e s m args below meth c G H1 locs1 (cells + mc') (slots + ms') ls hX hC hR1 hS1 hl (by omega) (by omega)
    rw [List.map_append] at h1
    cases v <;> exact h1
  · exact vx_out (by rw [hX.2.2.2.1, hh]; intro x hx; cases hx) hX.2.2.1 h5 h6 h7 (fun t ht _ => ⟨⟨M', kx E M' hq, by rw [ht]; exact hR1⟩, hS1.F ht⟩) hS1.2.2 (by omega) (by omega)
end
