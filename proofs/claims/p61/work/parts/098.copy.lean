/-! copies out of a String constant, and of references along one array -/
section
variable {l : Launch} {J : Jm} {F L MC MS : Nat} {Q : Res → Mem → Prop} {pc : Nat} {lv : List (Nat × Value)} {st : List Value} {k n : Nat} {M : Mem}
theorem s_put {G : Gl} {s : State} {H H1 : Heap} {locs L9 : List Loc} {b : Nat} (hS : va_S (Go_A G) s.heap H locs) (z : H1.size = H.size) (oq : ∀ q : Nat, q ≠ gB G + b → H1[q]? = H[q]?) (hL9 : ∀ z ∈ L9, z.base = gB G + b) : va_S (Go_A G) s.heap H1 (locs ++ L9) := ⟨by rw [z]; exact hS.1, fun q g1 g2 => by
  rw [oq q (fun e => g2 (by rw [e]; show gB G ≤ _; omega))]
  exact hS.2.1 q g1 g2, fun q hq => by
  rcases List.mem_append.mp hq with h | h
  · exact hS.2.2 q h
  · rw [hL9 q h]
    show gB G ≤ _
    omega⟩
theorem g_copyC {ix b nb dp kS : Nat} {q0 : String × Nat × String × List Int32} {i1 i2 : Int32} (hd : decode J.2.1 pc = .ok (.invokestatic ix, 3)) (w1 : Cond.methodLink J.1.cls ix arraycopyName ∈ WS) (w2 : Cond.native arraycopyName ∈ WS) (w3 : Cond.static arraycopyName ∈ WS) (w4 : Cond.initialized "java/lang/System" ∈ WS) (hq : strT[kS]? = some q0) (hfit : ∀ j, j < q0.2.2.2.length → fits .byte (.int (q0.2.2.2.getD j 0)) = true) (hb : (mK M)[b]? = some (.inl (.byte, nb))) (e1 : i1 = nI dp) (e2 : i2 = nI q0.2.2.2.length) (h5 : dp + q0.2.2.2.length ≤ nb) (hL : nb < 100000) (hF : 1 ≤ F) (hLL : (st.map fun v => v.category).sum + (nativeFrameWords "java/lang/System" "arraycopy" 5 + 11) ≤ L)
    (kk : Go l J F L MC MS Q (pc + 3) lv st k n (sI M b (va_cpy (fun j => q0.2.2.2.getD j 0) (mI M b) 0 dp q0.2.2.2.length))) : Go l J F L MC MS Q pc lv (.int i2 :: .int i1 :: .ref b :: .int 0 :: .retAddr (2 * kS + 3) :: st) k n M := by
  subst e1; subst e2
  intro p e s m args below meth c G H locs cells slots ls hX hC hR hS hl hc hs
  have hts := hX.1.2.2.2.2
  obtain ⟨cell, c1, ⟨c2, k0, hk0, cm0, hkk0⟩, c3, c4, c5, c6, c7⟩ := ((hC.2.2.2.2.2.1 kS _ hq).2.1 0 (by decide)).2.2.2.kept hS.2.1
  have c4' : q0.2.2.2.length ≤ cell.slots.size := c4
  have c6' : ∀ j, j < q0.2.2.2.length → cell.slots[j]? = some (.int (q0.2.2.2.getD j 0)) := c6
  have d1 : H[gB G + b]? = some (arrV (gA G .byte) nb (fun j => .int (mI M b j))) := by
    have h9 : H[gB G + b]? = some (vp_cell (gA G .byte) (nb, .inl (mI M b))) := hR.1 b _ (wl_get hb)
    rw [vp_cell_i] at h9
    exact h9
  obtain ⟨-, k1, hk1, cm1, hkk1⟩ := (hC.2.1.2 2 _ rfl).1 nb (fun j => .int (mI M b j))
  have eS : cv G (.retAddr (2 * kS + 3)) = .ref (gSV G kS) := by show (if (2 * kS + 1) % 2 = 0 then _ else _) = _; rw [if_neg (by omega), show (2 * kS + 1) / 2 = kS by omega]
  rw [List.map_cons, List.map_cons, List.map_cons, List.map_cons, List.map_cons, eS]
  refine w_copy (sp := 0) (dp := dp) (cnt := q0.2.2.2.length) (R := ({ frames := F, cells := MC, slots := MS, locals := L } : Room)) hX.1.1 hX.1.2.1 (hX.1.2.2.1.trans hl.1.symm) hX.1.2.2.2.1 (hts _ w1) (hts _ w2) (hts _ w3) (hts _ w4) c1 d1 c2 (fun _ h => by cases h) c3 (fun h => by cases h) hk0 hk1 hkk0 hkk1 (by simp [refKind]) (by omega) (by rw [arrV_size]; exact h5) (by omega) (fun vm₁ _ T hT i hi => ?_) hF (by rw [cv_cats]; exact hLL) hd (fun H1 L9 z eb oq hL9 => ?_)
  · have e9 : cell.slots.getD (0 + i) .null = .int (q0.2.2.2.getD i 0) := by
      rw [Nat.zero_add, Array.getD_eq_getD_getElem?, c6' i hi]
      rfl
    rw [e9]
    exact ⟨hfit i hi, trivial⟩
  · have hR1 : Rel G (sI M b (va_cpy (fun j => q0.2.2.2.getD j 0) (mI M b) 0 dp q0.2.2.2.length)) H1 := by
      refine rel_set hR hb rfl rfl rfl (fun i y hi _ => ent_sI y hi) z (hR.1.set (wl_D G M) (wl_get hb) ?_ oq)
      show H1[gB G + b]? = some (vp_cell (gA G .byte) (nb, .inl (mI (sI M b (va_cpy (fun j => q0.2.2.2.getD j 0) (mI M b) 0 dp q0.2.2.2.length)) b)))
      have h9 := va_copiedX (fun z => Value.int z) cell (gA G .byte) (n0 := q0.2.2.2.length) (n1 := nb) (sp := 0) (dp := dp) (n := q0.2.2.2.length) (fun j => q0.2.2.2.getD j 0) (mI M b) c6' (by omega)
      rw [eb, sI_self, vp_cell_i]
      refine congrArg some (Eq.trans ?_ h9)
      show (arrV (gA G .byte) nb (fun j => .int (mI M b j))).storeRun (nI dp).toNatClampNeg (cell.stretch (nI 0).toNatClampNeg (nI q0.2.2.2.length).toNatClampNeg) = _
      rw [nI_clamp (by omega), nI_clamp (by omega), nI_clamp (by omega)]
    exact kk p e s m args below meth c G H1 _ cells slots ls hX hC hR1 (s_put hS z oq hL9) hl hc hs
/-- desks moved along a list's array -/
theorem g_copyR {ix b nb sp dp cnt : Nat} {i0 i1 i2 : Int32} (hd : decode J.2.1 pc = .ok (.invokestatic ix, 3)) (w1 : Cond.methodLink J.1.cls ix arraycopyName ∈ WS) (w2 : Cond.native arraycopyName ∈ WS) (w3 : Cond.static arraycopyName ∈ WS) (w4 : Cond.initialized "java/lang/System" ∈ WS) (hb : (mK M)[b]? = some (.inl (.object "java/lang/Object", nb))) (hz0 : ∀ j, mI M b j = 0) (hel : ∀ j, j < cnt → ∃ r, mR M b (sp + j) = some r ∧ (mK M)[r]? = some (.inr 7)) (e0 : i0 = nI sp) (e1 : i1 = nI dp) (e2 : i2 = nI cnt) (h4 : sp + cnt ≤ nb) (h5 : dp + cnt ≤ nb) (hL : nb < 100000) (hF : 1 ≤ F) (hLL : (st.map fun v => v.category).sum + (nativeFrameWords "java/lang/System" "arraycopy" 5 + 11) ≤ L)
    (kk : Go l J F L MC MS Q (pc + 3) lv st k n (sR M b (va_cpy (mR M b) (mR M b) sp dp cnt))) : Go l J F L MC MS Q pc lv (.int i2 :: .int i1 :: .ref b :: .int i0 :: .ref b :: st) k n M := by
  subst e0; subst e1; subst e2
  intro p e s m args below meth c G H locs cells slots ls hX hC hR hS hl hc hs
  have hts := hX.1.2.2.2.2
  have d1 : H[gB G + b]? = some (arrV (gA G (.object "java/lang/Object")) nb (fun j => va_rf (rfo G (mR M b j) 0))) := by
    have h9 : H[gB G + b]? = some (vp_cell (gA G (.object "java/lang/Object")) (nb, .inr (.inr (.inr (.inr (fun j => rfo G (mR M b j) (mI M b j))))))) := hR.1 b _ (wl_get hb)
    simp only [hz0] at h9
    rw [vp_cell_q] at h9
    exact h9
  obtain ⟨-, k1, hk1, cm1, hkk1⟩ := (hC.2.1.2 12 _ rfl).1 nb (fun j => va_rf (rfo G (mR M b j) 0))
  refine w_copy (R := ({ frames := F, cells := MC, slots := MS, locals := L } : Room)) hX.1.1 hX.1.2.1 (hX.1.2.2.1.trans hl.1.symm) hX.1.2.2.2.1 (hts _ w1) (hts _ w2) (hts _ w3) (hts _ w4) d1 d1 (fun _ h => by cases h) (fun _ h => by cases h) (fun h => by cases h) (fun h => by cases h) hk1 hk1 hkk1 hkk1 rfl (by rw [arrV_size]; exact h4) (by rw [arrV_size]; exact h5) (by omega) (fun vm₁ hal T hT i hi => ?_) hF (by rw [cv_cats]; exact hLL) hd (fun H1 L9 z eb oq hL9 => ?_)
  · have e9 : (arrV (gA G (.object "java/lang/Object")) nb (fun j => va_rf (rfo G (mR M b j) 0))).slots.getD (sp + i) .null = va_rf (rfo G (mR M b (sp + i)) 0) := by
      rw [Array.getD_eq_getD_getElem?, arrV_read _ _ (by omega)]
      rfl
    rw [e9]
    obtain ⟨r, hr1, hr2⟩ := hel i hi
    rw [hr1]
    obtain ⟨cellV, g1, g2, g3⟩ := va_recv (q := (RX7, TX7, 7)) hC.2.1 hR.1 rfl (wl_get (G := G) hr2)
    obtain ⟨kA, comp, r1, r2, r3, -⟩ := (hC.2.1.2 12 _ rfl).2
    cases hk1.symm.trans r1
    cases hkk1.symm.trans r2
    obtain ⟨kC, hkC, -⟩ := Vm.findClass_spec g3
    obtain ⟨kE, hkE, -⟩ := Vm.findClass_spec r3
    obtain ⟨kC', hkC', -⟩ := hal.2.2 _ _ hkC
    obtain ⟨kE', hkE', -⟩ := hal.2.2 _ _ hkE
    obtain ⟨c3, t3, w5, w6, w7⟩ := Cond.castable_spec (va_Nw.use (A := args) (by rfl) (hC.1.2.1.1 (.castable "BitDeskLaw$Desk" "java/lang/Object") (by simp [CX1])))
    have e3 : c3 = cellV.cls := Option.some.inj (w5.symm.trans g3)
    have e4 : t3 = cm1 := Option.some.inj (w6.symm.trans r3)
    rw [e3, e4] at w7
    refine ⟨rfl, cellV, (show T.heap[gB G + r]? = some cellV by rw [hT]; exact g1), (fun q h => by rw [h] at g2; cases g2), ⟨kC', hkC'⟩, ?_, ?_⟩
    · exact ⟨kE', hkE'⟩
    · show vm₁.assignable _ _ = true
      rw [hal.assignable]
      exact w7
  · have hR1 : Rel G (sR M b (va_cpy (mR M b) (mR M b) sp dp cnt)) H1 := by
      refine rel_set hR hb rfl rfl rfl (fun i y hi _ => ent_sR y hi) z (hR.1.set (wl_D G M) (wl_get hb) ?_ oq)
      show H1[gB G + b]? = some (vp_cell (gA G (.object "java/lang/Object")) (nb, .inr (.inr (.inr (.inr (fun j => rfo G (mR (sR M b (va_cpy (mR M b) (mR M b) sp dp cnt)) b j) (mI M b j)))))))
      have h9 := va_copied (fun z => va_rf (rfo G z 0)) (gA G (.object "java/lang/Object")) (gA G (.object "java/lang/Object")) (n0 := nb) (n1 := nb) (sp := sp) (dp := dp) (n := cnt) (mR M b) (mR M b) h4
      simp only [hz0, sR, mR, fs_self]
      rw [eb, vp_cell_q]
      refine congrArg some (Eq.trans ?_ h9)
      show (arrV (gA G (.object "java/lang/Object")) nb (fun j => va_rf (rfo G (mR M b j) 0))).storeRun (nI dp).toNatClampNeg ((arrV (gA G (.object "java/lang/Object")) nb (fun j => va_rf (rfo G (mR M b j) 0))).stretch (nI sp).toNatClampNeg (nI cnt).toNatClampNeg) = _
      rw [nI_clamp (by omega), nI_clamp (by omega), nI_clamp (by omega)]
    exact kk p e s m args below meth c G H1 _ cells slots ls hX hC hR1 (s_put hS z oq hL9) hl hc hs
/-- null into a list's array -/
theorem g_aastore_null {id j len : Nat} {i : Int32} (hd : decode J.2.1 pc = .ok (.aastore, 1)) (hk : (mK M)[id]? = some (.inl (.object "java/lang/Object", len))) (h0 : mI M id j = 0) (hi : i = nI j) (hj : j < len) (hL : len < 2147483648) (kk : Go l J F L MC MS Q (pc + 1) lv st k n (sR M id (fun_set (mR M id) j none))) : Go l J F L MC MS Q pc lv (.null :: .int i :: .ref id :: st) k n M := by
  subst hi
  intro p e s m args below meth c G H locs cells slots ls hX hC hR hS hl hc hs
  have he := wl_get (G := G) hk
  refine va_WaastN (C := "java/lang/Object") hX.1.1 hX.1.2.1 (hR.1 id _ he) ((hC.2.1.2 12 _ rfl).1 len (fun j => va_rf (rfo G (mR M id j) (mI M id j)))) (fun h => by cases h) (by show ¬ (_ ∨ (arrV _ _ _).slots.size ≤ _); rw [arrV_size]; exact vp_in_nI hj hL) rfl rfl hd fun H1 e1 z oq => ?_
  refine kk p e s m args below meth c G H1 _ cells slots ls hX hC (rel_set hR hk rfl rfl rfl (fun i y hi _ => ent_sR y hi) z (hR.1.set (wl_D G M) he ?_ oq)) (hS.put z oq (by show gB G ≤ _; omega)) hl hc hs
  show H1[gB G + id]? = some (vp_cell (gA G (.object "java/lang/Object")) (len, adat G (sR M id (fun_set (mR M id) j none)) id (.object "java/lang/Object")))
  rw [e1]
  show some ((vp_cell (gA G (.object "java/lang/Object")) (len, adat G M id (.object "java/lang/Object"))).setSlot _ _) = _
  simp only [adat, sR, mR, mI, fs_self]
  rw [vp_cell_q, vp_cell_q, arrV_store, nI_clamp (by omega)]
  congr 2
  funext q
  by_cases hq : q = j
  · subst hq
    have h0' : M.2.2.1 id q = 0 := h0
    simp [updV, fun_set, va_rf, h0', rfo_0]
  · simp [updV, fun_set, hq]
end
