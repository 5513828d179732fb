/-! more rules: lengths, null, what stands outside the cells, casts, clones, copies -/
section
variable {l : Launch} {J : Jm} {F L MC MS : Nat} {Q : Res → Mem → Prop} {pc : Nat} {lv : List (Nat × Value)} {st : List Value} {k n : Nat} {M : Mem}
theorem g_alenT {ty : FieldType} (t0 : Nat) {id len : Nat} (hd : decode J.2.1 pc = .ok (.arraylength, 1)) (htl : ∀ G : Gl, (tyl G)[t0]? = some (gA G ty, ty)) (hk : (mK M)[id]? = some (.inl (ty, len))) (kk : Go l J F L MC MS Q (pc + 1) lv (.int (nI len) :: st) k n M) : Go l J F L MC MS Q pc lv (.ref id :: st) k n M := by
  intro p e s m args below meth c G H locs cells slots ls hX hC hR hS hl hc hs
  exact va_alen hX.1.1 hX.1.2.1 hC.2.1 hR.1 id t0 (wl_get hk) (htl G) (v := nI len) rfl hd (kk p e s m args below meth c G H locs cells slots ls hX hC hR hS hl hc hs)
theorem g_alen_Z {id len : Nat} (hd : decode J.2.1 pc = .ok (.arraylength, 1)) (hk : (mK M)[id]? = some (.inl (.boolean, len))) (kk : Go l J F L MC MS Q (pc + 1) lv (.int (nI len) :: st) k n M) : Go l J F L MC MS Q pc lv (.ref id :: st) k n M := g_alenT 3 hd (fun _ => rfl) hk kk
theorem g_alen_Z1 {id len : Nat} (hd : decode J.2.1 pc = .ok (.arraylength, 1)) (hk : (mK M)[id]? = some (.inl (.array .boolean, len))) (kk : Go l J F L MC MS Q (pc + 1) lv (.int (nI len) :: st) k n M) : Go l J F L MC MS Q pc lv (.ref id :: st) k n M := g_alenT 4 hd (fun _ => rfl) hk kk
theorem g_alen_B {id len : Nat} (hd : decode J.2.1 pc = .ok (.arraylength, 1)) (hk : (mK M)[id]? = some (.inl (.byte, len))) (kk : Go l J F L MC MS Q (pc + 1) lv (.int (nI len) :: st) k n M) : Go l J F L MC MS Q pc lv (.ref id :: st) k n M := g_alenT 2 hd (fun _ => rfl) hk kk
theorem g_alen_O {id len : Nat} (hd : decode J.2.1 pc = .ok (.arraylength, 1)) (hk : (mK M)[id]? = some (.inl (.object "java/lang/Object", len))) (kk : Go l J F L MC MS Q (pc + 1) lv (.int (nI len) :: st) k n M) : Go l J F L MC MS Q pc lv (.ref id :: st) k n M := g_alenT 12 hd (fun _ => rfl) hk kk
/-- null in a local -/
theorem g_aloadN {i : Nat} (hd : decode J.2.1 pc = .ok (.aload i, 2)) (hv : lvG lv i = some .null) (kk : Go l J F L MC MS Q (pc + 2) lv (.null :: st) k n M) : Go l J F L MC MS Q pc lv st k n M := by
  intro p e s m args below meth c G H locs cells slots ls hX hC hR hS hl hc hs
  exact lv_aloadN hX.1.1 hX.1.2.1 hd (lvH_get hl hv) (kk p e s m args below meth c G H locs cells slots ls hX hC hR hS hl hc hs)
theorem g_astoreN {i : Nat} {lv' : List (Nat × Value)} (hd : decode J.2.1 pc = .ok (.astore i, 2)) (hn : i < J.2.2.1) (hv : lvS1 i .null lv = lv') (kk : Go l J F L MC MS Q (pc + 2) lv' st k n M) : Go l J F L MC MS Q pc lv (.null :: st) k n M := by
  intro p e s m args below meth c G H locs cells slots ls hX hC hR hS hl hc hs
  exact lv_astoreN hX.1.1 hX.1.2.1 hd hl hn rfl fun ls' hl' => kk p e s m args below meth c G H locs cells slots ls' hX hC hR hS (lvH_S1 hv hl') hc hs
theorem g_ifnull_t {off : Int} {tgt : Nat} (hd : decode J.2.1 pc = .ok (.ifnull off, 3)) (ht : (pc : Int) + off = (tgt : Int)) (kk : Go l J F L MC MS Q tgt lv st k n M) : Go l J F L MC MS Q pc lv (.null :: st) k n M := by
  intro p e s m args below meth c G H locs cells slots ls hX hC hR hS hl hc hs
  exact lv_ifnullN hX.1.1 hX.1.2.1 hd ht (kk p e s m args below meth c G H locs cells slots ls hX hC hR hS hl hc hs)
/-- what stands outside: 2 k + 2 is the thing k -/
theorem cv_sp (G : Gl) (kS : Nat) : cv G (.retAddr (2 * kS + 2)) = .ref (gSK G kS) := by
  show (if 2 * kS % 2 = 0 then _ else _) = _
  rw [if_pos (by omega), show 2 * kS / 2 = kS by omega]
theorem rfo_sp (G : Gl) {kS : Nat} (h : kS < 2147483647) : rfo G none (nI (kS + 1)) = some (gSK G kS) := by
  have e : ¬ nI (kS + 1) = 0 := fun h9 => by have := (nI_eq (by omega) (by decide)).mp (show nI (kS + 1) = nI 0 from h9); omega
  show (if nI (kS + 1) = 0 then none else some (gSK G ((nI (kS + 1)).toNatClampNeg - 1))) = _
  rw [if_neg e, nI_clamp (by omega), Nat.add_sub_cancel]
theorem fv_sp {M : Mem} {i j kS : Nat} (h1 : mR M i j = none) (h2 : mI M i j = nI (kS + 1)) (h : kS < 2147483647) (G : Gl) : va_rf (rfo G (mR M i j) (mI M i j)) = cv G (.retAddr (2 * kS + 2)) := by
  rw [h1, h2, rfo_sp G h, cv_sp]
  rfl
/-- putting such a thing into a field -/
theorem g_putSp {ix ci j id kS : Nat} {ty : FieldType} {fin : Bool} (hd : decode J.2.1 pc = .ok (.putfield ix, 3)) (hf : FP J.1.cls ix ci j ty fin) (hfin : fin = true → J.1.name = "<init>" ∧ ∃ q, vwCl[ci]? = some q ∧ q.1 = J.1.cls) (hk : (mK M)[id]? = some (.inr ci)) (hn : ∀ a, narrow ty (.ref a) = .ref a ∧ fits ty (.ref a) = true) (hty : ∀ (G : Gl) (M : Mem) (i a : Nat), fval G M i a ty = va_rf (rfo G (mR M i a) (mI M i a))) (h0 : mR M id j = none) (hkS : kS < 2147483647)
    (kk : Go l J F L MC MS Q (pc + 3) lv st k n (sI M id (fun_set (mI M id) j (nI (kS + 1))))) : Go l J F L MC MS Q pc lv (.retAddr (2 * kS + 2) :: .ref id :: st) k n M := by
  refine g_putf (v := .retAddr (2 * kS + 2)) (M' := sI M id (fun_set (mI M id) j (nI (kS + 1)))) hd hf hfin hk (fun G => by rw [cv_sp]; exact hn _) rfl rfl rfl (fun G => ?_) (fun G a t ha => ?_) (fun G i y hi _ => ent_sI y hi) kk
  · rw [hty]
    refine fv_sp (M := sI M id (fun_set (mI M id) j (nI (kS + 1)))) h0 ?_ hkS G
    show fun_set (mI M) id _ id j = _
    rw [fs_self, fs_self]
  · cases t <;> simp only [fval, mI, mR, sI, fs_self, fs_ne _ _ ha]
theorem g_empty {ix : Nat} (hd : decode J.2.1 pc = .ok (.getstatic ix, 3)) (hw : Cond.fieldLink J.1.cls ix "java/util/ArrayList" "DEFAULTCAPACITY_EMPTY_ELEMENTDATA" "[Ljava/lang/Object;" ∈ WS) (kk : Go l J F L MC MS Q (pc + 3) lv (.retAddr 2002 :: st) k n M) : Go l J F L MC MS Q pc lv st k n M := by
  intro p e s m args below meth c G H locs cells slots ls hX hC hR hS hl hc hs
  have h1 := kk p e s m args below meth c G H locs cells slots ls hX hC hR hS hl hc hs
  rw [List.map_cons, show cv G (.retAddr 2002) = .ref (gSK G 1000) from cv_sp G 1000] at h1
  exact va_gets hX.1.1 hX.1.2.1 hC.1.2.2.2.2.2.2.2.2.1.1 hS hX.1.2.2.2.1 (hX.1.2.2.2.2 _ hw) (fun x hx => hx) hd h1
theorem g_emptyLen (hd : decode J.2.1 pc = .ok (.arraylength, 1)) (kk : Go l J F L MC MS Q (pc + 1) lv (.int 0 :: st) k n M) : Go l J F L MC MS Q pc lv (.retAddr 2002 :: st) k n M := by
  intro p e s m args below meth c G H locs cells slots ls hX hC hR hS hl hc hs
  have h1 := kk p e s m args below meth c G H locs cells slots ls hX hC hR hS hl hc hs
  obtain ⟨cell, c1, c2, c3, c4, c5, c6, c7⟩ := hC.1.2.2.2.2.2.2.2.2.1.2.kept hS.2.1
  rw [List.map_cons, show cv G (.retAddr 2002) = .ref (gSK G 1000) from cv_sp G 1000]
  exact W.alen hX.1.1 hX.1.2.1 c1 c2 c5 rfl rfl hd h1
theorem g_digits {ix : Nat} (hd : decode J.2.1 pc = .ok (.getstatic ix, 3)) (hw : Cond.fieldLink J.1.cls ix "java/lang/Integer" "DigitOnes" "[B" ∈ WS) (kk : Go l J F L MC MS Q (pc + 3) lv (.retAddr 2004 :: st) k n M) : Go l J F L MC MS Q pc lv st k n M := by
  intro p e s m args below meth c G H locs cells slots ls hX hC hR hS hl hc hs
  have h1 := kk p e s m args below meth c G H locs cells slots ls hX hC hR hS hl hc hs
  rw [List.map_cons, show cv G (.retAddr 2004) = .ref (gSK G 1001) from cv_sp G 1001] at h1
  exact va_gets hX.1.1 hX.1.2.1 hC.1.2.2.2.2.2.2.2.2.2.1 hS hX.1.2.2.2.1 (hX.1.2.2.2.2 _ hw) (fun x hx => hx) hd h1
theorem g_digit {i : Int32} {j : Nat} (hd : decode J.2.1 pc = .ok (.baload, 1)) (hi : i = nI j) (hj : j < 10) (kk : Go l J F L MC MS Q (pc + 1) lv (.int (nI (48 + j)) :: st) k n M) : Go l J F L MC MS Q pc lv (.int i :: .retAddr 2004 :: st) k n M := by
  subst hi
  intro p e s m args below meth c G H locs cells slots ls hX hC hR hS hl hc hs
  have h1 := kk p e s m args below meth c G H locs cells slots ls hX hC hR hS hl hc hs
  obtain ⟨cell, c1, c2, c3, c4, c5, c6, c7⟩ := hC.1.2.2.2.2.2.2.2.2.2.2.kept hS.2.1
  rw [List.map_cons, List.map_cons, show cv G (.retAddr 2004) = .ref (gSK G 1001) from cv_sp G 1001]
  have hin : ¬ (nI j < 0 ∨ cell.slots.size ≤ (nI j).toNatClampNeg) := by
    rintro (h | h)
    · exact nI_pos (by omega) h
    · rw [nI_clamp (by omega)] at h
      omega
  exact W.bald (v := .int (nI (48 + j))) hX.1.1 hX.1.2.1 c1 c2 c3 hin (by
    rw [nI_clamp (by omega), c6 j (by omega)]
    show some (Value.int (nI (48 + j % 10))) = _
    rw [Nat.mod_eq_of_lt hj]) rfl rfl hd h1
theorem g_acmp_same {v : Value} {off : Int} {tgt : Nat} (hd : decode J.2.1 pc = .ok (.if_acmp .eq off, 3)) (ht : (pc : Int) + off = (tgt : Int)) (hr : isA v) (kk : Go l J F L MC MS Q tgt lv st k n M) : Go l J F L MC MS Q pc lv (v :: v :: st) k n M := by
  intro p e s m args below meth c G H locs cells slots ls hX hC hR hS hl hc hs
  have h1 := kk p e s m args below meth c G H locs cells slots ls hX hC hR hS hl hc hs
  obtain ⟨a, ha⟩ := isA_cv G hr
  rw [List.map_cons, List.map_cons, ha]
  exact lv_acmp_eq (rx := some a) (ry := some a) hX.1.1 hX.1.2.1 hd ht (fun _ => h1) (fun h => absurd rfl h)
/-- an array of Strings that holds constants -/
theorem g_aastore_Sp {id j len kS : Nat} {i : Int32} {q : String × Nat × String × List Int32} (hd : decode J.2.1 pc = .ok (.aastore, 1)) (hk : (mK M)[id]? = some (.inl (.object "java/lang/String", len))) (hq : strT[kS]? = some q) (hi : i = nI j) (hj : j < len) (hL : len < 2147483648) (h0 : mR M id j = none) (hkS : kS < 2147483647) (kk : Go l J F L MC MS Q (pc + 1) lv st k n (sI M id (fun_set (mI M id) j (nI (kS + 1))))) : Go l J F L MC MS Q pc lv (.retAddr (2 * kS + 2) :: .int i :: .ref id :: st) k n M := by
  subst hi
  intro p e s m args below meth c G H locs cells slots ls hX hC hR hS hl hc hs
  have he := wl_get (G := G) hk
  obtain ⟨kA, comp, k1, k2, k3, -⟩ := (hC.2.1.2 11 _ rfl).2
  obtain ⟨cellV, g1, g2, g3, -⟩ := ((hC.2.2.2.2.2.1 kS _ hq).2.1 0 (by decide)).1.kept hS.2.1
  have e3 : cellV.cls = comp := Option.some.inj (g3.symm.trans k3)
  obtain ⟨kC, hkC, -⟩ := Vm.findClass_spec k3
  rw [List.map_cons, cv_sp]
  refine W.aast hX.1.1 hX.1.2.1 (hR.1 id _ he) (fun q h => by cases h) (fun h => by cases h) k1 k2 rfl hkC ⟨nI_pos (by omega), by show _ < (arrV _ _ _).slots.size; rw [arrV_size, nI_clamp (by omega)]; exact hj⟩ g1 (fun q h => by rw [h] at g2; cases g2) (by rw [e3]; exact hkC) (by rw [e3]; exact va_asg _ _) rfl rfl hd fun H1 e1 z oq => ?_
  refine kk p e s m args below meth c G H1 _ cells slots ls hX hC (rel_set hR hk rfl rfl rfl (fun i y hi _ => ent_sI y hi) z (hR.1.set (wl_D G M) he ?_ oq)) (hS.put z oq (by show gB G ≤ _; omega)) hl hc hs
  show H1[gB G + id]? = some (vp_cell (gA G (.object "java/lang/String")) (len, adat G (sI M id (fun_set (mI M id) j (nI (kS + 1)))) id (.object "java/lang/String")))
  rw [e1]
  show some ((vp_cell (gA G (.object "java/lang/String")) (len, adat G M id (.object "java/lang/String"))).setSlot _ _) = _
  simp only [adat, sI, mR, mI, fs_self]
  rw [vp_cell_q, vp_cell_q, arrV_store, nI_clamp (by omega)]
  congr 2
  funext q9
  by_cases hq9 : q9 = j
  · subst hq9
    have h0' : M.2.2.2.2.1 id q9 = none := h0
    simp only [updV, fun_set, h0', if_true]
    rw [rfo_sp G hkS]
    rfl
  · simp [updV, fun_set, hq9]
theorem g_aaload_Sp {id j len kS : Nat} {i : Int32} (hd : decode J.2.1 pc = .ok (.aaload, 1)) (hk : (mK M)[id]? = some (.inl (.object "java/lang/String", len))) (hi : i = nI j) (hj : j < len) (hL : len < 2147483648) (h0 : mR M id j = none) (h1 : mI M id j = nI (kS + 1)) (hkS : kS < 2147483647) (kk : Go l J F L MC MS Q (pc + 1) lv (.retAddr (2 * kS + 2) :: st) k n M) : Go l J F L MC MS Q pc lv (.int i :: .ref id :: st) k n M := by
  subst hi
  intro p e s m args below meth c G H locs cells slots ls hX hC hR hS hl hc hs
  have h9 := kk p e s m args below meth c G H locs cells slots ls hX hC hR hS hl hc hs
  refine w_aald hX.1.1 hX.1.2.1 hC.2.1 hR.1 id 11 (ty := .object "java/lang/String") rfl (wl_get hk) rfl (vp_in_nI hj hL) hd ?_
  rw [nI_clamp (by omega)]
  show W _ _ _ _ _ _ _ _ _ _ _ _ _ _ _ (F0 m (pc + 1) ls (va_rf (rfo G (mR M id j) (mI M id j)) :: _))
  rw [fv_sp h0 h1 hkS G]
  exact h9
/-- casts -/
theorem g_castA {ix t0 id len : Nat} {ty : FieldType} {nm : String} (hd : decode J.2.1 pc = .ok (.checkcast ix, 3)) (hw : Cond.classLink J.1.cls ix nm ∈ WS) (hk : (mK M)[id]? = some (.inl (ty, len))) (htl : ∀ G : Gl, (tyl G)[t0]? = some (gA G ty, ty)) (hnm : nm = "[" ++ ty.toString) (hty : ∀ (s : State) (cA : ClassId), va_RA s cA ty → s.vm.findClass ("[" ++ ty.toString) = some cA) (kk : Go l J F L MC MS Q (pc + 3) lv (.ref id :: st) k n M) : Go l J F L MC MS Q pc lv (.ref id :: st) k n M := by
  intro p e s m args below meth c G H locs cells slots ls hX hC hR hS hl hc hs
  exact va_castA hX.1.1 hX.1.2.1 hX.1.2.2.2.1 (hX.1.2.2.2.2 _ hw) hR.1 id (wl_get hk) (by rw [hnm]; exact hty _ _ (hC.2.1.2 t0 _ (htl G)).2) hd (kk p e s m args below meth c G H locs cells slots ls hX hC hR hS hl hc hs)
theorem g_castC {ix id ci : Nat} {q0 : vw_C} {nm : String} (hd : decode J.2.1 pc = .ok (.checkcast ix, 3)) (hw : Cond.classLink J.1.cls ix nm ∈ WS) (hk : (mK M)[id]? = some (.inr ci)) (hc0 : vwCl[ci]? = some q0) (hq0 : q0.1 = nm) (kk : Go l J F L MC MS Q (pc + 3) lv (.ref id :: st) k n M) : Go l J F L MC MS Q pc lv (.ref id :: st) k n M := by
  intro p e s m args below meth c G H locs cells slots ls hX hC hR hS hl hc hs
  have h1 := kk p e s m args below meth c G H locs cells slots ls hX hC hR hS hl hc hs
  obtain ⟨cell, g1, g2, g3⟩ := va_recv (q := q0) hC.2.1 hR.1 hc0 (wl_get (G := G) hk)
  rw [hq0] at g3
  intro T hT X
  obtain ⟨vm', X', step⟩ := X.checkcastYes hX.1.1 hX.1.2.2.2.1 (hX.1.2.2.2.2 _ hw) (by rw [hT]; exact g1) g2 g3 (va_asg _ _) (g := F0 m pc ls (.ref (gB G + id) :: st.map (cv G))) rfl rfl (by rw [hX.1.2.1]; exact hd)
  obtain ⟨t, a1, b1⟩ := h1 (T.setVm vm') hT X'
  exact ⟨t, step t a1, b1⟩
/-- a new cell that holds what another holds -/
def nC (M : Mem) (i : Nat) (x : Knd) : Mem := (M.1 ++ [x], M.2.1, fun_set (mI M) M.1.length (mI M i), fun_set (mL M) M.1.length (mL M i), fun_set (mR M) M.1.length (mR M i), fun_set (mD M) M.1.length (mD M i), mS M)
theorem ent_nC {G : Gl} {M : Mem} {x : Knd} {i a : Nat} (y : Knd) (h : i < (mK M).length) : ent G (nC M a x) i y = ent G M i y :=
  ent_of (M := M) (M' := nC M a x) (fs_ne _ _ (Nat.ne_of_lt h)) (fs_ne _ _ (Nat.ne_of_lt h)) (fs_ne _ _ (Nat.ne_of_lt h)) (fs_ne _ _ (Nat.ne_of_lt h)) y
theorem wl_pushC (G : Gl) (M : Mem) (a : Nat) (x : Knd) : wl G (nC M a x) = wl G M ++ [(gB G + (mK M).length, ent G (nC M a x) (mK M).length x)] := by
  unfold wl
  rw [show mK (nC M a x) = mK M ++ [x] from rfl, List.mapIdx_append]
  congr 1
  · apply List.ext_getElem?
    intro i
    rw [List.getElem?_mapIdx, List.getElem?_mapIdx]
    cases h : (mK M)[i]? with
    | none => rfl
    | some y => simp only [Option.map_some]; rw [ent_nC y (List.getElem?_eq_some_iff.mp h).1]
  · simp
theorem rel_pushC {G : Gl} {M : Mem} {H H1 : Heap} {a : Nat} {x : Knd} (hR : Rel G M H) (hx : mX M = true) (hz : H1.size = H.size + 1) (hk : ∀ q : Nat, q < H.size → H1[q]? = H[q]?) (he : va_at (gD G) vwCl (H.size, ent G (nC M a x) (mK M).length x) H1) : Rel G (nC M a x) H1 := by
  have hH := hR.2.1 hx
  refine ⟨?_, fun _ => ?_, ?_, hR.2.2.2⟩
  · rw [wl_pushC]
    refine (hR.1.kept (fun i q hq => hk _ (hR.1 i q hq).lt)).app (fun i q hq => ?_)
    have hz : i < 1 := (List.getElem?_eq_some_iff.mp hq).1
    rw [show i = 0 by omega] at hq
    cases hq
    rw [← hH]
    exact he
  · show H1.size = gB G + (mK M ++ [x]).length
    rw [List.length_append, hz, hH]; simp; omega
  · show gB G + (mK M ++ [x]).length ≤ H1.size
    rw [List.length_append, hz, hH]; simp; omega
theorem g_cloneT {ty : FieldType} {t0 ix id len : Nat} {ad : String} (hd : decode J.2.1 pc = .ok (.invokevirtual ix, 3)) (w1 : Cond.methodLink J.1.cls ix ⟨ad, "clone", "()Ljava/lang/Object;"⟩ ∈ WS) (w2 : Cond.sameMethod ad "java/lang/Object" "clone" "()Ljava/lang/Object;" ∈ WS) (w3 : Cond.native ⟨"java/lang/Object", "clone", "()Ljava/lang/Object;"⟩ ∈ WS) (w4 : Cond.instanceMethod ⟨"java/lang/Object", "clone", "()Ljava/lang/Object;"⟩ ∈ WS) (w5 : Cond.selects ad ⟨ad, "clone", "()Ljava/lang/Object;"⟩ ⟨"java/lang/Object", "clone", "()Ljava/lang/Object;"⟩ ∈ WS) (hcl : Cond.castable ad "java/lang/Cloneable" ∈ CX1) (htl : ∀ G : Gl, (tyl G)[t0]? = some (gA G ty, ty)) (had : ∀ (G : Gl) (M : Mem) (i : Nat), adat G M i ty = .inl (mI M i)) (hnm : ad = "[" ++ ty.toString) (hra : ∀ (s : State) (cA : ClassId), va_RA s cA ty → s.vm.findClass ("[" ++ ty.toString) = some cA) (hk : (mK M)[id]? = some (.inl (ty, len))) (hfit : ∀ i, i < len → fits ty (.int (mI M id i)) = true) (hx : mX M = true) (hF : 1 ≤ F) (hLL : (st.map fun v => v.category).sum + 14 ≤ L)
    (kk : Go l J F L MC MS Q (pc + 3) lv (.ref (mK M).length :: st) k n (nC M id (.inl (ty, len)))) : Go l J F L MC MS Q pc lv (.ref id :: st) (k + 1) (n + len) M := by
  intro p e s m args below meth c G H locs cells slots ls hX hC hR hS hl hc hs
  have hts := hX.1.2.2.2.2
  have hH := hR.2.1 hx
  have c0 : H[gB G + id]? = some (arrV (gA G ty) len (fun j => .int (mI M id j))) := by
    have h9 : H[gB G + id]? = some (vp_cell (gA G ty) (len, adat G M id ty)) := hR.1 id _ (wl_get hk)
    rw [had, vp_cell_i] at h9
    exact h9
  have hnm9 : s.vm.findClass ad = some (gA G ty) := by rw [hnm]; exact hra _ _ (hC.2.1.2 t0 _ (htl G)).2
  obtain ⟨c9, t9, f1, f2, f3⟩ := Cond.castable_spec (va_Nw.use (A := args) (by rfl) (hC.1.2.1.1 _ hcl))
  cases hnm9.symm.trans f1
  intro T hT X
  obtain ⟨-, kA, hkA, comp, hkind⟩ := State.isArrayOf_alike X.warmed.alike ((hC.2.1.2 t0 _ (htl G)).1 0 (fun _ => .null))
  obtain ⟨-, kS, hkS, compS, hkindS⟩ := (hC.2.1.2 t0 _ (htl G)).1 0 (fun _ => .null)
  obtain ⟨vm', X', step⟩ := X.cloneArray hX.1.1 hX.1.2.2.2.1 (hts _ w1) (hts _ w2) (hts _ w3) (hts _ w4) (hts _ w5) (a := gB G + id) (cell := arrV (gA G ty) len (fun j => .int (mI M id j))) (by rw [hT]; exact c0) (fun k h => by cases h) (fun h => by cases h) hnm9 f2 f3
    (fun i v hv => by
      have hk' : T.vm.classes[gA G ty]? = some kA := hkA
      have h7 : fits ty v = true := va_fit (F := fun j => .int (mI M id j)) hfit i v hv
      show T.fitsSlot (gA G ty) .none i v = true
      simpa [State.fitsSlot, State.slotType?, hk', hkind] using h7)
    (g := F0 m pc ls (.ref (gB G + id) :: st.map (cv G))) rfl (by exact hl.1.trans hX.1.2.2.1.symm) rfl (by rw [hX.1.2.1]; exact hd) hF (by show 2 * 0 + _ + 14 ≤ _; rw [cv_cats]; show _ ≤ L; omega) (by show cells + 1 ≤ MC; omega) (by rw [arrV_size]; show slots + len ≤ MS; omega) (hloader := Vm.clonesLoader_of_array hkS hkindS)
  have hcE : ({ cls := (arrV (gA G ty) len (fun j => .int (mI M id j))).cls, slots := (arrV (gA G ty) len (fun j => .int (mI M id j))).slots } : Cell) = arrV (gA G ty) len (fun j => .int (mI M id j)) := rfl
  rw [hcE, arrV_size] at X'
  generalize hH1 : H.push (arrV (gA G ty) len (fun j => .int (mI M id j))) = H1
  have z1 : H1.size = H.size + 1 := by rw [← hH1, Array.size_push]
  have e1 : H1[H.size]? = some (arrV (gA G ty) len (fun j => .int (mI M id j))) := by rw [← hH1, Array.getElem?_push_size]
  have o1 : ∀ q : Nat, q < H.size → H1[q]? = H[q]? := fun q hq => by rw [← hH1, Array.getElem?_push, if_neg (Nat.ne_of_lt hq)]
  have hR1 : Rel G (nC M id (.inl (ty, len))) H1 := by
    refine rel_pushC hR hx z1 o1 ?_
    show H1[H.size]? = some (vp_cell (gA G ty) (len, adat G (nC M id (.inl (ty, len))) (mK M).length ty))
    rw [e1, had, vp_cell_i]
    simp only [nC, mI, fs_self]
  have h1 := kk p e s m args below meth c G H1 locs (cells + 1) (slots + len) ls hX hC hR1 (hS.more (by omega) o1) hl (by omega) (by omega)
  obtain ⟨t, b1, b2⟩ := h1 ((T.setVm vm').pushCell (arrV (gA G ty) len (fun j => .int (mI M id j)))) (by rw [← hH1, ← hT]; rfl) X'
  refine ⟨t, step t ?_, b2⟩
  rw [hcE, hT, hH]
  exact b1
end
