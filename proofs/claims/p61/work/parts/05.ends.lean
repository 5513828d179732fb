/-! RULES: making cells, ends of methods, throws, calls. -/
section
variable {l : Launch} {J : Jm} {F L MC MS : Nat} {Q : Res → Mem → Prop} {pc : Nat} {lv : List (Nat × Value)} {st : List Value} {k n : Nat} {M : Mem}
theorem ent_nK {G : Gl} {M : Mem} {x : Knd} {i : Nat} (y : Knd) (h : i < (mK M).length) : ent G (nK M x) i y = ent G M i y :=
  ent_of (M := M) (M' := nK M x) (fs_ne _ _ (Nat.ne_of_lt h)) (fs_ne _ _ (Nat.ne_of_lt h)) (fs_ne _ _ (Nat.ne_of_lt h)) (fs_ne _ _ (Nat.ne_of_lt h)) y
theorem wl_push (G : Gl) (M : Mem) (x : Knd) : wl G (nK M x) = wl G M ++ [(gB G + (mK M).length, ent G (nK M x) (mK M).length x)] := by
  unfold wl
  rw [show mK (nK M x) = mK M ++ [x] from rfl, List.mapIdx_append]
  congr 1
  · apply List.ext_getElem?
    intro i
    rw [List.getElem?_mapIdx, List.getElem?_mapIdx]
    cases h : (mK M)[i]? with
    | none => rfl
    | some y => simp only [Option.map_some]; rw [ent_nK y (List.getElem?_eq_some_iff.mp h).1]
  · simp
theorem rel_push {G : Gl} {M : Mem} {H H1 : Heap} {x : Knd} (hR : Rel G M H) (hx : mX M = true) (hz : H1.size = H.size + 1) (hk : ∀ q : Nat, q < H.size → H1[q]? = H[q]?) (he : va_at (gD G) vwCl (H.size, ent G (nK M x) (mK M).length x) H1) : Rel G (nK M x) H1 := by
  have hH := hR.2.1 hx
  refine ⟨?_, fun _ => ?_, ?_, hR.2.2.2⟩
  · rw [wl_push]
    refine (hR.1.kept (fun i q hq => hk _ (hR.1 i q hq).lt)).app (fun i q hq => ?_)
    have hz : i < 1 := (List.getElem?_eq_some_iff.mp hq).1
    rw [show i = 0 by omega] at hq
    cases hq
    rw [← hH]
    exact he
  · show H1.size = gB G + (mK M ++ [x]).length
    rw [List.length_append, hz, hH]; simp; omega
  · show gB G + (mK M ++ [x]).length ≤ H1.size
    rw [List.length_append, hz, hH]; simp; omega
theorem va_S.more {A : Nat → Prop} {H0 H H1 : Heap} {locs : List Loc} (h : va_S A H0 H locs) (hz : H.size ≤ H1.size) (hk : ∀ q : Nat, q < H.size → H1[q]? = H[q]?) : va_S A H0 H1 locs :=
  ⟨Nat.le_trans h.1 hz, fun q h1 h2 => (hk q (Nat.lt_of_lt_of_le h1 h.1)).trans (h.2.1 q h1 h2), h.2.2⟩
theorem g_newarray_int {len : Nat} {i : Int32} (hd : decode J.2.1 pc = .ok (.newarray .int, 2)) (hw : Cond.arrayClass .int ∈ WS) (hi : i = nI len) (hL : len < 100000) (hx : mX M = true) (kk : Go l J F L MC MS Q (pc + 2) lv (.ref (mK M).length :: st) k n (nK M (.inl (.int, len)))) : Go l J F L MC MS Q pc lv (.int i :: st) (k + 1) (n + len) M := by
  subst hi
  intro p e s m args below meth c G H locs cells slots ls hX hC hR hS hl hc hs
  have hH := hR.2.1 hx
  refine va_newaK (atype := .int) hX.1.1 hX.1.2.1 (hX.1.2.2.2.2 _ hw) rfl hd rfl (nI_pos (by omega)) (nI_clamp (by omega)) (by simp only [newarray.typeOf, componentBytes]; omega) (by show cells + 1 ≤ MC; omega) (by show slots + len ≤ MS; omega) hH fun H1 cA e1 z1 o1 hAr hNm => ?_
  have hcA : cA = gA G .int := by
    have h9 : s.vm.findClass ("[" ++ FieldType.int.toString) = some (gA G .int) := (hC.2.1.2 0 _ rfl).2
    exact Option.some.inj (hNm.symm.trans h9)
  have hz : H1.size = H.size + 1 := by rw [z1, hH]
  have ho : ∀ q : Nat, q < H.size → H1[q]? = H[q]? := fun q hq => o1 q (by rw [← hH]; exact hq)
  refine kk p e s m args below meth c G H1 locs (cells + 1) (slots + len) ls hX hC (rel_push hR hx hz ho ?_) (hS.more (by omega) ho) hl (by omega) (by omega)
  show H1[H.size]? = some (vp_cell (gA G .int) (len, adat G (nK M (.inl (.int, len))) (mK M).length .int))
  rw [hH, e1, hcA]
  simp only [adat, nK, mI, mL, mD, fs_self]
  rw [vp_cell_i]
  rfl
theorem g_newarray_byte {len : Nat} {i : Int32} (hd : decode J.2.1 pc = .ok (.newarray .byte, 2)) (hw : Cond.arrayClass .byte ∈ WS) (hi : i = nI len) (hL : len < 100000) (hx : mX M = true) (kk : Go l J F L MC MS Q (pc + 2) lv (.ref (mK M).length :: st) k n (nK M (.inl (.byte, len)))) : Go l J F L MC MS Q pc lv (.int i :: st) (k + 1) (n + len) M := by
  subst hi
  intro p e s m args below meth c G H locs cells slots ls hX hC hR hS hl hc hs
  have hH := hR.2.1 hx
  refine va_newaK (atype := .byte) hX.1.1 hX.1.2.1 (hX.1.2.2.2.2 _ hw) rfl hd rfl (nI_pos (by omega)) (nI_clamp (by omega)) (by simp only [newarray.typeOf, componentBytes]; omega) (by show cells + 1 ≤ MC; omega) (by show slots + len ≤ MS; omega) hH fun H1 cA e1 z1 o1 hAr hNm => ?_
  have hcA : cA = gA G .byte := by
    have h9 : s.vm.findClass ("[" ++ FieldType.byte.toString) = some (gA G .byte) := (hC.2.1.2 2 _ rfl).2
    exact Option.some.inj (hNm.symm.trans h9)
  have hz : H1.size = H.size + 1 := by rw [z1, hH]
  have ho : ∀ q : Nat, q < H.size → H1[q]? = H[q]? := fun q hq => o1 q (by rw [← hH]; exact hq)
  refine kk p e s m args below meth c G H1 locs (cells + 1) (slots + len) ls hX hC (rel_push hR hx hz ho ?_) (hS.more (by omega) ho) hl (by omega) (by omega)
  show H1[H.size]? = some (vp_cell (gA G .byte) (len, adat G (nK M (.inl (.byte, len))) (mK M).length .byte))
  rw [hH, e1, hcA]
  simp only [adat, nK, mI, mL, mD, fs_self]
  rw [vp_cell_i]
  rfl
theorem g_newarray_boolean {len : Nat} {i : Int32} (hd : decode J.2.1 pc = .ok (.newarray .boolean, 2)) (hw : Cond.arrayClass .boolean ∈ WS) (hi : i = nI len) (hL : len < 100000) (hx : mX M = true) (kk : Go l J F L MC MS Q (pc + 2) lv (.ref (mK M).length :: st) k n (nK M (.inl (.boolean, len)))) : Go l J F L MC MS Q pc lv (.int i :: st) (k + 1) (n + len) M := by
  subst hi
  intro p e s m args below meth c G H locs cells slots ls hX hC hR hS hl hc hs
  have hH := hR.2.1 hx
  refine va_newaK (atype := .boolean) hX.1.1 hX.1.2.1 (hX.1.2.2.2.2 _ hw) rfl hd rfl (nI_pos (by omega)) (nI_clamp (by omega)) (by simp only [newarray.typeOf, componentBytes]; omega) (by show cells + 1 ≤ MC; omega) (by show slots + len ≤ MS; omega) hH fun H1 cA e1 z1 o1 hAr hNm => ?_
  have hcA : cA = gA G .boolean := by
    have h9 : s.vm.findClass ("[" ++ FieldType.boolean.toString) = some (gA G .boolean) := (hC.2.1.2 3 _ rfl).2
    exact Option.some.inj (hNm.symm.trans h9)
  have hz : H1.size = H.size + 1 := by rw [z1, hH]
  have ho : ∀ q : Nat, q < H.size → H1[q]? = H[q]? := fun q hq => o1 q (by rw [← hH]; exact hq)
  refine kk p e s m args below meth c G H1 locs (cells + 1) (slots + len) ls hX hC (rel_push hR hx hz ho ?_) (hS.more (by omega) ho) hl (by omega) (by omega)
  show H1[H.size]? = some (vp_cell (gA G .boolean) (len, adat G (nK M (.inl (.boolean, len))) (mK M).length .boolean))
  rw [hH, e1, hcA]
  simp only [adat, nK, mI, mL, mD, fs_self]
  rw [vp_cell_i]
  rfl
theorem g_newarray_long {len : Nat} {i : Int32} (hd : decode J.2.1 pc = .ok (.newarray .long, 2)) (hw : Cond.arrayClass .long ∈ WS) (hi : i = nI len) (hL : len < 100000) (hx : mX M = true) (kk : Go l J F L MC MS Q (pc + 2) lv (.ref (mK M).length :: st) k n (nK M (.inl (.long, len)))) : Go l J F L MC MS Q pc lv (.int i :: st) (k + 1) (n + len) M := by
  subst hi
  intro p e s m args below meth c G H locs cells slots ls hX hC hR hS hl hc hs
  have hH := hR.2.1 hx
  refine va_newaK (atype := .long) hX.1.1 hX.1.2.1 (hX.1.2.2.2.2 _ hw) rfl hd rfl (nI_pos (by omega)) (nI_clamp (by omega)) (by simp only [newarray.typeOf, componentBytes]; omega) (by show cells + 1 ≤ MC; omega) (by show slots + len ≤ MS; omega) hH fun H1 cA e1 z1 o1 hAr hNm => ?_
  have hcA : cA = gA G .long := by
    have h9 : s.vm.findClass ("[" ++ FieldType.long.toString) = some (gA G .long) := (hC.2.1.2 1 _ rfl).2
    exact Option.some.inj (hNm.symm.trans h9)
  have hz : H1.size = H.size + 1 := by rw [z1, hH]
  have ho : ∀ q : Nat, q < H.size → H1[q]? = H[q]? := fun q hq => o1 q (by rw [← hH]; exact hq)
  refine kk p e s m args below meth c G H1 locs (cells + 1) (slots + len) ls hX hC (rel_push hR hx hz ho ?_) (hS.more (by omega) ho) hl (by omega) (by omega)
  show H1[H.size]? = some (vp_cell (gA G .long) (len, adat G (nK M (.inl (.long, len))) (mK M).length .long))
  rw [hH, e1, hcA]
  simp only [adat, nK, mI, mL, mD, fs_self]
  rw [vp_cell_l]
  rfl
theorem g_new {ix ci nf : Nat} {q0 : vw_C} {ty0 : Nat → FieldType} (hd : decode J.2.1 pc = .ok (.new ix, 3)) (hc0 : vwCl[ci]? = some q0) (hcl : Cond.classLink J.1.cls ix q0.1 ∈ WS) (hin : Cond.instantiable q0.1 q0.2.2 ∈ WS) (hini : Cond.initialized q0.1 ∈ WS) (hws : ∀ w ∈ u_ws q0.1 q0.2.1 q0.2.2, w ∈ WS) (hty : ∀ a, a < q0.2.2 → parseFieldDescriptor (q0.2.1 a).2.2.1 = some (ty0 a)) (hdf : ∀ a, a < q0.2.2 → ∀ (G : Gl), defaultValue (ty0 a) = vp_V (fvs G (nK M (.inr ci)) (mK M).length 0 (ftyA ci)) a) (hnf : q0.2.2 = nf) (hx : mX M = true)
    (kk : Go l J F L MC MS Q (pc + 3) lv (.ref (mK M).length :: st) k n (nK M (.inr ci))) : Go l J F L MC MS Q pc lv st (k + 1) (n + nf) M := by
  subst hnf
  intro p e s m args below meth c G H locs cells slots ls hX hC hR hS hl hc hs
  have hH := hR.2.1 hx
  have hts := hX.1.2.2.2.2
  have hKn := hC.2.1.1 ci _ hc0
  refine W.newcK hX.1.1 hX.1.2.1 hX.1.2.2.2.1 (hts _ hcl) (hts _ hin) (hts _ hini) rfl hd (by show cells + 1 ≤ MC; omega) (by show slots + _ ≤ MS; omega) hKn.2.1 rfl fun H1 kC hkC e1 z1 o1 => ?_
  have h1 := kk p e s m args below meth c G H1 locs (cells + 1) (slots + q0.2.2) ls hX hC (rel_push hR hx z1 o1 ?_) (hS.more (by omega) o1) hl (by omega) (by omega)
  · rw [List.map_cons] at h1
    show W p l e _ s m args below meth c H1 locs _ _ _ (F0 m (pc + 3) ls (.ref H.size :: st.map (cv G)))
    rw [hH]
    exact h1
  exact ⟨_, hc0, (u_born ty0 hts hws hKn hkC e1 hty).to (fun a ha => hdf a ha G)⟩
theorem g_anewarray_State {ix len : Nat} {i : Int32} (hd : decode J.2.1 pc = .ok (.anewarray ix, 3)) (hcl : Cond.classLink J.1.cls ix "BitDesk$State" ∈ WS) (hi : i = nI len) (hL : len < 100000) (hx : mX M = true) (kk : Go l J F L MC MS Q (pc + 3) lv (.ref (mK M).length :: st) k n (nK M (.inl (.object "BitDesk$State", len)))) : Go l J F L MC MS Q pc lv (.int i :: st) (k + 1) (n + len) M := by
  subst hi
  intro p e s m args below meth c G H locs cells slots ls hX hC hR hS hl hc hs
  have hH := hR.2.1 hx
  have hts := hX.1.2.2.2.2
  refine W.anew hX.1.1 hX.1.2.1 hX.1.2.2.2.1 (hts _ hcl) (va_AO.use hC.2.2.2.2.2.2.2.2.2.2.2.2.2.2.1) rfl hd rfl (nI_pos (by omega)) (by rw [nI_clamp (by omega)]; omega) (by show cells + 1 ≤ MC; omega) (by rw [nI_clamp (by omega)]; show slots + len ≤ MS; omega) fun cA kA comp f1 f2 f3 f4 => ?_
  rw [nI_clamp (by omega)]
  have hcA : cA = gA G (.object "BitDesk$State") := by
    obtain ⟨-, -, -, -, -, h9⟩ := (hC.2.1.2 5 _ rfl).2
    exact Option.some.inj (f1.symm.trans h9)
  generalize hH1 : H.push ({ cls := cA, slots := Array.replicate len .null, vm := .none } : Cell) = H1
  have z1 : H1.size = H.size + 1 := by rw [← hH1, Array.size_push]
  have e1 : H1[H.size]? = some (arrV cA len (fun _ => .null)) := by rw [← hH1, Array.getElem?_push_size, ← arrV_new]
  have o1 : ∀ q : Nat, q < H.size → H1[q]? = H[q]? := fun q hq => by rw [← hH1, Array.getElem?_push, if_neg (Nat.ne_of_lt hq)]
  have h1 := kk p e s m args below meth c G H1 locs (cells + 1) (slots + len) ls hX hC (rel_push hR hx z1 o1 ?_) (hS.more (by omega) o1) hl (by omega) (by omega)
  · rw [List.map_cons] at h1
    rw [hH]
    exact h1
  show H1[H.size]? = some (vp_cell (gA G (.object "BitDesk$State")) (len, adat G (nK M (.inl (.object "BitDesk$State", len))) (mK M).length (.object "BitDesk$State")))
  rw [e1, hcA]
  simp only [adat, nK, mR, mI, fs_self, rfo_0]
  rw [vp_cell_q]
  rfl
theorem g_anewarray_Matrix {ix len : Nat} {i : Int32} (hd : decode J.2.1 pc = .ok (.anewarray ix, 3)) (hcl : Cond.classLink J.1.cls ix "BitDesk$Matrix" ∈ WS) (hi : i = nI len) (hL : len < 100000) (hx : mX M = true) (kk : Go l J F L MC MS Q (pc + 3) lv (.ref (mK M).length :: st) k n (nK M (.inl (.object "BitDesk$Matrix", len)))) : Go l J F L MC MS Q pc lv (.int i :: st) (k + 1) (n + len) M := by
  subst hi
  intro p e s m args below meth c G H locs cells slots ls hX hC hR hS hl hc hs
  have hH := hR.2.1 hx
  have hts := hX.1.2.2.2.2
  refine W.anew hX.1.1 hX.1.2.1 hX.1.2.2.2.1 (hts _ hcl) (va_AO.use hC.2.2.2.2.2.2.2.2.2.2.2.2.2.2.2.1) rfl hd rfl (nI_pos (by omega)) (by rw [nI_clamp (by omega)]; omega) (by show cells + 1 ≤ MC; omega) (by rw [nI_clamp (by omega)]; show slots + len ≤ MS; omega) fun cA kA comp f1 f2 f3 f4 => ?_
  rw [nI_clamp (by omega)]
  have hcA : cA = gA G (.object "BitDesk$Matrix") := by
    obtain ⟨-, -, -, -, -, h9⟩ := (hC.2.1.2 6 _ rfl).2
    exact Option.some.inj (f1.symm.trans h9)
  generalize hH1 : H.push ({ cls := cA, slots := Array.replicate len .null, vm := .none } : Cell) = H1
  have z1 : H1.size = H.size + 1 := by rw [← hH1, Array.size_push]
  have e1 : H1[H.size]? = some (arrV cA len (fun _ => .null)) := by rw [← hH1, Array.getElem?_push_size, ← arrV_new]
  have o1 : ∀ q : Nat, q < H.size → H1[q]? = H[q]? := fun q hq => by rw [← hH1, Array.getElem?_push, if_neg (Nat.ne_of_lt hq)]
  have h1 := kk p e s m args below meth c G H1 locs (cells + 1) (slots + len) ls hX hC (rel_push hR hx z1 o1 ?_) (hS.more (by omega) o1) hl (by omega) (by omega)
  · rw [List.map_cons] at h1
    rw [hH]
    exact h1
  show H1[H.size]? = some (vp_cell (gA G (.object "BitDesk$Matrix")) (len, adat G (nK M (.inl (.object "BitDesk$Matrix", len))) (mK M).length (.object "BitDesk$Matrix")))
  rw [e1, hcA]
  simp only [adat, nK, mR, mI, fs_self, rfo_0]
  rw [vp_cell_q]
  rfl
theorem g_anewarray_Closure {ix len : Nat} {i : Int32} (hd : decode J.2.1 pc = .ok (.anewarray ix, 3)) (hcl : Cond.classLink J.1.cls ix "BitDesk$Closure" ∈ WS) (hi : i = nI len) (hL : len < 100000) (hx : mX M = true) (kk : Go l J F L MC MS Q (pc + 3) lv (.ref (mK M).length :: st) k n (nK M (.inl (.object "BitDesk$Closure", len)))) : Go l J F L MC MS Q pc lv (.int i :: st) (k + 1) (n + len) M := by
  subst hi
  intro p e s m args below meth c G H locs cells slots ls hX hC hR hS hl hc hs
  have hH := hR.2.1 hx
  have hts := hX.1.2.2.2.2
  refine W.anew hX.1.1 hX.1.2.1 hX.1.2.2.2.1 (hts _ hcl) (va_AO.use hC.2.2.2.2.2.2.2.2.2.2.2.2.2.2.2.2.1) rfl hd rfl (nI_pos (by omega)) (by rw [nI_clamp (by omega)]; omega) (by show cells + 1 ≤ MC; omega) (by rw [nI_clamp (by omega)]; show slots + len ≤ MS; omega) fun cA kA comp f1 f2 f3 f4 => ?_
  rw [nI_clamp (by omega)]
  have hcA : cA = gA G (.object "BitDesk$Closure") := by
    obtain ⟨-, -, -, -, -, h9⟩ := (hC.2.1.2 7 _ rfl).2
    exact Option.some.inj (f1.symm.trans h9)
  generalize hH1 : H.push ({ cls := cA, slots := Array.replicate len .null, vm := .none } : Cell) = H1
  have z1 : H1.size = H.size + 1 := by rw [← hH1, Array.size_push]
  have e1 : H1[H.size]? = some (arrV cA len (fun _ => .null)) := by rw [← hH1, Array.getElem?_push_size, ← arrV_new]
  have o1 : ∀ q : Nat, q < H.size → H1[q]? = H[q]? := fun q hq => by rw [← hH1, Array.getElem?_push, if_neg (Nat.ne_of_lt hq)]
  have h1 := kk p e s m args below meth c G H1 locs (cells + 1) (slots + len) ls hX hC (rel_push hR hx z1 o1 ?_) (hS.more (by omega) o1) hl (by omega) (by omega)
  · rw [List.map_cons] at h1
    rw [hH]
    exact h1
  show H1[H.size]? = some (vp_cell (gA G (.object "BitDesk$Closure")) (len, adat G (nK M (.inl (.object "BitDesk$Closure", len))) (mK M).length (.object "BitDesk$Closure")))
  rw [e1, hcA]
  simp only [adat, nK, mR, mI, fs_self, rfo_0]
  rw [vp_cell_q]
  rfl
theorem g_anewarray_Desk {ix len : Nat} {i : Int32} (hd : decode J.2.1 pc = .ok (.anewarray ix, 3)) (hcl : Cond.classLink J.1.cls ix "BitDeskLaw$Desk" ∈ WS) (hi : i = nI len) (hL : len < 100000) (hx : mX M = true) (kk : Go l J F L MC MS Q (pc + 3) lv (.ref (mK M).length :: st) k n (nK M (.inl (.object "BitDeskLaw$Desk", len)))) : Go l J F L MC MS Q pc lv (.int i :: st) (k + 1) (n + len) M := by
  subst hi
  intro p e s m args below meth c G H locs cells slots ls hX hC hR hS hl hc hs
  have hH := hR.2.1 hx
  have hts := hX.1.2.2.2.2
  refine W.anew hX.1.1 hX.1.2.1 hX.1.2.2.2.1 (hts _ hcl) (va_AO.use hC.1.2.2.1) rfl hd rfl (nI_pos (by omega)) (by rw [nI_clamp (by omega)]; omega) (by show cells + 1 ≤ MC; omega) (by rw [nI_clamp (by omega)]; show slots + len ≤ MS; omega) fun cA kA comp f1 f2 f3 f4 => ?_
  rw [nI_clamp (by omega)]
  have hcA : cA = gA G (.object "BitDeskLaw$Desk") := by
    obtain ⟨-, -, -, -, -, h9⟩ := (hC.2.1.2 10 _ rfl).2
    exact Option.some.inj (f1.symm.trans h9)
  generalize hH1 : H.push ({ cls := cA, slots := Array.replicate len .null, vm := .none } : Cell) = H1
  have z1 : H1.size = H.size + 1 := by rw [← hH1, Array.size_push]
  have e1 : H1[H.size]? = some (arrV cA len (fun _ => .null)) := by rw [← hH1, Array.getElem?_push_size, ← arrV_new]
  have o1 : ∀ q : Nat, q < H.size → H1[q]? = H[q]? := fun q hq => by rw [← hH1, Array.getElem?_push, if_neg (Nat.ne_of_lt hq)]
  have h1 := kk p e s m args below meth c G H1 locs (cells + 1) (slots + len) ls hX hC (rel_push hR hx z1 o1 ?_) (hS.more (by omega) o1) hl (by omega) (by omega)
  · rw [List.map_cons] at h1
    rw [hH]
    exact h1
  show H1[H.size]? = some (vp_cell (gA G (.object "BitDeskLaw$Desk")) (len, adat G (nK M (.inl (.object "BitDeskLaw$Desk", len))) (mK M).length (.object "BitDeskLaw$Desk")))
  rw [e1, hcA]
  simp only [adat, nK, mR, mI, fs_self, rfo_0]
  rw [vp_cell_q]
  rfl
theorem g_anewarray_Str {ix len : Nat} {i : Int32} (hd : decode J.2.1 pc = .ok (.anewarray ix, 3)) (hcl : Cond.classLink J.1.cls ix "java/lang/String" ∈ WS) (hi : i = nI len) (hL : len < 100000) (hx : mX M = true) (kk : Go l J F L MC MS Q (pc + 3) lv (.ref (mK M).length :: st) k n (nK M (.inl (.object "java/lang/String", len)))) : Go l J F L MC MS Q pc lv (.int i :: st) (k + 1) (n + len) M := by
  subst hi
  intro p e s m args below meth c G H locs cells slots ls hX hC hR hS hl hc hs
  have hH := hR.2.1 hx
  have hts := hX.1.2.2.2.2
  refine W.anew hX.1.1 hX.1.2.1 hX.1.2.2.2.1 (hts _ hcl) (va_AO.use hC.1.2.2.2.1) rfl hd rfl (nI_pos (by omega)) (by rw [nI_clamp (by omega)]; omega) (by show cells + 1 ≤ MC; omega) (by rw [nI_clamp (by omega)]; show slots + len ≤ MS; omega) fun cA kA comp f1 f2 f3 f4 => ?_
  rw [nI_clamp (by omega)]
  have hcA : cA = gA G (.object "java/lang/String") := by
    obtain ⟨-, -, -, -, -, h9⟩ := (hC.2.1.2 11 _ rfl).2
    exact Option.some.inj (f1.symm.trans h9)
  generalize hH1 : H.push ({ cls := cA, slots := Array.replicate len .null, vm := .none } : Cell) = H1
  have z1 : H1.size = H.size + 1 := by rw [← hH1, Array.size_push]
  have e1 : H1[H.size]? = some (arrV cA len (fun _ => .null)) := by rw [← hH1, Array.getElem?_push_size, ← arrV_new]
  have o1 : ∀ q : Nat, q < H.size → H1[q]? = H[q]? := fun q hq => by rw [← hH1, Array.getElem?_push, if_neg (Nat.ne_of_lt hq)]
  have h1 := kk p e s m args below meth c G H1 locs (cells + 1) (slots + len) ls hX hC (rel_push hR hx z1 o1 ?_) (hS.more (by omega) o1) hl (by omega) (by omega)
  · rw [List.map_cons] at h1
    rw [hH]
    exact h1
  show H1[H.size]? = some (vp_cell (gA G (.object "java/lang/String")) (len, adat G (nK M (.inl (.object "java/lang/String", len))) (mK M).length (.object "java/lang/String")))
  rw [e1, hcA]
  simp only [adat, nK, mR, mI, fs_self, rfo_0]
  rw [vp_cell_q]
  rfl
theorem g_anewarray_Obj {ix len : Nat} {i : Int32} (hd : decode J.2.1 pc = .ok (.anewarray ix, 3)) (hcl : Cond.classLink J.1.cls ix "java/lang/Object" ∈ WS) (hi : i = nI len) (hL : len < 100000) (hx : mX M = true) (kk : Go l J F L MC MS Q (pc + 3) lv (.ref (mK M).length :: st) k n (nK M (.inl (.object "java/lang/Object", len)))) : Go l J F L MC MS Q pc lv (.int i :: st) (k + 1) (n + len) M := by
  subst hi
  intro p e s m args below meth c G H locs cells slots ls hX hC hR hS hl hc hs
  have hH := hR.2.1 hx
  have hts := hX.1.2.2.2.2
  refine W.anew hX.1.1 hX.1.2.1 hX.1.2.2.2.1 (hts _ hcl) (va_AO.use hC.1.2.2.2.2.1) rfl hd rfl (nI_pos (by omega)) (by rw [nI_clamp (by omega)]; omega) (by show cells + 1 ≤ MC; omega) (by rw [nI_clamp (by omega)]; show slots + len ≤ MS; omega) fun cA kA comp f1 f2 f3 f4 => ?_
  rw [nI_clamp (by omega)]
  have hcA : cA = gA G (.object "java/lang/Object") := by
    obtain ⟨-, -, -, -, -, h9⟩ := (hC.2.1.2 12 _ rfl).2
    exact Option.some.inj (f1.symm.trans h9)
  generalize hH1 : H.push ({ cls := cA, slots := Array.replicate len .null, vm := .none } : Cell) = H1
  have z1 : H1.size = H.size + 1 := by rw [← hH1, Array.size_push]
  have e1 : H1[H.size]? = some (arrV cA len (fun _ => .null)) := by rw [← hH1, Array.getElem?_push_size, ← arrV_new]
  have o1 : ∀ q : Nat, q < H.size → H1[q]? = H[q]? := fun q hq => by rw [← hH1, Array.getElem?_push, if_neg (Nat.ne_of_lt hq)]
  have h1 := kk p e s m args below meth c G H1 locs (cells + 1) (slots + len) ls hX hC (rel_push hR hx z1 o1 ?_) (hS.more (by omega) o1) hl (by omega) (by omega)
  · rw [List.map_cons] at h1
    rw [hH]
    exact h1
  show H1[H.size]? = some (vp_cell (gA G (.object "java/lang/Object")) (len, adat G (nK M (.inl (.object "java/lang/Object", len))) (mK M).length (.object "java/lang/Object")))
  rw [e1, hcA]
  simp only [adat, nK, mR, mI, fs_self, rfo_0]
  rw [vp_cell_q]
  rfl
theorem g_objInit {ix id : Nat} (hd : decode J.2.1 pc = .ok (.invokespecial ix, 3)) (h1 : Cond.methodLink J.1.cls ix objectInit ∈ WS) (h2 : Cond.instanceMethod objectInit ∈ WS) (h3 : Cond.code objectInit ⟨#[0xb1]⟩ 1 none ∈ WS) (hF : 1 ≤ F) (hL : (st.map fun v => v.category).sum + 12 ≤ L) (kk : Go l J F L MC MS Q (pc + 3) lv st k n M) : Go l J F L MC MS Q pc lv (.ref id :: st) k n M := by
  intro p e s m args below meth c G H locs cells slots ls hX hC hR hS hl hc hs
  have hts := hX.1.2.2.2.2
  refine W.objInit hX.1.1 hX.1.2.1 hX.1.2.2.2.1 (hts _ h1) (hts _ h2) (hts _ h3) rfl (by rw [hX.1.2.2.1]; exact hl.1) rfl hd hF (by show 2 * 0 + _ + 12 ≤ L; rw [cv_cats]; omega) ?_
  exact kk p e s m args below meth c G H locs cells slots ls hX hC hR hS hl hc hs
/-- the ends -/
theorem g_end {v : Option Value} (hq : Q (.inl v) M) {G : Gl} {s t : State} {H : Heap} {locs : List Loc} (hR : Rel G M H) (hS : va_S (Go_A G) s.heap H locs) (ht : t.heap = H) (args : Array Value) : QcOf G Q args s (.returned (v.map (cv G))) t :=
  ⟨⟨v, M, rfl, hq, by rw [ht]; exact hR⟩, hS.F ht⟩
theorem g_ireturn {x : Int32} {ty : FieldType} (hd : decode J.2.1 pc = .ok (.ireturn, 1)) (hr : J.2.2.2.1 = some ty) (hn : narrow ty (.int x) = .int x) (hq : Q (.inl (some (.int x))) M) : Go l J F L MC MS Q pc lv [.int x] k n M := by
  intro p e s m args below meth c G H locs cells slots ls hX hC hR hS hl hc hs
  refine W.widen (k := MC) (n := MS) (by omega) (by omega) (vx_ret ?_)
  exact W.zret (ty := ty) hX.1.1 hX.1.2.1 (hX.2.1.trans hr) hn (fun t ht hW => g_end hq hR hS ht args) hS.2.2 hd hX.2.2.1
theorem g_lreturn {x : Int64} (hd : decode J.2.1 pc = .ok (.lreturn, 1)) (hr : J.2.2.2.1 = some .long) (hq : Q (.inl (some (.long x))) M) : Go l J F L MC MS Q pc lv [.long x] k n M := by
  intro p e s m args below meth c G H locs cells slots ls hX hC hR hS hl hc hs
  refine W.widen (k := MC) (n := MS) (by omega) (by omega) (vx_ret ?_)
  exact W.lret hX.1.1 hX.1.2.1 (hX.2.1.trans hr) (fun t ht hW => g_end hq hR hS ht args) hS.2.2 hd hX.2.2.1
theorem g_freturn {x : UInt32} (hd : decode J.2.1 pc = .ok (.freturn, 1)) (hr : J.2.2.2.1 = some .float) (hq : Q (.inl (some (.float x))) M) : Go l J F L MC MS Q pc lv [.float x] k n M := by
  intro p e s m args below meth c G H locs cells slots ls hX hC hR hS hl hc hs
  refine W.widen (k := MC) (n := MS) (by omega) (by omega) (vx_ret ?_)
  exact W.fret hX.1.1 hX.1.2.1 (hX.2.1.trans hr) (fun t ht hW => g_end hq hR hS ht args) hS.2.2 hd hX.2.2.1
theorem g_dreturn {x : UInt64} (hd : decode J.2.1 pc = .ok (.dreturn, 1)) (hr : J.2.2.2.1 = some .double) (hq : Q (.inl (some (.double x))) M) : Go l J F L MC MS Q pc lv [.double x] k n M := by
  intro p e s m args below meth c G H locs cells slots ls hX hC hR hS hl hc hs
  refine W.widen (k := MC) (n := MS) (by omega) (by omega) (vx_ret ?_)
  exact W.dret hX.1.1 hX.1.2.1 (hX.2.1.trans hr) (fun t ht hW => g_end hq hR hS ht args) hS.2.2 hd hX.2.2.1
theorem g_areturn {x : Nat} {rt : FieldType} (hd : decode J.2.1 pc = .ok (.areturn, 1)) (hr : J.2.2.2.1 = some rt) (hrt : (∃ n, rt = .object n) ∨ ∃ t, rt = .array t) (hq : Q (.inl (some (.ref x))) M) : Go l J F L MC MS Q pc lv [.ref x] k n M := by
  intro p e s m args below meth c G H locs cells slots ls hX hC hR hS hl hc hs
  refine W.widen (k := MC) (n := MS) (by omega) (by omega) (vx_ret ?_)
  exact W.aret hX.1.1 hX.1.2.1 (hX.2.1.trans hr) hrt (Or.inr ⟨_, rfl⟩) (fun t ht hW => g_end hq hR hS ht args) hS.2.2 hd hX.2.2.1
theorem g_areturn_null {rt : FieldType} (hd : decode J.2.1 pc = .ok (.areturn, 1)) (hr : J.2.2.2.1 = some rt) (hrt : (∃ n, rt = .object n) ∨ ∃ t, rt = .array t) (hq : Q (.inl (some .null)) M) : Go l J F L MC MS Q pc lv [.null] k n M := by
  intro p e s m args below meth c G H locs cells slots ls hX hC hR hS hl hc hs
  refine W.widen (k := MC) (n := MS) (by omega) (by omega) (vx_ret ?_)
  exact W.aret hX.1.1 hX.1.2.1 (hX.2.1.trans hr) hrt (Or.inl rfl) (fun t ht hW => g_end (v := some .null) hq hR hS ht args) hS.2.2 hd hX.2.2.1
theorem g_return (hd : decode J.2.1 pc = .ok (.return_, 1)) (hr : J.2.2.2.1 = none) (hq : Q (.inl none) M) : Go l J F L MC MS Q pc lv [] k n M := by
  intro p e s m args below meth c G H locs cells slots ls hX hC hR hS hl hc hs
  refine W.widen (k := MC) (n := MS) (by omega) (by omega) (vx_ret ?_)
  exact W.vret hX.1.1 hX.1.2.1 (hX.2.1.trans hr) (fun t ht hW => g_end hq hR hS ht args) hS.2.2 hd hX.2.2.1
end
