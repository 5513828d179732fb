/-! the rules of new T[n][m], new T[n][m][k] -/
section
variable {l : Launch} {J : Jm} {F L MC MS : Nat} {Q : Res → Mem → Prop} {pc : Nat} {lv : List (Nat × Value)} {st : List Value} {k n : Nat} {M : Mem}
/-- the operations of new T[a][b], of new T[a][b][c] -/
def os1 (t : FieldType) (b : Nat) : Nat → List Op9 := fun _ => [.inl (t, b)]
def os2 (t : FieldType) (a b : Nat) : Nat → List Op9 := fun h => .inl (.array t, a) :: mkR (os1 t b) 1 h a
def os3 (t : FieldType) (a b c : Nat) : Nat → List Op9 := fun h => .inl (.array (.array t), a) :: mkR (os2 t b c) (b + 1) h a
theorem os1_C (t : FieldType) (b a : Nat) : opC (os1 t b a) = 1 := rfl
theorem os1_N (t : FieldType) (b a : Nat) : opN (os1 t b a) = b := Nat.zero_add b
theorem os2_C (t : FieldType) (a b h : Nat) : opC (os2 t a b h) = a + 1 := by
  show opC (mkR (os1 t b) 1 h a) + 1 = _
  rw [mkR_C (os1_C t b), Nat.mul_one]
theorem os2_N (t : FieldType) (a b h : Nat) : opN (os2 t a b h) = a * b + a := by
  show opN (mkR (os1 t b) 1 h a) + a = _
  rw [mkR_N (os1_N t b)]
theorem os3_C (t : FieldType) (a b c h : Nat) : opC (os3 t a b c h) = a * (b + 1) + 1 := by
  show opC (mkR (os2 t b c) (b + 1) h a) + 1 = _
  rw [mkR_C (os2_C t b c)]
theorem os3_N (t : FieldType) (a b c h : Nat) : opN (os3 t a b c h) = a * (b * c + b) + a := by
  show opN (mkR (os2 t b c) (b + 1) h a) + a = _
  rw [mkR_N (os2_N t b c)]
theorem os1_v {t : FieldType} (ht : okT t) (b : Nat) (M : Mem) : vld M (os1 t b (mK M).length) := ⟨ht, trivial⟩
theorem new_k (M : Mem) (x : Knd) : (mK (nK M x))[(mK M).length]? = some x ∧ (mK (nK M x)).length = (mK M).length + 1 := by
  refine ⟨?_, ?_⟩
  · show (mK M ++ [x])[(mK M).length]? = _
    rw [List.getElem?_append_right (Nat.le_refl _), Nat.sub_self]
    rfl
  · show (mK M ++ [x]).length = _
    rw [List.length_append]
    rfl
theorem os2_v {t : FieldType} (ht : okT t) (a b : Nat) (M : Mem) : vld M (os2 t a b (mK M).length) :=
  ⟨okT_A t, mkR_v (M := nK M (.inl (.array t, a))) (os1_v ht b) (os1_C t b) (new_k M _).1 (new_k M _).2 a (Nat.le_refl _)⟩
theorem os3_v {t : FieldType} (ht : okT t) (a b c : Nat) (M : Mem) : vld M (os3 t a b c (mK M).length) :=
  ⟨okT_A _, mkR_v (M := nK M (.inl (.array (.array t), a))) (os2_v ht b c) (os2_C t b c) (new_k M _).1 (new_k M _).2 a (Nat.le_refl _)⟩
theorem ax_moved {t : FieldType} {cA cE : ClassId} {s : State} {vm₁ : Vm} (hal : s.vm.Alike vm₁) (h : ACx t cA cE s) : ∃ kA : Class, vm₁.classes[cA]? = some kA ∧ kA.kind = .array cE (.array t) := by
  obtain ⟨kA, h1, h2⟩ := h
  obtain ⟨k, hk, he⟩ := hal.2.2 _ _ h1
  exact ⟨k, hk, by rw [he]; exact h2⟩
theorem leaf_moved {t : FieldType} {cA : ClassId} {s : State} {vm₁ : Vm} (hal : s.vm.Alike vm₁) (h : ArrOfT s cA t) : ∃ (k : Class) (comp : ClassId), vm₁.classes[cA]? = some k ∧ k.kind = .array comp t := by
  obtain ⟨-, kA, h1, comp, h2⟩ := h 0 (fun _ => .null)
  obtain ⟨k, hk, he⟩ := hal.2.2 _ _ h1
  exact ⟨k, comp, hk, by rw [he]; exact h2⟩
/-- the instruction, where what it makes is known -/
theorem g_multi2 {t : FieldType} {t0 ix : Nat} {nm : String} {a9 b9 : Nat} {os : Nat → List Op9} {k0 n0 : Nat} (hd : decode J.2.1 pc = .ok (.multianewarray ix 2, 4)) (hw : Cond.classLink J.1.cls ix nm ∈ WS) (hnm : nm = "[" ++ (FieldType.array t).toString) (htl : ∀ G : Gl, (tyl G)[t0]? = some (gA G (.array t), .array t))
    (hmk : ∀ (e : Env) (s : State) (G : Gl) (vm₁ : Vm), Ctx l G s → s.vm.Alike vm₁ → e.platform.arrayLengthLimit = 2147483645 → e.platform.maxHeapBytes = 536870912 → MkS e G vm₁ (gA G (.array t)) [nI a9, nI b9] os) (hv : ∀ M : Mem, vld M (os (mK M).length))
    (hx : mX M = true) (hk9 : k + opC (os (mK M).length) ≤ k0) (hn9 : n + opN (os (mK M).length) ≤ n0)
    (kk : Go l J F L MC MS Q (pc + 4) lv (.ref (mK M).length :: st) k n (opsM M (os (mK M).length))) : Go l J F L MC MS Q pc lv (.int (nI b9) :: .int (nI a9) :: st) k0 n0 M := by
  intro p e s m args below meth c G H locs cells slots ls hX hC hR hS hl hc hs
  have hts := hX.1.2.2.2.2
  have hH := hR.2.1 hx
  intro T hT X
  have hpl : e.platform.magicAccessors = ({} : Platform).magicAccessors := by rw [X.admits.platform]
  obtain ⟨c0, hfc0, hcl⟩ := Cond.classLink_spec hX.1.2.2.2.1 (hts _ hw) e.platform hpl
  have hra : s.vm.findClass ("[" ++ (FieldType.array t).toString) = some (gA G (.array t)) := (hC.2.1.2 t0 _ (htl G)).2
  have hcA : c0 = gA G (.array t) := by
    rw [hnm] at hfc0
    exact Option.some.inj (hfc0.symm.trans hra)
  subst hcA
  obtain ⟨hg₁, hwarm₁, hready₁⟩ := State.classEntry (e := e) X.warmed hcl
  generalize T.vm.noted m.cls ix (.cls (gA G (.array t))) = vm₁ at hg₁ hwarm₁ hready₁
  have hal : s.vm.Alike vm₁ := hwarm₁.alike
  have X₁ := X.noted hwarm₁
  have hRT : Rel G M (T.setVm vm₁).heap := by
    show Rel G M T.heap
    rw [hT]
    exact hR
  obtain ⟨hr1, hr2⟩ := X.roomAbove (a := opC (os (mK M).length)) (b := opN (os (mK M).length)) (by show cells + _ ≤ MC; omega) (by show slots + _ ≤ MS; omega)
  obtain ⟨L9, hL9, XF⟩ := run_stand (G := G) (os (mK M).length) M (T.setVm vm₁) locs cells slots (hv M) hx hRT X₁
  have hR1 := run_rel (G := G) (os (mK M).length) M (T.setVm vm₁) (hv M) hx hRT
  have hz1 := hR1.2.1 (by rw [opsM_X]; exact hx)
  rw [opsM_len] at hz1
  have hS1 : va_S (Go_A G) s.heap (runS G (T.setVm vm₁) (os (mK M).length)).heap (locs ++ L9) := by
    refine ⟨by rw [hz1]; have := hS.1; omega, fun q h1 h2 => ?_, fun z hz => ?_⟩
    · have h3 : q < gB G := Nat.not_le.mp h2
      rw [run_old _ _ h3 (by show q < T.heap.size; rw [hT]; have := hS.1; omega)]
      show T.heap[q]? = _
      rw [hT]
      exact hS.2.1 q h1 h2
    · rcases List.mem_append.mp hz with h | h
      · exact hS.2.2 z h
      · exact hL9 z h
  obtain ⟨t9, a1, b1⟩ := kk p e s m args below meth c G _ (locs ++ L9) (cells + opC (os (mK M).length)) (slots + opN (os (mK M).length)) ls hX hC hR1 hS1 hl (by omega) (by omega) _ rfl XF
  refine ⟨t9, ?_, b1⟩
  have hM9 := hmk e s G vm₁ hC hal (Launch.admits_arrayLengthLimit X.admits) (Launch.admits_maxHeapBytes X.admits)
  have hdc : decode c.code pc = .ok (.multianewarray ix 2, 4) := by rw [hX.1.2.1]; exact hd
  have hx0 := hX.1.1
  have hT9 : T.heap.size = gB G + (mK M).length := by rw [hT]; exact hH
  rw [show (F0 m (pc + 4) ls ((.ref (mK M).length :: st).map (cv G))) = { (F0 m pc ls ((.int (nI b9) :: .int (nI a9) :: st).map (cv G))) with pc := pc + 4, stack := .ref (gB G + (mK M).length) :: st.map (cv G) } from rfl] at a1
  rw [show (.int (nI b9) :: .int (nI a9) :: st).map (cv G) = .int (nI b9) :: .int (nI a9) :: st.map (cv G) from rfl] at a1 ⊢
  jvm_step X.here [hx0, hdc]
  simp only [Op.multianewarray.sem, wp_bind', W.resolveClassAt_links (State.method?_setTop (F0 m pc ls (.int (nI b9) :: .int (nI a9) :: st.map (cv G))) X.here.top) hg₁]
  rw [W.popN, if_neg (by decide)]
  refine ⟨F0 m pc ls (.int (nI b9) :: .int (nI a9) :: st.map (cv G)), State.topJava?_setTop' (s := T.setVm vm₁) _ X.here.top, [.int (nI a9), .int (nI b9)], st.map (cv G), rfl, rfl, ?_⟩
  simp only [List.mapM_cons, List.mapM_nil, wp_bind', wp_pure']
  refine hM9 _ _ _ _ M _ rfl hRT hx (by show T.heap.size + _ ≤ _; exact hr1) (by show T.slotsUsed + _ ≤ _; exact hr2) (fun d' acts' => ?_)
  have eS : ((T.setTop (F0 m pc ls (.int (nI b9) :: .int (nI a9) :: st.map (cv G)))).setVm vm₁).setTop { (F0 m pc ls (.int (nI b9) :: .int (nI a9) :: st.map (cv G))) with stack := st.map (cv G) } = (T.setVm vm₁).setTop { (F0 m pc ls (.int (nI b9) :: .int (nI a9) :: st.map (cv G))) with stack := st.map (cv G) } := by
    show ((T.setVm vm₁).setTop (F0 m pc ls (.int (nI b9) :: .int (nI a9) :: st.map (cv G)))).setTop _ = _
    rw [State.setTop_setTop]
  rw [eS, run_top]
  simp only [wp_bind', W.mark, W.pushRef, State.topJava?_setTop' _ XF.here.top, Option.some.injEq, exists_eq_left', State.setTop_setTop, State.heap_setTop]
  intro acts
  simp [jvm, XF.here.top]
  exact a1
/-- the instruction, where what it makes is known -/
theorem g_multi3 {t : FieldType} {t0 ix : Nat} {nm : String} {a9 b9 c9 : Nat} {os : Nat → List Op9} {k0 n0 : Nat} (hd : decode J.2.1 pc = .ok (.multianewarray ix 3, 4)) (hw : Cond.classLink J.1.cls ix nm ∈ WS) (hnm : nm = "[" ++ (FieldType.array t).toString) (htl : ∀ G : Gl, (tyl G)[t0]? = some (gA G (.array t), .array t))
    (hmk : ∀ (e : Env) (s : State) (G : Gl) (vm₁ : Vm), Ctx l G s → s.vm.Alike vm₁ → e.platform.arrayLengthLimit = 2147483645 → e.platform.maxHeapBytes = 536870912 → MkS e G vm₁ (gA G (.array t)) [nI a9, nI b9, nI c9] os) (hv : ∀ M : Mem, vld M (os (mK M).length))
    (hx : mX M = true) (hk9 : k + opC (os (mK M).length) ≤ k0) (hn9 : n + opN (os (mK M).length) ≤ n0)
    (kk : Go l J F L MC MS Q (pc + 4) lv (.ref (mK M).length :: st) k n (opsM M (os (mK M).length))) : Go l J F L MC MS Q pc lv (.int (nI c9) :: .int (nI b9) :: .int (nI a9) :: st) k0 n0 M := by
  intro p e s m args below meth c G H locs cells slots ls hX hC hR hS hl hc hs
  have hts := hX.1.2.2.2.2
  have hH := hR.2.1 hx
  intro T hT X
  have hpl : e.platform.magicAccessors = ({} : Platform).magicAccessors := by rw [X.admits.platform]
  obtain ⟨c0, hfc0, hcl⟩ := Cond.classLink_spec hX.1.2.2.2.1 (hts _ hw) e.platform hpl
  have hra : s.vm.findClass ("[" ++ (FieldType.array t).toString) = some (gA G (.array t)) := (hC.2.1.2 t0 _ (htl G)).2
  have hcA : c0 = gA G (.array t) := by
    rw [hnm] at hfc0
    exact Option.some.inj (hfc0.symm.trans hra)
  subst hcA
  obtain ⟨hg₁, hwarm₁, hready₁⟩ := State.classEntry (e := e) X.warmed hcl
  generalize T.vm.noted m.cls ix (.cls (gA G (.array t))) = vm₁ at hg₁ hwarm₁ hready₁
  have hal : s.vm.Alike vm₁ := hwarm₁.alike
  have X₁ := X.noted hwarm₁
  have hRT : Rel G M (T.setVm vm₁).heap := by
    show Rel G M T.heap
    rw [hT]
    exact hR
  obtain ⟨hr1, hr2⟩ := X.roomAbove (a := opC (os (mK M).length)) (b := opN (os (mK M).length)) (by show cells + _ ≤ MC; omega) (by show slots + _ ≤ MS; omega)
  obtain ⟨L9, hL9, XF⟩ := run_stand (G := G) (os (mK M).length) M (T.setVm vm₁) locs cells slots (hv M) hx hRT X₁
  have hR1 := run_rel (G := G) (os (mK M).length) M (T.setVm vm₁) (hv M) hx hRT
  have hz1 := hR1.2.1 (by rw [opsM_X]; exact hx)
  rw [opsM_len] at hz1
  have hS1 : va_S (Go_A G) s.heap (runS G (T.setVm vm₁) (os (mK M).length)).heap (locs ++ L9) := by
    refine ⟨by rw [hz1]; have := hS.1; omega, fun q h1 h2 => ?_, fun z hz => ?_⟩
    · have h3 : q < gB G := Nat.not_le.mp h2
      rw [run_old _ _ h3 (by show q < T.heap.size; rw [hT]; have := hS.1; omega)]
      show T.heap[q]? = _
      rw [hT]
      exact hS.2.1 q h1 h2
    · rcases List.mem_append.mp hz with h | h
      · exact hS.2.2 z h
      · exact hL9 z h
  obtain ⟨t9, a1, b1⟩ := kk p e s m args below meth c G _ (locs ++ L9) (cells + opC (os (mK M).length)) (slots + opN (os (mK M).length)) ls hX hC hR1 hS1 hl (by omega) (by omega) _ rfl XF
  refine ⟨t9, ?_, b1⟩
  have hM9 := hmk e s G vm₁ hC hal (Launch.admits_arrayLengthLimit X.admits) (Launch.admits_maxHeapBytes X.admits)
  have hdc : decode c.code pc = .ok (.multianewarray ix 3, 4) := by rw [hX.1.2.1]; exact hd
  have hx0 := hX.1.1
  have hT9 : T.heap.size = gB G + (mK M).length := by rw [hT]; exact hH
  rw [show (F0 m (pc + 4) ls ((.ref (mK M).length :: st).map (cv G))) = { (F0 m pc ls ((.int (nI c9) :: .int (nI b9) :: .int (nI a9) :: st).map (cv G))) with pc := pc + 4, stack := .ref (gB G + (mK M).length) :: st.map (cv G) } from rfl] at a1
  rw [show (.int (nI c9) :: .int (nI b9) :: .int (nI a9) :: st).map (cv G) = .int (nI c9) :: .int (nI b9) :: .int (nI a9) :: st.map (cv G) from rfl] at a1 ⊢
  jvm_step X.here [hx0, hdc]
  simp only [Op.multianewarray.sem, wp_bind', W.resolveClassAt_links (State.method?_setTop (F0 m pc ls (.int (nI c9) :: .int (nI b9) :: .int (nI a9) :: st.map (cv G))) X.here.top) hg₁]
  rw [W.popN, if_neg (by decide)]
  refine ⟨F0 m pc ls (.int (nI c9) :: .int (nI b9) :: .int (nI a9) :: st.map (cv G)), State.topJava?_setTop' (s := T.setVm vm₁) _ X.here.top, [.int (nI a9), .int (nI b9), .int (nI c9)], st.map (cv G), rfl, rfl, ?_⟩
  simp only [List.mapM_cons, List.mapM_nil, wp_bind', wp_pure']
  refine hM9 _ _ _ _ M _ rfl hRT hx (by show T.heap.size + _ ≤ _; exact hr1) (by show T.slotsUsed + _ ≤ _; exact hr2) (fun d' acts' => ?_)
  have eS : ((T.setTop (F0 m pc ls (.int (nI c9) :: .int (nI b9) :: .int (nI a9) :: st.map (cv G)))).setVm vm₁).setTop { (F0 m pc ls (.int (nI c9) :: .int (nI b9) :: .int (nI a9) :: st.map (cv G))) with stack := st.map (cv G) } = (T.setVm vm₁).setTop { (F0 m pc ls (.int (nI c9) :: .int (nI b9) :: .int (nI a9) :: st.map (cv G))) with stack := st.map (cv G) } := by
    show ((T.setVm vm₁).setTop (F0 m pc ls (.int (nI c9) :: .int (nI b9) :: .int (nI a9) :: st.map (cv G)))).setTop _ = _
    rw [State.setTop_setTop]
  rw [eS, run_top]
  simp only [wp_bind', W.mark, W.pushRef, State.topJava?_setTop' _ XF.here.top, Option.some.injEq, exists_eq_left', State.setTop_setTop, State.heap_setTop]
  intro acts
  simp [jvm, XF.here.top]
  exact a1
end
