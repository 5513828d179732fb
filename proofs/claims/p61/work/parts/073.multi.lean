/-! new T[n][m] and new T[n][m][k] -/
/-- a new cell; or the reference r written at place i of cell a -/
abbrev Op9 : Type := (FieldType × Nat) ⊕ (Nat × Nat × Nat)
def opM (M : Mem) : Op9 → Mem
  | .inl x => nK M (.inl x)
  | .inr (a, i, r) => sR M a (fun_set (mR M a) i (some r))
def opsM : Mem → List Op9 → Mem
  | M, [] => M
  | M, o :: os => opsM (opM M o) os
def cell9 (G : Gl) (x : FieldType × Nat) : Cell := { cls := gA G x.1, slots := Array.replicate x.2 (defaultValue x.1), vm := .none }
def opS (G : Gl) (s : State) : Op9 → State
  | .inl x => s.pushCell (cell9 G x)
  | .inr (a, i, r) => match s.heap[gB G + a]? with
    | some c => s.setCell (gB G + a) (c.setSlot i (.ref (gB G + r)))
    | none => s
def runS (G : Gl) : State → List Op9 → State
  | s, [] => s
  | s, o :: os => runS G (opS G s o) os
theorem opsM_app (M : Mem) (a b : List Op9) : opsM M (a ++ b) = opsM (opsM M a) b := by
  induction a generalizing M with
  | nil => rfl
  | cons o os ih => exact ih _
theorem runS_app (G : Gl) (s : State) (a b : List Op9) : runS G s (a ++ b) = runS G (runS G s a) b := by
  induction a generalizing s with
  | nil => rfl
  | cons o os ih => exact ih _
/-- a type whose arrays begin so -/
def okT (ty : FieldType) : Prop := ∀ (G : Gl) (M : Mem) (n : Nat), cell9 G (ty, n) = vp_cell (gA G ty) (n, adat G (nK M (.inl (ty, n))) (mK M).length ty)
theorem okT_Z : okT .boolean := fun G M n => by
  show _ = vp_cell _ (n, .inl (mI (nK M (.inl (.boolean, n))) (mK M).length))
  rw [vp_cell_i]
  simp only [nK, mI, fs_self]
  exact arrV_new _ _ _
theorem okT_I : okT .int := fun G M n => by
  show _ = vp_cell _ (n, .inl (mI (nK M (.inl (.int, n))) (mK M).length))
  rw [vp_cell_i]
  simp only [nK, mI, fs_self]
  exact arrV_new _ _ _
theorem okT_A (t : FieldType) : okT (.array t) := fun G M n => by
  show _ = vp_cell _ (n, .inr (.inr (.inr (.inr (fun k => rfo G (mR (nK M (.inl (.array t, n))) (mK M).length k) (mI (nK M (.inl (.array t, n))) (mK M).length k))))))
  rw [vp_cell_q]
  simp only [nK, mI, mR, fs_self, rfo_0]
  exact arrV_new _ _ _
def vld : Mem → List Op9 → Prop
  | _, [] => True
  | M, .inl x :: os => okT x.1 ∧ vld (nK M (.inl x)) os
  | M, .inr (a, i, r) :: os => (∃ t len, (mK M)[a]? = some (.inl (.array t, len)) ∧ i < len) ∧ vld (sR M a (fun_set (mR M a) i (some r))) os
theorem vld_app : ∀ (a b : List Op9) (M : Mem), vld M a → vld (opsM M a) b → vld M (a ++ b)
  | [], b, M, _, h => h
  | .inl x :: os, b, M, h1, h2 => ⟨h1.1, vld_app os b _ h1.2 h2⟩
  | .inr (a, i, r) :: os, b, M, h1, h2 => ⟨h1.1, vld_app os b _ h1.2 h2⟩
def opC : List Op9 → Nat
  | [] => 0
  | .inl _ :: os => opC os + 1
  | .inr _ :: os => opC os
def opN : List Op9 → Nat
  | [] => 0
  | .inl x :: os => opN os + x.2
  | .inr _ :: os => opN os
theorem opC_app : ∀ a b : List Op9, opC (a ++ b) = opC a + opC b
  | [], b => (Nat.zero_add _).symm
  | .inl x :: os, b => by show opC (os ++ b) + 1 = opC os + 1 + opC b; rw [opC_app os b]; omega
  | .inr x :: os, b => opC_app os b
theorem opN_app : ∀ a b : List Op9, opN (a ++ b) = opN a + opN b
  | [], b => (Nat.zero_add _).symm
  | .inl x :: os, b => by show opN (os ++ b) + x.2 = opN os + x.2 + opN b; rw [opN_app os b]; omega
  | .inr x :: os, b => opN_app os b
theorem opsM_len : ∀ (os : List Op9) (M : Mem), (mK (opsM M os)).length = (mK M).length + opC os
  | [], M => rfl
  | .inl x :: os, M => by
    show (mK (opsM (nK M (.inl x)) os)).length = _
    rw [opsM_len os, show mK (nK M (.inl x)) = mK M ++ [.inl x] from rfl, List.length_append]
    show _ = (mK M).length + (opC os + 1)
    simp; omega
  | .inr (a, i, r) :: os, M => opsM_len os _
theorem opsM_K : ∀ (os : List Op9) (M : Mem), ∃ rest, mK (opsM M os) = mK M ++ rest
  | [], M => ⟨[], (List.append_nil _).symm⟩
  | .inl x :: os, M => by
    obtain ⟨rest, h⟩ := opsM_K os (nK M (.inl x))
    exact ⟨.inl x :: rest, by show mK (opsM (nK M (.inl x)) os) = _; rw [h, show mK (nK M (.inl x)) = mK M ++ [.inl x] from rfl, List.append_assoc]; rfl⟩
  | .inr (a, i, r) :: os, M => opsM_K os _
theorem opsM_k {os : List Op9} {M : Mem} {i : Nat} {x : Knd} (h : (mK M)[i]? = some x) : (mK (opsM M os))[i]? = some x := by
  obtain ⟨rest, hr⟩ := opsM_K os M
  rw [hr, List.getElem?_append_left (List.getElem?_eq_some_iff.mp h).1]
  exact h
theorem opsM_X : ∀ (os : List Op9) (M : Mem), mX (opsM M os) = mX M
  | [], M => rfl
  | .inl x :: os, M => opsM_X os _
  | .inr (a, i, r) :: os, M => opsM_X os _
theorem opsM_S : ∀ (os : List Op9) (M : Mem), mS (opsM M os) = mS M
  | [], M => rfl
  | .inl x :: os, M => opsM_S os _
  | .inr (a, i, r) :: os, M => opsM_S os _
section
variable {G : Gl}
theorem op_rel {M : Mem} {s : State} (o : Op9) (os : List Op9) (hv : vld M (o :: os)) (hx : mX M = true) (hR : Rel G M s.heap) : Rel G (opM M o) (opS G s o).heap ∧ vld (opM M o) os := by
  cases o with
  | inl x =>
    obtain ⟨h1, h2⟩ := hv
    refine ⟨?_, h2⟩
    obtain ⟨ty, len⟩ := x
    refine rel_push hR hx (H1 := (s.pushCell (cell9 G (ty, len))).heap) (by show (s.heap.push _).size = _; rw [Array.size_push]) (fun q hq => State.heap_pushCell_of_lt _ _ hq) ?_
    show (s.pushCell (cell9 G (ty, len))).heap[s.heap.size]? = some (vp_cell (gA G ty) (len, adat G (nK M (.inl (ty, len))) (mK M).length ty))
    rw [← h1 G M len]
    exact State.heap_pushCell_size _ _
  | inr q =>
    obtain ⟨a, i, r⟩ := q
    obtain ⟨⟨t, len, hk, hi⟩, h2⟩ := hv
    refine ⟨?_, h2⟩
    have hc : s.heap[gB G + a]? = some (vp_cell (gA G (.array t)) (len, adat G M a (.array t))) := hR.1 a _ (wl_get hk)
    have e9 : opS G s (.inr (a, i, r)) = s.setCell (gB G + a) ((vp_cell (gA G (.array t)) (len, adat G M a (.array t))).setSlot i (.ref (gB G + r))) := by
      show (match s.heap[gB G + a]? with | some c => s.setCell (gB G + a) (c.setSlot i (.ref (gB G + r))) | none => s) = _
      rw [hc]
    rw [e9]
    refine rel_set hR hk rfl rfl rfl (fun i y hi _ => ent_sR y hi) (by simp [State.setCell]) (hR.1.set (wl_D G M) (wl_get hk) ?_ (fun q hq => State.heap_setCell_other (Ne.symm hq)))
    show (s.setCell (gB G + a) ((vp_cell (gA G (.array t)) (len, adat G M a (.array t))).setSlot i (.ref (gB G + r)))).heap[gB G + a]? = some (vp_cell (gA G (.array t)) (len, adat G (sR M a (fun_set (mR M a) i (some r))) a (.array t)))
    rw [State.heap_setCell_self hc]
    simp only [adat, sR, mR, mI, fs_self]
    rw [vp_cell_q, vp_cell_q, arrV_store]
    congr 2
    funext q
    by_cases hq : q = i
    · subst hq
      simp [updV, fun_set, va_rf, rfo_s]
    · simp [updV, fun_set, hq]
theorem run_rel : ∀ (os : List Op9) (M : Mem) (s : State), vld M os → mX M = true → Rel G M s.heap → Rel G (opsM M os) (runS G s os).heap
  | [], M, s, _, _, hR => hR
  | o :: os, M, s, hv, hx, hR => by
    obtain ⟨h1, h2⟩ := op_rel o os hv hx hR
    exact run_rel os _ _ h2 (by cases o with | inl x => exact hx | inr q => exact hx) h1
theorem opS_top (o : Op9) (s : State) (f : JFrame) : opS G (s.setTop f) o = (opS G s o).setTop f := by
  cases o with
  | inl x => rfl
  | inr q =>
    obtain ⟨a, i, r⟩ := q
    simp only [opS, State.heap_setTop]
    cases s.heap[gB G + a]? with
    | none => rfl
    | some c => rfl
theorem run_top : ∀ (os : List Op9) (s : State) (f : JFrame), runS G (s.setTop f) os = (runS G s os).setTop f
  | [], s, f => rfl
  | o :: os, s, f => by
    show runS G (opS G (s.setTop f) o) os = _
    rw [opS_top, run_top os]
    rfl
theorem opS_vm (o : Op9) (s : State) : (opS G s o).vm = s.vm := by
  cases o with
  | inl x => rfl
  | inr q =>
    obtain ⟨a, i, r⟩ := q
    simp only [opS]
    cases s.heap[gB G + a]? with
    | none => rfl
    | some c => rfl
theorem run_vm : ∀ (os : List Op9) (s : State), (runS G s os).vm = s.vm
  | [], s => rfl
  | o :: os, s => (run_vm os _).trans (opS_vm o s)
theorem opS_old (o : Op9) (s : State) {q : Nat} (h : q < gB G) (hz : q < s.heap.size) : (opS G s o).heap[q]? = s.heap[q]? ∧ q < (opS G s o).heap.size := by
  cases o with
  | inl x => exact ⟨State.heap_pushCell_of_lt _ _ hz, by show q < (s.heap.push _).size; rw [Array.size_push]; omega⟩
  | inr r =>
    obtain ⟨a, i, r⟩ := r
    simp only [opS]
    cases s.heap[gB G + a]? with
    | none => exact ⟨rfl, hz⟩
    | some c => exact ⟨State.heap_setCell_other (show gB G + a ≠ q by omega), by simpa [State.setCell] using hz⟩
theorem run_old : ∀ (os : List Op9) (s : State) {q : Nat}, q < gB G → q < s.heap.size → (runS G s os).heap[q]? = s.heap[q]?
  | [], s, q, _, _ => rfl
  | o :: os, s, q, h, hz => (run_old os _ h (opS_old o s h hz).2).trans (opS_old o s h hz).1
theorem opS_used (o : Op9) (s : State) : (opS G s o).slotsUsed = s.slotsUsed + opN [o] := by
  cases o with
  | inl x => simp [opS, opN, cell9]
  | inr q =>
    obtain ⟨a, i, r⟩ := q
    simp only [opS, opN]
    cases s.heap[gB G + a]? with
    | none => simp
    | some c => simp
theorem run_used : ∀ (os : List Op9) (s : State), (runS G s os).slotsUsed = s.slotsUsed + opN os
  | [], s => rfl
  | o :: os, s => by
    show (runS G (opS G s o) os).slotsUsed = _
    rw [run_used os, opS_used, show opN (o :: os) = opN ([o] ++ os) from rfl, opN_app]
    omega
theorem run_stand {p : Program} {l : Launch} {e : Env} {R : Room} {s : State} {m : MethodId} {args : Array Value} {below : List Frame} {meth : Method} {c : Code} : ∀ (os : List Op9) (M : Mem) (T : State) (locs : List Loc) (cells slots : Nat), vld M os → mX M = true → Rel G M T.heap → Stand p l e R s m args below meth c T locs cells slots → ∃ L9 : List Loc, (∀ z ∈ L9, gB G ≤ z.base) ∧ Stand p l e R s m args below meth c (runS G T os) (locs ++ L9) (cells + opC os) (slots + opN os)
  | [], M, T, locs, cells, slots, _, _, _, X => ⟨[], (fun z hz => nomatch hz), (by rw [List.append_nil]; exact X)⟩
  | .inl x :: os, M, T, locs, cells, slots, hv, hx, hR, X => by
    obtain ⟨h1, h2⟩ := op_rel (.inl x) os hv hx hR
    have X1 := X.pushed (cell9 G x)
    rw [show (cell9 G x).slots.size = x.2 by simp [cell9]] at X1
    obtain ⟨L9, h3, X2⟩ := run_stand os _ _ locs (cells + 1) (slots + x.2) h2 hx h1 X1
    refine ⟨L9, h3, ?_⟩
    rw [show cells + opC (.inl x :: os) = cells + 1 + opC os by show cells + (opC os + 1) = _; omega, show slots + opN (.inl x :: os) = slots + x.2 + opN os by show slots + (opN os + x.2) = _; omega]
    exact X2
  | .inr (a, i, r) :: os, M, T, locs, cells, slots, hv, hx, hR, X => by
    obtain ⟨h1, h2⟩ := op_rel (.inr (a, i, r)) os hv hx hR
    obtain ⟨⟨t, len, hk, hi⟩, -⟩ := hv
    have hc : T.heap[gB G + a]? = some (vp_cell (gA G (.array t)) (len, adat G M a (.array t))) := hR.1 a _ (wl_get hk)
    have X1 := X.stored hc i (.ref (gB G + r))
    have e9 : opS G T (.inr (a, i, r)) = T.setCell (gB G + a) ((vp_cell (gA G (.array t)) (len, adat G M a (.array t))).setSlot i (.ref (gB G + r))) := by
      show (match T.heap[gB G + a]? with | some c => T.setCell (gB G + a) (c.setSlot i (.ref (gB G + r))) | none => T) = _
      rw [hc]
    rw [← e9] at X1
    obtain ⟨L9, h3, X2⟩ := run_stand os _ _ _ cells slots h2 hx h1 X1
    refine ⟨[⟨gB G + a, i⟩] ++ L9, fun z hz => ?_, ?_⟩
    · rcases List.mem_append.mp hz with h | h
      · rw [List.mem_singleton.mp h]
        show gB G ≤ gB G + a
        omega
      · exact h3 z h
    · rw [← List.append_assoc]
      exact X2
end
theorem vp_cell_vm (c : ClassId) (x : vp_A) : (vp_cell c x).vm = .none := by obtain ⟨n, f | f | f | f | f⟩ := x <;> rfl
theorem vp_cell_cls (c : ClassId) (x : vp_A) : (vp_cell c x).cls = c := by obtain ⟨n, f | f | f | f | f⟩ := x <;> rfl
theorem vp_cell_sz (c : ClassId) (x : vp_A) : (vp_cell c x).slots.size = x.1 := by obtain ⟨n, f | f | f | f | f⟩ := x <;> exact arrV_size _ _ _
/-- what "make c ds" does: the operations os behind h cells -/
def MkS (e : Env) (G : Gl) (vm : Vm) (c : ClassId) (ds : List Int32) (os : Nat → List Op9) : Prop := ∀ (E : CtlPost) (d : Bool) (acts : List Action) (s : State) (M : Mem) (Q : Addr → Pre), s.vm = vm → Rel G M s.heap → mX M = true → s.heap.size + opC (os (mK M).length) ≤ e.platform.maxCells → s.slotsUsed + opN (os (mK M).length) ≤ e.platform.maxSlots →
  (∀ d' acts', Q (gB G + (mK M).length) d' acts' (runS G s (os (mK M).length))) → wp (Op.multianewarray.make c ds) Q E e d acts s
theorem wp_new9 {E : CtlPost} {e : Env} {d : Bool} {acts : List Action} {s : State} {c comp : ClassId} {k : Class} {type : FieldType} {len : Nat} {init : Value} (hk : s.vm.classes[c]? = some k) (hkind : k.kind = .array comp type)
    (hlimit : ¬ len > e.platform.arrayLengthLimit) (hheap : ¬ len * componentBytes type > e.platform.maxHeapBytes) (hfit : fits type init = true) (hdef : init.isDefault = true) {Q : Addr → Pre}
    (h1 : s.heap.size < e.platform.maxCells) (h2 : s.slotsUsed + len ≤ e.platform.maxSlots)
    (hq : Q s.heap.size d acts (s.pushCell { cls := c, slots := Array.replicate len init, vm := .none })) :
    wp (Jvm.newArray c len init) Q E e d acts s := by
  have hfits : ∀ i v, (Array.replicate len init)[i]? = some v → s.fitsSlot c .none i v = true := by
    intro i v hv
    simp only [Array.getElem?_replicate] at hv
    split at hv
    · cases hv
      simp [State.fitsSlot, State.slotType?, hk, hkind, hfit]
    · cases hv
  have hda : allocActs (Array.replicate len init) s.heap.size acts = acts := by
    have hall : ((Array.replicate len init).all (·.isDefault)) = true := by
      rw [Array.all_replicate]
      split <;> simp [hdef]
    unfold allocActs
    rw [if_pos hall]
  simp only [Jvm.newArray, Jvm.arrayFits, wp_bind', W.ask, W.ite, hlimit, if_false, wp_pure', W.theClass, hk, hkind, hheap, W.alloc, W.stop, Option.some.injEq, exists_eq_left', Array.size_replicate, hda]
  rw [if_neg (by omega)]
  exact ⟨h1, h2, hfits, hq⟩
theorem mk_leaf {e : Env} {G : Gl} {vm : Vm} {comp : ClassId} {k : Class} {t : FieldType} {m : Nat} (hk : vm.classes[gA G t]? = some k) (hkind : k.kind = .array comp t) (hm : m < 100000) (hl : e.platform.arrayLengthLimit = 2147483645) (hh : e.platform.maxHeapBytes = 536870912) (hb : componentBytes t ≤ 8) (hdf : fits t (defaultValue t) = true) (hdd : (defaultValue t).isDefault = true) : MkS e G vm (gA G t) [nI m] (fun _ => [.inl (t, m)]) := by
  intro E d acts s M Q hvm hR hx h1 h2 hq
  subst hvm
  have hc := nI_clamp (n := m) (by omega)
  have hH := hR.2.1 hx
  rw [Op.multianewarray.make]
  simp only [wp_bind', W.ite, nI_pos (show m < 2147483648 by omega), if_false, wp_pure', W.theClass, hk, hkind, Option.some.injEq, exists_eq_left']
  rw [hc]
  have hmb : m * componentBytes t ≤ m * 8 := Nat.mul_le_mul_left m hb
  refine wp_new9 hk hkind (by rw [hl]; omega) (by rw [hh]; omega) hdf hdd (by have h9 : s.heap.size + 1 ≤ e.platform.maxCells := h1; omega) (by have h9 : s.slotsUsed + (0 + m) ≤ e.platform.maxSlots := h2; omega) ?_
  have h9 := hq d acts
  rw [← hH] at h9
  exact h9
/-- the rounds of the outer array: for each place the inner making, then its reference -/
def mkR (os : Nat → List Op9) (sz h : Nat) : Nat → List Op9
  | 0 => []
  | i + 1 => mkR os sz h i ++ (os (h + 1 + i * sz) ++ [.inr (h, i, h + 1 + i * sz)])
theorem mkR_C {os : Nat → List Op9} {sz h : Nat} (hos : ∀ a, opC (os a) = sz) : ∀ i, opC (mkR os sz h i) = i * sz
  | 0 => (Nat.zero_mul _).symm
  | i + 1 => by
    show opC (mkR os sz h i ++ (os (h + 1 + i * sz) ++ [.inr (h, i, h + 1 + i * sz)])) = _
    rw [opC_app, opC_app, mkR_C hos i, hos, Nat.succ_mul]
    show i * sz + (sz + 0) = _
    omega
theorem mkR_N {os : Nat → List Op9} {sz h q : Nat} (hos : ∀ a, opN (os a) = q) : ∀ i, opN (mkR os sz h i) = i * q
  | 0 => (Nat.zero_mul _).symm
  | i + 1 => by
    show opN (mkR os sz h i ++ (os (h + 1 + i * sz) ++ [.inr (h, i, h + 1 + i * sz)])) = _
    rw [opN_app, opN_app, mkR_N hos i, hos, Nat.succ_mul]
    show i * q + (q + 0) = _
    omega
theorem mkR_v {os : Nat → List Op9} {sz h len : Nat} {t : FieldType} (hv : ∀ M : Mem, vld M (os (mK M).length)) (hos : ∀ a, opC (os a) = sz) {M : Mem} (hk : (mK M)[h]? = some (.inl (.array t, len))) (hl : (mK M).length = h + 1) : ∀ i, i ≤ len → vld M (mkR os sz h i)
  | 0, _ => trivial
  | i + 1, hi => by
    refine vld_app _ _ _ (mkR_v hv hos hk hl i (by omega)) ?_
    have e : (mK (opsM M (mkR os sz h i))).length = h + 1 + i * sz := by rw [opsM_len, mkR_C hos, hl]
    have h1 := hv (opsM M (mkR os sz h i))
    rw [e] at h1
    exact vld_app _ _ _ h1 ⟨⟨t, len, opsM_k (opsM_k hk), by omega⟩, trivial⟩
theorem mk_step {e : Env} {G : Gl} {vm : Vm} {k : Class} {t : FieldType} {n m sz q : Nat} {ds : List Int32} {os : Nat → List Op9} (hin : MkS e G vm (gA G t) (nI m :: ds) os) (hv : ∀ M : Mem, vld M (os (mK M).length)) (hos : ∀ a, opC (os a) = sz) (hon : ∀ a, opN (os a) = q) (hk : vm.classes[gA G (.array t)]? = some k) (hkind : k.kind = .array (gA G t) (.array t)) (hn : n < 100000) (hdp : ∀ x ∈ nI m :: ds, ¬ x < 0) (hl : e.platform.arrayLengthLimit = 2147483645) (hh : e.platform.maxHeapBytes = 536870912) : MkS e G vm (gA G (.array t)) (nI n :: nI m :: ds) (fun h => .inl (.array t, n) :: mkR os sz h n) := by
  intro E d acts s M Q hvm hR hx h1 h2 hq
  have hc := nI_clamp (n := n) (by omega)
  have hH := hR.2.1 hx
  have hfind : ((nI m :: ds).find? (· < 0)) = none := List.find?_eq_none.mpr (fun x hx9 => by simpa using hdp x hx9)
  have hk' : s.vm.classes[gA G (.array t)]? = some k := by rw [hvm]; exact hk
  have hC : opC (.inl (.array t, n) :: mkR os sz (mK M).length n) = n * sz + 1 := by show opC (mkR os sz (mK M).length n) + 1 = _; rw [mkR_C hos]
  have hN : opN (.inl (.array t, n) :: mkR os sz (mK M).length n) = n * q + n := by show opN (mkR os sz (mK M).length n) + n = _; rw [mkR_N hon]
  rw [hC] at h1
  rw [hN] at h2
  rw [Op.multianewarray.make]
  simp only [wp_bind', W.ite, nI_pos (show n < 2147483648 by omega), if_false, wp_pure', W.theClass, hk', hkind, Option.some.injEq, exists_eq_left']
  rw [hc]
  have hb : componentBytes (.array t) = 4 := rfl
  refine wp_new9 hk' hkind (by rw [hl]; omega) (by rw [hh, hb]; omega) rfl rfl (by omega) (by omega) ?_
  simp only [hfind]
  rw [ite_self, wp_bind', Std.Legacy.Range.forIn_eq_forIn_range']
  have hsz : ([:n] : Std.Legacy.Range).size = n := by simp [Std.Legacy.Range.size]
  rw [hsz]
  have e0 : s.pushCell { cls := gA G (.array t), slots := Array.replicate n .null, vm := .none } = runS G s [.inl (.array t, n)] := rfl
  rw [e0, hH]
  generalize hM0 : nK M (.inl (.array t, n)) = M0
  have hX0 : mX M0 = true := by rw [← hM0]; exact hx
  have hl0 : (mK M0).length = (mK M).length + 1 := by rw [← hM0]; show (mK M ++ [_]).length = _; rw [List.length_append]; rfl
  have hk0 : (mK M0)[(mK M).length]? = some (.inl (.array t, n)) := by
    rw [← hM0]
    show (mK M ++ [Sum.inl (.array t, n)])[(mK M).length]? = _
    rw [List.getElem?_append_right (Nat.le_refl _), Nat.sub_self]
    rfl
  have hv0 : vld M [.inl (.array t, n)] := ⟨okT_A t, trivial⟩
  have hR0 : Rel G M0 (runS G s [.inl (.array t, n)]).heap := by
    have h9 := run_rel (G := G) [.inl (.array t, n)] M s hv0 hx hR
    rw [← hM0]
    exact h9
  have hu0 : (runS G s [.inl (.array t, n)]).slotsUsed = s.slotsUsed + n := by
    rw [run_used]
    show _ + (0 + n) = _
    omega
  have hvm0 : (runS G s [.inl (.array t, n)]).vm = vm := (run_vm _ _).trans hvm
  have hq0 : ∀ d' acts', Q (gB G + (mK M).length) d' acts' (runS G (runS G s [.inl (.array t, n)]) (mkR os sz (mK M).length n)) := fun d' acts' => hq d' acts'
  generalize runS G s [.inl (.array t, n)] = s0 at *
  generalize hh0 : (mK M).length = h0 at *
  show wp (forIn (List.range' 0 n 1) PUnit.unit _) _ E e d acts _
  have hH0 := hR0.2.1 hX0
  refine wp_forIn_inv (fun rest s' => ∃ i, i ≤ n ∧ rest = List.range' i (n - i) ∧ s' = runS G s0 (mkR os sz h0 i)) _ _ ⟨0, Nat.zero_le _, rfl, rfl⟩ ?_ ?_
  · rintro x rest s' d' acts' Q' ⟨i, hi, hl9, rfl⟩ hnext
    have hlt : i < n := by
      rcases Nat.lt_or_ge i n with h | h
      · exact h
      · rw [show n - i = 0 from by omega] at hl9
        simp at hl9
    obtain ⟨rfl, hrest⟩ : x = i ∧ rest = List.range' (i + 1) (n - (i + 1)) := by
      rw [show n - i = (n - (i + 1)) + 1 from by omega, List.range'_succ] at hl9
      exact ⟨(List.cons.inj hl9).1, (List.cons.inj hl9).2⟩
    have hvi := mkR_v hv hos hk0 hl0 x (by omega)
    have hRi := run_rel (G := G) _ M0 s0 hvi hX0 hR0
    have hXi : mX (opsM M0 (mkR os sz h0 x)) = true := by rw [opsM_X]; exact hX0
    have hLi : (mK (opsM M0 (mkR os sz h0 x))).length = h0 + 1 + x * sz := by rw [opsM_len, mkR_C hos, hl0]
    have hHi := hRi.2.1 hXi
    have hm1 : x * sz + sz ≤ n * sz := by
      have h9 := Nat.mul_le_mul_right sz (show x + 1 ≤ n from hlt)
      rw [Nat.succ_mul] at h9
      exact h9
    have hm2 : x * q + q ≤ n * q := by
      have h9 := Nat.mul_le_mul_right q (show x + 1 ≤ n from hlt)
      rw [Nat.succ_mul] at h9
      exact h9
    simp only [wp_bind']
    refine hin _ _ _ _ (opsM M0 (mkR os sz h0 x)) _ ((run_vm _ _).trans hvm0) hRi hXi ?_ ?_ ?_
    · rw [hos, hHi, hLi]
      omega
    · rw [hon, run_used, mkR_N hon, hu0]
      omega
    · intro d2 acts2
      rw [hLi, ← runS_app]
      have hv2 : vld M0 (mkR os sz h0 x ++ os (h0 + 1 + x * sz)) := by
        refine vld_app _ _ _ hvi ?_
        have h9 := hv (opsM M0 (mkR os sz h0 x))
        rw [hLi] at h9
        exact h9
      have hR2 := run_rel (G := G) _ M0 s0 hv2 hX0 hR0
      have hc2 : (runS G s0 (mkR os sz h0 x ++ os (h0 + 1 + x * sz))).heap[gB G + h0]? = some (vp_cell (gA G (.array t)) (n, adat G (opsM M0 (mkR os sz h0 x ++ os (h0 + 1 + x * sz))) h0 (.array t))) := hR2.1 h0 _ (wl_get (opsM_k hk0))
      have hvm2 : (runS G s0 (mkR os sz h0 x ++ os (h0 + 1 + x * sz))).vm = vm := (run_vm _ _).trans hvm0
      have hnx := hnext (runS G s0 (mkR os sz h0 (x + 1)))
      have e5 : runS G s0 (mkR os sz h0 (x + 1)) = (runS G s0 (mkR os sz h0 x ++ os (h0 + 1 + x * sz))).setCell (gB G + h0) ((vp_cell (gA G (.array t)) (n, adat G (opsM M0 (mkR os sz h0 x ++ os (h0 + 1 + x * sz))) h0 (.array t))).setSlot x (.ref (gB G + (h0 + 1 + x * sz)))) := by
        show runS G s0 (mkR os sz h0 x ++ (os (h0 + 1 + x * sz) ++ [.inr (h0, x, h0 + 1 + x * sz)])) = _
        rw [← List.append_assoc, runS_app]
        show (match (runS G s0 (mkR os sz h0 x ++ os (h0 + 1 + x * sz))).heap[gB G + h0]? with | some c => (runS G s0 (mkR os sz h0 x ++ os (h0 + 1 + x * sz))).setCell (gB G + h0) (c.setSlot x (.ref (gB G + (h0 + 1 + x * sz)))) | none => runS G s0 (mkR os sz h0 x ++ os (h0 + 1 + x * sz))) = _
        rw [hc2]
      rw [e5] at hnx
      simp only [wp_bind', W.writeLoc, wp_pure']
      refine ⟨_, hc2, by rw [vp_cell_vm]; simp, by rw [vp_cell_sz]; exact hlt, ?_, hnx _ _ ⟨x + 1, hlt, hrest, e5.symm⟩⟩
      simp [State.fitsSlot, State.slotType?, vp_cell_cls, vp_cell_vm, hvm2, hk, hkind]
      rfl
  · rintro s' d' acts' ⟨i, hi, hl9, rfl⟩
    have hiN : i = n := by
      rcases Nat.lt_or_ge i n with h | h
      · rw [show n - i = (n - (i + 1)) + 1 from by omega, List.range'_succ] at hl9
        cases hl9
      · omega
    subst hiN
    simp only [wp_pure']
    exact hq0 _ _
