/-! THE RULES: one an instruction, for Go. -/
section
variable {l : Launch} {J : Jm} {F L MC MS : Nat} {Q : Res → Mem → Prop} {pc : Nat} {lv : List (Nat × Value)} {st : List Value} {k n : Nat} {M : Mem}
theorem nbeq (a b : Nat) : Nat.beq a b = (a == b) := by
  rw [Bool.eq_iff_iff, Nat.beq_eq]
  simp
def lvG : List (Nat × Value) → Nat → Option Value
  | [], _ => none
  | q :: t, i => match Nat.beq q.1 i with
    | true => some q.2
    | false => lvG t i
theorem lvG_mem : ∀ {lv : List (Nat × Value)} {i : Nat} {v : Value}, lvG lv i = some v → (i, v) ∈ lv
  | [], i, v, h => by cases h
  | q :: t, i, v, h => by
    unfold lvG at h
    split at h
    next hb =>
      have := Nat.eq_of_beq_eq_true hb
      cases h
      subst this
      exact List.mem_cons_self
    next => exact List.mem_cons_of_mem _ (lvG_mem h)
/-- behind a store of one slot -/
def lvF1 (i : Nat) : List (Nat × Value) → List (Nat × Value)
  | [] => []
  | q :: t => match Nat.beq q.1 i with
    | true => lvF1 i t
    | false => match Nat.beq (q.1 + 1) i && Nat.beq q.2.category 2 with
      | true => lvF1 i t
      | false => q :: lvF1 i t
def lvS1 (i : Nat) (v : Value) : List (Nat × Value) → List (Nat × Value)
  | [] => [(i, v)]
  | q :: t => match Nat.beq q.1 i with
    | true => (i, v) :: lvF1 i t
    | false => match Nat.beq (q.1 + 1) i && Nat.beq q.2.category 2 with
      | true => lvS1 i v t
      | false => q :: lvS1 i v t
def lvF2 (i : Nat) : List (Nat × Value) → List (Nat × Value)
  | [] => []
  | q :: t => match Nat.beq q.1 i || Nat.beq q.1 (i + 1) with
    | true => lvF2 i t
    | false => match Nat.beq (q.1 + 1) i && Nat.beq q.2.category 2 with
      | true => lvF2 i t
      | false => q :: lvF2 i t
def lvS2 (i : Nat) (v : Value) : List (Nat × Value) → List (Nat × Value)
  | [] => [(i, v)]
  | q :: t => match Nat.beq q.1 i with
    | true => (i, v) :: lvF2 i t
    | false => match Nat.beq q.1 (i + 1) with
      | true => lvS2 i v t
      | false => match Nat.beq (q.1 + 1) i && Nat.beq q.2.category 2 with
        | true => lvS2 i v t
        | false => q :: lvS2 i v t
abbrev pr1 (i : Nat) : Nat × Value → Bool := fun q => !(q.1 == i) && !(q.1 + 1 == i && q.2.category == 2)
abbrev pr2 (i : Nat) : Nat × Value → Bool := fun q => !(q.1 == i) && (!(q.1 == i + 1) && !(q.1 + 1 == i && q.2.category == 2))
theorem lvF1_mem {i : Nat} : ∀ {lv : List (Nat × Value)} {q : Nat × Value}, q ∈ lvF1 i lv → q ∈ lv ∧ pr1 i q = true
  | [], q, h => by cases h
  | u :: t, q, h => by
    unfold lvF1 at h
    split at h
    next => exact ⟨List.mem_cons_of_mem _ (lvF1_mem h).1, (lvF1_mem h).2⟩
    next hb =>
      split at h
      next => exact ⟨List.mem_cons_of_mem _ (lvF1_mem h).1, (lvF1_mem h).2⟩
      next hc =>
        rcases List.mem_cons.mp h with rfl | h
        · refine ⟨List.mem_cons_self, ?_⟩
          have hb' : (q.1 == i) = false := by simpa only [nbeq] using hb
          have hc' : (q.1 + 1 == i && q.2.category == 2) = false := by simpa only [nbeq] using hc
          simp only [pr1, hb', hc', Bool.not_false, Bool.and_self]
        · exact ⟨List.mem_cons_of_mem _ (lvF1_mem h).1, (lvF1_mem h).2⟩
theorem lvS1_mem {i : Nat} {v : Value} : ∀ {lv : List (Nat × Value)} {q : Nat × Value}, q ∈ lvS1 i v lv → q = (i, v) ∨ (q ∈ lv ∧ pr1 i q = true)
  | [], q, h => by rcases List.mem_cons.mp h with h | h
                   · exact Or.inl h
                   · cases h
  | u :: t, q, h => by
    unfold lvS1 at h
    split at h
    next =>
      rcases List.mem_cons.mp h with h | h
      · exact Or.inl h
      · exact Or.inr ⟨List.mem_cons_of_mem _ (lvF1_mem h).1, (lvF1_mem h).2⟩
    next hb =>
      split at h
      next =>
        rcases lvS1_mem h with h | ⟨h1, h2⟩
        · exact Or.inl h
        · exact Or.inr ⟨List.mem_cons_of_mem _ h1, h2⟩
      next hc =>
        rcases List.mem_cons.mp h with rfl | h
        · refine Or.inr ⟨List.mem_cons_self, ?_⟩
          have hb' : (q.1 == i) = false := by simpa only [nbeq] using hb
          have hc' : (q.1 + 1 == i && q.2.category == 2) = false := by simpa only [nbeq] using hc
          simp only [pr1, hb', hc', Bool.not_false, Bool.and_self]
        · rcases lvS1_mem h with h | ⟨h1, h2⟩
          · exact Or.inl h
          · exact Or.inr ⟨List.mem_cons_of_mem _ h1, h2⟩
theorem lvF2_mem {i : Nat} : ∀ {lv : List (Nat × Value)} {q : Nat × Value}, q ∈ lvF2 i lv → q ∈ lv ∧ pr2 i q = true
  | [], q, h => by cases h
  | u :: t, q, h => by
    unfold lvF2 at h
    split at h
    next => exact ⟨List.mem_cons_of_mem _ (lvF2_mem h).1, (lvF2_mem h).2⟩
    next hb =>
      split at h
      next => exact ⟨List.mem_cons_of_mem _ (lvF2_mem h).1, (lvF2_mem h).2⟩
      next hc =>
        rcases List.mem_cons.mp h with rfl | h
        · refine ⟨List.mem_cons_self, ?_⟩
          have hb' : ((q.1 == i) || (q.1 == i + 1)) = false := by simpa only [nbeq] using hb
          have hc' : (q.1 + 1 == i && q.2.category == 2) = false := by simpa only [nbeq] using hc
          obtain ⟨b1, b2⟩ := Bool.or_eq_false_iff.mp hb'
          simp only [pr2, b1, b2, hc', Bool.not_false, Bool.and_self]
        · exact ⟨List.mem_cons_of_mem _ (lvF2_mem h).1, (lvF2_mem h).2⟩
theorem lvS2_mem {i : Nat} {v : Value} : ∀ {lv : List (Nat × Value)} {q : Nat × Value}, q ∈ lvS2 i v lv → q = (i, v) ∨ (q ∈ lv ∧ pr2 i q = true)
  | [], q, h => by rcases List.mem_cons.mp h with h | h
                   · exact Or.inl h
                   · cases h
  | u :: t, q, h => by
    unfold lvS2 at h
    split at h
    next =>
      rcases List.mem_cons.mp h with h | h
      · exact Or.inl h
      · exact Or.inr ⟨List.mem_cons_of_mem _ (lvF2_mem h).1, (lvF2_mem h).2⟩
    next hb =>
      split at h
      next =>
        rcases lvS2_mem h with h | ⟨h1, h2⟩
        · exact Or.inl h
        · exact Or.inr ⟨List.mem_cons_of_mem _ h1, h2⟩
      next hb2 =>
        split at h
        next =>
          rcases lvS2_mem h with h | ⟨h1, h2⟩
          · exact Or.inl h
          · exact Or.inr ⟨List.mem_cons_of_mem _ h1, h2⟩
        next hc =>
          rcases List.mem_cons.mp h with rfl | h
          · refine Or.inr ⟨List.mem_cons_self, ?_⟩
            have hb' : (q.1 == i) = false := by simpa only [nbeq] using hb
            have hb2' : (q.1 == i + 1) = false := by simpa only [nbeq] using hb2
            have hc' : (q.1 + 1 == i && q.2.category == 2) = false := by simpa only [nbeq] using hc
            simp only [pr2, hb', hb2', hc', Bool.not_false, Bool.and_self]
          · rcases lvS2_mem h with h | ⟨h1, h2⟩
            · exact Or.inl h
            · exact Or.inr ⟨List.mem_cons_of_mem _ h1, h2⟩
theorem lvH_get {G : Gl} {ls : Array Slot} {nL i : Nat} {v : Value} (hl : lv_has ls nL (lv.map (cvp G))) (h : lvG lv i = some v) : ls[i]? = some (.val (cv G v)) :=
  hl.2.2 (i, cv G v) (List.mem_map.mpr ⟨(i, v), lvG_mem h, rfl⟩)
theorem lvH_S1 {G : Gl} {ls : Array Slot} {nL i : Nat} {v : Value} {lv' : List (Nat × Value)} (e : lvS1 i v lv = lv') (h : lv_has ls nL ((i, cv G v) :: (lv.map (cvp G)).filter (pr1 i))) : lv_has ls nL (lv'.map (cvp G)) := by
  subst e
  refine ⟨h.1, h.2.1, fun q hq => h.2.2 q ?_⟩
  obtain ⟨u, hu, rfl⟩ := List.mem_map.mp hq
  rcases lvS1_mem hu with rfl | ⟨h1, h2⟩
  · exact List.mem_cons_self
  · refine List.mem_cons_of_mem _ (List.mem_filter.mpr ⟨List.mem_map.mpr ⟨u, h1, rfl⟩, ?_⟩)
    simp only [cvp, pr1, cv_cat] at h2 ⊢
    exact h2
theorem lvH_S2 {G : Gl} {ls : Array Slot} {nL i : Nat} {v : Value} {lv' : List (Nat × Value)} (e : lvS2 i v lv = lv') (h : lv_has ls nL ((i, cv G v) :: (lv.map (cvp G)).filter (pr2 i))) : lv_has ls nL (lv'.map (cvp G)) := by
  subst e
  refine ⟨h.1, h.2.1, fun q hq => h.2.2 q ?_⟩
  obtain ⟨u, hu, rfl⟩ := List.mem_map.mp hq
  rcases lvS2_mem hu with rfl | ⟨h1, h2⟩
  · exact List.mem_cons_self
  · refine List.mem_cons_of_mem _ (List.mem_filter.mpr ⟨List.mem_map.mpr ⟨u, h1, rfl⟩, ?_⟩)
    simp only [cvp, pr2, cv_cat] at h2 ⊢
    exact h2
def lvSub (lv : List (Nat × Value)) : List (Nat × Value) → Prop
  | [] => True
  | q :: t => lvG lv q.1 = some q.2 ∧ lvSub lv t
theorem lvSub_mem : ∀ {lv' : List (Nat × Value)}, lvSub lv lv' → ∀ q ∈ lv', q ∈ lv
  | [], _, q, h => by cases h
  | u :: t, h, q, hq => by
    rcases List.mem_cons.mp hq with rfl | hq
    · exact lvG_mem h.1
    · exact lvSub_mem h.2 q hq
/-- fewer locals -/
theorem g_sub {lv' : List (Nat × Value)} (h : lvSub lv lv') (kk : Go l J F L MC MS Q pc lv' st k n M) : Go l J F L MC MS Q pc lv st k n M := by
  intro p e s m args below meth c G H locs cells slots ls hX hC hR hS hl hc hs
  refine kk p e s m args below meth c G H locs cells slots ls hX hC hR hS ⟨hl.1, hl.2.1, fun q hq => hl.2.2 q ?_⟩ hc hs
  obtain ⟨u, hu, rfl⟩ := List.mem_map.mp hq
  exact List.mem_map.mpr ⟨u, lvSub_mem h u hu, rfl⟩
/-- less room asked -/
theorem g_less {k' n' : Nat} (h1 : k' ≤ k) (h2 : n' ≤ n) (kk : Go l J F L MC MS Q pc lv st k' n' M) : Go l J F L MC MS Q pc lv st k n M := by
  intro p e s m args below meth c G H locs cells slots ls hX hC hR hS hl hc hs
  exact kk p e s m args below meth c G H locs cells slots ls hX hC hR hS hl (by omega) (by omega)
theorem g_iconst {i : Int} {v : Int32} (hd : decode J.2.1 pc = .ok (.iconst i, 1)) (hv : Int32.ofInt i = v) (kk : Go l J F L MC MS Q (pc + 1) lv (.int v :: st) k n M) : Go l J F L MC MS Q pc lv (st) k n M := by
  intro p e s m args below meth c G H locs cells slots ls hX hC hR hS hl hc hs
  exact lv_iconst hX.1.1 hX.1.2.1 hd hv (kk p e s m args below meth c G H locs cells slots ls hX hC hR hS hl hc hs)
theorem g_bipush {i : Int} {v : Int32} (hd : decode J.2.1 pc = .ok (.bipush i, 2)) (hv : (Int8.ofInt i).toInt32 = v) (kk : Go l J F L MC MS Q (pc + 2) lv (.int v :: st) k n M) : Go l J F L MC MS Q pc lv (st) k n M := by
  intro p e s m args below meth c G H locs cells slots ls hX hC hR hS hl hc hs
  exact lv_bipush hX.1.1 hX.1.2.1 hd hv (kk p e s m args below meth c G H locs cells slots ls hX hC hR hS hl hc hs)
theorem g_sipush {i : Int} {v : Int32} (hd : decode J.2.1 pc = .ok (.sipush i, 3)) (hv : (Int16.ofInt i).toInt32 = v) (kk : Go l J F L MC MS Q (pc + 3) lv (.int v :: st) k n M) : Go l J F L MC MS Q pc lv (st) k n M := by
  intro p e s m args below meth c G H locs cells slots ls hX hC hR hS hl hc hs
  exact lv_sipush hX.1.1 hX.1.2.1 hd hv (kk p e s m args below meth c G H locs cells slots ls hX hC hR hS hl hc hs)
theorem g_lconst {i : Fin 2} {v : Int64} (hd : decode J.2.1 pc = .ok (.lconst i, 1)) (hv : Int64.ofNat (i : Nat) = v) (kk : Go l J F L MC MS Q (pc + 1) lv (.long v :: st) k n M) : Go l J F L MC MS Q pc lv (st) k n M := by
  intro p e s m args below meth c G H locs cells slots ls hX hC hR hS hl hc hs
  exact lv_lconst hX.1.1 hX.1.2.1 hd hv (kk p e s m args below meth c G H locs cells slots ls hX hC hR hS hl hc hs)
theorem g_ldc {ix : Nat} {v : Int32} (hd : decode J.2.1 pc = .ok (.ldc ix, 2)) (hw : Cond.constant J.1.cls ix v ∈ WS) (kk : Go l J F L MC MS Q (pc + 2) lv (.int v :: st) k n M) : Go l J F L MC MS Q pc lv st k n M := by
  intro p e s m args below meth c G H locs cells slots ls hX hC hR hS hl hc hs
  exact lv_ldc hX.1.1 hX.1.2.1 hX.1.2.2.2.1 (hX.1.2.2.2.2 _ hw) hd (kk p e s m args below meth c G H locs cells slots ls hX hC hR hS hl hc hs)
theorem g_ldc2 {ix : Nat} {v : Int64} (hd : decode J.2.1 pc = .ok (.ldc2_w ix, 3)) (hw : Cond.constantLong J.1.cls ix v ∈ WS) (kk : Go l J F L MC MS Q (pc + 3) lv (.long v :: st) k n M) : Go l J F L MC MS Q pc lv st k n M := by
  intro p e s m args below meth c G H locs cells slots ls hX hC hR hS hl hc hs
  exact lv_ldc2 hX.1.1 hX.1.2.1 hX.1.2.2.2.1 (hX.1.2.2.2.2 _ hw) hd (kk p e s m args below meth c G H locs cells slots ls hX hC hR hS hl hc hs)
theorem g_ldcw {ix : Nat} {v : Int32} (hd : decode J.2.1 pc = .ok (.ldc_w ix, 3)) (hw : Cond.constant J.1.cls ix v ∈ WS) (kk : Go l J F L MC MS Q (pc + 3) lv (.int v :: st) k n M) : Go l J F L MC MS Q pc lv st k n M := by
  intro p e s m args below meth c G H locs cells slots ls hX hC hR hS hl hc hs
  exact lv_ldcw hX.1.1 hX.1.2.1 hX.1.2.2.2.1 (hX.1.2.2.2.2 _ hw) hd (kk p e s m args below meth c G H locs cells slots ls hX hC hR hS hl hc hs)
theorem g_iload {i : Nat} {x : Int32} (hd : decode J.2.1 pc = .ok (.iload i, 2)) (hv : lvG lv i = some (.int x)) (kk : Go l J F L MC MS Q (pc + 2) lv (.int x :: st) k n M) : Go l J F L MC MS Q pc lv (st) k n M := by
  intro p e s m args below meth c G H locs cells slots ls hX hC hR hS hl hc hs
  exact lv_iload hX.1.1 hX.1.2.1 hd (lvH_get hl hv) (kk p e s m args below meth c G H locs cells slots ls hX hC hR hS hl hc hs)
theorem g_iload_n {j : Fin 4} {x : Int32} (hd : decode J.2.1 pc = .ok (.iload_n j, 1)) (hv : lvG lv j.val = some (.int x)) (kk : Go l J F L MC MS Q (pc + 1) lv (.int x :: st) k n M) : Go l J F L MC MS Q pc lv (st) k n M := by
  intro p e s m args below meth c G H locs cells slots ls hX hC hR hS hl hc hs
  exact lv_iload_n hX.1.1 hX.1.2.1 hd rfl (lvH_get hl hv) (kk p e s m args below meth c G H locs cells slots ls hX hC hR hS hl hc hs)
theorem g_lload {i : Nat} {x : Int64} (hd : decode J.2.1 pc = .ok (.lload i, 2)) (hv : lvG lv i = some (.long x)) (kk : Go l J F L MC MS Q (pc + 2) lv (.long x :: st) k n M) : Go l J F L MC MS Q pc lv (st) k n M := by
  intro p e s m args below meth c G H locs cells slots ls hX hC hR hS hl hc hs
  exact lv_lload hX.1.1 hX.1.2.1 hd (lvH_get hl hv) (kk p e s m args below meth c G H locs cells slots ls hX hC hR hS hl hc hs)
theorem g_lload_n {j : Fin 4} {x : Int64} (hd : decode J.2.1 pc = .ok (.lload_n j, 1)) (hv : lvG lv j.val = some (.long x)) (kk : Go l J F L MC MS Q (pc + 1) lv (.long x :: st) k n M) : Go l J F L MC MS Q pc lv (st) k n M := by
  intro p e s m args below meth c G H locs cells slots ls hX hC hR hS hl hc hs
  exact lv_lload_n hX.1.1 hX.1.2.1 hd rfl (lvH_get hl hv) (kk p e s m args below meth c G H locs cells slots ls hX hC hR hS hl hc hs)
/-- a value that is a reference or null for the machine -/
def isR : Value → Prop
  | .ref _ => True
  | .retAddr _ => True
  | .null => True
  | _ => False
theorem isR_cv (G : Gl) {v : Value} (h : isR v) : cv G v = .null ∨ ∃ a, cv G v = .ref a := by
  cases v with
  | ref a => exact Or.inr ⟨_, rfl⟩
  | null => exact Or.inl rfl
  | retAddr j =>
    rcases j with _ | _ | j
    · exact Or.inr ⟨_, rfl⟩
    · show gFc (gFm G) = .null ∨ ∃ a, gFc (gFm G) = .ref a
      cases gFm G <;> first | exact Or.inl rfl | exact Or.inr ⟨_, rfl⟩
    · show (if j % 2 = 0 then Value.ref (gSK G (j / 2)) else Value.ref (gSV G (j / 2))) = .null ∨ ∃ a, (if j % 2 = 0 then Value.ref (gSK G (j / 2)) else Value.ref (gSV G (j / 2))) = .ref a
      split <;> exact Or.inr ⟨_, rfl⟩
  | _ => exact absurd h (by simp [isR])
/-- a value that is a reference for the machine, for sure -/
def isA : Value → Prop
  | .ref _ => True
  | .retAddr j => j ≠ 1
  | _ => False
theorem isA_cv (G : Gl) {v : Value} (h : isA v) : ∃ a, cv G v = .ref a := by
  cases v with
  | ref a => exact ⟨_, rfl⟩
  | retAddr j =>
    rcases j with _ | _ | j
    · exact ⟨_, rfl⟩
    · exact absurd rfl h
    · show ∃ a, (if j % 2 = 0 then Value.ref (gSK G (j / 2)) else Value.ref (gSV G (j / 2))) = .ref a
      split <;> exact ⟨_, rfl⟩
  | _ => exact absurd h (by simp [isA])
theorem g_aload {i : Nat} {v : Value} (hd : decode J.2.1 pc = .ok (.aload i, 2)) (hv : lvG lv i = some v) (hr : isA v) (kk : Go l J F L MC MS Q (pc + 2) lv (v :: st) k n M) : Go l J F L MC MS Q pc lv st k n M := by
  intro p e s m args below meth c G H locs cells slots ls hX hC hR hS hl hc hs
  obtain ⟨a, ha⟩ := isA_cv G hr
  have h0 := lvH_get hl hv
  have h1 := kk p e s m args below meth c G H locs cells slots ls hX hC hR hS hl hc hs
  rw [List.map_cons] at h1
  rw [ha] at h0 h1
  exact lv_aload hX.1.1 hX.1.2.1 hd h0 h1
theorem g_aload_n {j : Fin 4} {v : Value} (hd : decode J.2.1 pc = .ok (.aload_n j, 1)) (hv : lvG lv j.val = some v) (hr : isA v) (kk : Go l J F L MC MS Q (pc + 1) lv (v :: st) k n M) : Go l J F L MC MS Q pc lv st k n M := by
  intro p e s m args below meth c G H locs cells slots ls hX hC hR hS hl hc hs
  obtain ⟨a, ha⟩ := isA_cv G hr
  have h0 := lvH_get hl hv
  have h1 := kk p e s m args below meth c G H locs cells slots ls hX hC hR hS hl hc hs
  rw [List.map_cons] at h1
  rw [ha] at h0 h1
  exact lv_aload_n hX.1.1 hX.1.2.1 hd rfl h0 h1
theorem g_istore {i : Nat} {x : Int32} {lv' : List (Nat × Value)} (hd : decode J.2.1 pc = .ok (.istore i, 2)) (hn : i < J.2.2.1) (hv : lvS1 i (.int x) lv = lv') (kk : Go l J F L MC MS Q (pc + 2) lv' st k n M) : Go l J F L MC MS Q pc lv (.int x :: st) k n M := by
  intro p e s m args below meth c G H locs cells slots ls hX hC hR hS hl hc hs
  exact lv_istore hX.1.1 hX.1.2.1 hd hl hn rfl (fun ls' hl' => kk p e s m args below meth c G H locs cells slots ls' hX hC hR hS (lvH_S1 hv hl') hc hs)
theorem g_istore_n {j : Fin 4} {x : Int32} {lv' : List (Nat × Value)} (hd : decode J.2.1 pc = .ok (.istore_n j, 1)) (hn : j.val < J.2.2.1) (hv : lvS1 j.val (.int x) lv = lv') (kk : Go l J F L MC MS Q (pc + 1) lv' st k n M) : Go l J F L MC MS Q pc lv (.int x :: st) k n M := by
  intro p e s m args below meth c G H locs cells slots ls hX hC hR hS hl hc hs
  exact lv_istore_n hX.1.1 hX.1.2.1 hd rfl hl hn rfl (fun ls' hl' => kk p e s m args below meth c G H locs cells slots ls' hX hC hR hS (lvH_S1 hv hl') hc hs)
theorem g_lstore {i : Nat} {x : Int64} {lv' : List (Nat × Value)} (hd : decode J.2.1 pc = .ok (.lstore i, 2)) (hn : i + 1 < J.2.2.1) (hv : lvS2 i (.long x) lv = lv') (kk : Go l J F L MC MS Q (pc + 2) lv' st k n M) : Go l J F L MC MS Q pc lv (.long x :: st) k n M := by
  intro p e s m args below meth c G H locs cells slots ls hX hC hR hS hl hc hs
  exact lv_lstore hX.1.1 hX.1.2.1 hd hl hn rfl (fun ls' hl' => kk p e s m args below meth c G H locs cells slots ls' hX hC hR hS (lvH_S2 hv hl') hc hs)
theorem g_lstore_n {j : Fin 4} {x : Int64} {lv' : List (Nat × Value)} (hd : decode J.2.1 pc = .ok (.lstore_n j, 1)) (hn : j.val + 1 < J.2.2.1) (hv : lvS2 j.val (.long x) lv = lv') (kk : Go l J F L MC MS Q (pc + 1) lv' st k n M) : Go l J F L MC MS Q pc lv (.long x :: st) k n M := by
  intro p e s m args below meth c G H locs cells slots ls hX hC hR hS hl hc hs
  exact lv_lstore_n hX.1.1 hX.1.2.1 hd rfl hl hn rfl (fun ls' hl' => kk p e s m args below meth c G H locs cells slots ls' hX hC hR hS (lvH_S2 hv hl') hc hs)
theorem g_astore {i : Nat} {v : Value} {lv' : List (Nat × Value)} (hd : decode J.2.1 pc = .ok (.astore i, 2)) (hr : isA v) (hn : i < J.2.2.1) (hv : lvS1 i v lv = lv') (kk : Go l J F L MC MS Q (pc + 2) lv' st k n M) : Go l J F L MC MS Q pc lv (v :: st) k n M := by
  intro p e s m args below meth c G H locs cells slots ls hX hC hR hS hl hc hs
  obtain ⟨a, ha⟩ := isA_cv G hr
  have h1 : ∀ ls' : Array Slot, lv_has ls' J.2.2.1 ((i, cv G v) :: (lv.map (cvp G)).filter (pr1 i)) → _ := fun ls' hl' => kk p e s m args below meth c G H locs cells slots ls' hX hC hR hS (lvH_S1 hv hl') hc hs
  rw [List.map_cons]
  rw [ha] at h1 ⊢
  exact lv_astore hX.1.1 hX.1.2.1 hd hl hn rfl h1
theorem g_astore_n {j : Fin 4} {v : Value} {lv' : List (Nat × Value)} (hd : decode J.2.1 pc = .ok (.astore_n j, 1)) (hr : isA v) (hn : j.val < J.2.2.1) (hv : lvS1 j.val v lv = lv') (kk : Go l J F L MC MS Q (pc + 1) lv' st k n M) : Go l J F L MC MS Q pc lv (v :: st) k n M := by
  intro p e s m args below meth c G H locs cells slots ls hX hC hR hS hl hc hs
  obtain ⟨a, ha⟩ := isA_cv G hr
  have h1 : ∀ ls' : Array Slot, lv_has ls' J.2.2.1 ((j.val, cv G v) :: (lv.map (cvp G)).filter (pr1 j.val)) → _ := fun ls' hl' => kk p e s m args below meth c G H locs cells slots ls' hX hC hR hS (lvH_S1 hv hl') hc hs
  rw [List.map_cons]
  rw [ha] at h1 ⊢
  exact lv_astore_n hX.1.1 hX.1.2.1 hd rfl hl hn rfl h1
theorem g_iinc {i : Nat} {d : Int} {x v : Int32} {lv' : List (Nat × Value)} (hd : decode J.2.1 pc = .ok (.iinc i d, 3)) (hg : lvG lv i = some (.int x)) (hx : x + Int32.ofInt d = v) (hn : i < J.2.2.1) (hv : lvS1 i (.int v) lv = lv') (kk : Go l J F L MC MS Q (pc + 3) lv' st k n M) : Go l J F L MC MS Q pc lv st k n M := by
  intro p e s m args below meth c G H locs cells slots ls hX hC hR hS hl hc hs
  obtain ⟨j, hj⟩ := List.getElem?_of_mem (List.mem_map.mpr ⟨(i, .int x), lvG_mem hg, rfl⟩ : (i, cv G (.int x)) ∈ lv.map (cvp G))
  exact lv_iinc (k := j) hX.1.1 hX.1.2.1 hd hl hj hx hn rfl (fun ls' hl' => kk p e s m args below meth c G H locs cells slots ls' hX hC hR hS (lvH_S1 hv hl') hc hs)
theorem g_iadd {x y : Int32} (hd : decode J.2.1 pc = .ok (.iadd, 1)) (kk : Go l J F L MC MS Q (pc + 1) lv (.int (x + y) :: st) k n M) : Go l J F L MC MS Q pc lv (.int y :: .int x :: st) k n M := by
  intro p e s m args below meth c G H locs cells slots ls hX hC hR hS hl hc hs
  exact lv_iadd hX.1.1 hX.1.2.1 hd (kk p e s m args below meth c G H locs cells slots ls hX hC hR hS hl hc hs)
theorem g_isub {x y : Int32} (hd : decode J.2.1 pc = .ok (.isub, 1)) (kk : Go l J F L MC MS Q (pc + 1) lv (.int (x - y) :: st) k n M) : Go l J F L MC MS Q pc lv (.int y :: .int x :: st) k n M := by
  intro p e s m args below meth c G H locs cells slots ls hX hC hR hS hl hc hs
  exact lv_isub hX.1.1 hX.1.2.1 hd (kk p e s m args below meth c G H locs cells slots ls hX hC hR hS hl hc hs)
theorem g_imul {x y : Int32} (hd : decode J.2.1 pc = .ok (.imul, 1)) (kk : Go l J F L MC MS Q (pc + 1) lv (.int (x * y) :: st) k n M) : Go l J F L MC MS Q pc lv (.int y :: .int x :: st) k n M := by
  intro p e s m args below meth c G H locs cells slots ls hX hC hR hS hl hc hs
  exact lv_imul hX.1.1 hX.1.2.1 hd (kk p e s m args below meth c G H locs cells slots ls hX hC hR hS hl hc hs)
theorem g_iand {x y : Int32} (hd : decode J.2.1 pc = .ok (.iand, 1)) (kk : Go l J F L MC MS Q (pc + 1) lv (.int (x &&& y) :: st) k n M) : Go l J F L MC MS Q pc lv (.int y :: .int x :: st) k n M := by
  intro p e s m args below meth c G H locs cells slots ls hX hC hR hS hl hc hs
  exact lv_iand hX.1.1 hX.1.2.1 hd (kk p e s m args below meth c G H locs cells slots ls hX hC hR hS hl hc hs)
theorem g_ior {x y : Int32} (hd : decode J.2.1 pc = .ok (.ior, 1)) (kk : Go l J F L MC MS Q (pc + 1) lv (.int (x ||| y) :: st) k n M) : Go l J F L MC MS Q pc lv (.int y :: .int x :: st) k n M := by
  intro p e s m args below meth c G H locs cells slots ls hX hC hR hS hl hc hs
  exact lv_ior hX.1.1 hX.1.2.1 hd (kk p e s m args below meth c G H locs cells slots ls hX hC hR hS hl hc hs)
theorem g_ixor {x y : Int32} (hd : decode J.2.1 pc = .ok (.ixor, 1)) (kk : Go l J F L MC MS Q (pc + 1) lv (.int (x ^^^ y) :: st) k n M) : Go l J F L MC MS Q pc lv (.int y :: .int x :: st) k n M := by
  intro p e s m args below meth c G H locs cells slots ls hX hC hR hS hl hc hs
  exact lv_ixor hX.1.1 hX.1.2.1 hd (kk p e s m args below meth c G H locs cells slots ls hX hC hR hS hl hc hs)
theorem g_idiv {x y : Int32} (hd : decode J.2.1 pc = .ok (.idiv, 1)) (h0 : ¬ y = 0) (kk : Go l J F L MC MS Q (pc + 1) lv (.int (x / y) :: st) k n M) : Go l J F L MC MS Q pc lv (.int y :: .int x :: st) k n M := by
  intro p e s m args below meth c G H locs cells slots ls hX hC hR hS hl hc hs
  exact lv_idiv hX.1.1 hX.1.2.1 hd h0 (kk p e s m args below meth c G H locs cells slots ls hX hC hR hS hl hc hs)
theorem g_irem {x y : Int32} (hd : decode J.2.1 pc = .ok (.irem, 1)) (h0 : ¬ y = 0) (kk : Go l J F L MC MS Q (pc + 1) lv (.int (x - x / y * y) :: st) k n M) : Go l J F L MC MS Q pc lv (.int y :: .int x :: st) k n M := by
  intro p e s m args below meth c G H locs cells slots ls hX hC hR hS hl hc hs
  exact lv_irem hX.1.1 hX.1.2.1 hd h0 (kk p e s m args below meth c G H locs cells slots ls hX hC hR hS hl hc hs)
theorem g_ineg {x : Int32} (hd : decode J.2.1 pc = .ok (.ineg, 1)) (kk : Go l J F L MC MS Q (pc + 1) lv (.int (-x) :: st) k n M) : Go l J F L MC MS Q pc lv (.int x :: st) k n M := by
  intro p e s m args below meth c G H locs cells slots ls hX hC hR hS hl hc hs
  exact lv_ineg hX.1.1 hX.1.2.1 hd (kk p e s m args below meth c G H locs cells slots ls hX hC hR hS hl hc hs)
theorem g_ladd {x y : Int64} (hd : decode J.2.1 pc = .ok (.ladd, 1)) (kk : Go l J F L MC MS Q (pc + 1) lv (.long (x + y) :: st) k n M) : Go l J F L MC MS Q pc lv (.long y :: .long x :: st) k n M := by
  intro p e s m args below meth c G H locs cells slots ls hX hC hR hS hl hc hs
  exact lv_ladd hX.1.1 hX.1.2.1 hd (kk p e s m args below meth c G H locs cells slots ls hX hC hR hS hl hc hs)
theorem g_lsub {x y : Int64} (hd : decode J.2.1 pc = .ok (.lsub, 1)) (kk : Go l J F L MC MS Q (pc + 1) lv (.long (x - y) :: st) k n M) : Go l J F L MC MS Q pc lv (.long y :: .long x :: st) k n M := by
  intro p e s m args below meth c G H locs cells slots ls hX hC hR hS hl hc hs
  exact lv_lsub hX.1.1 hX.1.2.1 hd (kk p e s m args below meth c G H locs cells slots ls hX hC hR hS hl hc hs)
theorem g_lmul {x y : Int64} (hd : decode J.2.1 pc = .ok (.lmul, 1)) (kk : Go l J F L MC MS Q (pc + 1) lv (.long (x * y) :: st) k n M) : Go l J F L MC MS Q pc lv (.long y :: .long x :: st) k n M := by
  intro p e s m args below meth c G H locs cells slots ls hX hC hR hS hl hc hs
  exact lv_lmul hX.1.1 hX.1.2.1 hd (kk p e s m args below meth c G H locs cells slots ls hX hC hR hS hl hc hs)
theorem g_land {x y : Int64} (hd : decode J.2.1 pc = .ok (.land, 1)) (kk : Go l J F L MC MS Q (pc + 1) lv (.long (x &&& y) :: st) k n M) : Go l J F L MC MS Q pc lv (.long y :: .long x :: st) k n M := by
  intro p e s m args below meth c G H locs cells slots ls hX hC hR hS hl hc hs
  exact lv_land hX.1.1 hX.1.2.1 hd (kk p e s m args below meth c G H locs cells slots ls hX hC hR hS hl hc hs)
theorem g_lor {x y : Int64} (hd : decode J.2.1 pc = .ok (.lor, 1)) (kk : Go l J F L MC MS Q (pc + 1) lv (.long (x ||| y) :: st) k n M) : Go l J F L MC MS Q pc lv (.long y :: .long x :: st) k n M := by
  intro p e s m args below meth c G H locs cells slots ls hX hC hR hS hl hc hs
  exact lv_lor hX.1.1 hX.1.2.1 hd (kk p e s m args below meth c G H locs cells slots ls hX hC hR hS hl hc hs)
theorem g_lxor {x y : Int64} (hd : decode J.2.1 pc = .ok (.lxor, 1)) (kk : Go l J F L MC MS Q (pc + 1) lv (.long (x ^^^ y) :: st) k n M) : Go l J F L MC MS Q pc lv (.long y :: .long x :: st) k n M := by
  intro p e s m args below meth c G H locs cells slots ls hX hC hR hS hl hc hs
  exact lv_lxor hX.1.1 hX.1.2.1 hd (kk p e s m args below meth c G H locs cells slots ls hX hC hR hS hl hc hs)
theorem g_ishl {x y : Int32} (hd : decode J.2.1 pc = .ok (.ishl, 1)) (kk : Go l J F L MC MS Q (pc + 1) lv (.int (x <<< (y &&& 31)) :: st) k n M) : Go l J F L MC MS Q pc lv (.int y :: .int x :: st) k n M := by
  intro p e s m args below meth c G H locs cells slots ls hX hC hR hS hl hc hs
  exact lv_ishl hX.1.1 hX.1.2.1 hd (kk p e s m args below meth c G H locs cells slots ls hX hC hR hS hl hc hs)
theorem g_ishr {x y : Int32} (hd : decode J.2.1 pc = .ok (.ishr, 1)) (kk : Go l J F L MC MS Q (pc + 1) lv (.int (x >>> (y &&& 31)) :: st) k n M) : Go l J F L MC MS Q pc lv (.int y :: .int x :: st) k n M := by
  intro p e s m args below meth c G H locs cells slots ls hX hC hR hS hl hc hs
  exact lv_ishr hX.1.1 hX.1.2.1 hd (kk p e s m args below meth c G H locs cells slots ls hX hC hR hS hl hc hs)
theorem g_iushr {x y v : Int32} (hd : decode J.2.1 pc = .ok (.iushr, 1)) (hv : (x.toUInt32 >>> (y.toUInt32 &&& Int32.toUInt32 31)).toInt32 = v) (kk : Go l J F L MC MS Q (pc + 1) lv (.int v :: st) k n M) : Go l J F L MC MS Q pc lv (.int y :: .int x :: st) k n M := by
  intro p e s m args below meth c G H locs cells slots ls hX hC hR hS hl hc hs
  exact lv_iushr hX.1.1 hX.1.2.1 hd hv (kk p e s m args below meth c G H locs cells slots ls hX hC hR hS hl hc hs)
theorem g_lushr {x v : Int64} {y : Int32} (hd : decode J.2.1 pc = .ok (.lushr, 1)) (hv : (x.toUInt64 >>> (y.toInt64.toUInt64 &&& Int64.toUInt64 63)).toInt64 = v) (kk : Go l J F L MC MS Q (pc + 1) lv (.long v :: st) k n M) : Go l J F L MC MS Q pc lv (.int y :: .long x :: st) k n M := by
  intro p e s m args below meth c G H locs cells slots ls hX hC hR hS hl hc hs
  exact lv_lushr hX.1.1 hX.1.2.1 hd hv (kk p e s m args below meth c G H locs cells slots ls hX hC hR hS hl hc hs)
theorem g_lshl {x v : Int64} {y : Int32} (hd : decode J.2.1 pc = .ok (.lshl, 1)) (hv : x <<< (y.toInt64 &&& 63) = v) (kk : Go l J F L MC MS Q (pc + 1) lv (.long v :: st) k n M) : Go l J F L MC MS Q pc lv (.int y :: .long x :: st) k n M := by
  intro p e s m args below meth c G H locs cells slots ls hX hC hR hS hl hc hs
  exact lv_lshl hX.1.1 hX.1.2.1 hd hv (kk p e s m args below meth c G H locs cells slots ls hX hC hR hS hl hc hs)
theorem g_lshr {x v : Int64} {y : Int32} (hd : decode J.2.1 pc = .ok (.lshr, 1)) (hv : x >>> (y.toInt64 &&& 63) = v) (kk : Go l J F L MC MS Q (pc + 1) lv (.long v :: st) k n M) : Go l J F L MC MS Q pc lv (.int y :: .long x :: st) k n M := by
  intro p e s m args below meth c G H locs cells slots ls hX hC hR hS hl hc hs
  exact lv_lshr hX.1.1 hX.1.2.1 hd hv (kk p e s m args below meth c G H locs cells slots ls hX hC hR hS hl hc hs)
theorem g_i2l {x : Int32} {v : Int64} (hd : decode J.2.1 pc = .ok (.i2l, 1)) (hv : x.toInt64 = v) (kk : Go l J F L MC MS Q (pc + 1) lv (.long v :: st) k n M) : Go l J F L MC MS Q pc lv (.int x :: st) k n M := by
  intro p e s m args below meth c G H locs cells slots ls hX hC hR hS hl hc hs
  exact lv_i2l hX.1.1 hX.1.2.1 hd hv (kk p e s m args below meth c G H locs cells slots ls hX hC hR hS hl hc hs)
theorem g_l2i {x : Int64} {v : Int32} (hd : decode J.2.1 pc = .ok (.l2i, 1)) (hv : x.toInt32 = v) (kk : Go l J F L MC MS Q (pc + 1) lv (.int v :: st) k n M) : Go l J F L MC MS Q pc lv (.long x :: st) k n M := by
  intro p e s m args below meth c G H locs cells slots ls hX hC hR hS hl hc hs
  exact lv_l2i hX.1.1 hX.1.2.1 hd hv (kk p e s m args below meth c G H locs cells slots ls hX hC hR hS hl hc hs)
theorem g_i2b {x v : Int32} (hd : decode J.2.1 pc = .ok (.i2b, 1)) (hv : x.toInt8.toInt32 = v) (kk : Go l J F L MC MS Q (pc + 1) lv (.int v :: st) k n M) : Go l J F L MC MS Q pc lv (.int x :: st) k n M := by
  intro p e s m args below meth c G H locs cells slots ls hX hC hR hS hl hc hs
  exact lv_i2b hX.1.1 hX.1.2.1 hd hv (kk p e s m args below meth c G H locs cells slots ls hX hC hR hS hl hc hs)
theorem g_i2c {x v : Int32} (hd : decode J.2.1 pc = .ok (.i2c, 1)) (hv : (x.toUInt32 % 65536).toInt32 = v) (kk : Go l J F L MC MS Q (pc + 1) lv (.int v :: st) k n M) : Go l J F L MC MS Q pc lv (.int x :: st) k n M := by
  intro p e s m args below meth c G H locs cells slots ls hX hC hR hS hl hc hs
  exact lv_i2c hX.1.1 hX.1.2.1 hd hv (kk p e s m args below meth c G H locs cells slots ls hX hC hR hS hl hc hs)
theorem g_lcmp {x y : Int64} (hd : decode J.2.1 pc = .ok (.lcmp, 1)) (kk : Go l J F L MC MS Q (pc + 1) lv (.int (lg_cmp x y) :: st) k n M) : Go l J F L MC MS Q pc lv (.long y :: .long x :: st) k n M := by
  intro p e s m args below meth c G H locs cells slots ls hX hC hR hS hl hc hs
  exact W.lcmp hX.1.1 hX.1.2.1 hd (kk p e s m args below meth c G H locs cells slots ls hX hC hR hS hl hc hs)
theorem g_dup {v : Value} (hd : decode J.2.1 pc = .ok (.dup, 1)) (h1 : v.category = 1) (kk : Go l J F L MC MS Q (pc + 1) lv (v :: v :: st) k n M) : Go l J F L MC MS Q pc lv (v :: st) k n M := by
  intro p e s m args below meth c G H locs cells slots ls hX hC hR hS hl hc hs
  exact lv_dup hX.1.1 hX.1.2.1 hd ((cv_cat G v).trans h1) (kk p e s m args below meth c G H locs cells slots ls hX hC hR hS hl hc hs)
theorem g_pop {v : Value} (hd : decode J.2.1 pc = .ok (.pop, 1)) (h1 : v.category = 1) (kk : Go l J F L MC MS Q (pc + 1) lv (st) k n M) : Go l J F L MC MS Q pc lv (v :: st) k n M := by
  intro p e s m args below meth c G H locs cells slots ls hX hC hR hS hl hc hs
  exact lv_pop hX.1.1 hX.1.2.1 hd ((cv_cat G v).trans h1) (kk p e s m args below meth c G H locs cells slots ls hX hC hR hS hl hc hs)
theorem g_dup2_11 {v w : Value} (hd : decode J.2.1 pc = .ok (.dup2, 1)) (h1 : v.category = 1) (h2 : w.category = 1) (kk : Go l J F L MC MS Q (pc + 1) lv (v :: w :: v :: w :: st) k n M) : Go l J F L MC MS Q pc lv (v :: w :: st) k n M := by
  intro p e s m args below meth c G H locs cells slots ls hX hC hR hS hl hc hs
  exact lv_dup2_11 hX.1.1 hX.1.2.1 hd ((cv_cat G v).trans h1) ((cv_cat G w).trans h2) (kk p e s m args below meth c G H locs cells slots ls hX hC hR hS hl hc hs)
theorem g_dup2_2 {v : Value} (hd : decode J.2.1 pc = .ok (.dup2, 1)) (h1 : v.category = 2) (kk : Go l J F L MC MS Q (pc + 1) lv (v :: v :: st) k n M) : Go l J F L MC MS Q pc lv (v :: st) k n M := by
  intro p e s m args below meth c G H locs cells slots ls hX hC hR hS hl hc hs
  exact lv_dup2_2 hX.1.1 hX.1.2.1 hd ((cv_cat G v).trans h1) (kk p e s m args below meth c G H locs cells slots ls hX hC hR hS hl hc hs)
theorem g_if_eq {x : Int32} {off : Int} {tgt : Nat} (hd : decode J.2.1 pc = .ok (.ifCond .eq off, 3)) (ht : (pc : Int) + off = (tgt : Int)) (kt : x = 0 → Go l J F L MC MS Q tgt lv st k n M) (kf : ¬ (x = 0) → Go l J F L MC MS Q (pc + 3) lv st k n M) : Go l J F L MC MS Q pc lv (.int x :: st) k n M := by
  intro p e s m args below meth c G H locs cells slots ls hX hC hR hS hl hc hs
  exact lv_if_eq hX.1.1 hX.1.2.1 hd ht (fun q => kt q p e s m args below meth c G H locs cells slots ls hX hC hR hS hl hc hs) (fun q => kf q p e s m args below meth c G H locs cells slots ls hX hC hR hS hl hc hs)
theorem g_if_ne {x : Int32} {off : Int} {tgt : Nat} (hd : decode J.2.1 pc = .ok (.ifCond .ne off, 3)) (ht : (pc : Int) + off = (tgt : Int)) (kt : ¬ x = 0 → Go l J F L MC MS Q tgt lv st k n M) (kf : ¬ (¬ x = 0) → Go l J F L MC MS Q (pc + 3) lv st k n M) : Go l J F L MC MS Q pc lv (.int x :: st) k n M := by
  intro p e s m args below meth c G H locs cells slots ls hX hC hR hS hl hc hs
  exact lv_if_ne hX.1.1 hX.1.2.1 hd ht (fun q => kt q p e s m args below meth c G H locs cells slots ls hX hC hR hS hl hc hs) (fun q => kf (fun z => z q) p e s m args below meth c G H locs cells slots ls hX hC hR hS hl hc hs)
theorem g_if_lt {x : Int32} {off : Int} {tgt : Nat} (hd : decode J.2.1 pc = .ok (.ifCond .lt off, 3)) (ht : (pc : Int) + off = (tgt : Int)) (kt : x < 0 → Go l J F L MC MS Q tgt lv st k n M) (kf : ¬ (x < 0) → Go l J F L MC MS Q (pc + 3) lv st k n M) : Go l J F L MC MS Q pc lv (.int x :: st) k n M := by
  intro p e s m args below meth c G H locs cells slots ls hX hC hR hS hl hc hs
  exact lv_if_lt hX.1.1 hX.1.2.1 hd ht (fun q => kt q p e s m args below meth c G H locs cells slots ls hX hC hR hS hl hc hs) (fun q => kf q p e s m args below meth c G H locs cells slots ls hX hC hR hS hl hc hs)
theorem g_if_ge {x : Int32} {off : Int} {tgt : Nat} (hd : decode J.2.1 pc = .ok (.ifCond .ge off, 3)) (ht : (pc : Int) + off = (tgt : Int)) (kt : 0 ≤ x → Go l J F L MC MS Q tgt lv st k n M) (kf : ¬ (0 ≤ x) → Go l J F L MC MS Q (pc + 3) lv st k n M) : Go l J F L MC MS Q pc lv (.int x :: st) k n M := by
  intro p e s m args below meth c G H locs cells slots ls hX hC hR hS hl hc hs
  exact lv_if_ge hX.1.1 hX.1.2.1 hd ht (fun q => kt q p e s m args below meth c G H locs cells slots ls hX hC hR hS hl hc hs) (fun q => kf q p e s m args below meth c G H locs cells slots ls hX hC hR hS hl hc hs)
theorem g_if_gt {x : Int32} {off : Int} {tgt : Nat} (hd : decode J.2.1 pc = .ok (.ifCond .gt off, 3)) (ht : (pc : Int) + off = (tgt : Int)) (kt : 0 < x → Go l J F L MC MS Q tgt lv st k n M) (kf : ¬ (0 < x) → Go l J F L MC MS Q (pc + 3) lv st k n M) : Go l J F L MC MS Q pc lv (.int x :: st) k n M := by
  intro p e s m args below meth c G H locs cells slots ls hX hC hR hS hl hc hs
  exact lv_if_gt hX.1.1 hX.1.2.1 hd ht (fun q => kt q p e s m args below meth c G H locs cells slots ls hX hC hR hS hl hc hs) (fun q => kf q p e s m args below meth c G H locs cells slots ls hX hC hR hS hl hc hs)
theorem g_if_le {x : Int32} {off : Int} {tgt : Nat} (hd : decode J.2.1 pc = .ok (.ifCond .le off, 3)) (ht : (pc : Int) + off = (tgt : Int)) (kt : x ≤ 0 → Go l J F L MC MS Q tgt lv st k n M) (kf : ¬ (x ≤ 0) → Go l J F L MC MS Q (pc + 3) lv st k n M) : Go l J F L MC MS Q pc lv (.int x :: st) k n M := by
  intro p e s m args below meth c G H locs cells slots ls hX hC hR hS hl hc hs
  exact lv_if_le hX.1.1 hX.1.2.1 hd ht (fun q => kt q p e s m args below meth c G H locs cells slots ls hX hC hR hS hl hc hs) (fun q => kf q p e s m args below meth c G H locs cells slots ls hX hC hR hS hl hc hs)
theorem g_icmp_eq {x y : Int32} {off : Int} {tgt : Nat} (hd : decode J.2.1 pc = .ok (.if_icmp .eq off, 3)) (ht : (pc : Int) + off = (tgt : Int)) (kt : x = y → Go l J F L MC MS Q tgt lv st k n M) (kf : ¬ (x = y) → Go l J F L MC MS Q (pc + 3) lv st k n M) : Go l J F L MC MS Q pc lv (.int y :: .int x :: st) k n M := by
  intro p e s m args below meth c G H locs cells slots ls hX hC hR hS hl hc hs
  exact lv_icmp_eq hX.1.1 hX.1.2.1 hd ht (fun q => kt q p e s m args below meth c G H locs cells slots ls hX hC hR hS hl hc hs) (fun q => kf q p e s m args below meth c G H locs cells slots ls hX hC hR hS hl hc hs)
theorem g_icmp_ne {x y : Int32} {off : Int} {tgt : Nat} (hd : decode J.2.1 pc = .ok (.if_icmp .ne off, 3)) (ht : (pc : Int) + off = (tgt : Int)) (kt : ¬ x = y → Go l J F L MC MS Q tgt lv st k n M) (kf : ¬ (¬ x = y) → Go l J F L MC MS Q (pc + 3) lv st k n M) : Go l J F L MC MS Q pc lv (.int y :: .int x :: st) k n M := by
  intro p e s m args below meth c G H locs cells slots ls hX hC hR hS hl hc hs
  exact lv_icmp_ne hX.1.1 hX.1.2.1 hd ht (fun q => kt q p e s m args below meth c G H locs cells slots ls hX hC hR hS hl hc hs) (fun q => kf (fun z => z q) p e s m args below meth c G H locs cells slots ls hX hC hR hS hl hc hs)
theorem g_icmp_lt {x y : Int32} {off : Int} {tgt : Nat} (hd : decode J.2.1 pc = .ok (.if_icmp .lt off, 3)) (ht : (pc : Int) + off = (tgt : Int)) (kt : x < y → Go l J F L MC MS Q tgt lv st k n M) (kf : ¬ (x < y) → Go l J F L MC MS Q (pc + 3) lv st k n M) : Go l J F L MC MS Q pc lv (.int y :: .int x :: st) k n M := by
  intro p e s m args below meth c G H locs cells slots ls hX hC hR hS hl hc hs
  exact lv_icmp_lt hX.1.1 hX.1.2.1 hd ht (fun q => kt q p e s m args below meth c G H locs cells slots ls hX hC hR hS hl hc hs) (fun q => kf q p e s m args below meth c G H locs cells slots ls hX hC hR hS hl hc hs)
theorem g_icmp_ge {x y : Int32} {off : Int} {tgt : Nat} (hd : decode J.2.1 pc = .ok (.if_icmp .ge off, 3)) (ht : (pc : Int) + off = (tgt : Int)) (kt : y ≤ x → Go l J F L MC MS Q tgt lv st k n M) (kf : ¬ (y ≤ x) → Go l J F L MC MS Q (pc + 3) lv st k n M) : Go l J F L MC MS Q pc lv (.int y :: .int x :: st) k n M := by
  intro p e s m args below meth c G H locs cells slots ls hX hC hR hS hl hc hs
  exact lv_icmp_ge hX.1.1 hX.1.2.1 hd ht (fun q => kt q p e s m args below meth c G H locs cells slots ls hX hC hR hS hl hc hs) (fun q => kf q p e s m args below meth c G H locs cells slots ls hX hC hR hS hl hc hs)
theorem g_icmp_gt {x y : Int32} {off : Int} {tgt : Nat} (hd : decode J.2.1 pc = .ok (.if_icmp .gt off, 3)) (ht : (pc : Int) + off = (tgt : Int)) (kt : y < x → Go l J F L MC MS Q tgt lv st k n M) (kf : ¬ (y < x) → Go l J F L MC MS Q (pc + 3) lv st k n M) : Go l J F L MC MS Q pc lv (.int y :: .int x :: st) k n M := by
  intro p e s m args below meth c G H locs cells slots ls hX hC hR hS hl hc hs
  exact lv_icmp_gt hX.1.1 hX.1.2.1 hd ht (fun q => kt q p e s m args below meth c G H locs cells slots ls hX hC hR hS hl hc hs) (fun q => kf q p e s m args below meth c G H locs cells slots ls hX hC hR hS hl hc hs)
theorem g_icmp_le {x y : Int32} {off : Int} {tgt : Nat} (hd : decode J.2.1 pc = .ok (.if_icmp .le off, 3)) (ht : (pc : Int) + off = (tgt : Int)) (kt : x ≤ y → Go l J F L MC MS Q tgt lv st k n M) (kf : ¬ (x ≤ y) → Go l J F L MC MS Q (pc + 3) lv st k n M) : Go l J F L MC MS Q pc lv (.int y :: .int x :: st) k n M := by
  intro p e s m args below meth c G H locs cells slots ls hX hC hR hS hl hc hs
  exact lv_icmp_le hX.1.1 hX.1.2.1 hd ht (fun q => kt q p e s m args below meth c G H locs cells slots ls hX hC hR hS hl hc hs) (fun q => kf q p e s m args below meth c G H locs cells slots ls hX hC hR hS hl hc hs)
theorem g_goto {off : Int} {tgt : Nat} (hd : decode J.2.1 pc = .ok (.goto off, 3)) (ht : (pc : Int) + off = (tgt : Int)) (kk : Go l J F L MC MS Q tgt lv st k n M) : Go l J F L MC MS Q pc lv st k n M := by
  intro p e s m args below meth c G H locs cells slots ls hX hC hR hS hl hc hs
  exact lv_goto hX.1.1 hX.1.2.1 hd ht (kk p e s m args below meth c G H locs cells slots ls hX hC hR hS hl hc hs)
theorem g_tableIn {dflt lo hi : Int} {offs : Array Int} {len : Nat} {x : Int32} {off : Int} {tgt : Nat} (hd : decode J.2.1 pc = .ok (.tableswitch dflt lo hi offs, len)) (h1 : ¬ x.toInt < lo) (h2 : ¬ hi < x.toInt) (ho : offs[(x.toInt - lo).toNat]? = some off) (ht : (pc : Int) + off = (tgt : Int)) (kk : Go l J F L MC MS Q tgt lv st k n M) : Go l J F L MC MS Q pc lv (.int x :: st) k n M := by
  intro p e s m args below meth c G H locs cells slots ls hX hC hR hS hl hc hs
  exact lv_tableIn hX.1.1 hX.1.2.1 hd h1 h2 ho ht (kk p e s m args below meth c G H locs cells slots ls hX hC hR hS hl hc hs)
theorem g_tableOut {dflt lo hi : Int} {offs : Array Int} {len : Nat} {x : Int32} {tgt : Nat} (hd : decode J.2.1 pc = .ok (.tableswitch dflt lo hi offs, len)) (h1 : x.toInt < lo ∨ hi < x.toInt) (ht : (pc : Int) + dflt = (tgt : Int)) (kk : Go l J F L MC MS Q tgt lv st k n M) : Go l J F L MC MS Q pc lv (.int x :: st) k n M := by
  intro p e s m args below meth c G H locs cells slots ls hX hC hR hS hl hc hs
  exact lv_tableOut hX.1.1 hX.1.2.1 hd h1 ht (kk p e s m args below meth c G H locs cells slots ls hX hC hR hS hl hc hs)
theorem g_lookup {dflt : Int} {ps : Array (Int × Int)} {len : Nat} {x : Int32} {off : Int} {tgt : Nat} (hd : decode J.2.1 pc = .ok (.lookupswitch dflt ps, len)) (hp : (ps.toList.zip (ps.toList.drop 1)).all (fun (a, next) => a.1 < next.1) = true) (ho : Op.lookupswitch.offset ps.toList dflt x.toInt = off) (ht : (pc : Int) + off = (tgt : Int)) (kk : Go l J F L MC MS Q tgt lv st k n M) : Go l J F L MC MS Q pc lv (.int x :: st) k n M := by
  intro p e s m args below meth c G H locs cells slots ls hX hC hR hS hl hc hs
  exact lv_lookup hX.1.1 hX.1.2.1 hd hp ho ht (kk p e s m args below meth c G H locs cells slots ls hX hC hR hS hl hc hs)
/-- null in a local, on the stack -/
theorem g_aconst_null (hd : decode J.2.1 pc = .ok (.aconst_null, 1)) (kk : Go l J F L MC MS Q (pc + 1) lv (.null :: st) k n M) : Go l J F L MC MS Q pc lv st k n M := by
  intro p e s m args below meth c G H locs cells slots ls hX hC hR hS hl hc hs
  exact lv_null hX.1.1 hX.1.2.1 hd (kk p e s m args below meth c G H locs cells slots ls hX hC hR hS hl hc hs)
theorem g_dup_x1 {v w : Value} (hd : decode J.2.1 pc = .ok (.dup_x1, 1)) (h1 : v.category = 1) (h2 : w.category = 1) (kk : Go l J F L MC MS Q (pc + 1) lv (v :: w :: v :: st) k n M) : Go l J F L MC MS Q pc lv (v :: w :: st) k n M := by
  intro p e s m args below meth c G H locs cells slots ls hX hC hR hS hl hc hs
  exact lv_dup_x1 hX.1.1 hX.1.2.1 hd (by rw [cv_cat]; exact h1) (by rw [cv_cat]; exact h2) (kk p e s m args below meth c G H locs cells slots ls hX hC hR hS hl hc hs)
theorem g_ifnonnull {r : Value} {off : Int} {tgt : Nat} (hd : decode J.2.1 pc = .ok (.ifnonnull off, 3)) (ht : (pc : Int) + off = (tgt : Int)) (hr : isA r) (kk : Go l J F L MC MS Q tgt lv st k n M) : Go l J F L MC MS Q pc lv (r :: st) k n M := by
  intro p e s m args below meth c G H locs cells slots ls hX hC hR hS hl hc hs
  obtain ⟨a, ha⟩ := isA_cv G hr
  rw [List.map_cons, ha]
  exact lv_ifnonnull hX.1.1 hX.1.2.1 hd ht (kk p e s m args below meth c G H locs cells slots ls hX hC hR hS hl hc hs)
theorem g_ifnull_r {r : Value} {off : Int} (hd : decode J.2.1 pc = .ok (.ifnull off, 3)) (hr : isA r) (kk : Go l J F L MC MS Q (pc + 3) lv st k n M) : Go l J F L MC MS Q pc lv (r :: st) k n M := by
  intro p e s m args below meth c G H locs cells slots ls hX hC hR hS hl hc hs
  obtain ⟨a, ha⟩ := isA_cv G hr
  rw [List.map_cons, ha]
  exact lv_ifnull hX.1.1 hX.1.2.1 hd (kk p e s m args below meth c G H locs cells slots ls hX hC hR hS hl hc hs)
end
