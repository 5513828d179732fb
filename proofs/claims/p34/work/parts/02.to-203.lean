-- 02.core
section
/-! MY OWN MACHINE: a memory by numbers of cells, a judgement Go over the kit's W, a contract Ev over the kit's vx_Met. -/
def WS : List Cond := lw_tbl.filter goodWord
theorem ws_mem {w : Cond} (i : Nat) (h : lw_tbl[i]? = some w) (g : goodWord w = true) : w ∈ WS := List.mem_filter.mpr ⟨List.mem_of_getElem? h, g⟩
theorem ws_good {w : Cond} (h : w ∈ WS) : (w.onTables && w.keeps) = true ∨ ∃ ty, w = .arrayClass ty := good_of_word (List.mem_filter.mp h).2
abbrev Knd : Type := (FieldType × Nat) ⊕ Nat
/-- the memory: what each cell is; whether nothing else was made since; ints, longs, references, doubles by cell and place -/
abbrev Mem : Type := List Knd × Bool × (Nat → Nat → Int32) × (Nat → Nat → Int64) × (Nat → Nat → Option Nat) × (Nat → Nat → UInt64) × (Nat × (Nat → Int32))
abbrev mK (M : Mem) : List Knd := M.1
abbrev mX (M : Mem) : Bool := M.2.1
abbrev mI (M : Mem) : Nat → Nat → Int32 := M.2.2.1
abbrev mL (M : Mem) : Nat → Nat → Int64 := M.2.2.2.1
abbrev mR (M : Mem) : Nat → Nat → Option Nat := M.2.2.2.2.1
abbrev mD (M : Mem) : Nat → Nat → UInt64 := M.2.2.2.2.2.1
abbrev mS (M : Mem) : Nat × (Nat → Int32) := M.2.2.2.2.2.2
def fun_set {α : Type} (f : Nat → α) (i : Nat) (x : α) : Nat → α := fun j => if j = i then x else f j
abbrev sI (M : Mem) (i : Nat) (f : Nat → Int32) : Mem := (M.1, M.2.1, fun_set M.2.2.1 i f, M.2.2.2)
abbrev sL (M : Mem) (i : Nat) (f : Nat → Int64) : Mem := (M.1, M.2.1, M.2.2.1, fun_set M.2.2.2.1 i f, M.2.2.2.2)
abbrev sR (M : Mem) (i : Nat) (f : Nat → Option Nat) : Mem := (M.1, M.2.1, M.2.2.1, M.2.2.2.1, fun_set M.2.2.2.2.1 i f, M.2.2.2.2.2)
abbrev sD (M : Mem) (i : Nat) (f : Nat → UInt64) : Mem := (M.1, M.2.1, M.2.2.1, M.2.2.2.1, M.2.2.2.2.1, fun_set M.2.2.2.2.2.1 i f, M.2.2.2.2.2.2)
abbrev sX (M : Mem) : Mem := (M.1, false, M.2.2)
/-- a new cell: all 0 -/
def nK (M : Mem) (k : Knd) : Mem := (M.1 ++ [k], M.2.1, fun_set (mI M) M.1.length (fun _ => 0), fun_set (mL M) M.1.length (fun _ => 0), fun_set (mR M) M.1.length (fun _ => none), fun_set (mD M) M.1.length (fun _ => 0), mS M)
def ftyA : Nat → List FieldType := fun ci => match ci with
  | 0 => [.array .int, .boolean]
  | 1 => [.array .int, .array .int, .array .int, .int]
  | 2 => [.array .int, .boolean, .int, .int, .int]
  | 3 => [.array .int, .array .int, .array .int, .int, .int, .boolean, .int, .int]
  | 4 => [.array .int, .int, .int, .int, .int, .int, .int]
  | 5 => [.array (.object "BitDesk$Matrix"), .int, .int, .int, .int]
  | 6 => [.object "BitDesk$Reader", .object "BitDesk$State", .object "BitDesk$State", .array (.object "BitDesk$State"), .int, .int, .array (.object "BitDesk$State"), .array .boolean, .array (.object "BitDesk$Closure"), .object "BitDesk$Multiplier", .object "BitDesk$Elimination", .array .int, .array .int, .array .int, .int]
  | _ => [.array .long, .array .long, .array .long, .array .long, .array .boolean, .int, .int, .array .byte, .int, .int, .int, .int, .int, .int, .int, .int, .array .long, .array .long, .array .long, .array .int, .array .long, .array .int, .int, .array .byte, .int]
/-- the globals of a run: the base of the cells, the script's cell, its length and ints, the String constants' cells and their arrays', the classes of arrays, the kit's tables -/
abbrev Gl : Type := Nat × Nat × Nat × (Nat → Int32) × (Nat → Nat) × (Nat → Nat) × (FieldType → ClassId) × va_G × Value
abbrev gB (G : Gl) : Nat := G.1
abbrev gScr (G : Gl) : Nat := G.2.1
abbrev gLen (G : Gl) : Nat := G.2.2.1
abbrev gXs (G : Gl) : Nat → Int32 := G.2.2.2.1
abbrev gSK (G : Gl) : Nat → Nat := G.2.2.2.2.1
abbrev gSV (G : Gl) : Nat → Nat := G.2.2.2.2.2.1
abbrev gA (G : Gl) : FieldType → ClassId := G.2.2.2.2.2.2.1
abbrev gD (G : Gl) : va_G := G.2.2.2.2.2.2.2.1
/-- the formatter that String.checkIndex hands on: null or a cell -/
abbrev gFm (G : Gl) : Value := G.2.2.2.2.2.2.2.2
/-- a reference or null -/
def gFc : Value → Value
  | .ref a => .ref a
  | _ => .null
/-- values as the machine has them: a reference is a cell's number; retAddr 0 the script, 1 the formatter, 2 k + 2 the String constant k, 2 k + 3 its bytes -/
def cv (G : Gl) : Value → Value
  | .ref i => .ref (gB G + i)
  | .retAddr 0 => .ref (gScr G)
  | .retAddr 1 => gFc (gFm G)
  | .retAddr (k + 2) => if k % 2 = 0 then .ref (gSK G (k / 2)) else .ref (gSV G (k / 2))
  | v => v
def fval (G : Gl) (M : Mem) (id k : Nat) : FieldType → Value
  | .long => .long (mL M id k)
  | .double => .double (mD M id k)
  | .object _ => va_rf ((mR M id k).map (fun i => gB G + i))
  | .array _ => va_rf ((mR M id k).map (fun i => gB G + i))
  | _ => .int (mI M id k)
def fvs (G : Gl) (M : Mem) (id : Nat) : Nat → List FieldType → List Value
  | _, [] => []
  | k, t :: ts => fval G M id k t :: fvs G M id (k + 1) ts
theorem fvs_get (G : Gl) (M : Mem) (id : Nat) : ∀ (ts : List FieldType) (k j : Nat) (t : FieldType), ts[j]? = some t → (fvs G M id k ts)[j]? = some (fval G M id (k + j) t)
  | [], k, j, t, h => by simp at h
  | u :: ts, k, 0, t, h => by simp at h; subst h; rfl
  | u :: ts, k, j + 1, t, h => by
    have := fvs_get G M id ts (k + 1) j t (by simpa using h)
    rw [show k + (j + 1) = k + 1 + j by omega]
    simpa [fvs] using this
theorem fvs_len (G : Gl) (M : Mem) (id : Nat) : ∀ (ts : List FieldType) (k : Nat), (fvs G M id k ts).length = ts.length
  | [], k => rfl
  | u :: ts, k => by simp [fvs, fvs_len G M id ts (k + 1)]
def adat (G : Gl) (M : Mem) (id : Nat) : FieldType → ((Nat → Int32) ⊕ (Nat → Int64) ⊕ (Nat → UInt32) ⊕ (Nat → UInt64) ⊕ (Nat → Option Nat))
  | .long => .inr (.inl (mL M id))
  | .double => .inr (.inr (.inr (.inl (mD M id))))
  | .object _ => .inr (.inr (.inr (.inr (fun k => (mR M id k).map (fun i => gB G + i)))))
  | _ => .inl (mI M id)
def ent (G : Gl) (M : Mem) (id : Nat) : Knd → va_E
  | .inl (t, n) => .inl (gA G t, n, adat G M id t)
  | .inr ci => .inr (ci, fvs G M id 0 (ftyA ci))
def wl (G : Gl) (M : Mem) : va_W := (mK M).mapIdx (fun i k => (gB G + i, ent G M i k))
theorem wl_get {G : Gl} {M : Mem} {i : Nat} {k : Knd} (h : (mK M)[i]? = some k) : (wl G M)[i]? = some (gB G + i, ent G M i k) := by
  simp [wl, List.getElem?_mapIdx, h]
theorem wl_len (G : Gl) (M : Mem) : (wl G M).length = (mK M).length := by simp [wl]
theorem wl_D (G : Gl) (M : Mem) : va_D (fun q => gB G ≤ q) (wl G M) := by
  refine ⟨fun i j p q hp hq h => ?_, fun k q hq => ?_⟩
  · simp only [wl, List.getElem?_mapIdx, Option.map_eq_some_iff] at hp hq
    obtain ⟨a, -, rfl⟩ := hp
    obtain ⟨b, -, rfl⟩ := hq
    simp only at h
    omega
  · simp only [wl, List.getElem?_mapIdx, Option.map_eq_some_iff] at hq
    obtain ⟨b, -, rfl⟩ := hq
    simp
def Rel (G : Gl) (M : Mem) (H : Heap) : Prop := va_P (gD G) vwCl (wl G M) H ∧ (mX M = true → H.size = gB G + (mK M).length) ∧ gB G + (mK M).length ≤ H.size ∧ mS M = (gLen G, gXs G)
def tyl (G : Gl) : List (ClassId × FieldType) := [(gA G .int, .int), (gA G .long, .long), (gA G .byte, .byte), (gA G .boolean, .boolean), (gA G .double, .double), (gA G (.object "BitDesk$State"), .object "BitDesk$State"), (gA G (.object "BitDesk$Matrix"), .object "BitDesk$Matrix"), (gA G (.object "BitDesk$Closure"), .object "BitDesk$Closure")]
/-- writing one cell -/
theorem wl_set {G : Gl} {M M' : Mem} {i : Nat} {k : Knd} (h : (mK M)[i]? = some k) (hK : mK M' = mK M) (ho : ∀ j x, j ≠ i → (mK M)[j]? = some x → ent G M' j x = ent G M j x) : (wl G M).set i (gB G + i, ent G M' i k) = wl G M' := by
  apply List.ext_getElem?
  intro j
  rw [List.getElem?_set]
  by_cases hj : i = j
  · subst hj
    have hl : i < (wl G M).length := by rw [wl_len]; exact (List.getElem?_eq_some_iff.mp h).1
    rw [if_pos rfl, if_pos hl, wl_get (by rw [hK]; exact h)]
  · rw [if_neg hj]
    simp only [wl, List.getElem?_mapIdx, hK]
    cases hx : (mK M)[j]? with
    | none => rfl
    | some x => simp only [Option.map_some]; rw [ho j x (fun e => hj e.symm) hx]
abbrev Res : Type := Option Value ⊕ String
/-- a method: name, code, locals, what it returns, its handlers -/
abbrev Jm : Type := MethodName × ByteArray × Nat × Option FieldType × List (Nat × Nat × Nat × Nat)
def cwd (J : Jm) : Cond := if J.2.2.2.2 = [] then .code J.1 J.2.1 J.2.2.1 J.2.2.2.1 else .codeWith J.1 J.2.1 J.2.2.1 J.2.2.2.1 J.2.2.2.2
abbrev Go_A (G : Gl) : Nat → Prop := fun q => gB G ≤ q
def strT : List (String × Nat × String × List Int32) := [
  ("BitDesk$Reader", 65, "size", [115, 105, 122, 101]),
  ("BitDesk$Reader", 84, "edge", [101, 100, 103, 101]),
  ("BitDesk$Reader", 89, "row", [114, 111, 119]),
  ("BitDesk$Reader", 94, "fill", [102, 105, 108, 108]),
  ("BitDesk$Reader", 122, "unit", [117, 110, 105, 116]),
  ("BitDesk$Reader", 124, "ones", [111, 110, 101, 115]),
  ("BitDesk$Reader", 129, "ring", [114, 105, 110, 103]),
  ("BitDesk$Reader", 131, "lower", [108, 111, 119, 101, 114]),
  ("BitDesk$Reader", 99, "keep", [107, 101, 101, 112]),
  ("BitDesk$Reader", 104, "block", [98, 108, 111, 99, 107]),
  ("BitDesk", 333, "out of range", [111, 117, 116, 32, 111, 102, 32, 114, 97, 110, 103, 101]),
  ("BitDesk", 321, "no such slot", [110, 111, 32, 115, 117, 99, 104, 32, 115, 108, 111, 116]),
  ("BitDesk", 326, "no such row, column or node", [110, 111, 32, 115, 117, 99, 104, 32, 114, 111, 119, 44, 32, 99, 111, 108, 117, 109, 110, 32, 111, 114, 32, 110, 111, 100, 101]),
  ("BitDeskModel", 135, "size", [115, 105, 122, 101]),
  ("BitDeskModel", 161, "edge", [101, 100, 103, 101]),
  ("BitDeskModel", 166, "row", [114, 111, 119]),
  ("BitDeskModel", 171, "fill", [102, 105, 108, 108]),
  ("BitDeskModel", 146, "unit", [117, 110, 105, 116]),
  ("BitDeskModel", 148, "ones", [111, 110, 101, 115]),
  ("BitDeskModel", 150, "ring", [114, 105, 110, 103]),
  ("BitDeskModel", 152, "lower", [108, 111, 119, 101, 114]),
  ("BitDeskModel", 176, "keep", [107, 101, 101, 112]),
  ("BitDeskModel", 181, "block", [98, 108, 111, 99, 107])]
def nwF : List (String × Nat × String × String × String × String) := [
  ("BitDesk", 92, "BitDesk$Reader", "statement", "I", "BitDesk"),
  ("BitDesk", 76, "BitDesk$Reader", "error", "I", "BitDesk"),
  ("BitDesk", 80, "BitDesk$Reader", "errorPosition", "I", "BitDesk"),
  ("BitDesk$Reader", 108, "BitDesk$Matrix", "rows", "[I", "BitDesk"),
  ("BitDesk", 229, "BitDesk$Matrix", "rows", "[I", "BitDesk"),
  ("BitDesk$Reader", 115, "BitDesk$Matrix", "isKept", "Z", "BitDesk"),
  ("BitDesk", 288, "BitDesk$Matrix", "isKept", "Z", "BitDesk"),
  ("BitDesk", 295, "BitDesk$Matrix", "lookedLately", "I", "BitDesk"),
  ("BitDesk", 298, "BitDesk$Matrix", "lookedInAll", "I", "BitDesk"),
  ("BitDesk", 301, "BitDesk$Matrix", "timesMadeAnew", "I", "BitDesk"),
  ("BitDesk$Reader", 47, "BitDesk$State", "slots", "[LBitDesk$Matrix;", "BitDesk"),
  ("BitDesk", 225, "BitDesk$State", "slots", "[LBitDesk$Matrix;", "BitDesk"),
  ("BitDesk$Multiplier", 21, "BitDesk$State", "size", "I", "BitDesk"),
  ("BitDesk", 89, "BitDesk$State", "size", "I", "BitDesk"),
  ("BitDesk$Reader", 53, "BitDesk$State", "size", "I", "BitDesk"),
  ("BitDesk$Multiplier", 28, "BitDesk$State", "block", "I", "BitDesk"),
  ("BitDesk$Reader", 106, "BitDesk$State", "block", "I", "BitDesk"),
  ("BitDesk", 99, "BitDesk$State", "block", "I", "BitDesk"),
  ("BitDesk", 304, "BitDesk$State", "entriesMade", "I", "BitDesk"),
  ("BitDesk", 307, "BitDesk$State", "entriesTaken", "I", "BitDesk"),
  ("BitDesk", 166, "BitDesk$Closure", "reach", "[I", "BitDesk"),
  ("BitDesk", 341, "BitDesk$Closure", "isCurrent", "Z", "BitDesk"),
  ("BitDesk", 347, "BitDesk$Multiplier", "entriesMade", "I", "BitDesk"),
  ("BitDesk", 348, "BitDesk$Multiplier", "entriesTaken", "I", "BitDesk"),
  ("BitDesk", 273, "BitDesk$Elimination", "right", "[I", "BitDesk"),
  ("BitDesk", 207, "BitDesk$Elimination", "pivotCount", "I", "BitDesk")]
def nwM : List (String × Nat × MethodName × String) := [
  ("BitDesk$Reader", 126, ⟨"BitDesk", "lowest", "(I)I"⟩, "BitDesk"),
  ("BitDesk$Closure", 21, ⟨"BitDesk", "hasOne", "(II)Z"⟩, "BitDesk"),
  ("BitDesk$Closure", 29, ⟨"BitDesk", "columnOf", "([III)I"⟩, "BitDesk"),
  ("BitDesk$Closure", 33, ⟨"BitDesk", "lowestOne", "(I)I"⟩, "BitDesk"),
  ("BitDesk$Closure", 46, ⟨"BitDesk", "reachedFrom", "([III)I"⟩, "BitDesk"),
  ("BitDesk$Elimination", 47, ⟨"BitDesk", "hasOne", "(II)Z"⟩, "BitDesk"),
  ("BitDesk$Multiplier", 67, ⟨"BitDesk", "lowest", "(I)I"⟩, "BitDesk"),
  ("BitDesk$Multiplier", 60, ⟨"BitDesk", "hasOne", "(II)Z"⟩, "BitDesk")]
def NWL : List Cond := (nwF.map fun q => Cond.fieldLinkNest q.1 q.2.1 q.2.2.1 q.2.2.2.1 q.2.2.2.2.1 q.2.2.2.2.2) ++ nwM.map fun q => Cond.methodLinkNest q.1 q.2.1 q.2.2.1 q.2.2.2
def xDcl : List MethodName := [Bundle.initS "java/lang/RuntimeException", Bundle.initS "java/lang/Exception", Bundle.initS Bundle.tN]
def Ctx (l : Launch) (G : Gl) (s : State) : Prop :=
  l.stackTraces = false ∧ va_K (gD G) vwCl (tyl G) s ∧ (∀ w ∈ NWL, va_Nw w s) ∧
  vx_Zq Bundle.tN "UNASSIGNED_STACK" Bundle.steD (Go_A G) s s.heap ∧ vx_Zq Bundle.tN "SUPPRESSED_SENTINEL" Bundle.listD (Go_A G) s s.heap ∧
  (∀ (k : Nat) (q : String × Nat × String × List Int32), strT[k]? = some q → vk_R q.1 q.2.1 q.2.2.1 (gSK G k) s ∧ vk_S 1 [q.2.2.2.length] [q.2.2.2] (fun _ => gSK G k) (fun _ => gSV G k) (Go_A G) s s.heap) ∧
  va_Z "java/lang/String" "COMPACT_STRINGS" "Z" (.int 1) (Go_A G) s s.heap ∧
  (va_Z "jdk/internal/util/Preconditions" "SIOOBE_FORMATTER" "Ljava/util/function/BiFunction;" (gFm G) (Go_A G) s s.heap ∧ (gFm G = .null ∨ ∃ a, gFm G = .ref a)) ∧
  va_X (gScr G) (gLen G) (gXs G) s s.heap ∧ gScr G < gB G ∧ gB G ≤ s.heap.size ∧ va_Nw (.castable "java/lang/IndexOutOfBoundsException" "java/lang/IndexOutOfBoundsException") s ∧ va_Nw (.castable "java/lang/IllegalArgumentException" "java/lang/IllegalArgumentException") s ∧ va_Nc "java/lang/IllegalArgumentException" "java/lang/IndexOutOfBoundsException" s ∧ va_AO "BitDesk$State" s ∧ va_AO "BitDesk$Matrix" s ∧ va_AO "BitDesk$Closure" s ∧ ∀ x ∈ xDcl, va_Nw (.declares x) s
theorem Ctx.warm {l : Launch} {G : Gl} {s U : State} (hW : s.WarmedH U.vm) (hz : s.heap.size ≤ U.heap.size) (hk : ∀ q : Nat, q < s.heap.size → ¬ Go_A G q → U.heap[q]? = s.heap[q]?) (h : Ctx l G s) : Ctx l G U := by
  obtain ⟨h1, h2, h3, h4, h5, h6, h7, ⟨h8, h8'⟩, h9, h10, h11, h12, h13, h14, h15, h16, h17, h18⟩ := h
  have hA := hW.alike
  refine ⟨h1, va_K.moved hA h2, fun w hw => ?_, (h4.moved hA).kept hk, (h5.moved hA).kept hk, fun k q hq => ⟨(h6 k q hq).1.warm hW, ((h6 k q hq).2.moved hA).kept hk⟩, (h7.moved hA).kept hk, ⟨(h8.moved hA).kept hk, h8'⟩, (h9.moved hA).kept (hk _ (by omega) (by show ¬ gB G ≤ gScr G; omega)), h10, Nat.le_trans h11 hz, h12.warmC hW, h13.warmC hW, h14.moved hA, h15.moved hA, h16.moved hA, h17.moved hA, fun x hx => (h18 x hx).warmD hW⟩
  have h0 := h3 w hw
  unfold NWL at hw
  rcases List.mem_append.mp hw with h | h
  · obtain ⟨q, -, rfl⟩ := List.mem_map.mp h
    exact h0.warmF hW
  · obtain ⟨q, -, rfl⟩ := List.mem_map.mp h
    exact h0.warmM hW
def QcOf (G : Gl) (Q : Res → Mem → Prop) : Array Value → State → Outcome → State → Prop := fun _ st o t => (∃ (v : Option Value) (M' : Mem), o = .returned (v.map (cv G)) ∧ Q (.inl v) M' ∧ Rel G M' t.heap) ∧ va_F (Go_A G) st t
def XCOf (G : Gl) (Q : Res → Mem → Prop) : String → State → State → Prop := fun E st t => (∃ M' : Mem, Q (.inr E) M' ∧ Rel G M' t.heap) ∧ va_F (Go_A G) st t
def Stn (l : Launch) (J : Jm) (p : Program) (m : MethodId) (args : Array Value) (s : State) (meth : Method) (c : Code) : Prop :=
  CallFix p m c J.2.1 J.2.2.1 s args WS J.1.cls ∧ meth.sig.returnType = J.2.2.2.1 ∧ meth.locks = false ∧ c.exceptionTable.toList = tableOf J.2.2.2.2 ∧ meth.name = J.1.name
abbrev cvp (G : Gl) : Nat × Value → Nat × Value := fun q => (q.1, cv G q.2)
/-- from here the method comes to an end that Q knows; k cells of n slots may still be made -/
def Go (l : Launch) (J : Jm) (F L MC MS : Nat) (Q : Res → Mem → Prop) (pc : Nat) (lv : List (Nat × Value)) (st : List Value) (k n : Nat) (M : Mem) : Prop :=
  ∀ (p : Program) (e : Env) (s : State) (m : MethodId) (args : Array Value) (below : List Frame) (meth : Method) (c : Code) (G : Gl) (H : Heap) (locs : List Loc) (cells slots : Nat) (ls : Array Slot),
    Stn l J p m args s meth c → Ctx l G s → Rel G M H → va_S (Go_A G) s.heap H locs → lv_has ls J.2.2.1 (lv.map (cvp G)) → cells + k ≤ MC → slots + n ≤ MS →
    W p l e ({ frames := F, cells := MC, slots := MS, locals := L } : Room) s m args below meth c H locs cells slots (vx_MQ below (QcOf G Q) (XCOf G Q) args s MC MS (Go_A G)) (F0 m pc ls (st.map (cv G)))
/-- a method's contract -/
def Ev (l : Launch) (J : Jm) (F L mc ms : Nat) (As : List Value) (M : Mem) (Q : Res → Mem → Prop) : Prop :=
  ∀ G : Gl, vx_Met l J.1 (cwd J :: WS) ({ frames := F, cells := mc, slots := ms, locals := L } : Room) (va_Pc (As.map (cv G)) (fun s => Ctx l G s ∧ Rel G M s.heap)) (QcOf G Q) (XCOf G Q) mc ms (Go_A G)
theorem cv_cat (G : Gl) (v : Value) : (cv G v).category = v.category := by
  cases v with
  | retAddr k =>
    rcases k with _ | _ | k
    · rfl
    · show (gFc (gFm G)).category = _
      cases gFm G <;> rfl
    · show (if k % 2 = 0 then Value.ref (gSK G (k / 2)) else Value.ref (gSV G (k / 2))).category = _
      split <;> rfl
  | _ => rfl
theorem cv_cats (G : Gl) (st : List Value) : ((st.map (cv G)).map fun v => v.category).sum = (st.map fun v => v.category).sum := by
  rw [List.map_map]
  congr 1
  apply List.map_congr_left
  intro v _
  exact cv_cat G v
theorem lv_args_cv (G : Gl) : ∀ (vs : List Value) (i : Nat), lv_args i (vs.map (cv G)) = (lv_args i vs).map (cvp G)
  | [], i => rfl
  | v :: vs, i => by
    show (i, cv G v) :: lv_args (if (cv G v).category = 2 then i + 2 else i + 1) (vs.map (cv G)) = _
    rw [cv_cat, lv_args_cv G vs]
    rfl
theorem lg_sl_cv (G : Gl) : ∀ (vs : List Value), (lg_sl (vs.map (cv G))).length = (lg_sl vs).length
  | [] => rfl
  | v :: vs => by
    have ih := lg_sl_cv G vs
    simp only [lg_sl, List.map_cons, List.flatMap_cons, List.length_append, cv_cat] at ih ⊢
    rw [ih]
    congr 1
    by_cases h : v.category = 2 <;> simp [h]
theorem nwF_apart : ∀ q ∈ nwF, q.1 ≠ q.2.2.1 := by decide +kernel
end
-- 03.rules
section
/-! THE RULES: one an instruction, for Go. -/
section
variable {l : Launch} {J : Jm} {F L MC MS : Nat} {Q : Res → Mem → Prop} {pc : Nat} {lv : List (Nat × Value)} {st : List Value} {k n : Nat} {M : Mem}
theorem nbeq (a b : Nat) : Nat.beq a b = (a == b) := by
  rw [Bool.eq_iff_iff, Nat.beq_eq]
  simp
def lvG : List (Nat × Value) → Nat → Option Value
  | [], _ => none
  | q :: t, i => match Nat.beq q.1 i with
    | true => some q.2
    | false => lvG t i
theorem lvG_mem : ∀ {lv : List (Nat × Value)} {i : Nat} {v : Value}, lvG lv i = some v → (i, v) ∈ lv
  | [], i, v, h => by cases h
  | q :: t, i, v, h => by
    unfold lvG at h
    split at h
    next hb =>
      have := Nat.eq_of_beq_eq_true hb
      cases h
      subst this
      exact List.mem_cons_self
    next => exact List.mem_cons_of_mem _ (lvG_mem h)
/-- behind a store of one slot -/
def lvF1 (i : Nat) : List (Nat × Value) → List (Nat × Value)
  | [] => []
  | q :: t => match Nat.beq q.1 i with
    | true => lvF1 i t
    | false => match Nat.beq (q.1 + 1) i && Nat.beq q.2.category 2 with
      | true => lvF1 i t
      | false => q :: lvF1 i t
def lvS1 (i : Nat) (v : Value) : List (Nat × Value) → List (Nat × Value)
  | [] => [(i, v)]
  | q :: t => match Nat.beq q.1 i with
    | true => (i, v) :: lvF1 i t
    | false => match Nat.beq (q.1 + 1) i && Nat.beq q.2.category 2 with
      | true => lvS1 i v t
      | false => q :: lvS1 i v t
def lvF2 (i : Nat) : List (Nat × Value) → List (Nat × Value)
  | [] => []
  | q :: t => match Nat.beq q.1 i || Nat.beq q.1 (i + 1) with
    | true => lvF2 i t
    | false => match Nat.beq (q.1 + 1) i && Nat.beq q.2.category 2 with
      | true => lvF2 i t
      | false => q :: lvF2 i t
def lvS2 (i : Nat) (v : Value) : List (Nat × Value) → List (Nat × Value)
  | [] => [(i, v)]
  | q :: t => match Nat.beq q.1 i with
    | true => (i, v) :: lvF2 i t
    | false => match Nat.beq q.1 (i + 1) with
      | true => lvS2 i v t
      | false => match Nat.beq (q.1 + 1) i && Nat.beq q.2.category 2 with
        | true => lvS2 i v t
        | false => q :: lvS2 i v t
abbrev pr1 (i : Nat) : Nat × Value → Bool := fun q => !(q.1 == i) && !(q.1 + 1 == i && q.2.category == 2)
abbrev pr2 (i : Nat) : Nat × Value → Bool := fun q => !(q.1 == i) && (!(q.1 == i + 1) && !(q.1 + 1 == i && q.2.category == 2))
theorem lvF1_mem {i : Nat} : ∀ {lv : List (Nat × Value)} {q : Nat × Value}, q ∈ lvF1 i lv → q ∈ lv ∧ pr1 i q = true
  | [], q, h => by cases h
  | u :: t, q, h => by
    unfold lvF1 at h
    split at h
    next => exact ⟨List.mem_cons_of_mem _ (lvF1_mem h).1, (lvF1_mem h).2⟩
    next hb =>
      split at h
      next => exact ⟨List.mem_cons_of_mem _ (lvF1_mem h).1, (lvF1_mem h).2⟩
      next hc =>
        rcases List.mem_cons.mp h with rfl | h
        · refine ⟨List.mem_cons_self, ?_⟩
          have hb' : (q.1 == i) = false := by simpa only [nbeq] using hb
          have hc' : (q.1 + 1 == i && q.2.category == 2) = false := by simpa only [nbeq] using hc
          simp only [pr1, hb', hc', Bool.not_false, Bool.and_self]
        · exact ⟨List.mem_cons_of_mem _ (lvF1_mem h).1, (lvF1_mem h).2⟩
theorem lvS1_mem {i : Nat} {v : Value} : ∀ {lv : List (Nat × Value)} {q : Nat × Value}, q ∈ lvS1 i v lv → q = (i, v) ∨ (q ∈ lv ∧ pr1 i q = true)
  | [], q, h => by rcases List.mem_cons.mp h with h | h
                   · exact Or.inl h
                   · cases h
  | u :: t, q, h => by
    unfold lvS1 at h
    split at h
    next =>
      rcases List.mem_cons.mp h with h | h
      · exact Or.inl h
      · exact Or.inr ⟨List.mem_cons_of_mem _ (lvF1_mem h).1, (lvF1_mem h).2⟩
    next hb =>
      split at h
      next =>
        rcases lvS1_mem h with h | ⟨h1, h2⟩
        · exact Or.inl h
        · exact Or.inr ⟨List.mem_cons_of_mem _ h1, h2⟩
      next hc =>
        rcases List.mem_cons.mp h with rfl | h
        · refine Or.inr ⟨List.mem_cons_self, ?_⟩
          have hb' : (q.1 == i) = false := by simpa only [nbeq] using hb
          have hc' : (q.1 + 1 == i && q.2.category == 2) = false := by simpa only [nbeq] using hc
          simp only [pr1, hb', hc', Bool.not_false, Bool.and_self]
        · rcases lvS1_mem h with h | ⟨h1, h2⟩
          · exact Or.inl h
          · exact Or.inr ⟨List.mem_cons_of_mem _ h1, h2⟩
theorem lvF2_mem {i : Nat} : ∀ {lv : List (Nat × Value)} {q : Nat × Value}, q ∈ lvF2 i lv → q ∈ lv ∧ pr2 i q = true
  | [], q, h => by cases h
  | u :: t, q, h => by
    unfold lvF2 at h
    split at h
    next => exact ⟨List.mem_cons_of_mem _ (lvF2_mem h).1, (lvF2_mem h).2⟩
    next hb =>
      split at h
      next => exact ⟨List.mem_cons_of_mem _ (lvF2_mem h).1, (lvF2_mem h).2⟩
      next hc =>
        rcases List.mem_cons.mp h with rfl | h
        · refine ⟨List.mem_cons_self, ?_⟩
          have hb' : ((q.1 == i) || (q.1 == i + 1)) = false := by simpa only [nbeq] using hb
          have hc' : (q.1 + 1 == i && q.2.category == 2) = false := by simpa only [nbeq] using hc
          obtain ⟨b1, b2⟩ := Bool.or_eq_false_iff.mp hb'
          simp only [pr2, b1, b2, hc', Bool.not_false, Bool.and_self]
        · exact ⟨List.mem_cons_of_mem _ (lvF2_mem h).1, (lvF2_mem h).2⟩
theorem lvS2_mem {i : Nat} {v : Value} : ∀ {lv : List (Nat × Value)} {q : Nat × Value}, q ∈ lvS2 i v lv → q = (i, v) ∨ (q ∈ lv ∧ pr2 i q = true)
  | [], q, h => by rcases List.mem_cons.mp h with h | h
                   · exact Or.inl h
                   · cases h
  | u :: t, q, h => by
    unfold lvS2 at h
    split at h
    next =>
      rcases List.mem_cons.mp h with h | h
      · exact Or.inl h
      · exact Or.inr ⟨List.mem_cons_of_mem _ (lvF2_mem h).1, (lvF2_mem h).2⟩
    next hb =>
      split at h
      next =>
        rcases lvS2_mem h with h | ⟨h1, h2⟩
        · exact Or.inl h
        · exact Or.inr ⟨List.mem_cons_of_mem _ h1, h2⟩
      next hb2 =>
        split at h
        next =>
          rcases lvS2_mem h with h | ⟨h1, h2⟩
          · exact Or.inl h
          · exact Or.inr ⟨List.mem_cons_of_mem _ h1, h2⟩
        next hc =>
          rcases List.mem_cons.mp h with rfl | h
          · refine Or.inr ⟨List.mem_cons_self, ?_⟩
            have hb' : (q.1 == i) = false := by simpa only [nbeq] using hb
            have hb2' : (q.1 == i + 1) = false := by simpa only [nbeq] using hb2
            have hc' : (q.1 + 1 == i && q.2.category == 2) = false := by simpa only [nbeq] using hc
            simp only [pr2, hb', hb2', hc', Bool.not_false, Bool.and_self]
          · rcases lvS2_mem h with h | ⟨h1, h2⟩
            · exact Or.inl h
            · exact Or.inr ⟨List.mem_cons_of_mem _ h1, h2⟩
theorem lvH_get {G : Gl} {ls : Array Slot} {nL i : Nat} {v : Value} (hl : lv_has ls nL (lv.map (cvp G))) (h : lvG lv i = some v) : ls[i]? = some (.val (cv G v)) :=
  hl.2.2 (i, cv G v) (List.mem_map.mpr ⟨(i, v), lvG_mem h, rfl⟩)
theorem lvH_S1 {G : Gl} {ls : Array Slot} {nL i : Nat} {v : Value} {lv' : List (Nat × Value)} (e : lvS1 i v lv = lv') (h : lv_has ls nL ((i, cv G v) :: (lv.map (cvp G)).filter (pr1 i))) : lv_has ls nL (lv'.map (cvp G)) := by
  subst e
  refine ⟨h.1, h.2.1, fun q hq => h.2.2 q ?_⟩
  obtain ⟨u, hu, rfl⟩ := List.mem_map.mp hq
  rcases lvS1_mem hu with rfl | ⟨h1, h2⟩
  · exact List.mem_cons_self
  · refine List.mem_cons_of_mem _ (List.mem_filter.mpr ⟨List.mem_map.mpr ⟨u, h1, rfl⟩, ?_⟩)
    simp only [cvp, pr1, cv_cat] at h2 ⊢
    exact h2
theorem lvH_S2 {G : Gl} {ls : Array Slot} {nL i : Nat} {v : Value} {lv' : List (Nat × Value)} (e : lvS2 i v lv = lv') (h : lv_has ls nL ((i, cv G v) :: (lv.map (cvp G)).filter (pr2 i))) : lv_has ls nL (lv'.map (cvp G)) := by
  subst e
  refine ⟨h.1, h.2.1, fun q hq => h.2.2 q ?_⟩
  obtain ⟨u, hu, rfl⟩ := List.mem_map.mp hq
  rcases lvS2_mem hu with rfl | ⟨h1, h2⟩
  · exact List.mem_cons_self
  · refine List.mem_cons_of_mem _ (List.mem_filter.mpr ⟨List.mem_map.mpr ⟨u, h1, rfl⟩, ?_⟩)
    simp only [cvp, pr2, cv_cat] at h2 ⊢
    exact h2
def lvSub (lv : List (Nat × Value)) : List (Nat × Value) → Prop
  | [] => True
  | q :: t => lvG lv q.1 = some q.2 ∧ lvSub lv t
theorem lvSub_mem : ∀ {lv' : List (Nat × Value)}, lvSub lv lv' → ∀ q ∈ lv', q ∈ lv
  | [], _, q, h => by cases h
  | u :: t, h, q, hq => by
    rcases List.mem_cons.mp hq with rfl | hq
    · exact lvG_mem h.1
    · exact lvSub_mem h.2 q hq
/-- fewer locals -/
theorem g_sub {lv' : List (Nat × Value)} (h : lvSub lv lv') (kk : Go l J F L MC MS Q pc lv' st k n M) : Go l J F L MC MS Q pc lv st k n M := by
  intro p e s m args below meth c G H locs cells slots ls hX hC hR hS hl hc hs
  refine kk p e s m args below meth c G H locs cells slots ls hX hC hR hS ⟨hl.1, hl.2.1, fun q hq => hl.2.2 q ?_⟩ hc hs
  obtain ⟨u, hu, rfl⟩ := List.mem_map.mp hq
  exact List.mem_map.mpr ⟨u, lvSub_mem h u hu, rfl⟩
/-- less room asked -/
theorem g_less {k' n' : Nat} (h1 : k' ≤ k) (h2 : n' ≤ n) (kk : Go l J F L MC MS Q pc lv st k' n' M) : Go l J F L MC MS Q pc lv st k n M := by
  intro p e s m args below meth c G H locs cells slots ls hX hC hR hS hl hc hs
  exact kk p e s m args below meth c G H locs cells slots ls hX hC hR hS hl (by omega) (by omega)
theorem g_iconst {i : Int} {v : Int32} (hd : decode J.2.1 pc = .ok (.iconst i, 1)) (hv : Int32.ofInt i = v) (kk : Go l J F L MC MS Q (pc + 1) lv (.int v :: st) k n M) : Go l J F L MC MS Q pc lv (st) k n M := by
  intro p e s m args below meth c G H locs cells slots ls hX hC hR hS hl hc hs
  exact lv_iconst hX.1.1 hX.1.2.1 hd hv (kk p e s m args below meth c G H locs cells slots ls hX hC hR hS hl hc hs)
theorem g_bipush {i : Int} {v : Int32} (hd : decode J.2.1 pc = .ok (.bipush i, 2)) (hv : (Int8.ofInt i).toInt32 = v) (kk : Go l J F L MC MS Q (pc + 2) lv (.int v :: st) k n M) : Go l J F L MC MS Q pc lv (st) k n M := by
  intro p e s m args below meth c G H locs cells slots ls hX hC hR hS hl hc hs
  exact lv_bipush hX.1.1 hX.1.2.1 hd hv (kk p e s m args below meth c G H locs cells slots ls hX hC hR hS hl hc hs)
theorem g_sipush {i : Int} {v : Int32} (hd : decode J.2.1 pc = .ok (.sipush i, 3)) (hv : (Int16.ofInt i).toInt32 = v) (kk : Go l J F L MC MS Q (pc + 3) lv (.int v :: st) k n M) : Go l J F L MC MS Q pc lv (st) k n M := by
  intro p e s m args below meth c G H locs cells slots ls hX hC hR hS hl hc hs
  exact lv_sipush hX.1.1 hX.1.2.1 hd hv (kk p e s m args below meth c G H locs cells slots ls hX hC hR hS hl hc hs)
theorem g_lconst {i : Fin 2} {v : Int64} (hd : decode J.2.1 pc = .ok (.lconst i, 1)) (hv : Int64.ofNat (i : Nat) = v) (kk : Go l J F L MC MS Q (pc + 1) lv (.long v :: st) k n M) : Go l J F L MC MS Q pc lv (st) k n M := by
  intro p e s m args below meth c G H locs cells slots ls hX hC hR hS hl hc hs
  exact lv_lconst hX.1.1 hX.1.2.1 hd hv (kk p e s m args below meth c G H locs cells slots ls hX hC hR hS hl hc hs)
theorem g_ldc {ix : Nat} {v : Int32} (hd : decode J.2.1 pc = .ok (.ldc ix, 2)) (hw : Cond.constant J.1.cls ix v ∈ WS) (kk : Go l J F L MC MS Q (pc + 2) lv (.int v :: st) k n M) : Go l J F L MC MS Q pc lv st k n M := by
  intro p e s m args below meth c G H locs cells slots ls hX hC hR hS hl hc hs
  exact lv_ldc hX.1.1 hX.1.2.1 hX.1.2.2.2.1 (hX.1.2.2.2.2 _ hw) hd (kk p e s m args below meth c G H locs cells slots ls hX hC hR hS hl hc hs)
theorem g_ldc2 {ix : Nat} {v : Int64} (hd : decode J.2.1 pc = .ok (.ldc2_w ix, 3)) (hw : Cond.constantLong J.1.cls ix v ∈ WS) (kk : Go l J F L MC MS Q (pc + 3) lv (.long v :: st) k n M) : Go l J F L MC MS Q pc lv st k n M := by
  intro p e s m args below meth c G H locs cells slots ls hX hC hR hS hl hc hs
  exact lv_ldc2 hX.1.1 hX.1.2.1 hX.1.2.2.2.1 (hX.1.2.2.2.2 _ hw) hd (kk p e s m args below meth c G H locs cells slots ls hX hC hR hS hl hc hs)
theorem g_ldcw {ix : Nat} {v : Int32} (hd : decode J.2.1 pc = .ok (.ldc_w ix, 3)) (hw : Cond.constant J.1.cls ix v ∈ WS) (kk : Go l J F L MC MS Q (pc + 3) lv (.int v :: st) k n M) : Go l J F L MC MS Q pc lv st k n M := by
  intro p e s m args below meth c G H locs cells slots ls hX hC hR hS hl hc hs
  exact lv_ldcw hX.1.1 hX.1.2.1 hX.1.2.2.2.1 (hX.1.2.2.2.2 _ hw) hd (kk p e s m args below meth c G H locs cells slots ls hX hC hR hS hl hc hs)
theorem g_iload {i : Nat} {x : Int32} (hd : decode J.2.1 pc = .ok (.iload i, 2)) (hv : lvG lv i = some (.int x)) (kk : Go l J F L MC MS Q (pc + 2) lv (.int x :: st) k n M) : Go l J F L MC MS Q pc lv (st) k n M := by
  intro p e s m args below meth c G H locs cells slots ls hX hC hR hS hl hc hs
  exact lv_iload hX.1.1 hX.1.2.1 hd (lvH_get hl hv) (kk p e s m args below meth c G H locs cells slots ls hX hC hR hS hl hc hs)
theorem g_iload_n {j : Fin 4} {x : Int32} (hd : decode J.2.1 pc = .ok (.iload_n j, 1)) (hv : lvG lv j.val = some (.int x)) (kk : Go l J F L MC MS Q (pc + 1) lv (.int x :: st) k n M) : Go l J F L MC MS Q pc lv (st) k n M := by
  intro p e s m args below meth c G H locs cells slots ls hX hC hR hS hl hc hs
  exact lv_iload_n hX.1.1 hX.1.2.1 hd rfl (lvH_get hl hv) (kk p e s m args below meth c G H locs cells slots ls hX hC hR hS hl hc hs)
theorem g_lload {i : Nat} {x : Int64} (hd : decode J.2.1 pc = .ok (.lload i, 2)) (hv : lvG lv i = some (.long x)) (kk : Go l J F L MC MS Q (pc + 2) lv (.long x :: st) k n M) : Go l J F L MC MS Q pc lv (st) k n M := by
  intro p e s m args below meth c G H locs cells slots ls hX hC hR hS hl hc hs
  exact lv_lload hX.1.1 hX.1.2.1 hd (lvH_get hl hv) (kk p e s m args below meth c G H locs cells slots ls hX hC hR hS hl hc hs)
theorem g_lload_n {j : Fin 4} {x : Int64} (hd : decode J.2.1 pc = .ok (.lload_n j, 1)) (hv : lvG lv j.val = some (.long x)) (kk : Go l J F L MC MS Q (pc + 1) lv (.long x :: st) k n M) : Go l J F L MC MS Q pc lv (st) k n M := by
  intro p e s m args below meth c G H locs cells slots ls hX hC hR hS hl hc hs
  exact lv_lload_n hX.1.1 hX.1.2.1 hd rfl (lvH_get hl hv) (kk p e s m args below meth c G H locs cells slots ls hX hC hR hS hl hc hs)
theorem g_fload {i : Nat} {x : UInt32} (hd : decode J.2.1 pc = .ok (.fload i, 2)) (hv : lvG lv i = some (.float x)) (kk : Go l J F L MC MS Q (pc + 2) lv (.float x :: st) k n M) : Go l J F L MC MS Q pc lv (st) k n M := by
  intro p e s m args below meth c G H locs cells slots ls hX hC hR hS hl hc hs
  exact lv_fload hX.1.1 hX.1.2.1 hd (lvH_get hl hv) (kk p e s m args below meth c G H locs cells slots ls hX hC hR hS hl hc hs)
theorem g_fload_n {j : Fin 4} {x : UInt32} (hd : decode J.2.1 pc = .ok (.fload_n j, 1)) (hv : lvG lv j.val = some (.float x)) (kk : Go l J F L MC MS Q (pc + 1) lv (.float x :: st) k n M) : Go l J F L MC MS Q pc lv (st) k n M := by
  intro p e s m args below meth c G H locs cells slots ls hX hC hR hS hl hc hs
  exact lv_fload_n hX.1.1 hX.1.2.1 hd rfl (lvH_get hl hv) (kk p e s m args below meth c G H locs cells slots ls hX hC hR hS hl hc hs)
theorem g_dload {i : Nat} {x : UInt64} (hd : decode J.2.1 pc = .ok (.dload i, 2)) (hv : lvG lv i = some (.double x)) (kk : Go l J F L MC MS Q (pc + 2) lv (.double x :: st) k n M) : Go l J F L MC MS Q pc lv (st) k n M := by
  intro p e s m args below meth c G H locs cells slots ls hX hC hR hS hl hc hs
  exact lv_dload hX.1.1 hX.1.2.1 hd (lvH_get hl hv) (kk p e s m args below meth c G H locs cells slots ls hX hC hR hS hl hc hs)
theorem g_dload_n {j : Fin 4} {x : UInt64} (hd : decode J.2.1 pc = .ok (.dload_n j, 1)) (hv : lvG lv j.val = some (.double x)) (kk : Go l J F L MC MS Q (pc + 1) lv (.double x :: st) k n M) : Go l J F L MC MS Q pc lv (st) k n M := by
  intro p e s m args below meth c G H locs cells slots ls hX hC hR hS hl hc hs
  exact lv_dload_n hX.1.1 hX.1.2.1 hd rfl (lvH_get hl hv) (kk p e s m args below meth c G H locs cells slots ls hX hC hR hS hl hc hs)
/-- a value that is a reference or null for the machine -/
def isR : Value → Prop
  | .ref _ => True
  | .retAddr _ => True
  | .null => True
  | _ => False
theorem isR_cv (G : Gl) {v : Value} (h : isR v) : cv G v = .null ∨ ∃ a, cv G v = .ref a := by
  cases v with
  | ref a => exact Or.inr ⟨_, rfl⟩
  | null => exact Or.inl rfl
  | retAddr j =>
    rcases j with _ | _ | j
    · exact Or.inr ⟨_, rfl⟩
    · show gFc (gFm G) = .null ∨ ∃ a, gFc (gFm G) = .ref a
      cases gFm G <;> first | exact Or.inl rfl | exact Or.inr ⟨_, rfl⟩
    · show (if j % 2 = 0 then Value.ref (gSK G (j / 2)) else Value.ref (gSV G (j / 2))) = .null ∨ ∃ a, (if j % 2 = 0 then Value.ref (gSK G (j / 2)) else Value.ref (gSV G (j / 2))) = .ref a
      split <;> exact Or.inr ⟨_, rfl⟩
  | _ => exact absurd h (by simp [isR])
/-- a value that is a reference for the machine, for sure -/
def isA : Value → Prop
  | .ref _ => True
  | .retAddr j => j ≠ 1
  | _ => False
theorem isA_cv (G : Gl) {v : Value} (h : isA v) : ∃ a, cv G v = .ref a := by
  cases v with
  | ref a => exact ⟨_, rfl⟩
  | retAddr j =>
    rcases j with _ | _ | j
    · exact ⟨_, rfl⟩
    · exact absurd rfl h
    · show ∃ a, (if j % 2 = 0 then Value.ref (gSK G (j / 2)) else Value.ref (gSV G (j / 2))) = .ref a
      split <;> exact ⟨_, rfl⟩
  | _ => exact absurd h (by simp [isA])
theorem g_aload {i : Nat} {v : Value} (hd : decode J.2.1 pc = .ok (.aload i, 2)) (hv : lvG lv i = some v) (hr : isA v) (kk : Go l J F L MC MS Q (pc + 2) lv (v :: st) k n M) : Go l J F L MC MS Q pc lv st k n M := by
  intro p e s m args below meth c G H locs cells slots ls hX hC hR hS hl hc hs
  obtain ⟨a, ha⟩ := isA_cv G hr
  have h0 := lvH_get hl hv
  have h1 := kk p e s m args below meth c G H locs cells slots ls hX hC hR hS hl hc hs
  rw [List.map_cons] at h1
  rw [ha] at h0 h1
  exact lv_aload hX.1.1 hX.1.2.1 hd h0 h1
theorem g_aload_n {j : Fin 4} {v : Value} (hd : decode J.2.1 pc = .ok (.aload_n j, 1)) (hv : lvG lv j.val = some v) (hr : isA v) (kk : Go l J F L MC MS Q (pc + 1) lv (v :: st) k n M) : Go l J F L MC MS Q pc lv st k n M := by
  intro p e s m args below meth c G H locs cells slots ls hX hC hR hS hl hc hs
  obtain ⟨a, ha⟩ := isA_cv G hr
  have h0 := lvH_get hl hv
  have h1 := kk p e s m args below meth c G H locs cells slots ls hX hC hR hS hl hc hs
  rw [List.map_cons] at h1
  rw [ha] at h0 h1
  exact lv_aload_n hX.1.1 hX.1.2.1 hd rfl h0 h1
theorem g_istore {i : Nat} {x : Int32} {lv' : List (Nat × Value)} (hd : decode J.2.1 pc = .ok (.istore i, 2)) (hn : i < J.2.2.1) (hv : lvS1 i (.int x) lv = lv') (kk : Go l J F L MC MS Q (pc + 2) lv' st k n M) : Go l J F L MC MS Q pc lv (.int x :: st) k n M := by
  intro p e s m args below meth c G H locs cells slots ls hX hC hR hS hl hc hs
  exact lv_istore hX.1.1 hX.1.2.1 hd hl hn rfl (fun ls' hl' => kk p e s m args below meth c G H locs cells slots ls' hX hC hR hS (lvH_S1 hv hl') hc hs)
theorem g_istore_n {j : Fin 4} {x : Int32} {lv' : List (Nat × Value)} (hd : decode J.2.1 pc = .ok (.istore_n j, 1)) (hn : j.val < J.2.2.1) (hv : lvS1 j.val (.int x) lv = lv') (kk : Go l J F L MC MS Q (pc + 1) lv' st k n M) : Go l J F L MC MS Q pc lv (.int x :: st) k n M := by
  intro p e s m args below meth c G H locs cells slots ls hX hC hR hS hl hc hs
  exact lv_istore_n hX.1.1 hX.1.2.1 hd rfl hl hn rfl (fun ls' hl' => kk p e s m args below meth c G H locs cells slots ls' hX hC hR hS (lvH_S1 hv hl') hc hs)
theorem g_lstore {i : Nat} {x : Int64} {lv' : List (Nat × Value)} (hd : decode J.2.1 pc = .ok (.lstore i, 2)) (hn : i + 1 < J.2.2.1) (hv : lvS2 i (.long x) lv = lv') (kk : Go l J F L MC MS Q (pc + 2) lv' st k n M) : Go l J F L MC MS Q pc lv (.long x :: st) k n M := by
  intro p e s m args below meth c G H locs cells slots ls hX hC hR hS hl hc hs
  exact lv_lstore hX.1.1 hX.1.2.1 hd hl hn rfl (fun ls' hl' => kk p e s m args below meth c G H locs cells slots ls' hX hC hR hS (lvH_S2 hv hl') hc hs)
theorem g_lstore_n {j : Fin 4} {x : Int64} {lv' : List (Nat × Value)} (hd : decode J.2.1 pc = .ok (.lstore_n j, 1)) (hn : j.val + 1 < J.2.2.1) (hv : lvS2 j.val (.long x) lv = lv') (kk : Go l J F L MC MS Q (pc + 1) lv' st k n M) : Go l J F L MC MS Q pc lv (.long x :: st) k n M := by
  intro p e s m args below meth c G H locs cells slots ls hX hC hR hS hl hc hs
  exact lv_lstore_n hX.1.1 hX.1.2.1 hd rfl hl hn rfl (fun ls' hl' => kk p e s m args below meth c G H locs cells slots ls' hX hC hR hS (lvH_S2 hv hl') hc hs)
theorem g_fstore {i : Nat} {x : UInt32} {lv' : List (Nat × Value)} (hd : decode J.2.1 pc = .ok (.fstore i, 2)) (hn : i < J.2.2.1) (hv : lvS1 i (.float x) lv = lv') (kk : Go l J F L MC MS Q (pc + 2) lv' st k n M) : Go l J F L MC MS Q pc lv (.float x :: st) k n M := by
  intro p e s m args below meth c G H locs cells slots ls hX hC hR hS hl hc hs
  exact lv_fstore hX.1.1 hX.1.2.1 hd hl hn rfl (fun ls' hl' => kk p e s m args below meth c G H locs cells slots ls' hX hC hR hS (lvH_S1 hv hl') hc hs)
theorem g_fstore_n {j : Fin 4} {x : UInt32} {lv' : List (Nat × Value)} (hd : decode J.2.1 pc = .ok (.fstore_n j, 1)) (hn : j.val < J.2.2.1) (hv : lvS1 j.val (.float x) lv = lv') (kk : Go l J F L MC MS Q (pc + 1) lv' st k n M) : Go l J F L MC MS Q pc lv (.float x :: st) k n M := by
  intro p e s m args below meth c G H locs cells slots ls hX hC hR hS hl hc hs
  exact lv_fstore_n hX.1.1 hX.1.2.1 hd rfl hl hn rfl (fun ls' hl' => kk p e s m args below meth c G H locs cells slots ls' hX hC hR hS (lvH_S1 hv hl') hc hs)
theorem g_dstore {i : Nat} {x : UInt64} {lv' : List (Nat × Value)} (hd : decode J.2.1 pc = .ok (.dstore i, 2)) (hn : i + 1 < J.2.2.1) (hv : lvS2 i (.double x) lv = lv') (kk : Go l J F L MC MS Q (pc + 2) lv' st k n M) : Go l J F L MC MS Q pc lv (.double x :: st) k n M := by
  intro p e s m args below meth c G H locs cells slots ls hX hC hR hS hl hc hs
  exact lv_dstore hX.1.1 hX.1.2.1 hd hl hn rfl (fun ls' hl' => kk p e s m args below meth c G H locs cells slots ls' hX hC hR hS (lvH_S2 hv hl') hc hs)
theorem g_dstore_n {j : Fin 4} {x : UInt64} {lv' : List (Nat × Value)} (hd : decode J.2.1 pc = .ok (.dstore_n j, 1)) (hn : j.val + 1 < J.2.2.1) (hv : lvS2 j.val (.double x) lv = lv') (kk : Go l J F L MC MS Q (pc + 1) lv' st k n M) : Go l J F L MC MS Q pc lv (.double x :: st) k n M := by
  intro p e s m args below meth c G H locs cells slots ls hX hC hR hS hl hc hs
  exact lv_dstore_n hX.1.1 hX.1.2.1 hd rfl hl hn rfl (fun ls' hl' => kk p e s m args below meth c G H locs cells slots ls' hX hC hR hS (lvH_S2 hv hl') hc hs)
theorem g_astore {i : Nat} {v : Value} {lv' : List (Nat × Value)} (hd : decode J.2.1 pc = .ok (.astore i, 2)) (hr : isA v) (hn : i < J.2.2.1) (hv : lvS1 i v lv = lv') (kk : Go l J F L MC MS Q (pc + 2) lv' st k n M) : Go l J F L MC MS Q pc lv (v :: st) k n M := by
  intro p e s m args below meth c G H locs cells slots ls hX hC hR hS hl hc hs
  obtain ⟨a, ha⟩ := isA_cv G hr
  have h1 : ∀ ls' : Array Slot, lv_has ls' J.2.2.1 ((i, cv G v) :: (lv.map (cvp G)).filter (pr1 i)) → _ := fun ls' hl' => kk p e s m args below meth c G H locs cells slots ls' hX hC hR hS (lvH_S1 hv hl') hc hs
  rw [List.map_cons]
  rw [ha] at h1 ⊢
  exact lv_astore hX.1.1 hX.1.2.1 hd hl hn rfl h1
theorem g_astore_n {j : Fin 4} {v : Value} {lv' : List (Nat × Value)} (hd : decode J.2.1 pc = .ok (.astore_n j, 1)) (hr : isA v) (hn : j.val < J.2.2.1) (hv : lvS1 j.val v lv = lv') (kk : Go l J F L MC MS Q (pc + 1) lv' st k n M) : Go l J F L MC MS Q pc lv (v :: st) k n M := by
  intro p e s m args below meth c G H locs cells slots ls hX hC hR hS hl hc hs
  obtain ⟨a, ha⟩ := isA_cv G hr
  have h1 : ∀ ls' : Array Slot, lv_has ls' J.2.2.1 ((j.val, cv G v) :: (lv.map (cvp G)).filter (pr1 j.val)) → _ := fun ls' hl' => kk p e s m args below meth c G H locs cells slots ls' hX hC hR hS (lvH_S1 hv hl') hc hs
  rw [List.map_cons]
  rw [ha] at h1 ⊢
  exact lv_astore_n hX.1.1 hX.1.2.1 hd rfl hl hn rfl h1
theorem g_iinc {i : Nat} {d : Int} {x v : Int32} {lv' : List (Nat × Value)} (hd : decode J.2.1 pc = .ok (.iinc i d, 3)) (hg : lvG lv i = some (.int x)) (hx : x + Int32.ofInt d = v) (hn : i < J.2.2.1) (hv : lvS1 i (.int v) lv = lv') (kk : Go l J F L MC MS Q (pc + 3) lv' st k n M) : Go l J F L MC MS Q pc lv st k n M := by
  intro p e s m args below meth c G H locs cells slots ls hX hC hR hS hl hc hs
  obtain ⟨j, hj⟩ := List.getElem?_of_mem (List.mem_map.mpr ⟨(i, .int x), lvG_mem hg, rfl⟩ : (i, cv G (.int x)) ∈ lv.map (cvp G))
  exact lv_iinc (k := j) hX.1.1 hX.1.2.1 hd hl hj hx hn rfl (fun ls' hl' => kk p e s m args below meth c G H locs cells slots ls' hX hC hR hS (lvH_S1 hv hl') hc hs)
theorem g_iadd {x y : Int32} (hd : decode J.2.1 pc = .ok (.iadd, 1)) (kk : Go l J F L MC MS Q (pc + 1) lv (.int (x + y) :: st) k n M) : Go l J F L MC MS Q pc lv (.int y :: .int x :: st) k n M := by
  intro p e s m args below meth c G H locs cells slots ls hX hC hR hS hl hc hs
  exact lv_iadd hX.1.1 hX.1.2.1 hd (kk p e s m args below meth c G H locs cells slots ls hX hC hR hS hl hc hs)
theorem g_isub {x y : Int32} (hd : decode J.2.1 pc = .ok (.isub, 1)) (kk : Go l J F L MC MS Q (pc + 1) lv (.int (x - y) :: st) k n M) : Go l J F L MC MS Q pc lv (.int y :: .int x :: st) k n M := by
  intro p e s m args below meth c G H locs cells slots ls hX hC hR hS hl hc hs
  exact lv_isub hX.1.1 hX.1.2.1 hd (kk p e s m args below meth c G H locs cells slots ls hX hC hR hS hl hc hs)
theorem g_imul {x y : Int32} (hd : decode J.2.1 pc = .ok (.imul, 1)) (kk : Go l J F L MC MS Q (pc + 1) lv (.int (x * y) :: st) k n M) : Go l J F L MC MS Q pc lv (.int y :: .int x :: st) k n M := by
  intro p e s m args below meth c G H locs cells slots ls hX hC hR hS hl hc hs
  exact lv_imul hX.1.1 hX.1.2.1 hd (kk p e s m args below meth c G H locs cells slots ls hX hC hR hS hl hc hs)
theorem g_iand {x y : Int32} (hd : decode J.2.1 pc = .ok (.iand, 1)) (kk : Go l J F L MC MS Q (pc + 1) lv (.int (x &&& y) :: st) k n M) : Go l J F L MC MS Q pc lv (.int y :: .int x :: st) k n M := by
  intro p e s m args below meth c G H locs cells slots ls hX hC hR hS hl hc hs
  exact lv_iand hX.1.1 hX.1.2.1 hd (kk p e s m args below meth c G H locs cells slots ls hX hC hR hS hl hc hs)
theorem g_ior {x y : Int32} (hd : decode J.2.1 pc = .ok (.ior, 1)) (kk : Go l J F L MC MS Q (pc + 1) lv (.int (x ||| y) :: st) k n M) : Go l J F L MC MS Q pc lv (.int y :: .int x :: st) k n M := by
  intro p e s m args below meth c G H locs cells slots ls hX hC hR hS hl hc hs
  exact lv_ior hX.1.1 hX.1.2.1 hd (kk p e s m args below meth c G H locs cells slots ls hX hC hR hS hl hc hs)
theorem g_ixor {x y : Int32} (hd : decode J.2.1 pc = .ok (.ixor, 1)) (kk : Go l J F L MC MS Q (pc + 1) lv (.int (x ^^^ y) :: st) k n M) : Go l J F L MC MS Q pc lv (.int y :: .int x :: st) k n M := by
  intro p e s m args below meth c G H locs cells slots ls hX hC hR hS hl hc hs
  exact lv_ixor hX.1.1 hX.1.2.1 hd (kk p e s m args below meth c G H locs cells slots ls hX hC hR hS hl hc hs)
theorem g_idiv {x y : Int32} (hd : decode J.2.1 pc = .ok (.idiv, 1)) (h0 : ¬ y = 0) (kk : Go l J F L MC MS Q (pc + 1) lv (.int (x / y) :: st) k n M) : Go l J F L MC MS Q pc lv (.int y :: .int x :: st) k n M := by
  intro p e s m args below meth c G H locs cells slots ls hX hC hR hS hl hc hs
  exact lv_idiv hX.1.1 hX.1.2.1 hd h0 (kk p e s m args below meth c G H locs cells slots ls hX hC hR hS hl hc hs)
theorem g_irem {x y : Int32} (hd : decode J.2.1 pc = .ok (.irem, 1)) (h0 : ¬ y = 0) (kk : Go l J F L MC MS Q (pc + 1) lv (.int (x - x / y * y) :: st) k n M) : Go l J F L MC MS Q pc lv (.int y :: .int x :: st) k n M := by
  intro p e s m args below meth c G H locs cells slots ls hX hC hR hS hl hc hs
  exact lv_irem hX.1.1 hX.1.2.1 hd h0 (kk p e s m args below meth c G H locs cells slots ls hX hC hR hS hl hc hs)
theorem g_ineg {x : Int32} (hd : decode J.2.1 pc = .ok (.ineg, 1)) (kk : Go l J F L MC MS Q (pc + 1) lv (.int (-x) :: st) k n M) : Go l J F L MC MS Q pc lv (.int x :: st) k n M := by
  intro p e s m args below meth c G H locs cells slots ls hX hC hR hS hl hc hs
  exact lv_ineg hX.1.1 hX.1.2.1 hd (kk p e s m args below meth c G H locs cells slots ls hX hC hR hS hl hc hs)
theorem g_ladd {x y : Int64} (hd : decode J.2.1 pc = .ok (.ladd, 1)) (kk : Go l J F L MC MS Q (pc + 1) lv (.long (x + y) :: st) k n M) : Go l J F L MC MS Q pc lv (.long y :: .long x :: st) k n M := by
  intro p e s m args below meth c G H locs cells slots ls hX hC hR hS hl hc hs
  exact lv_ladd hX.1.1 hX.1.2.1 hd (kk p e s m args below meth c G H locs cells slots ls hX hC hR hS hl hc hs)
theorem g_lsub {x y : Int64} (hd : decode J.2.1 pc = .ok (.lsub, 1)) (kk : Go l J F L MC MS Q (pc + 1) lv (.long (x - y) :: st) k n M) : Go l J F L MC MS Q pc lv (.long y :: .long x :: st) k n M := by
  intro p e s m args below meth c G H locs cells slots ls hX hC hR hS hl hc hs
  exact lv_lsub hX.1.1 hX.1.2.1 hd (kk p e s m args below meth c G H locs cells slots ls hX hC hR hS hl hc hs)
theorem g_lmul {x y : Int64} (hd : decode J.2.1 pc = .ok (.lmul, 1)) (kk : Go l J F L MC MS Q (pc + 1) lv (.long (x * y) :: st) k n M) : Go l J F L MC MS Q pc lv (.long y :: .long x :: st) k n M := by
  intro p e s m args below meth c G H locs cells slots ls hX hC hR hS hl hc hs
  exact lv_lmul hX.1.1 hX.1.2.1 hd (kk p e s m args below meth c G H locs cells slots ls hX hC hR hS hl hc hs)
theorem g_land {x y : Int64} (hd : decode J.2.1 pc = .ok (.land, 1)) (kk : Go l J F L MC MS Q (pc + 1) lv (.long (x &&& y) :: st) k n M) : Go l J F L MC MS Q pc lv (.long y :: .long x :: st) k n M := by
  intro p e s m args below meth c G H locs cells slots ls hX hC hR hS hl hc hs
  exact lv_land hX.1.1 hX.1.2.1 hd (kk p e s m args below meth c G H locs cells slots ls hX hC hR hS hl hc hs)
theorem g_lor {x y : Int64} (hd : decode J.2.1 pc = .ok (.lor, 1)) (kk : Go l J F L MC MS Q (pc + 1) lv (.long (x ||| y) :: st) k n M) : Go l J F L MC MS Q pc lv (.long y :: .long x :: st) k n M := by
  intro p e s m args below meth c G H locs cells slots ls hX hC hR hS hl hc hs
  exact lv_lor hX.1.1 hX.1.2.1 hd (kk p e s m args below meth c G H locs cells slots ls hX hC hR hS hl hc hs)
theorem g_lxor {x y : Int64} (hd : decode J.2.1 pc = .ok (.lxor, 1)) (kk : Go l J F L MC MS Q (pc + 1) lv (.long (x ^^^ y) :: st) k n M) : Go l J F L MC MS Q pc lv (.long y :: .long x :: st) k n M := by
  intro p e s m args below meth c G H locs cells slots ls hX hC hR hS hl hc hs
  exact lv_lxor hX.1.1 hX.1.2.1 hd (kk p e s m args below meth c G H locs cells slots ls hX hC hR hS hl hc hs)
theorem g_ishl {x y : Int32} (hd : decode J.2.1 pc = .ok (.ishl, 1)) (kk : Go l J F L MC MS Q (pc + 1) lv (.int (x <<< (y &&& 31)) :: st) k n M) : Go l J F L MC MS Q pc lv (.int y :: .int x :: st) k n M := by
  intro p e s m args below meth c G H locs cells slots ls hX hC hR hS hl hc hs
  exact lv_ishl hX.1.1 hX.1.2.1 hd (kk p e s m args below meth c G H locs cells slots ls hX hC hR hS hl hc hs)
theorem g_ishr {x y : Int32} (hd : decode J.2.1 pc = .ok (.ishr, 1)) (kk : Go l J F L MC MS Q (pc + 1) lv (.int (x >>> (y &&& 31)) :: st) k n M) : Go l J F L MC MS Q pc lv (.int y :: .int x :: st) k n M := by
  intro p e s m args below meth c G H locs cells slots ls hX hC hR hS hl hc hs
  exact lv_ishr hX.1.1 hX.1.2.1 hd (kk p e s m args below meth c G H locs cells slots ls hX hC hR hS hl hc hs)
theorem g_iushr {x y v : Int32} (hd : decode J.2.1 pc = .ok (.iushr, 1)) (hv : (x.toUInt32 >>> (y.toUInt32 &&& Int32.toUInt32 31)).toInt32 = v) (kk : Go l J F L MC MS Q (pc + 1) lv (.int v :: st) k n M) : Go l J F L MC MS Q pc lv (.int y :: .int x :: st) k n M := by
  intro p e s m args below meth c G H locs cells slots ls hX hC hR hS hl hc hs
  exact lv_iushr hX.1.1 hX.1.2.1 hd hv (kk p e s m args below meth c G H locs cells slots ls hX hC hR hS hl hc hs)
theorem g_lushr {x v : Int64} {y : Int32} (hd : decode J.2.1 pc = .ok (.lushr, 1)) (hv : (x.toUInt64 >>> (y.toInt64.toUInt64 &&& Int64.toUInt64 63)).toInt64 = v) (kk : Go l J F L MC MS Q (pc + 1) lv (.long v :: st) k n M) : Go l J F L MC MS Q pc lv (.int y :: .long x :: st) k n M := by
  intro p e s m args below meth c G H locs cells slots ls hX hC hR hS hl hc hs
  exact lv_lushr hX.1.1 hX.1.2.1 hd hv (kk p e s m args below meth c G H locs cells slots ls hX hC hR hS hl hc hs)
theorem g_lshl {x v : Int64} {y : Int32} (hd : decode J.2.1 pc = .ok (.lshl, 1)) (hv : x <<< (y.toInt64 &&& 63) = v) (kk : Go l J F L MC MS Q (pc + 1) lv (.long v :: st) k n M) : Go l J F L MC MS Q pc lv (.int y :: .long x :: st) k n M := by
  intro p e s m args below meth c G H locs cells slots ls hX hC hR hS hl hc hs
  exact lv_lshl hX.1.1 hX.1.2.1 hd hv (kk p e s m args below meth c G H locs cells slots ls hX hC hR hS hl hc hs)
theorem g_lshr {x v : Int64} {y : Int32} (hd : decode J.2.1 pc = .ok (.lshr, 1)) (hv : x >>> (y.toInt64 &&& 63) = v) (kk : Go l J F L MC MS Q (pc + 1) lv (.long v :: st) k n M) : Go l J F L MC MS Q pc lv (.int y :: .long x :: st) k n M := by
  intro p e s m args below meth c G H locs cells slots ls hX hC hR hS hl hc hs
  exact lv_lshr hX.1.1 hX.1.2.1 hd hv (kk p e s m args below meth c G H locs cells slots ls hX hC hR hS hl hc hs)
theorem g_i2l {x : Int32} {v : Int64} (hd : decode J.2.1 pc = .ok (.i2l, 1)) (hv : x.toInt64 = v) (kk : Go l J F L MC MS Q (pc + 1) lv (.long v :: st) k n M) : Go l J F L MC MS Q pc lv (.int x :: st) k n M := by
  intro p e s m args below meth c G H locs cells slots ls hX hC hR hS hl hc hs
  exact lv_i2l hX.1.1 hX.1.2.1 hd hv (kk p e s m args below meth c G H locs cells slots ls hX hC hR hS hl hc hs)
theorem g_l2i {x : Int64} {v : Int32} (hd : decode J.2.1 pc = .ok (.l2i, 1)) (hv : x.toInt32 = v) (kk : Go l J F L MC MS Q (pc + 1) lv (.int v :: st) k n M) : Go l J F L MC MS Q pc lv (.long x :: st) k n M := by
  intro p e s m args below meth c G H locs cells slots ls hX hC hR hS hl hc hs
  exact lv_l2i hX.1.1 hX.1.2.1 hd hv (kk p e s m args below meth c G H locs cells slots ls hX hC hR hS hl hc hs)
theorem g_i2b {x v : Int32} (hd : decode J.2.1 pc = .ok (.i2b, 1)) (hv : x.toInt8.toInt32 = v) (kk : Go l J F L MC MS Q (pc + 1) lv (.int v :: st) k n M) : Go l J F L MC MS Q pc lv (.int x :: st) k n M := by
  intro p e s m args below meth c G H locs cells slots ls hX hC hR hS hl hc hs
  exact lv_i2b hX.1.1 hX.1.2.1 hd hv (kk p e s m args below meth c G H locs cells slots ls hX hC hR hS hl hc hs)
theorem g_i2c {x v : Int32} (hd : decode J.2.1 pc = .ok (.i2c, 1)) (hv : (x.toUInt32 % 65536).toInt32 = v) (kk : Go l J F L MC MS Q (pc + 1) lv (.int v :: st) k n M) : Go l J F L MC MS Q pc lv (.int x :: st) k n M := by
  intro p e s m args below meth c G H locs cells slots ls hX hC hR hS hl hc hs
  exact lv_i2c hX.1.1 hX.1.2.1 hd hv (kk p e s m args below meth c G H locs cells slots ls hX hC hR hS hl hc hs)
theorem g_i2d {x : Int32} (hd : decode J.2.1 pc = .ok (.i2d, 1)) (kk : Go l J F L MC MS Q (pc + 1) lv (.double (FP.i2d x) :: st) k n M) : Go l J F L MC MS Q pc lv (.int x :: st) k n M := by
  intro p e s m args below meth c G H locs cells slots ls hX hC hR hS hl hc hs
  exact lv_i2d hX.1.1 hX.1.2.1 hd (kk p e s m args below meth c G H locs cells slots ls hX hC hR hS hl hc hs)
theorem g_i2f {x : Int32} (hd : decode J.2.1 pc = .ok (.i2f, 1)) (kk : Go l J F L MC MS Q (pc + 1) lv (.float (FP.i2f x) :: st) k n M) : Go l J F L MC MS Q pc lv (.int x :: st) k n M := by
  intro p e s m args below meth c G H locs cells slots ls hX hC hR hS hl hc hs
  exact lv_i2f hX.1.1 hX.1.2.1 hd (kk p e s m args below meth c G H locs cells slots ls hX hC hR hS hl hc hs)
theorem g_f2d {x : UInt32} (hd : decode J.2.1 pc = .ok (.f2d, 1)) (h0 : vf_n64 (FP.f2d x)) (kk : Go l J F L MC MS Q (pc + 1) lv (.double (FP.f2d x) :: st) k n M) : Go l J F L MC MS Q pc lv (.float x :: st) k n M := by
  intro p e s m args below meth c G H locs cells slots ls hX hC hR hS hl hc hs
  exact lv_f2d hX.1.1 hX.1.2.1 hd h0 (kk p e s m args below meth c G H locs cells slots ls hX hC hR hS hl hc hs)
theorem g_ddiv {x y : UInt64} (hd : decode J.2.1 pc = .ok (.ddiv, 1)) (h0 : vf_n64 (FP.ddiv x y)) (kk : Go l J F L MC MS Q (pc + 1) lv (.double (FP.ddiv x y) :: st) k n M) : Go l J F L MC MS Q pc lv (.double y :: .double x :: st) k n M := by
  intro p e s m args below meth c G H locs cells slots ls hX hC hR hS hl hc hs
  exact lv_ddiv hX.1.1 hX.1.2.1 hd h0 (kk p e s m args below meth c G H locs cells slots ls hX hC hR hS hl hc hs)
theorem g_fdiv {x y : UInt32} (hd : decode J.2.1 pc = .ok (.fdiv, 1)) (h0 : vf_n32 (FP.fdiv x y)) (kk : Go l J F L MC MS Q (pc + 1) lv (.float (FP.fdiv x y) :: st) k n M) : Go l J F L MC MS Q pc lv (.float y :: .float x :: st) k n M := by
  intro p e s m args below meth c G H locs cells slots ls hX hC hR hS hl hc hs
  exact lv_fdiv hX.1.1 hX.1.2.1 hd h0 (kk p e s m args below meth c G H locs cells slots ls hX hC hR hS hl hc hs)
theorem g_fcmp {x y : UInt32} {op : CmpOp} (hd : decode J.2.1 pc = .ok (.fcmp op, 1)) (kk : Go l J F L MC MS Q (pc + 1) lv (.int (Op.cmpValue (FP.fcmp x y) op) :: st) k n M) : Go l J F L MC MS Q pc lv (.float y :: .float x :: st) k n M := by
  intro p e s m args below meth c G H locs cells slots ls hX hC hR hS hl hc hs
  exact lv_fcmp hX.1.1 hX.1.2.1 hd (kk p e s m args below meth c G H locs cells slots ls hX hC hR hS hl hc hs)
theorem g_dcmp {x y : UInt64} {op : CmpOp} (hd : decode J.2.1 pc = .ok (.dcmp op, 1)) (kk : Go l J F L MC MS Q (pc + 1) lv (.int (Op.cmpValue (FP.dcmp x y) op) :: st) k n M) : Go l J F L MC MS Q pc lv (.double y :: .double x :: st) k n M := by
  intro p e s m args below meth c G H locs cells slots ls hX hC hR hS hl hc hs
  exact lv_dcmp hX.1.1 hX.1.2.1 hd (kk p e s m args below meth c G H locs cells slots ls hX hC hR hS hl hc hs)
theorem g_lcmp {x y : Int64} (hd : decode J.2.1 pc = .ok (.lcmp, 1)) (kk : Go l J F L MC MS Q (pc + 1) lv (.int (lg_cmp x y) :: st) k n M) : Go l J F L MC MS Q pc lv (.long y :: .long x :: st) k n M := by
  intro p e s m args below meth c G H locs cells slots ls hX hC hR hS hl hc hs
  exact W.lcmp hX.1.1 hX.1.2.1 hd (kk p e s m args below meth c G H locs cells slots ls hX hC hR hS hl hc hs)
theorem g_dup {v : Value} (hd : decode J.2.1 pc = .ok (.dup, 1)) (h1 : v.category = 1) (kk : Go l J F L MC MS Q (pc + 1) lv (v :: v :: st) k n M) : Go l J F L MC MS Q pc lv (v :: st) k n M := by
  intro p e s m args below meth c G H locs cells slots ls hX hC hR hS hl hc hs
  exact lv_dup hX.1.1 hX.1.2.1 hd ((cv_cat G v).trans h1) (kk p e s m args below meth c G H locs cells slots ls hX hC hR hS hl hc hs)
theorem g_pop {v : Value} (hd : decode J.2.1 pc = .ok (.pop, 1)) (h1 : v.category = 1) (kk : Go l J F L MC MS Q (pc + 1) lv (st) k n M) : Go l J F L MC MS Q pc lv (v :: st) k n M := by
  intro p e s m args below meth c G H locs cells slots ls hX hC hR hS hl hc hs
  exact lv_pop hX.1.1 hX.1.2.1 hd ((cv_cat G v).trans h1) (kk p e s m args below meth c G H locs cells slots ls hX hC hR hS hl hc hs)
theorem g_dup2_11 {v w : Value} (hd : decode J.2.1 pc = .ok (.dup2, 1)) (h1 : v.category = 1) (h2 : w.category = 1) (kk : Go l J F L MC MS Q (pc + 1) lv (v :: w :: v :: w :: st) k n M) : Go l J F L MC MS Q pc lv (v :: w :: st) k n M := by
  intro p e s m args below meth c G H locs cells slots ls hX hC hR hS hl hc hs
  exact lv_dup2_11 hX.1.1 hX.1.2.1 hd ((cv_cat G v).trans h1) ((cv_cat G w).trans h2) (kk p e s m args below meth c G H locs cells slots ls hX hC hR hS hl hc hs)
theorem g_dup2_2 {v : Value} (hd : decode J.2.1 pc = .ok (.dup2, 1)) (h1 : v.category = 2) (kk : Go l J F L MC MS Q (pc + 1) lv (v :: v :: st) k n M) : Go l J F L MC MS Q pc lv (v :: st) k n M := by
  intro p e s m args below meth c G H locs cells slots ls hX hC hR hS hl hc hs
  exact lv_dup2_2 hX.1.1 hX.1.2.1 hd ((cv_cat G v).trans h1) (kk p e s m args below meth c G H locs cells slots ls hX hC hR hS hl hc hs)
theorem g_if_eq {x : Int32} {off : Int} {tgt : Nat} (hd : decode J.2.1 pc = .ok (.ifCond .eq off, 3)) (ht : (pc : Int) + off = (tgt : Int)) (kt : x = 0 → Go l J F L MC MS Q tgt lv st k n M) (kf : ¬ (x = 0) → Go l J F L MC MS Q (pc + 3) lv st k n M) : Go l J F L MC MS Q pc lv (.int x :: st) k n M := by
  intro p e s m args below meth c G H locs cells slots ls hX hC hR hS hl hc hs
  exact lv_if_eq hX.1.1 hX.1.2.1 hd ht (fun q => kt q p e s m args below meth c G H locs cells slots ls hX hC hR hS hl hc hs) (fun q => kf q p e s m args below meth c G H locs cells slots ls hX hC hR hS hl hc hs)
theorem g_if_ne {x : Int32} {off : Int} {tgt : Nat} (hd : decode J.2.1 pc = .ok (.ifCond .ne off, 3)) (ht : (pc : Int) + off = (tgt : Int)) (kt : ¬ x = 0 → Go l J F L MC MS Q tgt lv st k n M) (kf : ¬ (¬ x = 0) → Go l J F L MC MS Q (pc + 3) lv st k n M) : Go l J F L MC MS Q pc lv (.int x :: st) k n M := by
  intro p e s m args below meth c G H locs cells slots ls hX hC hR hS hl hc hs
  exact lv_if_ne hX.1.1 hX.1.2.1 hd ht (fun q => kt q p e s m args below meth c G H locs cells slots ls hX hC hR hS hl hc hs) (fun q => kf (fun z => z q) p e s m args below meth c G H locs cells slots ls hX hC hR hS hl hc hs)
theorem g_if_lt {x : Int32} {off : Int} {tgt : Nat} (hd : decode J.2.1 pc = .ok (.ifCond .lt off, 3)) (ht : (pc : Int) + off = (tgt : Int)) (kt : x < 0 → Go l J F L MC MS Q tgt lv st k n M) (kf : ¬ (x < 0) → Go l J F L MC MS Q (pc + 3) lv st k n M) : Go l J F L MC MS Q pc lv (.int x :: st) k n M := by
  intro p e s m args below meth c G H locs cells slots ls hX hC hR hS hl hc hs
  exact lv_if_lt hX.1.1 hX.1.2.1 hd ht (fun q => kt q p e s m args below meth c G H locs cells slots ls hX hC hR hS hl hc hs) (fun q => kf q p e s m args below meth c G H locs cells slots ls hX hC hR hS hl hc hs)
theorem g_if_ge {x : Int32} {off : Int} {tgt : Nat} (hd : decode J.2.1 pc = .ok (.ifCond .ge off, 3)) (ht : (pc : Int) + off = (tgt : Int)) (kt : 0 ≤ x → Go l J F L MC MS Q tgt lv st k n M) (kf : ¬ (0 ≤ x) → Go l J F L MC MS Q (pc + 3) lv st k n M) : Go l J F L MC MS Q pc lv (.int x :: st) k n M := by
  intro p e s m args below meth c G H locs cells slots ls hX hC hR hS hl hc hs
  exact lv_if_ge hX.1.1 hX.1.2.1 hd ht (fun q => kt q p e s m args below meth c G H locs cells slots ls hX hC hR hS hl hc hs) (fun q => kf q p e s m args below meth c G H locs cells slots ls hX hC hR hS hl hc hs)
theorem g_if_gt {x : Int32} {off : Int} {tgt : Nat} (hd : decode J.2.1 pc = .ok (.ifCond .gt off, 3)) (ht : (pc : Int) + off = (tgt : Int)) (kt : 0 < x → Go l J F L MC MS Q tgt lv st k n M) (kf : ¬ (0 < x) → Go l J F L MC MS Q (pc + 3) lv st k n M) : Go l J F L MC MS Q pc lv (.int x :: st) k n M := by
  intro p e s m args below meth c G H locs cells slots ls hX hC hR hS hl hc hs
  exact lv_if_gt hX.1.1 hX.1.2.1 hd ht (fun q => kt q p e s m args below meth c G H locs cells slots ls hX hC hR hS hl hc hs) (fun q => kf q p e s m args below meth c G H locs cells slots ls hX hC hR hS hl hc hs)
theorem g_if_le {x : Int32} {off : Int} {tgt : Nat} (hd : decode J.2.1 pc = .ok (.ifCond .le off, 3)) (ht : (pc : Int) + off = (tgt : Int)) (kt : x ≤ 0 → Go l J F L MC MS Q tgt lv st k n M) (kf : ¬ (x ≤ 0) → Go l J F L MC MS Q (pc + 3) lv st k n M) : Go l J F L MC MS Q pc lv (.int x :: st) k n M := by
  intro p e s m args below meth c G H locs cells slots ls hX hC hR hS hl hc hs
  exact lv_if_le hX.1.1 hX.1.2.1 hd ht (fun q => kt q p e s m args below meth c G H locs cells slots ls hX hC hR hS hl hc hs) (fun q => kf q p e s m args below meth c G H locs cells slots ls hX hC hR hS hl hc hs)
theorem g_icmp_eq {x y : Int32} {off : Int} {tgt : Nat} (hd : decode J.2.1 pc = .ok (.if_icmp .eq off, 3)) (ht : (pc : Int) + off = (tgt : Int)) (kt : x = y → Go l J F L MC MS Q tgt lv st k n M) (kf : ¬ (x = y) → Go l J F L MC MS Q (pc + 3) lv st k n M) : Go l J F L MC MS Q pc lv (.int y :: .int x :: st) k n M := by
  intro p e s m args below meth c G H locs cells slots ls hX hC hR hS hl hc hs
  exact lv_icmp_eq hX.1.1 hX.1.2.1 hd ht (fun q => kt q p e s m args below meth c G H locs cells slots ls hX hC hR hS hl hc hs) (fun q => kf q p e s m args below meth c G H locs cells slots ls hX hC hR hS hl hc hs)
theorem g_icmp_ne {x y : Int32} {off : Int} {tgt : Nat} (hd : decode J.2.1 pc = .ok (.if_icmp .ne off, 3)) (ht : (pc : Int) + off = (tgt : Int)) (kt : ¬ x = y → Go l J F L MC MS Q tgt lv st k n M) (kf : ¬ (¬ x = y) → Go l J F L MC MS Q (pc + 3) lv st k n M) : Go l J F L MC MS Q pc lv (.int y :: .int x :: st) k n M := by
  intro p e s m args below meth c G H locs cells slots ls hX hC hR hS hl hc hs
  exact lv_icmp_ne hX.1.1 hX.1.2.1 hd ht (fun q => kt q p e s m args below meth c G H locs cells slots ls hX hC hR hS hl hc hs) (fun q => kf (fun z => z q) p e s m args below meth c G H locs cells slots ls hX hC hR hS hl hc hs)
theorem g_icmp_lt {x y : Int32} {off : Int} {tgt : Nat} (hd : decode J.2.1 pc = .ok (.if_icmp .lt off, 3)) (ht : (pc : Int) + off = (tgt : Int)) (kt : x < y → Go l J F L MC MS Q tgt lv st k n M) (kf : ¬ (x < y) → Go l J F L MC MS Q (pc + 3) lv st k n M) : Go l J F L MC MS Q pc lv (.int y :: .int x :: st) k n M := by
  intro p e s m args below meth c G H locs cells slots ls hX hC hR hS hl hc hs
  exact lv_icmp_lt hX.1.1 hX.1.2.1 hd ht (fun q => kt q p e s m args below meth c G H locs cells slots ls hX hC hR hS hl hc hs) (fun q => kf q p e s m args below meth c G H locs cells slots ls hX hC hR hS hl hc hs)
theorem g_icmp_ge {x y : Int32} {off : Int} {tgt : Nat} (hd : decode J.2.1 pc = .ok (.if_icmp .ge off, 3)) (ht : (pc : Int) + off = (tgt : Int)) (kt : y ≤ x → Go l J F L MC MS Q tgt lv st k n M) (kf : ¬ (y ≤ x) → Go l J F L MC MS Q (pc + 3) lv st k n M) : Go l J F L MC MS Q pc lv (.int y :: .int x :: st) k n M := by
  intro p e s m args below meth c G H locs cells slots ls hX hC hR hS hl hc hs
  exact lv_icmp_ge hX.1.1 hX.1.2.1 hd ht (fun q => kt q p e s m args below meth c G H locs cells slots ls hX hC hR hS hl hc hs) (fun q => kf q p e s m args below meth c G H locs cells slots ls hX hC hR hS hl hc hs)
theorem g_icmp_gt {x y : Int32} {off : Int} {tgt : Nat} (hd : decode J.2.1 pc = .ok (.if_icmp .gt off, 3)) (ht : (pc : Int) + off = (tgt : Int)) (kt : y < x → Go l J F L MC MS Q tgt lv st k n M) (kf : ¬ (y < x) → Go l J F L MC MS Q (pc + 3) lv st k n M) : Go l J F L MC MS Q pc lv (.int y :: .int x :: st) k n M := by
  intro p e s m args below meth c G H locs cells slots ls hX hC hR hS hl hc hs
  exact lv_icmp_gt hX.1.1 hX.1.2.1 hd ht (fun q => kt q p e s m args below meth c G H locs cells slots ls hX hC hR hS hl hc hs) (fun q => kf q p e s m args below meth c G H locs cells slots ls hX hC hR hS hl hc hs)
theorem g_icmp_le {x y : Int32} {off : Int} {tgt : Nat} (hd : decode J.2.1 pc = .ok (.if_icmp .le off, 3)) (ht : (pc : Int) + off = (tgt : Int)) (kt : x ≤ y → Go l J F L MC MS Q tgt lv st k n M) (kf : ¬ (x ≤ y) → Go l J F L MC MS Q (pc + 3) lv st k n M) : Go l J F L MC MS Q pc lv (.int y :: .int x :: st) k n M := by
  intro p e s m args below meth c G H locs cells slots ls hX hC hR hS hl hc hs
  exact lv_icmp_le hX.1.1 hX.1.2.1 hd ht (fun q => kt q p e s m args below meth c G H locs cells slots ls hX hC hR hS hl hc hs) (fun q => kf q p e s m args below meth c G H locs cells slots ls hX hC hR hS hl hc hs)
theorem g_goto {off : Int} {tgt : Nat} (hd : decode J.2.1 pc = .ok (.goto off, 3)) (ht : (pc : Int) + off = (tgt : Int)) (kk : Go l J F L MC MS Q tgt lv st k n M) : Go l J F L MC MS Q pc lv st k n M := by
  intro p e s m args below meth c G H locs cells slots ls hX hC hR hS hl hc hs
  exact lv_goto hX.1.1 hX.1.2.1 hd ht (kk p e s m args below meth c G H locs cells slots ls hX hC hR hS hl hc hs)
theorem g_tableIn {dflt lo hi : Int} {offs : Array Int} {len : Nat} {x : Int32} {off : Int} {tgt : Nat} (hd : decode J.2.1 pc = .ok (.tableswitch dflt lo hi offs, len)) (h1 : ¬ x.toInt < lo) (h2 : ¬ hi < x.toInt) (ho : offs[(x.toInt - lo).toNat]? = some off) (ht : (pc : Int) + off = (tgt : Int)) (kk : Go l J F L MC MS Q tgt lv st k n M) : Go l J F L MC MS Q pc lv (.int x :: st) k n M := by
  intro p e s m args below meth c G H locs cells slots ls hX hC hR hS hl hc hs
  exact lv_tableIn hX.1.1 hX.1.2.1 hd h1 h2 ho ht (kk p e s m args below meth c G H locs cells slots ls hX hC hR hS hl hc hs)
theorem g_tableOut {dflt lo hi : Int} {offs : Array Int} {len : Nat} {x : Int32} {tgt : Nat} (hd : decode J.2.1 pc = .ok (.tableswitch dflt lo hi offs, len)) (h1 : x.toInt < lo ∨ hi < x.toInt) (ht : (pc : Int) + dflt = (tgt : Int)) (kk : Go l J F L MC MS Q tgt lv st k n M) : Go l J F L MC MS Q pc lv (.int x :: st) k n M := by
  intro p e s m args below meth c G H locs cells slots ls hX hC hR hS hl hc hs
  exact lv_tableOut hX.1.1 hX.1.2.1 hd h1 ht (kk p e s m args below meth c G H locs cells slots ls hX hC hR hS hl hc hs)
theorem g_lookup {dflt : Int} {ps : Array (Int × Int)} {len : Nat} {x : Int32} {off : Int} {tgt : Nat} (hd : decode J.2.1 pc = .ok (.lookupswitch dflt ps, len)) (hp : (ps.toList.zip (ps.toList.drop 1)).all (fun (a, next) => a.1 < next.1) = true) (ho : Op.lookupswitch.offset ps.toList dflt x.toInt = off) (ht : (pc : Int) + off = (tgt : Int)) (kk : Go l J F L MC MS Q tgt lv st k n M) : Go l J F L MC MS Q pc lv (.int x :: st) k n M := by
  intro p e s m args below meth c G H locs cells slots ls hX hC hR hS hl hc hs
  exact lv_lookup hX.1.1 hX.1.2.1 hd hp ho ht (kk p e s m args below meth c G H locs cells slots ls hX hC hR hS hl hc hs)
end
end
-- 04.mem
section
/-! RULES of the memory: fields, arrays, making, calls, ends. -/
section
variable {l : Launch} {J : Jm} {F L MC MS : Nat} {Q : Res → Mem → Prop} {pc : Nat} {lv : List (Nat × Value)} {st : List Value} {k n : Nat} {M : Mem}
/-- a field as a class's pool names it: the kind of object, the place, the type -/
def FK (own : String) (ix ci j : Nat) (ty : FieldType) : Prop := ∃ (C : String) (T : u_T) (N : Nat), vwCl[ci]? = some (C, T, N) ∧ j < N ∧ (ftyA ci)[j]? = some ty ∧ (T j).1 = C ∧
  ((Cond.fieldLink own ix C (T j).2.1 (T j).2.2.1 ∈ WS) ∨ ∃ host, Cond.fieldLinkNest own ix C (T j).2.1 (T j).2.2.1 host ∈ NWL) ∧ (∀ w ∈ u_ws C T N, w ∈ WS)
/-- the same for writing -/
def FP (own : String) (ix ci j : Nat) (ty : FieldType) (fin : Bool) : Prop := ∃ (C : String) (T : u_T) (N : Nat) (ty0 : Nat → FieldType), vwCl[ci]? = some (C, T, N) ∧ j < N ∧ (ftyA ci)[j]? = some ty ∧ (T j).1 = C ∧
  ((Cond.fieldLink own ix C (T j).2.1 (T j).2.2.1 ∈ WS) ∨ ∃ host, Cond.fieldLinkNest own ix C (T j).2.1 (T j).2.2.1 host ∈ NWL) ∧ (∀ w ∈ u_ws C T N, w ∈ WS) ∧
  (∀ a, a < N → parseFieldDescriptor (T a).2.2.1 = some (ty0 a)) ∧ (∀ a, a < N → ∀ b, b < N → a ≠ b → (T a).2.1 ≠ (T b).2.1) ∧ (T j).2.2.2 = fin ∧ parseFieldDescriptor (T j).2.2.1 = some ty ∧ N = (ftyA ci).length
theorem g_getf {ix ci j id : Nat} {ty : FieldType} {v : Value} (hd : decode J.2.1 pc = .ok (.getfield ix, 3)) (hf : FK J.1.cls ix ci j ty) (hk : (mK M)[id]? = some (.inr ci)) (hv : ∀ G, fval G M id j ty = cv G v) (kk : Go l J F L MC MS Q (pc + 3) lv (v :: st) k n M) : Go l J F L MC MS Q pc lv (.ref id :: st) k n M := by
  intro p e s m args below meth c G H locs cells slots ls hX hC hR hS hl hc hs
  obtain ⟨C, T, N, h1, h2, h3, h4, h5, h6⟩ := hf
  have he := wl_get (G := G) hk
  have hx := (fvs_get G M id (ftyA ci) 0 j ty h3)
  rw [Nat.zero_add, hv] at hx
  rcases h5 with h5 | ⟨host, h5⟩
  · exact va_get hX.1.1 hX.1.2.1 hX.1.2.2.2.2 h6 hX.1.2.2.2.1 hC.2.1 hR.1 id he h1 j h2 (hX.1.2.2.2.2 _ h5) (fun x hx => by rw [h4] at hx; exact hx) hx hd (kk p e s m args below meth c G H locs cells slots ls hX hC hR hS hl hc hs)
  · exact va_getN hX.1.1 hX.1.2.1 hX.1.2.2.2.2 h6 hX.1.2.2.2.1 hC.2.1 hR.1 id he h1 j h2 (va_Nw.use (by rfl) (hC.2.2.1 _ h5)) (fun x hx => by rw [h4] at hx; exact hx) hx hd (kk p e s m args below meth c G H locs cells slots ls hX hC hR hS hl hc hs)
theorem fvs_set (G : Gl) (M M' : Mem) (id j : Nat) (ty : FieldType) (v : Value) : ∀ (ts : List FieldType) (i : Nat), ts[j]? = some ty → fval G M' id (i + j) ty = v → (∀ a t, a ≠ i + j → fval G M' id a t = fval G M id a t) → (fvs G M id i ts).set j v = fvs G M' id i ts := by
  induction j with
  | zero =>
    intro ts i h1 h2 h3
    cases ts with
    | nil => cases h1
    | cons t ts =>
      simp at h1
      subst h1
      have : ∀ (us : List FieldType) (b : Nat), i < b → fvs G M id b us = fvs G M' id b us := by
        intro us
        induction us with
        | nil => intro b hb; rfl
        | cons u us ih => intro b hb; simp only [fvs]; rw [h3 b u (by omega), ih (b + 1) (by omega)]
      simp only [fvs, List.set_cons_zero]
      rw [this ts (i + 1) (by omega)]
      simp at h2
      rw [h2]
  | succ j ih =>
    intro ts i h1 h2 h3
    cases ts with
    | nil => cases h1
    | cons t ts =>
      simp only [fvs, List.set_cons_succ]
      rw [h3 i t (by omega), ih ts (i + 1) (by simpa using h1) (by rw [← h2]; congr 1; omega) (fun a t ha => h3 a t (by omega))]
/-- a new memory that differs in one cell, after a write -/
theorem rel_set {G : Gl} {M M' : Mem} {H H1 : Heap} {i : Nat} {x : Knd} (hR : Rel G M H) (hk : (mK M)[i]? = some x) (hK : mK M' = mK M) (hX : mX M' = mX M) (hSc : mS M' = mS M) (ho : ∀ j y, j ≠ i → (mK M)[j]? = some y → ent G M' j y = ent G M j y) (hz : H1.size = H.size) (hP : va_P (gD G) vwCl ((wl G M).set i (gB G + i, ent G M' i x)) H1) : Rel G M' H1 := by
  rw [wl_set hk hK ho] at hP
  exact ⟨hP, by rw [hX, hz, hK]; exact hR.2.1, by rw [hz, hK]; exact hR.2.2.1, hSc.trans hR.2.2.2⟩
theorem va_S_size {A : Nat → Prop} {H0 H : Heap} {locs : List Loc} (h : va_S A H0 H locs) : H0.size ≤ H.size := h.1
theorem g_putf {ix ci j id : Nat} {ty : FieldType} {fin : Bool} {v : Value} {M' : Mem} (hd : decode J.2.1 pc = .ok (.putfield ix, 3)) (hf : FP J.1.cls ix ci j ty fin) (hfin : fin = true → J.1.name = "<init>" ∧ ∃ q, vwCl[ci]? = some q ∧ q.1 = J.1.cls) (hk : (mK M)[id]? = some (.inr ci)) (hn : ∀ G, narrow ty (cv G v) = cv G v ∧ fits ty (cv G v) = true)
    (hK : mK M' = mK M) (hXX : mX M' = mX M) (hSc : mS M' = mS M) (hv : ∀ G, fval G M' id j ty = cv G v) (ho : ∀ G a t, a ≠ j → fval G M' id a t = fval G M id a t) (ho2 : ∀ G i y, i ≠ id → (mK M)[i]? = some y → ent G M' i y = ent G M i y)
    (kk : Go l J F L MC MS Q (pc + 3) lv st k n M') : Go l J F L MC MS Q pc lv (v :: .ref id :: st) k n M := by
  intro p e s m args below meth c G H locs cells slots ls hX hC hR hS hl hc hs
  obtain ⟨C, T, N, ty0, h1, h2, h3, h4, h5, h6, h7, h8, h9, h10, h11⟩ := hf
  have he := wl_get (G := G) hk
  have hts := hX.1.2.2.2.2
  have hK0 := hC.2.1
  have hap := va_apart (own := J.1.cls) hts h6 ty0 h7 h8 hK0 h1
  obtain ⟨r, g1, cell, q1, q2, q3, q4⟩ := hR.1 id _ he
  have hr : r = (C, T, N) := Option.some.inj (g1.symm.trans h1)
  subst hr
  obtain ⟨hSl, hfc, kC, hkC, hkind⟩ := hK0.1 ci _ h1
  obtain ⟨cf, kf, fi, f, hi, hsl⟩ := hSl j h2
  have hi' : s.fieldFound? C (T j).2.1 (T j).2.2.1 = some (cf, kf, fi, f) := by rw [h4] at hi; exact hi
  have hst := (u_facts hfc hkC (u_lays hts h6 h2) hi).1
  have hlt := k2_hasslot (q4 j h2)
  have hlen : j < (fvs G M id 0 (ftyA ci)).length := by rw [fvs_len, ← h11]; exact h2
  have fin' : ∀ (H' : Heap), H'[gB G + id]? = some (cell.setSlot f.slot (cv G v)) → H'.size = H.size → (∀ q, q ≠ gB G + id → H'[q]? = H[q]?) → Rel G M' H' ∧ va_S (Go_A G) s.heap H' (locs ++ [⟨gB G + id, f.slot⟩]) := by
    intro H' e1 e2 e3
    rw [hsl] at e1
    have hP := hR.1.set (e := .inr (ci, (fvs G M id 0 (ftyA ci)).set j (cv G v))) (wl_D G M) he ⟨_, h1, t_OB.to (V := updV (vp_V (fvs G M id 0 (ftyA ci))) j (cv G v)) ⟨_, e1, q2, q3, t_set q4 hap h2 (cv G v)⟩ (fun a _ => vp_updV_set hlen (cv G v) a)⟩ e3
    rw [fvs_set G M M' id j ty (cv G v) (ftyA ci) 0 h3 (by rw [Nat.zero_add]; exact hv G) (fun a t ha => ho G a t (by omega))] at hP
    exact ⟨rel_set hR hk hK hXX hSc (ho2 G) e2 hP, hS.put e2 e3 (by show gB G ≤ _; omega)⟩
  have go : ∀ (H' : Heap), H'[gB G + id]? = some (cell.setSlot f.slot (cv G v)) → H'.size = H.size → (∀ q, q ≠ gB G + id → H'[q]? = H[q]?) → W p l e ({ frames := F, cells := MC, slots := MS, locals := L } : Room) s m args below meth c H' (locs ++ [⟨gB G + id, f.slot⟩]) cells slots (vx_MQ below (QcOf G Q) (XCOf G Q) args s MC MS (Go_A G)) (F0 m (pc + 3) ls (st.map (cv G))) := by
    intro H' e1 e2 e3
    obtain ⟨hR', hS'⟩ := fin' H' e1 e2 e3
    exact kk p e s m args below meth c G H' _ cells slots ls hX hC hR' hS' hl hc hs
  cases fin with
  | false =>
    have hlay := hts _ (h6 _ (u_in_lay h2))
    unfold u_lay at hlay
    rw [if_neg (by rw [h9]; decide)] at hlay
    have h12 := u_store hfc hkC hkind hlay hi h10 (hn G).1 (hn G).2
    rcases h5 with h5 | ⟨host, h5⟩
    · exact W.putK hX.1.1 hX.1.2.1 (f := f) ⟨hX.1.2.2.2.1, hts _ h5, ⟨_, _, _, hi'⟩, hst⟩ (by rw [q2]; exact h12) q1 q3 (by rw [hsl]; exact hlt) rfl rfl hd go
    · exact va_WputK hX.1.1 hX.1.2.1 (f := f) hX.1.2.2.2.1 (va_Nw.use (by rfl) (hC.2.2.1 _ h5)) hi' hst (by rw [q2]; exact h12) q1 q3 (by rw [hsl]; exact hlt) rfl rfl hd go
  | true =>
    obtain ⟨hname, q, hq1, hq2⟩ := hfin rfl
    rw [h1] at hq1
    cases hq1
    have hq2 : C = J.1.cls := hq2
    have hlay := hts _ (h6 _ (u_in_lay h2))
    unfold u_lay at hlay
    rw [if_pos h9] at hlay
    have hcf : m.cls = cf := by
      obtain ⟨_, _, c', _, _, _, -, -, hf', -, -, -, hown2, -⟩ := Cond.laysFinal_spec hlay
      have e1 : c' = cf := by have := hi.symm.trans hf'; simp at this; exact this.1.symm
      rw [h4, hq2] at hown2
      rw [← e1]; exact Option.some.inj (hX.1.2.2.2.1.symm.trans hown2)
    have h12 := u_fits hfc hkC hkind (Or.inr hlay) hi h10 (hn G).1 (hn G).2
    rcases h5 with h5 | ⟨host, h5⟩
    · exact W.putFinK hX.1.1 hX.1.2.1 hX.1.2.2.2.1 (hts _ h5) hi' hst hcf (hX.2.2.2.2.trans hname) (by rw [q2]; exact h12) q1 q3 (by rw [hsl]; exact hlt) rfl rfl hd go
    · exfalso
      have hh := hC.2.2.1 _ h5
      unfold NWL at h5
      rcases List.mem_append.mp h5 with h | h
      · obtain ⟨q, hq, e9⟩ := List.mem_map.mp h
        simp only [Cond.fieldLinkNest.injEq] at e9
        have : q.1 ≠ q.2.2.1 := nwF_apart q hq
        exact this (by rw [e9.1, e9.2.2.1, hq2])
      · obtain ⟨q, hq, e9⟩ := List.mem_map.mp h
        cases e9
theorem fs_self {α : Type} (f : Nat → α) (i : Nat) (x : α) : fun_set f i x i = x := by simp [fun_set]
theorem fs_ne {α : Type} (f : Nat → α) {i j : Nat} (x : α) (h : j ≠ i) : fun_set f i x j = f j := by simp [fun_set, h]
theorem fs_twice {α : Type} (f : Nat → α) (i : Nat) (x y : α) : fun_set (fun_set f i x) i y = fun_set f i y := by funext j; by_cases h : j = i <;> simp [fun_set, h]
theorem fs_same {α : Type} (f : Nat → α) (i : Nat) : fun_set f i (f i) = f := by funext j; by_cases h : j = i <;> simp [fun_set, h]
theorem fs_comm {α : Type} (f : Nat → α) {i j : Nat} (x y : α) (h : i ≠ j) : fun_set (fun_set f i x) j y = fun_set (fun_set f j y) i x := by
  funext q
  by_cases h1 : q = i
  · subst h1; simp [fun_set, h]
  · by_cases h2 : q = j <;> simp [fun_set, h1, h2, Ne.symm h]
theorem fval_of {G : Gl} {M M' : Mem} {i : Nat} (h1 : mI M' i = mI M i) (h2 : mL M' i = mL M i) (h3 : mR M' i = mR M i) (h4 : mD M' i = mD M i) (j : Nat) (t : FieldType) : fval G M' i j t = fval G M i j t := by
  cases t <;> simp only [fval, h1, h2, h3, h4]
theorem fvs_of {G : Gl} {M M' : Mem} {i : Nat} (h1 : mI M' i = mI M i) (h2 : mL M' i = mL M i) (h3 : mR M' i = mR M i) (h4 : mD M' i = mD M i) : ∀ (ts : List FieldType) (j : Nat), fvs G M' i j ts = fvs G M i j ts
  | [], j => rfl
  | t :: ts, j => by simp only [fvs, fval_of h1 h2 h3 h4, fvs_of h1 h2 h3 h4 ts (j + 1)]
theorem ent_of {G : Gl} {M M' : Mem} {i : Nat} (h1 : mI M' i = mI M i) (h2 : mL M' i = mL M i) (h3 : mR M' i = mR M i) (h4 : mD M' i = mD M i) (y : Knd) : ent G M' i y = ent G M i y := by
  rcases y with ⟨t, n⟩ | ci
  · cases t <;> simp only [ent, adat, h1, h2, h3, h4]
  · simp only [ent, fvs_of h1 h2 h3 h4]
theorem ent_sI {G : Gl} {M : Mem} {id i : Nat} {f : Nat → Int32} (y : Knd) (h : i ≠ id) : ent G (sI M id f) i y = ent G M i y := ent_of (M := M) (M' := sI M id f) (fs_ne _ _ h) rfl rfl rfl y
theorem ent_sL {G : Gl} {M : Mem} {id i : Nat} {f : Nat → Int64} (y : Knd) (h : i ≠ id) : ent G (sL M id f) i y = ent G M i y := ent_of (M := M) (M' := sL M id f) rfl (fs_ne _ _ h) rfl rfl y
theorem ent_sR {G : Gl} {M : Mem} {id i : Nat} {f : Nat → Option Nat} (y : Knd) (h : i ≠ id) : ent G (sR M id f) i y = ent G M i y := ent_of (M := M) (M' := sR M id f) rfl rfl (fs_ne _ _ h) rfl y
theorem ent_sD {G : Gl} {M : Mem} {id i : Nat} {f : Nat → UInt64} (y : Knd) (h : i ≠ id) : ent G (sD M id f) i y = ent G M i y := ent_of (M := M) (M' := sD M id f) rfl rfl rfl (fs_ne _ _ h) y
/-- putting an int field -/
theorem g_putI {ix ci j id : Nat} {ty : FieldType} {x : Int32} (hd : decode J.2.1 pc = .ok (.putfield ix, 3)) (hf : FP J.1.cls ix ci j ty false) (hk : (mK M)[id]? = some (.inr ci)) (hn : narrow ty (.int x) = .int x ∧ fits ty (.int x) = true) (hty : ∀ (G : Gl) (M : Mem) (i a : Nat), fval G M i a ty = .int (mI M i a))
    (kk : Go l J F L MC MS Q (pc + 3) lv st k n (sI M id (fun_set (mI M id) j x))) : Go l J F L MC MS Q pc lv (.int x :: .ref id :: st) k n M := by
  refine g_putf (v := .int x) (M' := sI M id (fun_set (mI M id) j x)) hd hf (fun h => by cases h) hk (fun G => hn) rfl rfl rfl (fun G => ?_) (fun G a t ha => ?_) (fun G i y hi _ => ent_sI y hi) kk
  · rw [hty]; show Value.int (fun_set (mI M) id _ id j) = .int x; rw [fs_self, fs_self]
  · cases t <;> simp only [fval, mI, sI, fs_self, fs_ne _ _ ha]
/-- putting a reference: a final field in a constructor -/
theorem g_putR {ix ci j id r : Nat} {ty : FieldType} {fin : Bool} (hd : decode J.2.1 pc = .ok (.putfield ix, 3)) (hf : FP J.1.cls ix ci j ty fin) (hfin : fin = true → J.1.name = "<init>" ∧ ∃ q, vwCl[ci]? = some q ∧ q.1 = J.1.cls) (hk : (mK M)[id]? = some (.inr ci)) (hn : ∀ a, narrow ty (.ref a) = .ref a ∧ fits ty (.ref a) = true) (hty : ∀ (G : Gl) (M : Mem) (i a : Nat), fval G M i a ty = va_rf ((mR M i a).map (fun i => gB G + i)))
    (kk : Go l J F L MC MS Q (pc + 3) lv st k n (sR M id (fun_set (mR M id) j (some r)))) : Go l J F L MC MS Q pc lv (.ref r :: .ref id :: st) k n M := by
  refine g_putf (v := .ref r) (M' := sR M id (fun_set (mR M id) j (some r))) hd hf hfin hk (fun G => hn _) rfl rfl rfl (fun G => ?_) (fun G a t ha => ?_) (fun G i y hi _ => ent_sR y hi) kk
  · rw [hty]; show va_rf (((fun_set (mR M) id _ id j)).map _) = _; rw [fs_self, fs_self]; rfl
  · cases t <;> simp only [fval, mR, sR, fs_self, fs_ne _ _ ha]
theorem g_iaload {id j len : Nat} {i : Int32} (hd : decode J.2.1 pc = .ok (.iaload, 1)) (hk : (mK M)[id]? = some (.inl (.int, len))) (hi : i = nI j) (hj : j < len) (hL : len < 2147483648) (kk : Go l J F L MC MS Q (pc + 1) lv (.int (mI M id j) :: st) k n M) : Go l J F L MC MS Q pc lv (.int i :: .ref id :: st) k n M := by
  subst hi
  intro p e s m args below meth c G H locs cells slots ls hX hC hR hS hl hc hs
  have h1 := kk p e s m args below meth c G H locs cells slots ls hX hC hR hS hl hc hs
  refine va_iald hX.1.1 hX.1.2.1 hC.2.1 hR.1 id 0 (wl_get hk) rfl (vp_in_nI hj hL) hd ?_
  rw [nI_clamp (by omega)]
  exact h1
theorem g_iastore {id j len : Nat} {i : Int32} {x : Int32} (hd : decode J.2.1 pc = .ok (.iastore, 1)) (hk : (mK M)[id]? = some (.inl (.int, len))) (hi : i = nI j) (hj : j < len) (hL : len < 2147483648) (kk : Go l J F L MC MS Q (pc + 1) lv st k n (sI M id (fun_set (mI M id) j x))) : Go l J F L MC MS Q pc lv (.int x :: .int i :: .ref id :: st) k n M := by
  subst hi
  intro p e s m args below meth c G H locs cells slots ls hX hC hR hS hl hc hs
  have he := wl_get (G := G) hk
  refine W.iast hX.1.1 hX.1.2.1 (hR.1 id _ he) ((hC.2.1.2 0 _ rfl).1 len (fun j => .int (mI M id j))) (fun q => by cases q) (by show ¬ (_ ∨ (arrV _ _ _).slots.size ≤ _); rw [arrV_size]; exact vp_in_nI hj hL) rfl rfl hd fun H1 e1 z oq => ?_
  refine kk p e s m args below meth c G H1 _ cells slots ls hX hC (rel_set hR hk rfl rfl rfl (fun i y hi _ => ent_sI y hi) z (hR.1.set (wl_D G M) he ?_ oq)) (hS.put z oq (by show gB G ≤ _; omega)) hl hc hs
  show H1[gB G + id]? = some (vp_cell (gA G .int) (len, adat G (sI M id (fun_set (mI M id) j x)) id .int))
  rw [e1]
  show some ((vp_cell (gA G .int) (len, adat G M id .int)).setSlot _ _) = _
  simp only [adat, sI, mI, fs_self]
  rw [vp_cell_i, vp_cell_i, arrV_store, nI_clamp (by omega)]
  congr 2
  funext q
  by_cases hq : q = j
  · subst hq
    simp [updV, fun_set, vp_nar]
    try rfl
  · simp [updV, fun_set, hq]
theorem g_baload {id j len : Nat} {i : Int32} (hd : decode J.2.1 pc = .ok (.baload, 1)) (hk : (mK M)[id]? = some (.inl (.byte, len))) (hi : i = nI j) (hj : j < len) (hL : len < 2147483648) (kk : Go l J F L MC MS Q (pc + 1) lv (.int (mI M id j) :: st) k n M) : Go l J F L MC MS Q pc lv (.int i :: .ref id :: st) k n M := by
  subst hi
  intro p e s m args below meth c G H locs cells slots ls hX hC hR hS hl hc hs
  have h1 := kk p e s m args below meth c G H locs cells slots ls hX hC hR hS hl hc hs
  refine va_bald hX.1.1 hX.1.2.1 hC.2.1 hR.1 id 2 (wl_get hk) rfl (vp_in_nI hj hL) hd ?_
  rw [nI_clamp (by omega)]
  exact h1
theorem g_bastore {id j len : Nat} {i : Int32} {x : Int32} (hd : decode J.2.1 pc = .ok (.bastore, 1)) (hk : (mK M)[id]? = some (.inl (.byte, len))) (hi : i = nI j) (hj : j < len) (hL : len < 2147483648) (kk : Go l J F L MC MS Q (pc + 1) lv st k n (sI M id (fun_set (mI M id) j (vp_nar .byte x)))) : Go l J F L MC MS Q pc lv (.int x :: .int i :: .ref id :: st) k n M := by
  subst hi
  intro p e s m args below meth c G H locs cells slots ls hX hC hR hS hl hc hs
  have he := wl_get (G := G) hk
  refine W.bast hX.1.1 hX.1.2.1 (hR.1 id _ he) ((hC.2.1.2 2 _ rfl).1 len (fun j => .int (mI M id j))) (fun q => by cases q) (by show ¬ (_ ∨ (arrV _ _ _).slots.size ≤ _); rw [arrV_size]; exact vp_in_nI hj hL) rfl rfl hd fun H1 e1 z oq => ?_
  refine kk p e s m args below meth c G H1 _ cells slots ls hX hC (rel_set hR hk rfl rfl rfl (fun i y hi _ => ent_sI y hi) z (hR.1.set (wl_D G M) he ?_ oq)) (hS.put z oq (by show gB G ≤ _; omega)) hl hc hs
  show H1[gB G + id]? = some (vp_cell (gA G .byte) (len, adat G (sI M id (fun_set (mI M id) j (vp_nar .byte x))) id .byte))
  rw [e1]
  show some ((vp_cell (gA G .byte) (len, adat G M id .byte)).setSlot _ _) = _
  simp only [adat, sI, mI, fs_self]
  rw [vp_cell_i, vp_cell_i, arrV_store, nI_clamp (by omega)]
  congr 2
  funext q
  by_cases hq : q = j
  · subst hq
    simp [updV, fun_set, vp_nar]
    try rfl
  · simp [updV, fun_set, hq]
theorem g_zaload {id j len : Nat} {i : Int32} (hd : decode J.2.1 pc = .ok (.baload, 1)) (hk : (mK M)[id]? = some (.inl (.boolean, len))) (hi : i = nI j) (hj : j < len) (hL : len < 2147483648) (kk : Go l J F L MC MS Q (pc + 1) lv (.int (mI M id j) :: st) k n M) : Go l J F L MC MS Q pc lv (.int i :: .ref id :: st) k n M := by
  subst hi
  intro p e s m args below meth c G H locs cells slots ls hX hC hR hS hl hc hs
  have h1 := kk p e s m args below meth c G H locs cells slots ls hX hC hR hS hl hc hs
  refine va_zald hX.1.1 hX.1.2.1 hC.2.1 hR.1 id 3 (wl_get hk) rfl (vp_in_nI hj hL) hd ?_
  rw [nI_clamp (by omega)]
  exact h1
theorem g_zastore {id j len : Nat} {i : Int32} {x : Int32} (hd : decode J.2.1 pc = .ok (.bastore, 1)) (hk : (mK M)[id]? = some (.inl (.boolean, len))) (hi : i = nI j) (hj : j < len) (hL : len < 2147483648) (kk : Go l J F L MC MS Q (pc + 1) lv st k n (sI M id (fun_set (mI M id) j (vp_nar .boolean x)))) : Go l J F L MC MS Q pc lv (.int x :: .int i :: .ref id :: st) k n M := by
  subst hi
  intro p e s m args below meth c G H locs cells slots ls hX hC hR hS hl hc hs
  have he := wl_get (G := G) hk
  refine W.zast hX.1.1 hX.1.2.1 (hR.1 id _ he) ((hC.2.1.2 3 _ rfl).1 len (fun j => .int (mI M id j))) (fun q => by cases q) (by show ¬ (_ ∨ (arrV _ _ _).slots.size ≤ _); rw [arrV_size]; exact vp_in_nI hj hL) rfl rfl hd fun H1 e1 z oq => ?_
  refine kk p e s m args below meth c G H1 _ cells slots ls hX hC (rel_set hR hk rfl rfl rfl (fun i y hi _ => ent_sI y hi) z (hR.1.set (wl_D G M) he ?_ oq)) (hS.put z oq (by show gB G ≤ _; omega)) hl hc hs
  show H1[gB G + id]? = some (vp_cell (gA G .boolean) (len, adat G (sI M id (fun_set (mI M id) j (vp_nar .boolean x))) id .boolean))
  rw [e1]
  show some ((vp_cell (gA G .boolean) (len, adat G M id .boolean)).setSlot _ _) = _
  simp only [adat, sI, mI, fs_self]
  rw [vp_cell_i, vp_cell_i, arrV_store, nI_clamp (by omega)]
  congr 2
  funext q
  by_cases hq : q = j
  · subst hq
    simp [updV, fun_set, vp_nar]
    try rfl
  · simp [updV, fun_set, hq]
theorem g_laload {id j len : Nat} {i : Int32} (hd : decode J.2.1 pc = .ok (.laload, 1)) (hk : (mK M)[id]? = some (.inl (.long, len))) (hi : i = nI j) (hj : j < len) (hL : len < 2147483648) (kk : Go l J F L MC MS Q (pc + 1) lv (.long (mL M id j) :: st) k n M) : Go l J F L MC MS Q pc lv (.int i :: .ref id :: st) k n M := by
  subst hi
  intro p e s m args below meth c G H locs cells slots ls hX hC hR hS hl hc hs
  have h1 := kk p e s m args below meth c G H locs cells slots ls hX hC hR hS hl hc hs
  refine va_lald hX.1.1 hX.1.2.1 hC.2.1 hR.1 id 1 (wl_get hk) rfl (vp_in_nI hj hL) hd ?_
  rw [nI_clamp (by omega)]
  exact h1
theorem g_lastore {id j len : Nat} {i : Int32} {x : Int64} (hd : decode J.2.1 pc = .ok (.lastore, 1)) (hk : (mK M)[id]? = some (.inl (.long, len))) (hi : i = nI j) (hj : j < len) (hL : len < 2147483648) (kk : Go l J F L MC MS Q (pc + 1) lv st k n (sL M id (fun_set (mL M id) j x))) : Go l J F L MC MS Q pc lv (.long x :: .int i :: .ref id :: st) k n M := by
  subst hi
  intro p e s m args below meth c G H locs cells slots ls hX hC hR hS hl hc hs
  have he := wl_get (G := G) hk
  refine W.last hX.1.1 hX.1.2.1 (hR.1 id _ he) ((hC.2.1.2 1 _ rfl).1 len (fun j => .long (mL M id j))) (fun q => by cases q) (by show ¬ (_ ∨ (arrV _ _ _).slots.size ≤ _); rw [arrV_size]; exact vp_in_nI hj hL) rfl rfl hd fun H1 e1 z oq => ?_
  refine kk p e s m args below meth c G H1 _ cells slots ls hX hC (rel_set hR hk rfl rfl rfl (fun i y hi _ => ent_sL y hi) z (hR.1.set (wl_D G M) he ?_ oq)) (hS.put z oq (by show gB G ≤ _; omega)) hl hc hs
  show H1[gB G + id]? = some (vp_cell (gA G .long) (len, adat G (sL M id (fun_set (mL M id) j x)) id .long))
  rw [e1]
  show some ((vp_cell (gA G .long) (len, adat G M id .long)).setSlot _ _) = _
  simp only [adat, sL, mL, fs_self]
  rw [vp_cell_l, vp_cell_l, arrV_store, nI_clamp (by omega)]
  congr 2
  funext q
  by_cases hq : q = j
  · subst hq
    simp [updV, fun_set, vp_nar]
    try rfl
  · simp [updV, fun_set, hq]
theorem g_daload {id j len : Nat} {i : Int32} (hd : decode J.2.1 pc = .ok (.daload, 1)) (hk : (mK M)[id]? = some (.inl (.double, len))) (hi : i = nI j) (hj : j < len) (hL : len < 2147483648) (kk : Go l J F L MC MS Q (pc + 1) lv (.double (mD M id j) :: st) k n M) : Go l J F L MC MS Q pc lv (.int i :: .ref id :: st) k n M := by
  subst hi
  intro p e s m args below meth c G H locs cells slots ls hX hC hR hS hl hc hs
  have h1 := kk p e s m args below meth c G H locs cells slots ls hX hC hR hS hl hc hs
  refine va_dald hX.1.1 hX.1.2.1 hC.2.1 hR.1 id 4 (wl_get hk) rfl (vp_in_nI hj hL) hd ?_
  rw [nI_clamp (by omega)]
  exact h1
theorem g_dastore {id j len : Nat} {i : Int32} {x : UInt64} (hd : decode J.2.1 pc = .ok (.dastore, 1)) (hk : (mK M)[id]? = some (.inl (.double, len))) (hi : i = nI j) (hj : j < len) (hL : len < 2147483648) (kk : Go l J F L MC MS Q (pc + 1) lv st k n (sD M id (fun_set (mD M id) j x))) : Go l J F L MC MS Q pc lv (.double x :: .int i :: .ref id :: st) k n M := by
  subst hi
  intro p e s m args below meth c G H locs cells slots ls hX hC hR hS hl hc hs
  have he := wl_get (G := G) hk
  refine W.dast hX.1.1 hX.1.2.1 (hR.1 id _ he) ((hC.2.1.2 4 _ rfl).1 len (fun j => .double (mD M id j))) (fun q => by cases q) (by show ¬ (_ ∨ (arrV _ _ _).slots.size ≤ _); rw [arrV_size]; exact vp_in_nI hj hL) rfl rfl hd fun H1 e1 z oq => ?_
  refine kk p e s m args below meth c G H1 _ cells slots ls hX hC (rel_set hR hk rfl rfl rfl (fun i y hi _ => ent_sD y hi) z (hR.1.set (wl_D G M) he ?_ oq)) (hS.put z oq (by show gB G ≤ _; omega)) hl hc hs
  show H1[gB G + id]? = some (vp_cell (gA G .double) (len, adat G (sD M id (fun_set (mD M id) j x)) id .double))
  rw [e1]
  show some ((vp_cell (gA G .double) (len, adat G M id .double)).setSlot _ _) = _
  simp only [adat, sD, mD, fs_self]
  rw [vp_cell_d, vp_cell_d, arrV_store, nI_clamp (by omega)]
  congr 2
  funext q
  by_cases hq : q = j
  · subst hq
    simp [updV, fun_set, vp_nar]
    try rfl
  · simp [updV, fun_set, hq]
theorem g_aaload_State {id j len r : Nat} {i : Int32} (hd : decode J.2.1 pc = .ok (.aaload, 1)) (hk : (mK M)[id]? = some (.inl (.object "BitDesk$State", len))) (hi : i = nI j) (hj : j < len) (hL : len < 2147483648) (hr : mR M id j = some r) (kk : Go l J F L MC MS Q (pc + 1) lv (.ref r :: st) k n M) : Go l J F L MC MS Q pc lv (.int i :: .ref id :: st) k n M := by
  subst hi
  intro p e s m args below meth c G H locs cells slots ls hX hC hR hS hl hc hs
  have h1 := kk p e s m args below meth c G H locs cells slots ls hX hC hR hS hl hc hs
  refine va_aldq hX.1.1 hX.1.2.1 hC.2.1 hR.1 id 5 (wl_get hk) rfl (vp_in_nI hj hL) hd ?_
  rw [nI_clamp (by omega)]
  show W _ _ _ _ _ _ _ _ _ _ _ _ _ _ _ (F0 m (pc + 1) ls (va_rf ((mR M id j).map _) :: _))
  rw [hr]
  exact h1
theorem g_aastore_State {id j len r ci : Nat} {q0 : vw_C} {i : Int32} (hd : decode J.2.1 pc = .ok (.aastore, 1)) (hk : (mK M)[id]? = some (.inl (.object "BitDesk$State", len))) (hi : i = nI j) (hj : j < len) (hL : len < 2147483648) (hr : (mK M)[r]? = some (.inr ci)) (hc0 : vwCl[ci]? = some q0) (hq0 : q0.1 = "BitDesk$State") (kk : Go l J F L MC MS Q (pc + 1) lv st k n (sR M id (fun_set (mR M id) j (some r)))) : Go l J F L MC MS Q pc lv (.ref r :: .int i :: .ref id :: st) k n M := by
  subst hi
  intro p e s m args below meth c G H locs cells slots ls hX hC hR hS hl hc hs
  have he := wl_get (G := G) hk
  have hv := wl_get (G := G) hr
  obtain ⟨r', hr', cellV, g1, g2, g3, -⟩ := hR.1 r _ hv
  have hcls := (hC.2.1.1 ci q0 hc0).2
  rw [hq0] at hcls
  obtain ⟨kA, comp, k1, k2, k3, -⟩ := (hC.2.1.2 5 _ rfl).2
  have hcomp : comp = (gD G).1 ci := Option.some.inj (k3.symm.trans hcls.1)
  subst hcomp
  obtain ⟨kC, hkC, -⟩ := hcls.2
  refine W.aast hX.1.1 hX.1.2.1 (hR.1 id _ he) (fun q h => by cases h) (fun h => by cases h) k1 k2 rfl hkC ⟨nI_pos (by omega), by show _ < (arrV _ _ _).slots.size; rw [arrV_size, nI_clamp (by omega)]; exact hj⟩ g1 (fun q h => by rw [g3] at h; cases h) (by rw [g2]; exact hkC) (by rw [g2]; exact va_assign hcls) rfl rfl hd fun H1 e1 z oq => ?_
  refine kk p e s m args below meth c G H1 _ cells slots ls hX hC (rel_set hR hk rfl rfl rfl (fun i y hi _ => ent_sR y hi) z (hR.1.set (wl_D G M) he ?_ oq)) (hS.put z oq (by show gB G ≤ _; omega)) hl hc hs
  show H1[gB G + id]? = some (vp_cell (gA G (.object "BitDesk$State")) (len, adat G (sR M id (fun_set (mR M id) j (some r))) id (.object "BitDesk$State")))
  rw [e1]
  show some ((vp_cell (gA G (.object "BitDesk$State")) (len, adat G M id (.object "BitDesk$State"))).setSlot _ _) = _
  simp only [adat, sR, mR, fs_self]
  rw [vp_cell_q, vp_cell_q, arrV_store, nI_clamp (by omega)]
  congr 2
  funext q
  by_cases hq : q = j
  · subst hq
    simp [updV, fun_set, va_rf]
  · simp [updV, fun_set, hq]
theorem g_aaload_Matrix {id j len r : Nat} {i : Int32} (hd : decode J.2.1 pc = .ok (.aaload, 1)) (hk : (mK M)[id]? = some (.inl (.object "BitDesk$Matrix", len))) (hi : i = nI j) (hj : j < len) (hL : len < 2147483648) (hr : mR M id j = some r) (kk : Go l J F L MC MS Q (pc + 1) lv (.ref r :: st) k n M) : Go l J F L MC MS Q pc lv (.int i :: .ref id :: st) k n M := by
  subst hi
  intro p e s m args below meth c G H locs cells slots ls hX hC hR hS hl hc hs
  have h1 := kk p e s m args below meth c G H locs cells slots ls hX hC hR hS hl hc hs
  refine va_aldq hX.1.1 hX.1.2.1 hC.2.1 hR.1 id 6 (wl_get hk) rfl (vp_in_nI hj hL) hd ?_
  rw [nI_clamp (by omega)]
  show W _ _ _ _ _ _ _ _ _ _ _ _ _ _ _ (F0 m (pc + 1) ls (va_rf ((mR M id j).map _) :: _))
  rw [hr]
  exact h1
theorem g_aastore_Matrix {id j len r ci : Nat} {q0 : vw_C} {i : Int32} (hd : decode J.2.1 pc = .ok (.aastore, 1)) (hk : (mK M)[id]? = some (.inl (.object "BitDesk$Matrix", len))) (hi : i = nI j) (hj : j < len) (hL : len < 2147483648) (hr : (mK M)[r]? = some (.inr ci)) (hc0 : vwCl[ci]? = some q0) (hq0 : q0.1 = "BitDesk$Matrix") (kk : Go l J F L MC MS Q (pc + 1) lv st k n (sR M id (fun_set (mR M id) j (some r)))) : Go l J F L MC MS Q pc lv (.ref r :: .int i :: .ref id :: st) k n M := by
  subst hi
  intro p e s m args below meth c G H locs cells slots ls hX hC hR hS hl hc hs
  have he := wl_get (G := G) hk
  have hv := wl_get (G := G) hr
  obtain ⟨r', hr', cellV, g1, g2, g3, -⟩ := hR.1 r _ hv
  have hcls := (hC.2.1.1 ci q0 hc0).2
  rw [hq0] at hcls
  obtain ⟨kA, comp, k1, k2, k3, -⟩ := (hC.2.1.2 6 _ rfl).2
  have hcomp : comp = (gD G).1 ci := Option.some.inj (k3.symm.trans hcls.1)
  subst hcomp
  obtain ⟨kC, hkC, -⟩ := hcls.2
  refine W.aast hX.1.1 hX.1.2.1 (hR.1 id _ he) (fun q h => by cases h) (fun h => by cases h) k1 k2 rfl hkC ⟨nI_pos (by omega), by show _ < (arrV _ _ _).slots.size; rw [arrV_size, nI_clamp (by omega)]; exact hj⟩ g1 (fun q h => by rw [g3] at h; cases h) (by rw [g2]; exact hkC) (by rw [g2]; exact va_assign hcls) rfl rfl hd fun H1 e1 z oq => ?_
  refine kk p e s m args below meth c G H1 _ cells slots ls hX hC (rel_set hR hk rfl rfl rfl (fun i y hi _ => ent_sR y hi) z (hR.1.set (wl_D G M) he ?_ oq)) (hS.put z oq (by show gB G ≤ _; omega)) hl hc hs
  show H1[gB G + id]? = some (vp_cell (gA G (.object "BitDesk$Matrix")) (len, adat G (sR M id (fun_set (mR M id) j (some r))) id (.object "BitDesk$Matrix")))
  rw [e1]
  show some ((vp_cell (gA G (.object "BitDesk$Matrix")) (len, adat G M id (.object "BitDesk$Matrix"))).setSlot _ _) = _
  simp only [adat, sR, mR, fs_self]
  rw [vp_cell_q, vp_cell_q, arrV_store, nI_clamp (by omega)]
  congr 2
  funext q
  by_cases hq : q = j
  · subst hq
    simp [updV, fun_set, va_rf]
  · simp [updV, fun_set, hq]
theorem g_aaload_Closure {id j len r : Nat} {i : Int32} (hd : decode J.2.1 pc = .ok (.aaload, 1)) (hk : (mK M)[id]? = some (.inl (.object "BitDesk$Closure", len))) (hi : i = nI j) (hj : j < len) (hL : len < 2147483648) (hr : mR M id j = some r) (kk : Go l J F L MC MS Q (pc + 1) lv (.ref r :: st) k n M) : Go l J F L MC MS Q pc lv (.int i :: .ref id :: st) k n M := by
  subst hi
  intro p e s m args below meth c G H locs cells slots ls hX hC hR hS hl hc hs
  have h1 := kk p e s m args below meth c G H locs cells slots ls hX hC hR hS hl hc hs
  refine va_aldq hX.1.1 hX.1.2.1 hC.2.1 hR.1 id 7 (wl_get hk) rfl (vp_in_nI hj hL) hd ?_
  rw [nI_clamp (by omega)]
  show W _ _ _ _ _ _ _ _ _ _ _ _ _ _ _ (F0 m (pc + 1) ls (va_rf ((mR M id j).map _) :: _))
  rw [hr]
  exact h1
theorem g_aastore_Closure {id j len r ci : Nat} {q0 : vw_C} {i : Int32} (hd : decode J.2.1 pc = .ok (.aastore, 1)) (hk : (mK M)[id]? = some (.inl (.object "BitDesk$Closure", len))) (hi : i = nI j) (hj : j < len) (hL : len < 2147483648) (hr : (mK M)[r]? = some (.inr ci)) (hc0 : vwCl[ci]? = some q0) (hq0 : q0.1 = "BitDesk$Closure") (kk : Go l J F L MC MS Q (pc + 1) lv st k n (sR M id (fun_set (mR M id) j (some r)))) : Go l J F L MC MS Q pc lv (.ref r :: .int i :: .ref id :: st) k n M := by
  subst hi
  intro p e s m args below meth c G H locs cells slots ls hX hC hR hS hl hc hs
  have he := wl_get (G := G) hk
  have hv := wl_get (G := G) hr
  obtain ⟨r', hr', cellV, g1, g2, g3, -⟩ := hR.1 r _ hv
  have hcls := (hC.2.1.1 ci q0 hc0).2
  rw [hq0] at hcls
  obtain ⟨kA, comp, k1, k2, k3, -⟩ := (hC.2.1.2 7 _ rfl).2
  have hcomp : comp = (gD G).1 ci := Option.some.inj (k3.symm.trans hcls.1)
  subst hcomp
  obtain ⟨kC, hkC, -⟩ := hcls.2
  refine W.aast hX.1.1 hX.1.2.1 (hR.1 id _ he) (fun q h => by cases h) (fun h => by cases h) k1 k2 rfl hkC ⟨nI_pos (by omega), by show _ < (arrV _ _ _).slots.size; rw [arrV_size, nI_clamp (by omega)]; exact hj⟩ g1 (fun q h => by rw [g3] at h; cases h) (by rw [g2]; exact hkC) (by rw [g2]; exact va_assign hcls) rfl rfl hd fun H1 e1 z oq => ?_
  refine kk p e s m args below meth c G H1 _ cells slots ls hX hC (rel_set hR hk rfl rfl rfl (fun i y hi _ => ent_sR y hi) z (hR.1.set (wl_D G M) he ?_ oq)) (hS.put z oq (by show gB G ≤ _; omega)) hl hc hs
  show H1[gB G + id]? = some (vp_cell (gA G (.object "BitDesk$Closure")) (len, adat G (sR M id (fun_set (mR M id) j (some r))) id (.object "BitDesk$Closure")))
  rw [e1]
  show some ((vp_cell (gA G (.object "BitDesk$Closure")) (len, adat G M id (.object "BitDesk$Closure"))).setSlot _ _) = _
  simp only [adat, sR, mR, fs_self]
  rw [vp_cell_q, vp_cell_q, arrV_store, nI_clamp (by omega)]
  congr 2
  funext q
  by_cases hq : q = j
  · subst hq
    simp [updV, fun_set, va_rf]
  · simp [updV, fun_set, hq]
end
end
-- 05.ends
section
/-! RULES: making cells, ends of methods, throws, calls. -/
section
variable {l : Launch} {J : Jm} {F L MC MS : Nat} {Q : Res → Mem → Prop} {pc : Nat} {lv : List (Nat × Value)} {st : List Value} {k n : Nat} {M : Mem}
theorem ent_nK {G : Gl} {M : Mem} {x : Knd} {i : Nat} (y : Knd) (h : i < (mK M).length) : ent G (nK M x) i y = ent G M i y :=
  ent_of (M := M) (M' := nK M x) (fs_ne _ _ (Nat.ne_of_lt h)) (fs_ne _ _ (Nat.ne_of_lt h)) (fs_ne _ _ (Nat.ne_of_lt h)) (fs_ne _ _ (Nat.ne_of_lt h)) y
theorem wl_push (G : Gl) (M : Mem) (x : Knd) : wl G (nK M x) = wl G M ++ [(gB G + (mK M).length, ent G (nK M x) (mK M).length x)] := by
  unfold wl
  rw [show mK (nK M x) = mK M ++ [x] from rfl, List.mapIdx_append]
  congr 1
  · apply List.ext_getElem?
    intro i
    rw [List.getElem?_mapIdx, List.getElem?_mapIdx]
    cases h : (mK M)[i]? with
    | none => rfl
    | some y => simp only [Option.map_some]; rw [ent_nK y (List.getElem?_eq_some_iff.mp h).1]
  · simp
theorem rel_push {G : Gl} {M : Mem} {H H1 : Heap} {x : Knd} (hR : Rel G M H) (hx : mX M = true) (hz : H1.size = H.size + 1) (hk : ∀ q : Nat, q < H.size → H1[q]? = H[q]?) (he : va_at (gD G) vwCl (H.size, ent G (nK M x) (mK M).length x) H1) : Rel G (nK M x) H1 := by
  have hH := hR.2.1 hx
  refine ⟨?_, fun _ => ?_, ?_, hR.2.2.2⟩
  · rw [wl_push]
    refine (hR.1.kept (fun i q hq => hk _ (hR.1 i q hq).lt)).app (fun i q hq => ?_)
    have hz : i < 1 := (List.getElem?_eq_some_iff.mp hq).1
    rw [show i = 0 by omega] at hq
    cases hq
    rw [← hH]
    exact he
  · show H1.size = gB G + (mK M ++ [x]).length
    rw [List.length_append, hz, hH]; simp; omega
  · show gB G + (mK M ++ [x]).length ≤ H1.size
    rw [List.length_append, hz, hH]; simp; omega
theorem va_S.more {A : Nat → Prop} {H0 H H1 : Heap} {locs : List Loc} (h : va_S A H0 H locs) (hz : H.size ≤ H1.size) (hk : ∀ q : Nat, q < H.size → H1[q]? = H[q]?) : va_S A H0 H1 locs :=
  ⟨Nat.le_trans h.1 hz, fun q h1 h2 => (hk q (Nat.lt_of_lt_of_le h1 h.1)).trans (h.2.1 q h1 h2), h.2.2⟩
theorem g_newarray_int {len : Nat} {i : Int32} (hd : decode J.2.1 pc = .ok (.newarray .int, 2)) (hw : Cond.arrayClass .int ∈ WS) (hi : i = nI len) (hL : len < 100000) (hx : mX M = true) (kk : Go l J F L MC MS Q (pc + 2) lv (.ref (mK M).length :: st) k n (nK M (.inl (.int, len)))) : Go l J F L MC MS Q pc lv (.int i :: st) (k + 1) (n + len) M := by
  subst hi
  intro p e s m args below meth c G H locs cells slots ls hX hC hR hS hl hc hs
  have hH := hR.2.1 hx
  refine va_newaK (atype := .int) hX.1.1 hX.1.2.1 (hX.1.2.2.2.2 _ hw) rfl hd rfl (nI_pos (by omega)) (nI_clamp (by omega)) (by simp only [newarray.typeOf, componentBytes]; omega) (by show cells + 1 ≤ MC; omega) (by show slots + len ≤ MS; omega) hH fun H1 cA e1 z1 o1 hAr hNm => ?_
  have hcA : cA = gA G .int := by
    have h9 : s.vm.findClass ("[" ++ FieldType.int.toString) = some (gA G .int) := (hC.2.1.2 0 _ rfl).2
    exact Option.some.inj (hNm.symm.trans h9)
  have hz : H1.size = H.size + 1 := by rw [z1, hH]
  have ho : ∀ q : Nat, q < H.size → H1[q]? = H[q]? := fun q hq => o1 q (by rw [← hH]; exact hq)
  refine kk p e s m args below meth c G H1 locs (cells + 1) (slots + len) ls hX hC (rel_push hR hx hz ho ?_) (hS.more (by omega) ho) hl (by omega) (by omega)
  show H1[H.size]? = some (vp_cell (gA G .int) (len, adat G (nK M (.inl (.int, len))) (mK M).length .int))
  rw [hH, e1, hcA]
  simp only [adat, nK, mI, mL, mD, fs_self]
  rw [vp_cell_i]
  rfl
theorem g_newarray_byte {len : Nat} {i : Int32} (hd : decode J.2.1 pc = .ok (.newarray .byte, 2)) (hw : Cond.arrayClass .byte ∈ WS) (hi : i = nI len) (hL : len < 100000) (hx : mX M = true) (kk : Go l J F L MC MS Q (pc + 2) lv (.ref (mK M).length :: st) k n (nK M (.inl (.byte, len)))) : Go l J F L MC MS Q pc lv (.int i :: st) (k + 1) (n + len) M := by
  subst hi
  intro p e s m args below meth c G H locs cells slots ls hX hC hR hS hl hc hs
  have hH := hR.2.1 hx
  refine va_newaK (atype := .byte) hX.1.1 hX.1.2.1 (hX.1.2.2.2.2 _ hw) rfl hd rfl (nI_pos (by omega)) (nI_clamp (by omega)) (by simp only [newarray.typeOf, componentBytes]; omega) (by show cells + 1 ≤ MC; omega) (by show slots + len ≤ MS; omega) hH fun H1 cA e1 z1 o1 hAr hNm => ?_
  have hcA : cA = gA G .byte := by
    have h9 : s.vm.findClass ("[" ++ FieldType.byte.toString) = some (gA G .byte) := (hC.2.1.2 2 _ rfl).2
    exact Option.some.inj (hNm.symm.trans h9)
  have hz : H1.size = H.size + 1 := by rw [z1, hH]
  have ho : ∀ q : Nat, q < H.size → H1[q]? = H[q]? := fun q hq => o1 q (by rw [← hH]; exact hq)
  refine kk p e s m args below meth c G H1 locs (cells + 1) (slots + len) ls hX hC (rel_push hR hx hz ho ?_) (hS.more (by omega) ho) hl (by omega) (by omega)
  show H1[H.size]? = some (vp_cell (gA G .byte) (len, adat G (nK M (.inl (.byte, len))) (mK M).length .byte))
  rw [hH, e1, hcA]
  simp only [adat, nK, mI, mL, mD, fs_self]
  rw [vp_cell_i]
  rfl
theorem g_newarray_boolean {len : Nat} {i : Int32} (hd : decode J.2.1 pc = .ok (.newarray .boolean, 2)) (hw : Cond.arrayClass .boolean ∈ WS) (hi : i = nI len) (hL : len < 100000) (hx : mX M = true) (kk : Go l J F L MC MS Q (pc + 2) lv (.ref (mK M).length :: st) k n (nK M (.inl (.boolean, len)))) : Go l J F L MC MS Q pc lv (.int i :: st) (k + 1) (n + len) M := by
  subst hi
  intro p e s m args below meth c G H locs cells slots ls hX hC hR hS hl hc hs
  have hH := hR.2.1 hx
  refine va_newaK (atype := .boolean) hX.1.1 hX.1.2.1 (hX.1.2.2.2.2 _ hw) rfl hd rfl (nI_pos (by omega)) (nI_clamp (by omega)) (by simp only [newarray.typeOf, componentBytes]; omega) (by show cells + 1 ≤ MC; omega) (by show slots + len ≤ MS; omega) hH fun H1 cA e1 z1 o1 hAr hNm => ?_
  have hcA : cA = gA G .boolean := by
    have h9 : s.vm.findClass ("[" ++ FieldType.boolean.toString) = some (gA G .boolean) := (hC.2.1.2 3 _ rfl).2
    exact Option.some.inj (hNm.symm.trans h9)
  have hz : H1.size = H.size + 1 := by rw [z1, hH]
  have ho : ∀ q : Nat, q < H.size → H1[q]? = H[q]? := fun q hq => o1 q (by rw [← hH]; exact hq)
  refine kk p e s m args below meth c G H1 locs (cells + 1) (slots + len) ls hX hC (rel_push hR hx hz ho ?_) (hS.more (by omega) ho) hl (by omega) (by omega)
  show H1[H.size]? = some (vp_cell (gA G .boolean) (len, adat G (nK M (.inl (.boolean, len))) (mK M).length .boolean))
  rw [hH, e1, hcA]
  simp only [adat, nK, mI, mL, mD, fs_self]
  rw [vp_cell_i]
  rfl
theorem g_newarray_long {len : Nat} {i : Int32} (hd : decode J.2.1 pc = .ok (.newarray .long, 2)) (hw : Cond.arrayClass .long ∈ WS) (hi : i = nI len) (hL : len < 100000) (hx : mX M = true) (kk : Go l J F L MC MS Q (pc + 2) lv (.ref (mK M).length :: st) k n (nK M (.inl (.long, len)))) : Go l J F L MC MS Q pc lv (.int i :: st) (k + 1) (n + len) M := by
  subst hi
  intro p e s m args below meth c G H locs cells slots ls hX hC hR hS hl hc hs
  have hH := hR.2.1 hx
  refine va_newaK (atype := .long) hX.1.1 hX.1.2.1 (hX.1.2.2.2.2 _ hw) rfl hd rfl (nI_pos (by omega)) (nI_clamp (by omega)) (by simp only [newarray.typeOf, componentBytes]; omega) (by show cells + 1 ≤ MC; omega) (by show slots + len ≤ MS; omega) hH fun H1 cA e1 z1 o1 hAr hNm => ?_
  have hcA : cA = gA G .long := by
    have h9 : s.vm.findClass ("[" ++ FieldType.long.toString) = some (gA G .long) := (hC.2.1.2 1 _ rfl).2
    exact Option.some.inj (hNm.symm.trans h9)
  have hz : H1.size = H.size + 1 := by rw [z1, hH]
  have ho : ∀ q : Nat, q < H.size → H1[q]? = H[q]? := fun q hq => o1 q (by rw [← hH]; exact hq)
  refine kk p e s m args below meth c G H1 locs (cells + 1) (slots + len) ls hX hC (rel_push hR hx hz ho ?_) (hS.more (by omega) ho) hl (by omega) (by omega)
  show H1[H.size]? = some (vp_cell (gA G .long) (len, adat G (nK M (.inl (.long, len))) (mK M).length .long))
  rw [hH, e1, hcA]
  simp only [adat, nK, mI, mL, mD, fs_self]
  rw [vp_cell_l]
  rfl
theorem g_newarray_double {len : Nat} {i : Int32} (hd : decode J.2.1 pc = .ok (.newarray .double, 2)) (hw : Cond.arrayClass .double ∈ WS) (hi : i = nI len) (hL : len < 100000) (hx : mX M = true) (kk : Go l J F L MC MS Q (pc + 2) lv (.ref (mK M).length :: st) k n (nK M (.inl (.double, len)))) : Go l J F L MC MS Q pc lv (.int i :: st) (k + 1) (n + len) M := by
  subst hi
  intro p e s m args below meth c G H locs cells slots ls hX hC hR hS hl hc hs
  have hH := hR.2.1 hx
  refine va_newaK (atype := .double) hX.1.1 hX.1.2.1 (hX.1.2.2.2.2 _ hw) rfl hd rfl (nI_pos (by omega)) (nI_clamp (by omega)) (by simp only [newarray.typeOf, componentBytes]; omega) (by show cells + 1 ≤ MC; omega) (by show slots + len ≤ MS; omega) hH fun H1 cA e1 z1 o1 hAr hNm => ?_
  have hcA : cA = gA G .double := by
    have h9 : s.vm.findClass ("[" ++ FieldType.double.toString) = some (gA G .double) := (hC.2.1.2 4 _ rfl).2
    exact Option.some.inj (hNm.symm.trans h9)
  have hz : H1.size = H.size + 1 := by rw [z1, hH]
  have ho : ∀ q : Nat, q < H.size → H1[q]? = H[q]? := fun q hq => o1 q (by rw [← hH]; exact hq)
  refine kk p e s m args below meth c G H1 locs (cells + 1) (slots + len) ls hX hC (rel_push hR hx hz ho ?_) (hS.more (by omega) ho) hl (by omega) (by omega)
  show H1[H.size]? = some (vp_cell (gA G .double) (len, adat G (nK M (.inl (.double, len))) (mK M).length .double))
  rw [hH, e1, hcA]
  simp only [adat, nK, mI, mL, mD, fs_self]
  rw [vp_cell_d]
  rfl
theorem g_new {ix ci nf : Nat} {q0 : vw_C} {ty0 : Nat → FieldType} (hd : decode J.2.1 pc = .ok (.new ix, 3)) (hc0 : vwCl[ci]? = some q0) (hcl : Cond.classLink J.1.cls ix q0.1 ∈ WS) (hin : Cond.instantiable q0.1 q0.2.2 ∈ WS) (hini : Cond.initialized q0.1 ∈ WS) (hws : ∀ w ∈ u_ws q0.1 q0.2.1 q0.2.2, w ∈ WS) (hty : ∀ a, a < q0.2.2 → parseFieldDescriptor (q0.2.1 a).2.2.1 = some (ty0 a)) (hdf : ∀ a, a < q0.2.2 → ∀ (G : Gl), defaultValue (ty0 a) = vp_V (fvs G (nK M (.inr ci)) (mK M).length 0 (ftyA ci)) a) (hnf : q0.2.2 = nf) (hx : mX M = true)
    (kk : Go l J F L MC MS Q (pc + 3) lv (.ref (mK M).length :: st) k n (nK M (.inr ci))) : Go l J F L MC MS Q pc lv st (k + 1) (n + nf) M := by
  subst hnf
  intro p e s m args below meth c G H locs cells slots ls hX hC hR hS hl hc hs
  have hH := hR.2.1 hx
  have hts := hX.1.2.2.2.2
  have hKn := hC.2.1.1 ci _ hc0
  refine W.newcK hX.1.1 hX.1.2.1 hX.1.2.2.2.1 (hts _ hcl) (hts _ hin) (hts _ hini) rfl hd (by show cells + 1 ≤ MC; omega) (by show slots + _ ≤ MS; omega) hKn.2.1 rfl fun H1 kC hkC e1 z1 o1 => ?_
  have h1 := kk p e s m args below meth c G H1 locs (cells + 1) (slots + q0.2.2) ls hX hC (rel_push hR hx z1 o1 ?_) (hS.more (by omega) o1) hl (by omega) (by omega)
  · rw [List.map_cons] at h1
    show W p l e _ s m args below meth c H1 locs _ _ _ (F0 m (pc + 3) ls (.ref H.size :: st.map (cv G)))
    rw [hH]
    exact h1
  exact ⟨_, hc0, (u_born ty0 hts hws hKn hkC e1 hty).to (fun a ha => hdf a ha G)⟩
theorem g_anewarray_State {ix len : Nat} {i : Int32} (hd : decode J.2.1 pc = .ok (.anewarray ix, 3)) (hcl : Cond.classLink J.1.cls ix "BitDesk$State" ∈ WS) (hi : i = nI len) (hL : len < 100000) (hx : mX M = true) (kk : Go l J F L MC MS Q (pc + 3) lv (.ref (mK M).length :: st) k n (nK M (.inl (.object "BitDesk$State", len)))) : Go l J F L MC MS Q pc lv (.int i :: st) (k + 1) (n + len) M := by
  subst hi
  intro p e s m args below meth c G H locs cells slots ls hX hC hR hS hl hc hs
  have hH := hR.2.1 hx
  have hts := hX.1.2.2.2.2
  refine W.anew hX.1.1 hX.1.2.1 hX.1.2.2.2.1 (hts _ hcl) (va_AO.use hC.2.2.2.2.2.2.2.2.2.2.2.2.2.2.1) rfl hd rfl (nI_pos (by omega)) (by rw [nI_clamp (by omega)]; omega) (by show cells + 1 ≤ MC; omega) (by rw [nI_clamp (by omega)]; show slots + len ≤ MS; omega) fun cA kA comp f1 f2 f3 f4 => ?_
  rw [nI_clamp (by omega)]
  have hcA : cA = gA G (.object "BitDesk$State") := by
    obtain ⟨-, -, -, -, -, h9⟩ := (hC.2.1.2 5 _ rfl).2
    exact Option.some.inj (f1.symm.trans h9)
  generalize hH1 : H.push ({ cls := cA, slots := Array.replicate len .null, vm := .none } : Cell) = H1
  have z1 : H1.size = H.size + 1 := by rw [← hH1, Array.size_push]
  have e1 : H1[H.size]? = some (arrV cA len (fun _ => .null)) := by rw [← hH1, Array.getElem?_push_size, ← arrV_new]
  have o1 : ∀ q : Nat, q < H.size → H1[q]? = H[q]? := fun q hq => by rw [← hH1, Array.getElem?_push, if_neg (Nat.ne_of_lt hq)]
  have h1 := kk p e s m args below meth c G H1 locs (cells + 1) (slots + len) ls hX hC (rel_push hR hx z1 o1 ?_) (hS.more (by omega) o1) hl (by omega) (by omega)
  · rw [List.map_cons] at h1
    rw [hH]
    exact h1
  show H1[H.size]? = some (vp_cell (gA G (.object "BitDesk$State")) (len, adat G (nK M (.inl (.object "BitDesk$State", len))) (mK M).length (.object "BitDesk$State")))
  rw [e1, hcA]
  simp only [adat, nK, mR, fs_self]
  rw [vp_cell_q]
  rfl
theorem g_anewarray_Matrix {ix len : Nat} {i : Int32} (hd : decode J.2.1 pc = .ok (.anewarray ix, 3)) (hcl : Cond.classLink J.1.cls ix "BitDesk$Matrix" ∈ WS) (hi : i = nI len) (hL : len < 100000) (hx : mX M = true) (kk : Go l J F L MC MS Q (pc + 3) lv (.ref (mK M).length :: st) k n (nK M (.inl (.object "BitDesk$Matrix", len)))) : Go l J F L MC MS Q pc lv (.int i :: st) (k + 1) (n + len) M := by
  subst hi
  intro p e s m args below meth c G H locs cells slots ls hX hC hR hS hl hc hs
  have hH := hR.2.1 hx
  have hts := hX.1.2.2.2.2
  refine W.anew hX.1.1 hX.1.2.1 hX.1.2.2.2.1 (hts _ hcl) (va_AO.use hC.2.2.2.2.2.2.2.2.2.2.2.2.2.2.2.1) rfl hd rfl (nI_pos (by omega)) (by rw [nI_clamp (by omega)]; omega) (by show cells + 1 ≤ MC; omega) (by rw [nI_clamp (by omega)]; show slots + len ≤ MS; omega) fun cA kA comp f1 f2 f3 f4 => ?_
  rw [nI_clamp (by omega)]
  have hcA : cA = gA G (.object "BitDesk$Matrix") := by
    obtain ⟨-, -, -, -, -, h9⟩ := (hC.2.1.2 6 _ rfl).2
    exact Option.some.inj (f1.symm.trans h9)
  generalize hH1 : H.push ({ cls := cA, slots := Array.replicate len .null, vm := .none } : Cell) = H1
  have z1 : H1.size = H.size + 1 := by rw [← hH1, Array.size_push]
  have e1 : H1[H.size]? = some (arrV cA len (fun _ => .null)) := by rw [← hH1, Array.getElem?_push_size, ← arrV_new]
  have o1 : ∀ q : Nat, q < H.size → H1[q]? = H[q]? := fun q hq => by rw [← hH1, Array.getElem?_push, if_neg (Nat.ne_of_lt hq)]
  have h1 := kk p e s m args below meth c G H1 locs (cells + 1) (slots + len) ls hX hC (rel_push hR hx z1 o1 ?_) (hS.more (by omega) o1) hl (by omega) (by omega)
  · rw [List.map_cons] at h1
    rw [hH]
    exact h1
  show H1[H.size]? = some (vp_cell (gA G (.object "BitDesk$Matrix")) (len, adat G (nK M (.inl (.object "BitDesk$Matrix", len))) (mK M).length (.object "BitDesk$Matrix")))
  rw [e1, hcA]
  simp only [adat, nK, mR, fs_self]
  rw [vp_cell_q]
  rfl
theorem g_anewarray_Closure {ix len : Nat} {i : Int32} (hd : decode J.2.1 pc = .ok (.anewarray ix, 3)) (hcl : Cond.classLink J.1.cls ix "BitDesk$Closure" ∈ WS) (hi : i = nI len) (hL : len < 100000) (hx : mX M = true) (kk : Go l J F L MC MS Q (pc + 3) lv (.ref (mK M).length :: st) k n (nK M (.inl (.object "BitDesk$Closure", len)))) : Go l J F L MC MS Q pc lv (.int i :: st) (k + 1) (n + len) M := by
  subst hi
  intro p e s m args below meth c G H locs cells slots ls hX hC hR hS hl hc hs
  have hH := hR.2.1 hx
  have hts := hX.1.2.2.2.2
  refine W.anew hX.1.1 hX.1.2.1 hX.1.2.2.2.1 (hts _ hcl) (va_AO.use hC.2.2.2.2.2.2.2.2.2.2.2.2.2.2.2.2.1) rfl hd rfl (nI_pos (by omega)) (by rw [nI_clamp (by omega)]; omega) (by show cells + 1 ≤ MC; omega) (by rw [nI_clamp (by omega)]; show slots + len ≤ MS; omega) fun cA kA comp f1 f2 f3 f4 => ?_
  rw [nI_clamp (by omega)]
  have hcA : cA = gA G (.object "BitDesk$Closure") := by
    obtain ⟨-, -, -, -, -, h9⟩ := (hC.2.1.2 7 _ rfl).2
    exact Option.some.inj (f1.symm.trans h9)
  generalize hH1 : H.push ({ cls := cA, slots := Array.replicate len .null, vm := .none } : Cell) = H1
  have z1 : H1.size = H.size + 1 := by rw [← hH1, Array.size_push]
  have e1 : H1[H.size]? = some (arrV cA len (fun _ => .null)) := by rw [← hH1, Array.getElem?_push_size, ← arrV_new]
  have o1 : ∀ q : Nat, q < H.size → H1[q]? = H[q]? := fun q hq => by rw [← hH1, Array.getElem?_push, if_neg (Nat.ne_of_lt hq)]
  have h1 := kk p e s m args below meth c G H1 locs (cells + 1) (slots + len) ls hX hC (rel_push hR hx z1 o1 ?_) (hS.more (by omega) o1) hl (by omega) (by omega)
  · rw [List.map_cons] at h1
    rw [hH]
    exact h1
  show H1[H.size]? = some (vp_cell (gA G (.object "BitDesk$Closure")) (len, adat G (nK M (.inl (.object "BitDesk$Closure", len))) (mK M).length (.object "BitDesk$Closure")))
  rw [e1, hcA]
  simp only [adat, nK, mR, fs_self]
  rw [vp_cell_q]
  rfl
theorem g_objInit {ix id : Nat} (hd : decode J.2.1 pc = .ok (.invokespecial ix, 3)) (h1 : Cond.methodLink J.1.cls ix objectInit ∈ WS) (h2 : Cond.instanceMethod objectInit ∈ WS) (h3 : Cond.code objectInit ⟨#[0xb1]⟩ 1 none ∈ WS) (hF : 1 ≤ F) (hL : (st.map fun v => v.category).sum + 12 ≤ L) (kk : Go l J F L MC MS Q (pc + 3) lv st k n M) : Go l J F L MC MS Q pc lv (.ref id :: st) k n M := by
  intro p e s m args below meth c G H locs cells slots ls hX hC hR hS hl hc hs
  have hts := hX.1.2.2.2.2
  refine W.objInit hX.1.1 hX.1.2.1 hX.1.2.2.2.1 (hts _ h1) (hts _ h2) (hts _ h3) rfl (by rw [hX.1.2.2.1]; exact hl.1) rfl hd hF (by show 2 * 0 + _ + 12 ≤ L; rw [cv_cats]; omega) ?_
  exact kk p e s m args below meth c G H locs cells slots ls hX hC hR hS hl hc hs
/-- the ends -/
theorem g_end {v : Option Value} (hq : Q (.inl v) M) {G : Gl} {s t : State} {H : Heap} {locs : List Loc} (hR : Rel G M H) (hS : va_S (Go_A G) s.heap H locs) (ht : t.heap = H) (args : Array Value) : QcOf G Q args s (.returned (v.map (cv G))) t :=
  ⟨⟨v, M, rfl, hq, by rw [ht]; exact hR⟩, hS.F ht⟩
theorem g_ireturn {x : Int32} {ty : FieldType} (hd : decode J.2.1 pc = .ok (.ireturn, 1)) (hr : J.2.2.2.1 = some ty) (hn : narrow ty (.int x) = .int x) (hq : Q (.inl (some (.int x))) M) : Go l J F L MC MS Q pc lv [.int x] k n M := by
  intro p e s m args below meth c G H locs cells slots ls hX hC hR hS hl hc hs
  refine W.widen (k := MC) (n := MS) (by omega) (by omega) (vx_ret ?_)
  exact W.zret (ty := ty) hX.1.1 hX.1.2.1 (hX.2.1.trans hr) hn (fun t ht hW => g_end hq hR hS ht args) hS.2.2 hd hX.2.2.1
theorem g_lreturn {x : Int64} (hd : decode J.2.1 pc = .ok (.lreturn, 1)) (hr : J.2.2.2.1 = some .long) (hq : Q (.inl (some (.long x))) M) : Go l J F L MC MS Q pc lv [.long x] k n M := by
  intro p e s m args below meth c G H locs cells slots ls hX hC hR hS hl hc hs
  refine W.widen (k := MC) (n := MS) (by omega) (by omega) (vx_ret ?_)
  exact W.lret hX.1.1 hX.1.2.1 (hX.2.1.trans hr) (fun t ht hW => g_end hq hR hS ht args) hS.2.2 hd hX.2.2.1
theorem g_freturn {x : UInt32} (hd : decode J.2.1 pc = .ok (.freturn, 1)) (hr : J.2.2.2.1 = some .float) (hq : Q (.inl (some (.float x))) M) : Go l J F L MC MS Q pc lv [.float x] k n M := by
  intro p e s m args below meth c G H locs cells slots ls hX hC hR hS hl hc hs
  refine W.widen (k := MC) (n := MS) (by omega) (by omega) (vx_ret ?_)
  exact W.fret hX.1.1 hX.1.2.1 (hX.2.1.trans hr) (fun t ht hW => g_end hq hR hS ht args) hS.2.2 hd hX.2.2.1
theorem g_dreturn {x : UInt64} (hd : decode J.2.1 pc = .ok (.dreturn, 1)) (hr : J.2.2.2.1 = some .double) (hq : Q (.inl (some (.double x))) M) : Go l J F L MC MS Q pc lv [.double x] k n M := by
  intro p e s m args below meth c G H locs cells slots ls hX hC hR hS hl hc hs
  refine W.widen (k := MC) (n := MS) (by omega) (by omega) (vx_ret ?_)
  exact W.dret hX.1.1 hX.1.2.1 (hX.2.1.trans hr) (fun t ht hW => g_end hq hR hS ht args) hS.2.2 hd hX.2.2.1
theorem g_areturn {x : Nat} {rt : FieldType} (hd : decode J.2.1 pc = .ok (.areturn, 1)) (hr : J.2.2.2.1 = some rt) (hrt : (∃ n, rt = .object n) ∨ ∃ t, rt = .array t) (hq : Q (.inl (some (.ref x))) M) : Go l J F L MC MS Q pc lv [.ref x] k n M := by
  intro p e s m args below meth c G H locs cells slots ls hX hC hR hS hl hc hs
  refine W.widen (k := MC) (n := MS) (by omega) (by omega) (vx_ret ?_)
  exact W.aret hX.1.1 hX.1.2.1 (hX.2.1.trans hr) hrt (Or.inr ⟨_, rfl⟩) (fun t ht hW => g_end hq hR hS ht args) hS.2.2 hd hX.2.2.1
theorem g_return (hd : decode J.2.1 pc = .ok (.return_, 1)) (hr : J.2.2.2.1 = none) (hq : Q (.inl none) M) : Go l J F L MC MS Q pc lv [] k n M := by
  intro p e s m args below meth c G H locs cells slots ls hX hC hR hS hl hc hs
  refine W.widen (k := MC) (n := MS) (by omega) (by omega) (vx_ret ?_)
  exact W.vret hX.1.1 hX.1.2.1 (hX.2.1.trans hr) (fun t ht hW => g_end hq hR hS ht args) hS.2.2 hd hX.2.2.1
end
end
-- 06.calls
section
/-! RULES: calls, entries, throws, handlers. -/
section
variable {l : Launch} {J : Jm} {F L MC MS : Nat} {Q : Res → Mem → Prop} {pc : Nat} {lv : List (Nat × Value)} {st : List Value} {k n : Nat} {M : Mem}
theorem rel_of_P {G : Gl} {M : Mem} {H : Heap} (hx : mX M = false) (hP : va_P (gD G) vwCl (wl G M) H) (hb : gB G ≤ H.size) (hSc : mS M = (gLen G, gXs G)) : Rel G M H := by
  refine ⟨hP, fun h => absurd (hx.symm.trans h) (by decide), ?_, hSc⟩
  rcases Nat.eq_zero_or_pos (mK M).length with h | h
  · omega
  · have h1 : (mK M)[(mK M).length - 1]? = some ((mK M)[(mK M).length - 1]'(by omega)) := List.getElem?_eq_getElem (by omega)
    have h2 : gB G + ((mK M).length - 1) < H.size := (hP _ _ (wl_get h1)).lt
    omega
theorem Rel.same {G : Gl} {M : Mem} {H H1 : Heap} (h : Rel G M H) (hx : mX M = false) (hz : H.size ≤ H1.size) (hk : ∀ q : Nat, q < H.size → H1[q]? = H[q]?) : Rel G M H1 :=
  rel_of_P hx (h.1.kept (fun i q hq => hk _ (h.1 i q hq).lt)) (by have := h.2.2.1; omega) h.2.2.2
theorem blind (G : Gl) (As : List Value) (l : Launch) (M : Mem) : FrameBlind (va_Pc As (fun s => Ctx l G s ∧ Rel G M s.heap)) := by
  intro a U g mk h
  obtain ⟨h1, h2, h3⟩ := h
  exact ⟨h1, h2.warm (U := U.calling g mk a) (State.WarmedH.refl U) (Nat.le_refl _) (fun _ _ _ => rfl), h3⟩
/-- into a method -/
theorem ev_intro {J : Jm} {F L mc ms : Nat} {As : List Value} {Q : Res → Mem → Prop} (hy : plainName J.1.cls = true) (hlen : (lg_sl As).length ≤ J.2.2.1) (hh : J.2.2.2.2 = []) (kk : Go l J F L mc ms Q 0 (lv_args 0 As) [] mc ms M) : Ev l J F L mc ms As M Q := by
  intro G
  have hcw : cwd J :: WS = Cond.code J.1 J.2.1 J.2.2.1 J.2.2.2.1 :: WS := by unfold cwd; rw [if_pos hh]
  refine vx_ofW (cc := J.2.1) (maxL := J.2.2.1) (ret := J.2.2.2.1) hy hcw ?_
  intro p e s m args below meth c s₁ B hml htab hv
  obtain ⟨rfl, hC, hR⟩ := hv
  have hts := atoms_spec (ws := cwd J :: WS) B.pre
  have hl := lv_entry (As.map (cv G)) (n := J.2.2.1) (by rw [lg_sl_cv]; exact hlen)
  rw [lg_entry_eq]
  rw [lv_args_cv] at hl
  have hX : Stn l J p m (As.map (cv G)).toArray s meth c := ⟨⟨B.exec, B.bytes, hml, findClass_of_methodNamed B.named, fun w hw => hts w (List.mem_cons_of_mem _ hw)⟩, B.returns, B.notSynchronized, by
    rw [hh]
    cases h9 : c.exceptionTable.toList with
    | nil => rfl
    | cons x xs => exact absurd (htab x (by rw [h9]; exact List.mem_cons_self)) id, (name_of_methodNamed B.named B.method).1⟩
  exact kk p e s m _ below meth c G s.heap [] 0 0 _ hX hC hR va_S.rf hl (by omega) (by omega)
/-- into a method with handlers -/
theorem ev_introW {J : Jm} {F L mc ms : Nat} {As : List Value} {Q : Res → Mem → Prop} (hy : plainName J.1.cls = true) (hlen : (lg_sl As).length ≤ J.2.2.1) (hh : J.2.2.2.2 ≠ []) (kk : Go l J F L mc ms Q 0 (lv_args 0 As) [] mc ms M) : Ev l J F L mc ms As M Q := by
  intro G
  have hcw : cwd J :: WS = Cond.codeWith J.1 J.2.1 J.2.2.1 J.2.2.2.1 J.2.2.2.2 :: WS := by unfold cwd; rw [if_neg hh]
  refine vx_ofWH (cc := J.2.1) (maxL := J.2.2.1) (ret := J.2.2.2.1) (hh := J.2.2.2.2) hy hcw ?_
  intro p e s m args below meth c s₁ B hml hv
  obtain ⟨rfl, hC, hR⟩ := hv
  have hts := atoms_spec (ws := cwd J :: WS) B.pre
  have hl := lv_entry (As.map (cv G)) (n := J.2.2.1) (by rw [lg_sl_cv]; exact hlen)
  rw [lg_entry_eq]
  rw [lv_args_cv] at hl
  have hX : Stn l J p m (As.map (cv G)).toArray s meth c := ⟨⟨B.exec, B.bytes, hml, findClass_of_methodNamed B.named, fun w hw => hts w (List.mem_cons_of_mem _ hw)⟩, B.returns, B.notSynchronized, vx_table (x := J.1) B (hts _ (by rw [hcw]; exact List.mem_cons_self)), (name_of_methodNamed B.named B.method).1⟩
  exact kk p e s m _ below meth c G s.heap [] 0 0 _ hX hC hR va_S.rf hl (by omega) (by omega)
/-- how a class's pool names a method -/
def LkB (own : String) (ix : Nat) (J' : Jm) (nA : Nat) : Prop := Cond.methodLink own ix J'.1 ∈ WS ∧ (J'.2.2.2.2 = [] ∧ cwd J' ∈ WS) ∧ Cond.initialized J'.1.cls ∈ WS ∧ (J'.1.cls ≠ "java/lang/invoke/MethodHandle" ∧ J'.1.cls ≠ "java/lang/invoke/VarHandle") ∧ (parseMethodDescriptor J'.1.desc).map (fun d => d.parameters.length) = some nA
def LkN (own : String) (ix : Nat) (J' : Jm) (nA : Nat) : Prop := (∃ host, Cond.methodLinkNest own ix J'.1 host ∈ NWL) ∧ (J'.2.2.2.2 = [] ∧ cwd J' ∈ WS) ∧ Cond.initialized J'.1.cls ∈ WS ∧ (J'.1.cls ≠ "java/lang/invoke/MethodHandle" ∧ J'.1.cls ≠ "java/lang/invoke/VarHandle") ∧ (parseMethodDescriptor J'.1.desc).map (fun d => d.parameters.length) = some nA
def LkV (own : String) (ix : Nat) (J' : Jm) (nA : Nat) : Prop := LkB own ix J' nA ∧ Cond.instanceMethod J'.1 ∈ WS ∧ Cond.selects J'.1.cls J'.1 J'.1 ∈ WS
def LkS (own : String) (ix : Nat) (J' : Jm) (nA : Nat) : Prop := LkB own ix J' nA ∧ Cond.static J'.1 ∈ WS
def LkI (own : String) (ix : Nat) (J' : Jm) (nA : Nat) : Prop := LkB own ix J' nA ∧ Cond.instanceMethod J'.1 ∈ WS ∧ J'.1.name = "<init>" ∧ J'.2.2.2.1 = none
def LkSN (own : String) (ix : Nat) (J' : Jm) (nA : Nat) : Prop := LkN own ix J' nA ∧ Cond.static J'.1 ∈ WS
theorem ws_warm {args : Array Value} {s : State} (hts : ∀ w ∈ WS, w.before args s = true) {J' : Jm} (hc : cwd J' ∈ WS) : ∀ w ∈ cwd J' :: WS, ∀ (a' : Array Value) (U : State), s.WarmedH U.vm → w.before a' U = true := by
  intro w hw a' U hW
  have hw' : w ∈ WS := by
    rcases List.mem_cons.mp hw with rfl | h
    · exact hc
    · exact h
  exact word_at hW (ws_good hw') (hts w hw')
theorem lk_B {own : String} {ix nA : Nat} {J' : Jm} {args : Array Value} {s : State} {F L mc ms F' L' : Nat} (h : LkB own ix J' nA) (hts : ∀ w ∈ WS, w.before args s = true) (hF : F' + 1 ≤ F ∧ 8 + (J'.2.2.1 + 11) + L' ≤ L) :
    CallB ({ frames := F, cells := MC, slots := MS, locals := L } : Room) s args own ix J'.1 J'.2.1 J'.2.2.1 J'.2.2.2.1 (cwd J' :: WS) ({ frames := F', cells := mc, slots := ms, locals := L' } : Room) mc ms nA := by
  obtain ⟨h1, ⟨h2, h3⟩, h4, h5, h6⟩ := h
  have e : cwd J' = Cond.code J'.1 J'.2.1 J'.2.2.1 J'.2.2.2.1 := by unfold cwd; rw [if_pos h2]
  refine ⟨rfl, rfl, hF.1, hF.2, ws_warm hts h3, by rw [← e]; exact List.mem_cons_self, by rw [← e]; exact hts _ h3, hts _ h4, h5, fun sig h9 => ?_, hts _ h1⟩
  rw [h9] at h6
  exact (Option.some.inj h6).symm
theorem lk_N {own : String} {ix nA : Nat} {J' : Jm} {G : Gl} {args : Array Value} {s : State} {F L mc ms F' L' : Nat} (h : LkN own ix J' nA) (hC : Ctx l G s) (hts : ∀ w ∈ WS, w.before args s = true) (hF : F' + 1 ≤ F ∧ 8 + (J'.2.2.1 + 11) + L' ≤ L) :
    ∃ host, va_CN ({ frames := F, cells := MC, slots := MS, locals := L } : Room) s args own ix J'.1 host J'.2.1 J'.2.2.1 J'.2.2.2.1 (cwd J' :: WS) ({ frames := F', cells := mc, slots := ms, locals := L' } : Room) mc ms nA := by
  obtain ⟨⟨host, h1⟩, ⟨h2, h3⟩, h4, h5, h6⟩ := h
  have e : cwd J' = Cond.code J'.1 J'.2.1 J'.2.2.1 J'.2.2.2.1 := by unfold cwd; rw [if_pos h2]
  refine ⟨host, ⟨rfl, rfl, hF.1, hF.2, ws_warm hts h3, by rw [← e]; exact List.mem_cons_self⟩, by rw [← e]; exact hts _ h3, hts _ h4, h5, fun sig h9 => ?_, va_Nw.use (by rfl) (hC.2.2.1 _ h1)⟩
  rw [h9] at h6
  exact (Option.some.inj h6).symm
section Run
variable {p : Program} {e : Env} {R : Room} {s : State} {m : MethodId} {args : Array Value} {below : List Frame} {meth : Method} {c : Code} {H : Heap} {locs : List Loc} {cells slots mc ms : Nat} {Z : State → Prop} {G : Gl} {Q' : Res → Mem → Prop} {ls : Array Slot} {st0 rest : List Value} {a : Array Value}
theorem vx_go (hr : vx_Run p l e R s m args below meth c H locs cells slots mc ms (F0 m pc ls st0) rest (QcOf G Q' a) (XCOf G Q') (Go_A G)) (hS : va_S (Go_A G) s.heap H locs)
    (kk : ∀ (v : Option Value) (M' : Mem) (H1 : Heap) (locs1 : List Loc), Q' (.inl v) M' → Rel G M' H1 → va_S (Go_A G) s.heap H1 locs1 → W p l e R s m args below meth c H1 locs1 (cells + mc) (slots + ms) Z (F0 m (pc + 3) ls ((v.map (cv G)).toList ++ rest)))
    (kx : ∀ (E : String) (ce : Cell) (q9 : Addr) (M' : Mem) (H1 : Heap) (locs1 : List Loc), Q' (.inr E) M' → Rel G M' H1 → va_S (Go_A G) s.heap H1 locs1 → H1[q9]? = some ce → ce.vm = .none → s.vm.findClass E = some ce.cls → vx_W p l e R s m args below meth c H1 locs1 (cells + mc) (slots + ms) Z (F0 m pc ls rest) q9) :
    W p l e R s m args below meth c H locs cells slots Z (F0 m pc ls st0) := by
  intro T hT X
  rcases hr T hT X with ⟨v, st₀, t, T', L9, h0, X', hL, e1, e2, ⟨⟨v', M', hv, hq, hR⟩, hF⟩, st⟩ | ⟨q, st₀, t, T', L9, E, ce, h0, X', hL, e1, e2, ⟨⟨M', hq, hR⟩, hF⟩, hce, hcv, hcl, st⟩
  · cases hv
    obtain ⟨k1, k2, k3⟩ := vx_keep h0 e1 hS (fun _ _ h => h) (fun _ h => h) hL hF
    obtain ⟨t2, a1, b1⟩ := kk v' M' T'.heap (locs ++ L9) hq (by rw [e1]; exact hR) k3 T' rfl X'
    exact ⟨t2, st t2 a1, b1⟩
  · obtain ⟨k1, k2, k3⟩ := vx_keep h0 e1 hS (fun _ _ h => h) (fun _ h => h) hL hF
    obtain ⟨t2, a1, b1⟩ := kx E ce q M' T'.heap (locs ++ L9) hq (by rw [e1]; exact hR) k3 (by rw [e1]; exact hce) hcv hcl T' rfl X'
    exact ⟨t2, st.trans a1, b1⟩
end Run
theorem ctx_call {G : Gl} {s U : State} {H : Heap} {locs : List Loc} (hC : Ctx l G s) (hS : va_S (Go_A G) s.heap H locs) (hU : U.heap = H) (hW : s.WarmedH U.vm) : Ctx l G U :=
  hC.warm hW (by rw [hU]; exact hS.1) (fun q h1 h2 => by rw [hU]; exact hS.2.1 q h1 h2)
theorem g_invV {ix nA F' L' mc' ms' : Nat} {J' : Jm} {As rest : List Value} {Q' : Res → Mem → Prop} {id ci : Nat} {q0 : vw_C} (hd : decode J.2.1 pc = .ok (.invokevirtual ix, 3)) (hlk : LkV J.1.cls ix J' nA) (hn : As.length = nA) (hcat : (rest.map fun v => v.category).sum ≤ 8) (hF : F' + 1 ≤ F ∧ 8 + (J'.2.2.1 + 11) + L' ≤ L) (hE : Ev l J' F' L' mc' ms' (.ref id :: As) M Q') (hst : st = As.reverse ++ .ref id :: rest) (hk : (mK M)[id]? = some (.inr ci)) (hc0 : vwCl[ci]? = some q0) (hq0 : q0.1 = J'.1.cls) (hh : J.2.2.2.2 = [])
    (kk : ∀ v M', Q' (.inl v) M' → Go l J F L MC MS Q (pc + 3) lv (v.toList ++ rest) k n M') (kx : ∀ E M', Q' (.inr E) M' → Q (.inr E) M') : Go l J F L MC MS Q pc lv st (k + mc') (n + ms') M := by
  subst hst
  intro p e s m args below meth c G H locs cells slots ls hX hC hR hS hl hc hs
  have hts := hX.1.2.2.2.2
  have he := wl_get (G := G) hk
  have hrun := vx_runV (As := As.map (cv G)) (rest := rest.map (cv G)) (e := e) (below := below) (meth := meth) (g := F0 m pc ls ((As.reverse ++ .ref id :: rest).map (cv G))) (locs := locs) (cells := cells) (slots := slots) (H := H) (b := gB G + id) hX.1 (hE G) ⟨lk_B hlk.1 hts hF, hts _ hlk.2.1, hts _ hlk.2.2⟩
    ⟨blind G _ l M, by have := va_recv (q := q0) hC.2.1 hR.1 hc0 he; rw [hq0] at this; exact this, fun U hU hW => ⟨by rw [List.map_cons]; rfl, ctx_call hC hS hU hW, by rw [hU]; exact hR⟩⟩
    rfl (by rw [List.length_map]; exact hn) hl.1 (by show (List.map (cv G) _) = _; rw [List.map_append, List.map_reverse, List.map_cons]; rfl) (by show 2 * 0 + _ ≤ 8; rw [cv_cats]; omega) hd ⟨by show cells + mc' ≤ MC; omega, by show slots + ms' ≤ MS; omega⟩
  refine vx_go (hrun) hS (fun v M' H1 locs1 hq hR1 hS1 => ?_) (fun E ce q9 M' H1 locs1 hq hR1 hS1 h5 h6 h7 => ?_)
  · have h1 := kk v M' hq p e s m args below meth c G H1 locs1 (cells + mc') (slots + ms') ls hX hC hR1 hS1 hl (by omega) (by omega)
    rw [List.map_append] at h1
    cases v <;> exact h1
  · exact vx_out (by rw [hX.2.2.2.1, hh]; intro x hx; cases hx) hX.2.2.1 h5 h6 h7 (fun t ht _ => ⟨⟨M', kx E M' hq, by rw [ht]; exact hR1⟩, hS1.F ht⟩) hS1.2.2 (by omega) (by omega)
theorem g_invS {ix nA F' L' mc' ms' : Nat} {J' : Jm} {As rest : List Value} {Q' : Res → Mem → Prop} (hd : decode J.2.1 pc = .ok (.invokestatic ix, 3)) (hlk : LkS J.1.cls ix J' nA) (hn : As.length = nA) (hcat : (rest.map fun v => v.category).sum ≤ 8) (hF : F' + 1 ≤ F ∧ 8 + (J'.2.2.1 + 11) + L' ≤ L) (hE : Ev l J' F' L' mc' ms' (As) M Q') (hst : st = As.reverse ++ rest) (hh : J.2.2.2.2 = [])
    (kk : ∀ v M', Q' (.inl v) M' → Go l J F L MC MS Q (pc + 3) lv (v.toList ++ rest) k n M') (kx : ∀ E M', Q' (.inr E) M' → Q (.inr E) M') : Go l J F L MC MS Q pc lv st (k + mc') (n + ms') M := by
  subst hst
  intro p e s m args below meth c G H locs cells slots ls hX hC hR hS hl hc hs
  have hts := hX.1.2.2.2.2
  have hrun := vx_runS (As := As.map (cv G)) (rest := rest.map (cv G)) (e := e) (below := below) (meth := meth) (g := F0 m pc ls ((As.reverse ++ rest).map (cv G))) (locs := locs) (cells := cells) (slots := slots) (H := H) hX.1 (hE G) ⟨lk_B hlk.1 hts hF, hts _ hlk.2⟩
    ⟨blind G _ l M, fun U hU hW => ⟨rfl, ctx_call hC hS hU hW, by rw [hU]; exact hR⟩⟩
    rfl (by rw [List.length_map]; exact hn) hl.1 (by show (List.map (cv G) _) = _; rw [List.map_append, List.map_reverse]) (by show 2 * 0 + _ ≤ 8; rw [cv_cats]; omega) hd ⟨by show cells + mc' ≤ MC; omega, by show slots + ms' ≤ MS; omega⟩
  refine vx_go (hrun) hS (fun v M' H1 locs1 hq hR1 hS1 => ?_) (fun E ce q9 M' H1 locs1 hq hR1 hS1 h5 h6 h7 => ?_)
  · have h1 := kk v M' hq p e s m args below meth c G H1 locs1 (cells + mc') (slots + ms') ls hX hC hR1 hS1 hl (by omega) (by omega)
    rw [List.map_append] at h1
    cases v <;> exact h1
  · exact vx_out (by rw [hX.2.2.2.1, hh]; intro x hx; cases hx) hX.2.2.1 h5 h6 h7 (fun t ht _ => ⟨⟨M', kx E M' hq, by rw [ht]; exact hR1⟩, hS1.F ht⟩) hS1.2.2 (by omega) (by omega)
theorem g_invSN {ix nA F' L' mc' ms' : Nat} {J' : Jm} {As rest : List Value} {Q' : Res → Mem → Prop} (hd : decode J.2.1 pc = .ok (.invokestatic ix, 3)) (hlk : LkSN J.1.cls ix J' nA) (hn : As.length = nA) (hcat : (rest.map fun v => v.category).sum ≤ 8) (hF : F' + 1 ≤ F ∧ 8 + (J'.2.2.1 + 11) + L' ≤ L) (hE : Ev l J' F' L' mc' ms' (As) M Q') (hst : st = As.reverse ++ rest) (hh : J.2.2.2.2 = [])
    (kk : ∀ v M', Q' (.inl v) M' → Go l J F L MC MS Q (pc + 3) lv (v.toList ++ rest) k n M') (kx : ∀ E M', Q' (.inr E) M' → Q (.inr E) M') : Go l J F L MC MS Q pc lv st (k + mc') (n + ms') M := by
  subst hst
  intro p e s m args below meth c G H locs cells slots ls hX hC hR hS hl hc hs
  have hts := hX.1.2.2.2.2
  obtain ⟨host, hcn⟩ := lk_N (MC := MC) (MS := MS) (mc := mc') (ms := ms') hlk.1 hC hts hF
  have hrun := vx_runSN (As := As.map (cv G)) (rest := rest.map (cv G)) (e := e) (below := below) (meth := meth) (g := F0 m pc ls ((As.reverse ++ rest).map (cv G))) (locs := locs) (cells := cells) (slots := slots) (H := H) hX.1 (hE G) ⟨hcn, hts _ hlk.2, trivial⟩
    ⟨blind G _ l M, fun U hU hW => ⟨rfl, ctx_call hC hS hU hW, by rw [hU]; exact hR⟩⟩
    rfl (by rw [List.length_map]; exact hn) hl.1 (by show (List.map (cv G) _) = _; rw [List.map_append, List.map_reverse]) (by show 2 * 0 + _ ≤ 8; rw [cv_cats]; omega) hd ⟨by show cells + mc' ≤ MC; omega, by show slots + ms' ≤ MS; omega⟩
  refine vx_go (hrun) hS (fun v M' H1 locs1 hq hR1 hS1 => ?_) (fun E ce q9 M' H1 locs1 hq hR1 hS1 h5 h6 h7 => ?_)
  · have h1 := kk v M' hq p e s m args below meth c G H1 locs1 (cells + mc') (slots + ms') ls hX hC hR1 hS1 hl (by omega) (by omega)
    rw [List.map_append] at h1
    cases v <;> exact h1
  · exact vx_out (by rw [hX.2.2.2.1, hh]; intro x hx; cases hx) hX.2.2.1 h5 h6 h7 (fun t ht _ => ⟨⟨M', kx E M' hq, by rw [ht]; exact hR1⟩, hS1.F ht⟩) hS1.2.2 (by omega) (by omega)
theorem g_invI {ix nA F' L' mc' ms' : Nat} {J' : Jm} {As rest : List Value} {Q' : Res → Mem → Prop} {id ci : Nat} {q0 : vw_C} (hd : decode J.2.1 pc = .ok (.invokespecial ix, 3)) (hlk : LkI J.1.cls ix J' nA) (hn : As.length = nA) (hcat : (rest.map fun v => v.category).sum ≤ 8) (hF : F' + 1 ≤ F ∧ 8 + (J'.2.2.1 + 11) + L' ≤ L) (hE : Ev l J' F' L' mc' ms' (.ref id :: As) M Q') (hst : st = As.reverse ++ .ref id :: rest) (hk : (mK M)[id]? = some (.inr ci)) (hc0 : vwCl[ci]? = some q0) (hq0 : q0.1 = J'.1.cls) (hh : J.2.2.2.2 = [])
    (kk : ∀ v M', Q' (.inl v) M' → Go l J F L MC MS Q (pc + 3) lv (v.toList ++ rest) k n M') (kx : ∀ E M', Q' (.inr E) M' → Q (.inr E) M') : Go l J F L MC MS Q pc lv st (k + mc') (n + ms') M := by
  subst hst
  intro p e s m args below meth c G H locs cells slots ls hX hC hR hS hl hc hs
  have hts := hX.1.2.2.2.2
  have hrun := vx_runI (y := J'.1) (bytes := J'.2.1) (maxL := J'.2.2.1) (ws := cwd J' :: WS) (rm := ({ frames := F', cells := mc', slots := ms', locals := L' } : Room)) (R := ({ frames := F, cells := MC, slots := MS, locals := L } : Room)) (As := As.map (cv G)) (rest := rest.map (cv G)) (e := e) (below := below) (meth := meth) (g := F0 m pc ls ((As.reverse ++ .ref id :: rest).map (cv G))) (locs := locs) (cells := cells) (slots := slots) (H := H) (b := gB G + id) hX.1 (hE G) ⟨by have h9 := lk_B (MC := MC) (MS := MS) (mc := mc') (ms := ms') hlk.1 hts hF; rw [hlk.2.2.2] at h9; exact h9, hlk.2.2.1, hts _ hlk.2.1⟩
    ⟨blind G _ l M, fun U hU hW => ⟨by rw [List.map_cons]; rfl, ctx_call hC hS hU hW, by rw [hU]; exact hR⟩⟩
    rfl (by rw [List.length_map]; exact hn) hl.1 (by show (List.map (cv G) _) = _; rw [List.map_append, List.map_reverse, List.map_cons]; rfl) (by show 2 * 0 + _ ≤ 8; rw [cv_cats]; omega) hd ⟨by show cells + mc' ≤ MC; omega, by show slots + ms' ≤ MS; omega⟩
  refine vx_go (hrun) hS (fun v M' H1 locs1 hq hR1 hS1 => ?_) (fun E ce q9 M' H1 locs1 hq hR1 hS1 h5 h6 h7 => ?_)
  · have h1 := kk v M' hq p e s m args below meth c G H1 locs1 (cells + mc') (slots + ms') ls hX hC hR1 hS1 hl (by omega) (by omega)
    rw [List.map_append] at h1
    cases v <;> exact h1
  · exact vx_out (by rw [hX.2.2.2.1, hh]; intro x hx; cases hx) hX.2.2.1 h5 h6 h7 (fun t ht _ => ⟨⟨M', kx E M' hq, by rw [ht]; exact hR1⟩, hS1.F ht⟩) hS1.2.2 (by omega) (by omega)
end
end
-- 07.throw
section
/-! RULES: throws, handlers. -/
section
variable {l : Launch} {J : Jm} {F L MC MS : Nat} {Q : Res → Mem → Prop} {pc : Nat} {lv : List (Nat × Value)} {st : List Value} {k n : Nat} {M : Mem}
def xIO : String := "java/lang/IndexOutOfBoundsException"
def xIA : String := "java/lang/IllegalArgumentException"
abbrev xNm : List String := ["java/lang/RuntimeException", "java/lang/Exception"]
def xB (E : String) : List Cond := .castable E E :: xDcl.map fun x => Cond.declares x
/-- how a class throws a new E(text) -/
def TH (own : String) (ik is ic kS : Nat) (E : String) : Prop := (E = xIO ∨ E = xIA) ∧ Cond.classLink own ik E ∈ WS ∧ Cond.initialized E ∈ WS ∧ (∃ tx by9, strT[kS]? = some (own, is, tx, by9)) ∧ (∀ w ∈ (vx_atS own ic E xNm).filter goodWord, w ∈ WS) ∧ (∀ w ∈ (vx_atS own ic E xNm).filter (fun w => !goodWord w), w ∈ xB E) ∧ (∀ w ∈ Cond.classLink own ik E :: Cond.initialized E :: vx_atS own ic E xNm, vx_ot w = true) ∧ Bundle.fit E = true ∧ (∀ n ∈ xNm, Bundle.fit n = true)
theorem ctx_cast {G : Gl} {s : State} {E : String} (hC : Ctx l G s) (hE : E = xIO ∨ E = xIA) : va_Nw (.castable E E) s := by
  rcases hE with rfl | rfl
  · exact hC.2.2.2.2.2.2.2.2.2.2.2.1
  · exact hC.2.2.2.2.2.2.2.2.2.2.2.2.1
theorem ctx_xB {G : Gl} {s : State} {args : Array Value} {E : String} (hC : Ctx l G s) (hE : E = xIO ∨ E = xIA) : ∀ w ∈ xB E, w.before args s = true := by
  intro w hw
  rcases List.mem_cons.mp hw with rfl | hw
  · exact va_Nw.use (by rfl) (ctx_cast hC hE)
  · obtain ⟨x, hx, rfl⟩ := List.mem_map.mp hw
    exact va_Nw.use (by rfl) (hC.2.2.2.2.2.2.2.2.2.2.2.2.2.2.2.2.2 x hx)
theorem g_throw {ik is ic kS : Nat} {E : String} (d0 : decode J.2.1 pc = .ok (.new ik, 3)) (d3 : decode J.2.1 (pc + 3) = .ok (.dup, 1)) (d4 : decode J.2.1 (pc + 4) = .ok (.ldc is, 2)) (d6 : decode J.2.1 (pc + 6) = .ok (.invokespecial ic, 3)) (d9 : decode J.2.1 (pc + 9) = .ok (.athrow, 1)) (hT : TH J.1.cls ik is ic kS E) (hh : J.2.2.2.2 = []) (hF : 5 < F) (hL : (st.map fun v => v.category).sum + 82 ≤ L) (hx : mX M = false) (hq : Q (.inr E) M) : Go l J F L MC MS Q pc lv st (k + 1) (n + 6) M := by
  intro p e s m args below meth c G H locs cells slots ls hX hC hR hS hl hc hs
  obtain ⟨t1, t2, t3, ⟨tx, by9, t4⟩, t5, t6, t7, t8, t9⟩ := hT
  have hts := hX.1.2.2.2.2
  refine vx_throwS (names := xNm) (sa := gSK G kS) (A := Go_A G) hX.1.1 hX.1.2.1 hC.1 hX.1.2.2.2.1 t8 t9 (hts _ t2) (hts _ t3) (hC.2.2.2.2.2.1 kS _ t4).1 (vx_hat (fun w hw => hts _ (t5 w hw)) t6 (ctx_xB hC t1)) t7 hC.2.2.2.1 hC.2.2.2.2.1 hS (hl.1.trans hX.1.2.2.1.symm) d0 d3 d4 d6 d9 (by rw [hX.2.2.2.1, hh]; intro x hx; cases hx) (by show 5 < F; exact hF) (by rw [cv_cats]; show _ + 82 ≤ L; exact hL) (by show cells + 1 ≤ MC; omega) (by show slots + 6 ≤ MS; omega) hX.2.2.1 ?_ hS.2.2 (by omega) (by omega)
  intro t hA hz hk
  exact ⟨⟨M, hq, hR.same hx hz hk⟩, Nat.le_trans hS.1 hz, fun q h1 h2 => (hk q (Nat.lt_of_lt_of_le h1 hS.1)).trans (hS.2.1 q h1 h2)⟩
theorem g_throwW {ik is ic kS : Nat} {E : String} (d0 : decode J.2.1 pc = .ok (.new ik, 3)) (d3 : decode J.2.1 (pc + 3) = .ok (.dup, 1)) (d4 : decode J.2.1 (pc + 4) = .ok (.ldc_w is, 3)) (d6 : decode J.2.1 (pc + 7) = .ok (.invokespecial ic, 3)) (d9 : decode J.2.1 (pc + 10) = .ok (.athrow, 1)) (hT : TH J.1.cls ik is ic kS E) (hh : J.2.2.2.2 = []) (hF : 5 < F) (hL : (st.map fun v => v.category).sum + 82 ≤ L) (hx : mX M = false) (hq : Q (.inr E) M) : Go l J F L MC MS Q pc lv st (k + 1) (n + 6) M := by
  intro p e s m args below meth c G H locs cells slots ls hX hC hR hS hl hc hs
  obtain ⟨t1, t2, t3, ⟨tx, by9, t4⟩, t5, t6, t7, t8, t9⟩ := hT
  have hts := hX.1.2.2.2.2
  refine vx_throwSW (names := xNm) (sa := gSK G kS) (A := Go_A G) hX.1.1 hX.1.2.1 hC.1 hX.1.2.2.2.1 t8 t9 (hts _ t2) (hts _ t3) (hC.2.2.2.2.2.1 kS _ t4).1 (vx_hat (fun w hw => hts _ (t5 w hw)) t6 (ctx_xB hC t1)) t7 hC.2.2.2.1 hC.2.2.2.2.1 hS (hl.1.trans hX.1.2.2.1.symm) d0 d3 d4 d6 d9 (by rw [hX.2.2.2.1, hh]; intro x hx; cases hx) (by show 5 < F; exact hF) (by rw [cv_cats]; show _ + 82 ≤ L; exact hL) (by show cells + 1 ≤ MC; omega) (by show slots + 6 ≤ MS; omega) hX.2.2.1 ?_ hS.2.2 (by omega) (by omega)
  intro t hA hz hk
  exact ⟨⟨M, hq, hR.same hx hz hk⟩, Nat.le_trans hS.1 hz, fun q h1 h2 => (hk q (Nat.lt_of_lt_of_le h1 hS.1)).trans (hS.2.1 q h1 h2)⟩
/-- the handler of E at pc: the table's rows ahead don't take it -/
def Hnd (J : Jm) (pc : Nat) (E : String) (hpc : Nat) : Prop := (E = xIO ∨ E = xIA) ∧ ∃ (pre : List (Nat × Nat × Nat × Nat)) (x : Nat × Nat × Nat × Nat) (suf : List (Nat × Nat × Nat × Nat)), J.2.2.2.2 = pre ++ x :: suf ∧ (∀ z ∈ pre, E = xIA ∧ z.2.2.2 ≠ 0 ∧ Cond.classLink J.1.cls z.2.2.2 xIO ∈ WS) ∧ covers ⟨x.1, x.2.1, x.2.2.1, x.2.2.2⟩ pc = true ∧ x.2.2.2 ≠ 0 ∧ Cond.classLink J.1.cls x.2.2.2 E ∈ WS ∧ x.2.2.1 = hpc
theorem lvF1_mem' {i : Nat} {lv : List (Nat × Value)} {q : Nat × Value} (h : q ∈ lvF1 i lv) : q ∈ lv ∧ pr1 i q = true := lvF1_mem h
theorem g_catch_n {p : Program} {e : Env} {s : State} {m : MethodId} {args : Array Value} {below : List Frame} {meth : Method} {c : Code} {G : Gl} {H : Heap} {locs : List Loc} {cells slots : Nat} {ls : Array Slot} {rest : List Value} {E : String} {ce : Cell} {q9 : Addr} {hpc : Nat} {lv' : List (Nat × Value)} {j : Fin 4} (hX : Stn l J p m args s meth c) (hC : Ctx l G s) (hR : Rel G M H) (hS : va_S (Go_A G) s.heap H locs) (hl : lv_has ls J.2.2.1 (lv.map (cvp G))) (hc : cells + k ≤ MC) (hs : slots + n ≤ MS) (hH : Hnd J pc E hpc) (h5 : H[q9]? = some ce) (h6 : ce.vm = .none) (h7 : s.vm.findClass E = some ce.cls)
    (hd : decode J.2.1 hpc = .ok (.astore_n j, 1)) (hn : j.val < J.2.2.1) (hv : lvF1 j.val lv = lv') (kk : Go l J F L MC MS Q (hpc + 1) lv' [] k n M) :
    vx_W p l e ({ frames := F, cells := MC, slots := MS, locals := L } : Room) s m args below meth c H locs cells slots (vx_MQ below (QcOf G Q) (XCOf G Q) args s MC MS (Go_A G)) (F0 m pc ls rest) q9 := by
  obtain ⟨hE, pre, x, suf, t1, t2, t3, t4, t5, rfl⟩ := hH
  have hts := hX.1.2.2.2.2
  refine vx_catch (name := E) hX.1.2.2.2.1 (tableOf pre) ⟨x.1, x.2.1, x.2.2.1, x.2.2.2⟩ (tableOf suf) (by rw [hX.2.2.2.1, t1]; simp [tableOf]) (fun z hz => ?_) t3 t4 (hts _ t5) (va_Nw.use (by rfl) (ctx_cast hC hE)) h5 h6 h7 ?_
  · obtain ⟨u, hu, rfl⟩ := List.mem_map.mp hz
    obtain ⟨e1, e2, e3⟩ := t2 u hu
    refine Or.inr ⟨e2, xIO, hts _ e3, ?_⟩
    rw [e1]
    exact hC.2.2.2.2.2.2.2.2.2.2.2.2.2.1
  · refine lv_astore_n hX.1.1 hX.1.2.1 hd rfl hl hn rfl (fun ls' hl' => ?_)
    refine kk p e s m args below meth c G H locs cells slots ls' hX hC hR hS ⟨hl'.1, hl'.2.1, fun q hq => hl'.2.2 q ?_⟩ hc hs
    subst hv
    obtain ⟨u, hu, rfl⟩ := List.mem_map.mp hq
    obtain ⟨h1, h2⟩ := lvF1_mem hu
    refine List.mem_cons_of_mem _ (List.mem_filter.mpr ⟨List.mem_map.mpr ⟨u, h1, rfl⟩, ?_⟩)
    simp only [cvp, pr1, cv_cat] at h2 ⊢
    exact h2
/-- a call in a body with handlers -/
theorem g_invV_try_n {ix nA F' L' mc' ms' : Nat} {J' : Jm} {As rest : List Value} {Q' : Res → Mem → Prop} {id ci : Nat} {q0 : vw_C} {j : Fin 4} (hd : decode J.2.1 pc = .ok (.invokevirtual ix, 3)) (hlk : LkV J.1.cls ix J' nA) (hn : As.length = nA) (hcat : (rest.map fun v => v.category).sum ≤ 8) (hF : F' + 1 ≤ F ∧ 8 + (J'.2.2.1 + 11) + L' ≤ L) (hE : Ev l J' F' L' mc' ms' (.ref id :: As) M Q') (hst : st = As.reverse ++ .ref id :: rest) (hk : (mK M)[id]? = some (.inr ci)) (hc0 : vwCl[ci]? = some q0) (hq0 : q0.1 = J'.1.cls)
    (kk : ∀ v M', Q' (.inl v) M' → Go l J F L MC MS Q (pc + 3) lv (v.toList ++ rest) k n M') (hi : j.val < J.2.2.1) (kx : ∀ E M', Q' (.inr E) M' → ∃ hpc, Hnd J pc E hpc ∧ decode J.2.1 hpc = .ok (.astore_n j, 1) ∧ Go l J F L MC MS Q (hpc + 1) (lvF1 j.val lv) [] k n M') : Go l J F L MC MS Q pc lv st (k + mc') (n + ms') M := by
  subst hst
  intro p e s m args below meth c G H locs cells slots ls hX hC hR hS hl hc hs
  have hts := hX.1.2.2.2.2
  have he := wl_get (G := G) hk
  have hrun := vx_runV (As := As.map (cv G)) (rest := rest.map (cv G)) (e := e) (below := below) (meth := meth) (g := F0 m pc ls ((As.reverse ++ .ref id :: rest).map (cv G))) (locs := locs) (cells := cells) (slots := slots) (H := H) (b := gB G + id) hX.1 (hE G) ⟨lk_B hlk.1 hts hF, hts _ hlk.2.1, hts _ hlk.2.2⟩
    ⟨blind G _ l M, by have := va_recv (q := q0) hC.2.1 hR.1 hc0 he; rw [hq0] at this; exact this, fun U hU hW => ⟨by rw [List.map_cons]; rfl, ctx_call hC hS hU hW, by rw [hU]; exact hR⟩⟩
    rfl (by rw [List.length_map]; exact hn) hl.1 (by show (List.map (cv G) _) = _; rw [List.map_append, List.map_reverse, List.map_cons]; rfl) (by show 2 * 0 + _ ≤ 8; rw [cv_cats]; omega) hd ⟨by show cells + mc' ≤ MC; omega, by show slots + ms' ≤ MS; omega⟩
  refine vx_go (hrun) hS (fun v M' H1 locs1 hq hR1 hS1 => ?_) (fun E ce q9 M' H1 locs1 hq hR1 hS1 h5 h6 h7 => ?_)
  · have h1 := kk v M' hq p e s m args below meth c G H1 locs1 (cells + mc') (slots + ms') ls hX hC hR1 hS1 hl (by omega) (by omega)
    rw [List.map_append] at h1
    cases v <;> exact h1
  · obtain ⟨hpc, hH, hd9, hg⟩ := kx E M' hq
    exact g_catch_n hX hC hR1 hS1 hl (by omega) (by omega) hH h5 h6 h7 hd9 hi rfl hg
theorem g_catch_w {p : Program} {e : Env} {s : State} {m : MethodId} {args : Array Value} {below : List Frame} {meth : Method} {c : Code} {G : Gl} {H : Heap} {locs : List Loc} {cells slots : Nat} {ls : Array Slot} {rest : List Value} {E : String} {ce : Cell} {q9 : Addr} {hpc : Nat} {lv' : List (Nat × Value)} {i : Nat} (hX : Stn l J p m args s meth c) (hC : Ctx l G s) (hR : Rel G M H) (hS : va_S (Go_A G) s.heap H locs) (hl : lv_has ls J.2.2.1 (lv.map (cvp G))) (hc : cells + k ≤ MC) (hs : slots + n ≤ MS) (hH : Hnd J pc E hpc) (h5 : H[q9]? = some ce) (h6 : ce.vm = .none) (h7 : s.vm.findClass E = some ce.cls)
    (hd : decode J.2.1 hpc = .ok (.astore i, 2)) (hn : i < J.2.2.1) (hv : lvF1 i lv = lv') (kk : Go l J F L MC MS Q (hpc + 2) lv' [] k n M) :
    vx_W p l e ({ frames := F, cells := MC, slots := MS, locals := L } : Room) s m args below meth c H locs cells slots (vx_MQ below (QcOf G Q) (XCOf G Q) args s MC MS (Go_A G)) (F0 m pc ls rest) q9 := by
  obtain ⟨hE, pre, x, suf, t1, t2, t3, t4, t5, rfl⟩ := hH
  have hts := hX.1.2.2.2.2
  refine vx_catch (name := E) hX.1.2.2.2.1 (tableOf pre) ⟨x.1, x.2.1, x.2.2.1, x.2.2.2⟩ (tableOf suf) (by rw [hX.2.2.2.1, t1]; simp [tableOf]) (fun z hz => ?_) t3 t4 (hts _ t5) (va_Nw.use (by rfl) (ctx_cast hC hE)) h5 h6 h7 ?_
  · obtain ⟨u, hu, rfl⟩ := List.mem_map.mp hz
    obtain ⟨e1, e2, e3⟩ := t2 u hu
    refine Or.inr ⟨e2, xIO, hts _ e3, ?_⟩
    rw [e1]
    exact hC.2.2.2.2.2.2.2.2.2.2.2.2.2.1
  · refine lv_astore hX.1.1 hX.1.2.1 hd hl hn rfl (fun ls' hl' => ?_)
    refine kk p e s m args below meth c G H locs cells slots ls' hX hC hR hS ⟨hl'.1, hl'.2.1, fun q hq => hl'.2.2 q ?_⟩ hc hs
    subst hv
    obtain ⟨u, hu, rfl⟩ := List.mem_map.mp hq
    obtain ⟨h1, h2⟩ := lvF1_mem hu
    refine List.mem_cons_of_mem _ (List.mem_filter.mpr ⟨List.mem_map.mpr ⟨u, h1, rfl⟩, ?_⟩)
    simp only [cvp, pr1, cv_cat] at h2 ⊢
    exact h2
/-- a call in a body with handlers -/
theorem g_invV_try_w {ix nA F' L' mc' ms' : Nat} {J' : Jm} {As rest : List Value} {Q' : Res → Mem → Prop} {id ci : Nat} {q0 : vw_C} {i : Nat} (hd : decode J.2.1 pc = .ok (.invokevirtual ix, 3)) (hlk : LkV J.1.cls ix J' nA) (hn : As.length = nA) (hcat : (rest.map fun v => v.category).sum ≤ 8) (hF : F' + 1 ≤ F ∧ 8 + (J'.2.2.1 + 11) + L' ≤ L) (hE : Ev l J' F' L' mc' ms' (.ref id :: As) M Q') (hst : st = As.reverse ++ .ref id :: rest) (hk : (mK M)[id]? = some (.inr ci)) (hc0 : vwCl[ci]? = some q0) (hq0 : q0.1 = J'.1.cls)
    (kk : ∀ v M', Q' (.inl v) M' → Go l J F L MC MS Q (pc + 3) lv (v.toList ++ rest) k n M') (hi : i < J.2.2.1) (kx : ∀ E M', Q' (.inr E) M' → ∃ hpc, Hnd J pc E hpc ∧ decode J.2.1 hpc = .ok (.astore i, 2) ∧ Go l J F L MC MS Q (hpc + 2) (lvF1 i lv) [] k n M') : Go l J F L MC MS Q pc lv st (k + mc') (n + ms') M := by
  subst hst
  intro p e s m args below meth c G H locs cells slots ls hX hC hR hS hl hc hs
  have hts := hX.1.2.2.2.2
  have he := wl_get (G := G) hk
  have hrun := vx_runV (As := As.map (cv G)) (rest := rest.map (cv G)) (e := e) (below := below) (meth := meth) (g := F0 m pc ls ((As.reverse ++ .ref id :: rest).map (cv G))) (locs := locs) (cells := cells) (slots := slots) (H := H) (b := gB G + id) hX.1 (hE G) ⟨lk_B hlk.1 hts hF, hts _ hlk.2.1, hts _ hlk.2.2⟩
    ⟨blind G _ l M, by have := va_recv (q := q0) hC.2.1 hR.1 hc0 he; rw [hq0] at this; exact this, fun U hU hW => ⟨by rw [List.map_cons]; rfl, ctx_call hC hS hU hW, by rw [hU]; exact hR⟩⟩
    rfl (by rw [List.length_map]; exact hn) hl.1 (by show (List.map (cv G) _) = _; rw [List.map_append, List.map_reverse, List.map_cons]; rfl) (by show 2 * 0 + _ ≤ 8; rw [cv_cats]; omega) hd ⟨by show cells + mc' ≤ MC; omega, by show slots + ms' ≤ MS; omega⟩
  refine vx_go (hrun) hS (fun v M' H1 locs1 hq hR1 hS1 => ?_) (fun E ce q9 M' H1 locs1 hq hR1 hS1 h5 h6 h7 => ?_)
  · have h1 := kk v M' hq p e s m args below meth c G H1 locs1 (cells + mc') (slots + ms') ls hX hC hR1 hS1 hl (by omega) (by omega)
    rw [List.map_append] at h1
    cases v <;> exact h1
  · obtain ⟨hpc, hH, hd9, hg⟩ := kx E M' hq
    exact g_catch_w hX hC hR1 hS1 hl (by omega) (by omega) hH h5 h6 h7 hd9 hi rfl hg
def LkSX (own : String) (ix : Nat) (J' : Jm) (nA : Nat) : Prop := Cond.methodLink own ix J'.1 ∈ WS ∧ (J'.2.2.2.2 ≠ [] ∧ cwd J' ∈ WS) ∧ Cond.initialized J'.1.cls ∈ WS ∧ (J'.1.cls ≠ "java/lang/invoke/MethodHandle" ∧ J'.1.cls ≠ "java/lang/invoke/VarHandle") ∧ (parseMethodDescriptor J'.1.desc).map (fun d => d.parameters.length) = some nA ∧ Cond.static J'.1 ∈ WS
theorem g_invSX {ix nA F' L' mc' ms' : Nat} {J' : Jm} {As rest : List Value} {Q' : Res → Mem → Prop} (hd : decode J.2.1 pc = .ok (.invokestatic ix, 3)) (hlk : LkSX J.1.cls ix J' nA) (hn : As.length = nA) (hcat : (rest.map fun v => v.category).sum ≤ 8) (hF : F' + 1 ≤ F ∧ 8 + (J'.2.2.1 + 11) + L' ≤ L) (hE : Ev l J' F' L' mc' ms' As M Q') (hst : st = As.reverse ++ rest) (hh : J.2.2.2.2 = [])
    (kk : ∀ v M', Q' (.inl v) M' → Go l J F L MC MS Q (pc + 3) lv (v.toList ++ rest) k n M') (kx : ∀ E M', Q' (.inr E) M' → Q (.inr E) M') : Go l J F L MC MS Q pc lv st (k + mc') (n + ms') M := by
  subst hst
  intro p e s m args below meth c G H locs cells slots ls hX hC hR hS hl hc hs
  have hts := hX.1.2.2.2.2
  obtain ⟨u1, ⟨u2, u3⟩, u4, u5, u6, u7⟩ := hlk
  have e9 : cwd J' = Cond.codeWith J'.1 J'.2.1 J'.2.2.1 J'.2.2.2.1 J'.2.2.2.2 := by unfold cwd; rw [if_neg u2]
  have hrun := vx_runSX (rm := ({ frames := F', cells := mc', slots := ms', locals := L' } : Room)) (As := As.map (cv G)) (rest := rest.map (cv G)) (e := e) (below := below) (meth := meth) (g := F0 m pc ls ((As.reverse ++ rest).map (cv G))) (locs := locs) (cells := cells) (slots := slots) (H := H) (R := ({ frames := F, cells := MC, slots := MS, locals := L } : Room)) hX.1 (hE G) ⟨⟨rfl, rfl, hF.1, hF.2, ws_warm hts u3, by rw [← e9]; exact List.mem_cons_self⟩, by rw [← e9]; exact hts _ u3, hts _ u4, u5, fun sig h9 => by rw [h9] at u6; exact (Option.some.inj u6).symm, hts _ u1, hts _ u7⟩
    ⟨blind G _ l M, fun U hU hW => ⟨rfl, ctx_call hC hS hU hW, by rw [hU]; exact hR⟩⟩
    rfl (by rw [List.length_map]; exact hn) hl.1 (by show (List.map (cv G) _) = _; rw [List.map_append, List.map_reverse]) (by show 2 * 0 + _ ≤ 8; rw [cv_cats]; omega) hd ⟨by show cells + mc' ≤ MC; omega, by show slots + ms' ≤ MS; omega⟩
  refine vx_go (hrun) hS (fun v M' H1 locs1 hq hR1 hS1 => ?_) (fun E ce q9 M' H1 locs1 hq hR1 hS1 h5 h6 h7 => ?_)
  · have h1 := kk v M' hq p e s m args below meth c G H1 locs1 (cells + mc') (slots + ms') ls hX hC hR1 hS1 hl (by omega) (by omega)
    rw [List.map_append] at h1
    cases v <;> exact h1
  · exact vx_out (by rw [hX.2.2.2.1, hh]; intro x hx; cases hx) hX.2.2.1 h5 h6 h7 (fun t ht _ => ⟨⟨M', kx E M' hq, by rw [ht]; exact hR1⟩, hS1.F ht⟩) hS1.2.2 (by omega) (by omega)
theorem g_copyI {ix a b na nb sp dp cnt : Nat} {i0 i1 i2 : Int32} (hd : decode J.2.1 pc = .ok (.invokestatic ix, 3)) (w1 : Cond.methodLink J.1.cls ix arraycopyName ∈ WS) (w2 : Cond.native arraycopyName ∈ WS) (w3 : Cond.static arraycopyName ∈ WS) (w4 : Cond.initialized "java/lang/System" ∈ WS) (ha : (mK M)[a]? = some (.inl (.int, na))) (hb : (mK M)[b]? = some (.inl (.int, nb))) (e0 : i0 = nI sp) (e1 : i1 = nI dp) (e2 : i2 = nI cnt) (h4 : sp + cnt ≤ na) (h5 : dp + cnt ≤ nb) (hL : na < 100000 ∧ nb < 100000) (hx : mX M = false) (hF : 1 ≤ F) (hLL : (st.map fun v => v.category).sum + (nativeFrameWords "java/lang/System" "arraycopy" 5 + 11) ≤ L)
    (kk : Go l J F L MC MS Q (pc + 3) lv st k n (sI M b (va_cpy (mI M a) (mI M b) sp dp cnt))) : Go l J F L MC MS Q pc lv (.int i2 :: .int i1 :: .ref b :: .int i0 :: .ref a :: st) k n M := by
  subst e0; subst e1; subst e2
  intro p e s m args below meth c G H locs cells slots ls hX hC hR hS hl hc hs
  have hts := hX.1.2.2.2.2
  have c1 := nI_clamp (n := sp) (by omega)
  have c2 := nI_clamp (n := dp) (by omega)
  have c3 := nI_clamp (n := cnt) (by omega)
  refine va_copyi hX.1.1 hX.1.2.1 (hX.1.2.2.1.trans hl.1.symm) hX.1.2.2.2.1 (hts _ w1) (hts _ w2) (hts _ w3) (hts _ w4) hC.2.1 hR.1 (wl_D G M) hS a b 0 0 (ty := .int) (wl_get ha) (wl_get hb) rfl rfl (by rfl) (nI_pos (by omega)) (nI_pos (by omega)) (nI_pos (by omega)) (by rw [c1, c3]; exact h4) (by rw [c2, c3]; exact h5) (fun i _ => rfl) hF (by rw [cv_cats]; exact hLL) hd (fun H1 locs1 hP hD hS1 => ?_)
  rw [c1, c2, c3] at hP
  have hR1 : Rel G (sI M b (va_cpy (mI M a) (mI M b) sp dp cnt)) H1 := by
    refine rel_of_P hx ?_ (Nat.le_trans hC.2.2.2.2.2.2.2.2.2.2.1 hS1.1) hR.2.2.2
    rw [← wl_set (M' := sI M b (va_cpy (mI M a) (mI M b) sp dp cnt)) hb rfl (fun j x hj _ => ent_sI x hj)]
    simp only [ent, adat, sI, mI, fs_self]
    exact hP
  exact kk p e s m args below meth c G H1 locs1 cells slots ls hX hC hR1 hS1 hl hc hs
/-- the script, and its length -/
theorem g_scriptLoad {i : Int32} {j : Nat} (hd : decode J.2.1 pc = .ok (.iaload, 1)) (hi : i = nI j) (hj : j < (mS M).1) (hL : (mS M).1 < 2147483648) (kk : Go l J F L MC MS Q (pc + 1) lv (.int ((mS M).2 j) :: st) k n M) : Go l J F L MC MS Q pc lv (.int i :: .retAddr 0 :: st) k n M := by
  subst hi
  intro p e s m args below meth c G H locs cells slots ls hX hC hR hS hl hc hs
  have h1 := kk p e s m args below meth c G H locs cells slots ls hX hC hR hS hl hc hs
  rw [hR.2.2.2] at h1 hj hL
  refine va_sld (A := Go_A G) hX.1.1 hX.1.2.1 hC.2.2.2.2.2.2.2.2.1 (Nat.lt_of_lt_of_le hC.2.2.2.2.2.2.2.2.2.1 hC.2.2.2.2.2.2.2.2.2.2.1) (Nat.not_le.mpr hC.2.2.2.2.2.2.2.2.2.1) hS (vp_in_nI hj hL) hd ?_
  rw [nI_clamp (by have : gLen G < 2147483648 := hL; have : j < gLen G := hj; omega)]
  exact h1
theorem g_scriptLen (hd : decode J.2.1 pc = .ok (.arraylength, 1)) (kk : Go l J F L MC MS Q (pc + 1) lv (.int (nI (mS M).1) :: st) k n M) : Go l J F L MC MS Q pc lv (.retAddr 0 :: st) k n M := by
  intro p e s m args below meth c G H locs cells slots ls hX hC hR hS hl hc hs
  have h1 := kk p e s m args below meth c G H locs cells slots ls hX hC hR hS hl hc hs
  rw [hR.2.2.2] at h1
  exact va_slen (A := Go_A G) hX.1.1 hX.1.2.1 hC.2.2.2.2.2.2.2.2.1 (Nat.lt_of_lt_of_le hC.2.2.2.2.2.2.2.2.2.1 hC.2.2.2.2.2.2.2.2.2.2.1) (Nat.not_le.mpr hC.2.2.2.2.2.2.2.2.2.1) hS hd h1
/-- String constants -/
theorem g_ldcS {is kS : Nat} {tx : String} {by9 : List Int32} (hd : decode J.2.1 pc = .ok (.ldc is, 2)) (hk : strT[kS]? = some (J.1.cls, is, tx, by9)) (kk : Go l J F L MC MS Q (pc + 2) lv (.retAddr (2 * kS + 2) :: st) k n M) : Go l J F L MC MS Q pc lv st k n M := by
  intro p e s m args below meth c G H locs cells slots ls hX hC hR hS hl hc hs
  have h1 := kk p e s m args below meth c G H locs cells slots ls hX hC hR hS hl hc hs
  rw [List.map_cons, show cv G (.retAddr (2 * kS + 2)) = .ref (gSK G kS) by show (if 2 * kS % 2 = 0 then _ else _) = _; rw [if_pos (by omega), show 2 * kS / 2 = kS by omega]] at h1
  exact va_ldcS hX.1.1 hX.1.2.1 hX.1.2.2.2.1 (hC.2.2.2.2.2.1 kS _ hk).1 hd h1
theorem g_strValue {ix kS : Nat} {q : String × Nat × String × List Int32} (hd : decode J.2.1 pc = .ok (.getfield ix, 3)) (hk : strT[kS]? = some q) (hw : Cond.fieldLink J.1.cls ix "java/lang/String" "value" "[B" ∈ WS) (kk : Go l J F L MC MS Q (pc + 3) lv (.retAddr (2 * kS + 3) :: st) k n M) : Go l J F L MC MS Q pc lv (.retAddr (2 * kS + 2) :: st) k n M := by
  intro p e s m args below meth c G H locs cells slots ls hX hC hR hS hl hc hs
  have h1 := kk p e s m args below meth c G H locs cells slots ls hX hC hR hS hl hc hs
  rw [List.map_cons, show cv G (.retAddr (2 * kS + 3)) = .ref (gSV G kS) by show (if (2 * kS + 1) % 2 = 0 then _ else _) = _; rw [if_neg (by omega), show (2 * kS + 1) / 2 = kS by omega]] at h1
  rw [List.map_cons, show cv G (.retAddr (2 * kS + 2)) = .ref (gSK G kS) by show (if 2 * kS % 2 = 0 then _ else _) = _; rw [if_pos (by omega), show 2 * kS / 2 = kS by omega]]
  exact vk_getf hX.1.1 hX.1.2.1 (((hC.2.2.2.2.2.1 kS _ hk).2.1 0 (by decide)).2.2.1) hS hX.1.2.2.2.1 (hX.1.2.2.2.2 _ hw) (fun x hx => hx) hd h1
theorem g_strCoder {ix kS : Nat} {q : String × Nat × String × List Int32} (hd : decode J.2.1 pc = .ok (.getfield ix, 3)) (hk : strT[kS]? = some q) (hw : Cond.fieldLink J.1.cls ix "java/lang/String" "coder" "B" ∈ WS) (kk : Go l J F L MC MS Q (pc + 3) lv (.int 0 :: st) k n M) : Go l J F L MC MS Q pc lv (.retAddr (2 * kS + 2) :: st) k n M := by
  intro p e s m args below meth c G H locs cells slots ls hX hC hR hS hl hc hs
  have h1 := kk p e s m args below meth c G H locs cells slots ls hX hC hR hS hl hc hs
  rw [List.map_cons, show cv G (.retAddr (2 * kS + 2)) = .ref (gSK G kS) by show (if 2 * kS % 2 = 0 then _ else _) = _; rw [if_pos (by omega), show 2 * kS / 2 = kS by omega]]
  exact vk_getf hX.1.1 hX.1.2.1 (((hC.2.2.2.2.2.1 kS _ hk).2.1 0 (by decide)).2.1) hS hX.1.2.2.2.1 (hX.1.2.2.2.2 _ hw) (fun x hx => hx) hd h1
theorem g_compact {ix : Nat} (hd : decode J.2.1 pc = .ok (.getstatic ix, 3)) (hw : Cond.fieldLink J.1.cls ix "java/lang/String" "COMPACT_STRINGS" "Z" ∈ WS) (kk : Go l J F L MC MS Q (pc + 3) lv (.int 1 :: st) k n M) : Go l J F L MC MS Q pc lv st k n M := by
  intro p e s m args below meth c G H locs cells slots ls hX hC hR hS hl hc hs
  exact va_gets hX.1.1 hX.1.2.1 hC.2.2.2.2.2.2.1 hS hX.1.2.2.2.1 (hX.1.2.2.2.2 _ hw) (fun x hx => hx) hd (kk p e s m args below meth c G H locs cells slots ls hX hC hR hS hl hc hs)
theorem g_formatter {ix : Nat} (hd : decode J.2.1 pc = .ok (.getstatic ix, 3)) (hw : Cond.fieldLink J.1.cls ix "jdk/internal/util/Preconditions" "SIOOBE_FORMATTER" "Ljava/util/function/BiFunction;" ∈ WS) (kk : Go l J F L MC MS Q (pc + 3) lv (.retAddr 1 :: st) k n M) : Go l J F L MC MS Q pc lv st k n M := by
  intro p e s m args below meth c G H locs cells slots ls hX hC hR hS hl hc hs
  have h1 := kk p e s m args below meth c G H locs cells slots ls hX hC hR hS hl hc hs
  have h2 := hC.2.2.2.2.2.2.2.1
  rw [List.map_cons, show cv G (.retAddr 1) = gFm G by show gFc (gFm G) = _; rcases h2.2 with h | ⟨a, h⟩ <;> rw [h] <;> rfl] at h1
  exact va_gets hX.1.1 hX.1.2.1 h2.1 hS hX.1.2.2.2.1 (hX.1.2.2.2.2 _ hw) (fun x hx => hx) hd h1
theorem g_strLen {kS : Nat} {q : String × Nat × String × List Int32} (hd : decode J.2.1 pc = .ok (.arraylength, 1)) (hk : strT[kS]? = some q) (kk : Go l J F L MC MS Q (pc + 1) lv (.int (nI q.2.2.2.length) :: st) k n M) : Go l J F L MC MS Q pc lv (.retAddr (2 * kS + 3) :: st) k n M := by
  intro p e s m args below meth c G H locs cells slots ls hX hC hR hS hl hc hs
  have h1 := kk p e s m args below meth c G H locs cells slots ls hX hC hR hS hl hc hs
  obtain ⟨cell, c1, c2, c3, c4, c5, c6, c7⟩ := ((hC.2.2.2.2.2.1 kS _ hk).2.1 0 (by decide)).2.2.2.kept hS.2.1
  rw [List.map_cons, show cv G (.retAddr (2 * kS + 3)) = .ref (gSV G kS) by show (if (2 * kS + 1) % 2 = 0 then _ else _) = _; rw [if_neg (by omega), show (2 * kS + 1) / 2 = kS by omega]]
  exact W.alen hX.1.1 hX.1.2.1 c1 c2 c5 rfl rfl hd h1
theorem g_strByte {kS j : Nat} {i : Int32} {q : String × Nat × String × List Int32} (hd : decode J.2.1 pc = .ok (.baload, 1)) (hk : strT[kS]? = some q) (hi : i = nI j) (hj : j < q.2.2.2.length) (hL : q.2.2.2.length < 2147483648) (kk : Go l J F L MC MS Q (pc + 1) lv (.int (q.2.2.2.getD j 0) :: st) k n M) : Go l J F L MC MS Q pc lv (.int i :: .retAddr (2 * kS + 3) :: st) k n M := by
  subst hi
  intro p e s m args below meth c G H locs cells slots ls hX hC hR hS hl hc hs
  have h1 := kk p e s m args below meth c G H locs cells slots ls hX hC hR hS hl hc hs
  obtain ⟨cell, c1, c2, c3, c4, c5, c6, c7⟩ := ((hC.2.2.2.2.2.1 kS _ hk).2.1 0 (by decide)).2.2.2.kept hS.2.1
  rw [List.map_cons, List.map_cons, show cv G (.retAddr (2 * kS + 3)) = .ref (gSV G kS) by show (if (2 * kS + 1) % 2 = 0 then _ else _) = _; rw [if_neg (by omega), show (2 * kS + 1) / 2 = kS by omega]]
  have c4' : q.2.2.2.length ≤ cell.slots.size := c4
  have hin : ¬ (nI j < 0 ∨ cell.slots.size ≤ (nI j).toNatClampNeg) := by
    rintro (h | h)
    · exact nI_pos (by omega) h
    · rw [nI_clamp (by omega)] at h
      omega
  exact W.bald (v := .int (q.2.2.2.getD j 0)) hX.1.1 hX.1.2.1 c1 c2 c3 hin (by rw [nI_clamp (by omega)]; exact c6 j hj) rfl rfl hd h1
theorem g_mmin {ix : Nat} {x y : Int32} (hd : decode J.2.1 pc = .ok (.invokestatic ix, 3)) (w1 : Cond.methodLink J.1.cls ix Lib.Math.min.name ∈ WS) (w2 : Cond.static Lib.Math.min.name ∈ WS) (w3 : Cond.initialized "java/lang/Math" ∈ WS) (w4 : Cond.code Lib.Math.min.name Lib.Math.min.code 2 (some .int) ∈ WS) (hF : 1 ≤ F) (hLL : (st.map fun v => v.category).sum + 13 ≤ L) (kk : Go l J F L MC MS Q (pc + 3) lv (.int (if y < x then y else x) :: st) k n M) : Go l J F L MC MS Q pc lv (.int y :: .int x :: st) k n M := by
  intro p e s m args below meth c G H locs cells slots ls hX hC hR hS hl hc hs
  have hts := hX.1.2.2.2.2
  exact va_mmin hX.1.1 hX.1.2.1 (hX.1.2.2.1.trans hl.1.symm) hX.1.2.2.2.1 (hts _ w1) (hts _ w2) (hts _ w3) (hts _ w4) hF (by rw [cv_cats]; exact hLL) (by show cells ≤ MC; omega) (by show slots ≤ MS; omega) hd (kk p e s m args below meth c G H locs cells slots ls hX hC hR hS hl hc hs)
theorem g_mmax {ix : Nat} {x y : Int32} (hd : decode J.2.1 pc = .ok (.invokestatic ix, 3)) (w1 : Cond.methodLink J.1.cls ix Lib.Math.max.name ∈ WS) (w2 : Cond.static Lib.Math.max.name ∈ WS) (w3 : Cond.initialized "java/lang/Math" ∈ WS) (w4 : Cond.code Lib.Math.max.name Lib.Math.max.code 2 (some .int) ∈ WS) (hF : 1 ≤ F) (hLL : (st.map fun v => v.category).sum + 13 ≤ L) (kk : Go l J F L MC MS Q (pc + 3) lv (.int (if x < y then y else x) :: st) k n M) : Go l J F L MC MS Q pc lv (.int y :: .int x :: st) k n M := by
  intro p e s m args below meth c G H locs cells slots ls hX hC hR hS hl hc hs
  have hts := hX.1.2.2.2.2
  exact va_mmax hX.1.1 hX.1.2.1 (hX.1.2.2.1.trans hl.1.symm) hX.1.2.2.2.1 (hts _ w1) (hts _ w2) (hts _ w3) (hts _ w4) hF (by rw [cv_cats]; exact hLL) (by show cells ≤ MC; omega) (by show slots ≤ MS; omega) hd (kk p e s m args below meth c G H locs cells slots ls hX hC hR hS hl hc hs)
theorem g_mabs {ix : Nat} {x y : Int32} (hd : decode J.2.1 pc = .ok (.invokestatic ix, 3)) (w1 : Cond.methodLink J.1.cls ix Lib.Math.abs.name ∈ WS) (w2 : Cond.static Lib.Math.abs.name ∈ WS) (w3 : Cond.initialized "java/lang/Math" ∈ WS) (w4 : Cond.code Lib.Math.abs.name Lib.Math.abs.code 1 (some .int) ∈ WS) (hF : 1 ≤ F) (hLL : (st.map fun v => v.category).sum + 13 ≤ L) (kk : Go l J F L MC MS Q (pc + 3) lv (.int (if 0 ≤ x then x else 0 - x) :: st) k n M) : Go l J F L MC MS Q pc lv (.int x :: st) k n M := by
  intro p e s m args below meth c G H locs cells slots ls hX hC hR hS hl hc hs
  have hts := hX.1.2.2.2.2
  exact va_mabs hX.1.1 hX.1.2.1 (hX.1.2.2.1.trans hl.1.symm) hX.1.2.2.2.1 (hts _ w1) (hts _ w2) (hts _ w3) (hts _ w4) hF (by rw [cv_cats]; exact hLL) (by show cells ≤ MC; omega) (by show slots ≤ MS; omega) hd (kk p e s m args below meth c G H locs cells slots ls hX hC hR hS hl hc hs)
end
end
-- 08.links
section
abbrev jX0_init : Jm := (yX0_init, cX0_init, 1, none, [])
abbrev jX0_makeFrom : Jm := (yX0_makeFrom, cX0_makeFrom, 5, none, [])
abbrev jX0_nodesTo : Jm := (yX0_nodesTo, cX0_nodesTo, 3, (some FieldType.int), [])
abbrev jX0_lowestMutual : Jm := (yX0_lowestMutual, cX0_lowestMutual, 3, (some FieldType.int), [])
abbrev jX0_gainWith : Jm := (yX0_gainWith, cX0_gainWith, 7, (some FieldType.int), [])
abbrev jX0_extend : Jm := (yX0_extend, cX0_extend, 7, (some FieldType.int), [])
abbrev jX0_mend : Jm := (yX0_mend, cX0_mend, 7, (some FieldType.int), [])
abbrev jX0_lossBy : Jm := (yX0_lossBy, cX0_lossBy, 8, (some FieldType.int), [])
abbrev jX1_init : Jm := (yX1_init, cX1_init, 1, none, [])
abbrev jX1_eliminate : Jm := (yX1_eliminate, cX1_eliminate, 5, none, [])
abbrev jX1_eliminateBesideUnit : Jm := (yX1_eliminateBesideUnit, cX1_eliminateBesideUnit, 4, none, [])
abbrev jX1_isSolvable : Jm := (yX1_isSolvable, cX1_isSolvable, 3, (some FieldType.boolean), [])
abbrev jX1_solution : Jm := (yX1_solution, cX1_solution, 3, (some FieldType.int), [])
abbrev jX1_pivotAt : Jm := (yX1_pivotAt, cX1_pivotAt, 2, (some FieldType.int), [])
abbrev jX1_eliminateAll : Jm := (yX1_eliminateAll, cX1_eliminateAll, 5, none, [])
abbrev jX1_rowNotTaken : Jm := (yX1_rowNotTaken, cX1_rowNotTaken, 4, (some FieldType.int), [])
abbrev jX1_swapRows : Jm := (yX1_swapRows, cX1_swapRows, 5, none, [])
abbrev jX1_clearOthers : Jm := (yX1_clearOthers, cX1_clearOthers, 5, none, [])
abbrev jX2_init : Jm := (yX2_init, cX2_init, 1, none, [])
abbrev jX2_makeEmpty : Jm := (yX2_makeEmpty, cX2_makeEmpty, 2, none, [])
abbrev jX2_takeFrom : Jm := (yX2_takeFrom, cX2_takeFrom, 2, none, [])
abbrev jX2_noteLooked : Jm := (yX2_noteLooked, cX2_noteLooked, 2, none, [])
abbrev jX2_noteMadeAnew : Jm := (yX2_noteMadeAnew, cX2_noteMadeAnew, 2, none, [])
abbrev jX3_init : Jm := (yX3_init, cX3_init, 1, none, [])
abbrev jX3_begin : Jm := (yX3_begin, cX3_begin, 3, none, [])
abbrev jX3_multiply : Jm := (yX3_multiply, cX3_multiply, 6, none, [])
abbrev jX3_raise : Jm := (yX3_raise, cX3_raise, 7, (some (FieldType.array FieldType.int)), [])
abbrev jX3_fillTable : Jm := (yX3_fillTable, cX3_fillTable, 7, none, [])
abbrev jX3_takeEntries : Jm := (yX3_takeEntries, cX3_takeEntries, 7, none, [])
abbrev jX3_joined : Jm := (yX3_joined, cX3_joined, 3, (some FieldType.int), [])
abbrev jX4_init : Jm := (yX4_init, cX4_init, 1, none, [])
abbrev jX4_addBytes : Jm := (yX4_addBytes, cX4_addBytes, 6, (some FieldType.int), [])
abbrev jX4_readInto : Jm := (yX4_readInto, cX4_readInto, 3, none, [])
abbrev jX4_readSize : Jm := (yX4_readSize, cX4_readSize, 2, none, [])
abbrev jX4_readStatement : Jm := (yX4_readStatement, cX4_readStatement, 2, none, [])
abbrev jX4_readEdge : Jm := (yX4_readEdge, cX4_readEdge, 5, none, [])
abbrev jX4_readRow : Jm := (yX4_readRow, cX4_readRow, 4, none, [])
abbrev jX4_readKeep : Jm := (yX4_readKeep, cX4_readKeep, 3, none, [])
abbrev jX4_readFill : Jm := (yX4_readFill, cX4_readFill, 4, none, [])
abbrev jX4_rowOfKind : Jm := (yX4_rowOfKind, cX4_rowOfKind, 3, (some FieldType.int), [])
abbrev jX4_hasMore : Jm := (yX4_hasMore, cX4_hasMore, 1, (some FieldType.boolean), [])
abbrev jX4_takeSemicolon : Jm := (yX4_takeSemicolon, cX4_takeSemicolon, 1, none, [])
abbrev jX4_takeWord : Jm := (yX4_takeWord, cX4_takeWord, 1, none, [])
abbrev jX4_takeDigits : Jm := (yX4_takeDigits, cX4_takeDigits, 1, none, [])
abbrev jX4_takeNumber : Jm := (yX4_takeNumber, cX4_takeNumber, 5, (some FieldType.int), [])
abbrev jX4_takeBits : Jm := (yX4_takeBits, cX4_takeBits, 5, (some FieldType.int), [])
abbrev jX4_skipSpaces : Jm := (yX4_skipSpaces, cX4_skipSpaces, 1, none, [])
abbrev jX4_isWord : Jm := (yX4_isWord, cX4_isWord, 3, (some FieldType.boolean), [])
abbrev jX4_fail : Jm := (yX4_fail, cX4_fail, 3, none, [])
abbrev jX5_init : Jm := (yX5_init, cX5_init, 2, none, [])
abbrev jX5_makeEmpty : Jm := (yX5_makeEmpty, cX5_makeEmpty, 3, none, [])
abbrev jX5_takeFrom : Jm := (yX5_takeFrom, cX5_takeFrom, 3, none, [])
abbrev jX6_init : Jm := (yX6_init, cX6_init, 2, none, [])
abbrev jX6_append : Jm := (yX6_append, cX6_append, 3, (some FieldType.int), [])
abbrev jX6_load : Jm := (yX6_load, cX6_load, 1, (some FieldType.int), [])
abbrev jX6_loadError : Jm := (yX6_loadError, cX6_loadError, 1, (some FieldType.int), [])
abbrev jX6_loadStatement : Jm := (yX6_loadStatement, cX6_loadStatement, 1, (some FieldType.int), [])
abbrev jX6_count : Jm := (yX6_count, cX6_count, 2, (some FieldType.int), [])
abbrev jX6_bit : Jm := (yX6_bit, cX6_bit, 4, (some FieldType.int), [])
abbrev jX6_row : Jm := (yX6_row, cX6_row, 3, (some FieldType.long), [])
abbrev jX6_rank : Jm := (yX6_rank, cX6_rank, 4, (some FieldType.int), [])
abbrev jX6_select : Jm := (yX6_select, cX6_select, 4, (some FieldType.int), [])
abbrev jX6_ones : Jm := (yX6_ones, cX6_ones, 2, (some FieldType.int), [])
abbrev jX6_columnOnes : Jm := (yX6_columnOnes, cX6_columnOnes, 3, (some FieldType.int), [])
abbrev jX6_sameAs : Jm := (yX6_sameAs, cX6_sameAs, 3, (some FieldType.int), [])
abbrev jX6_classes : Jm := (yX6_classes, cX6_classes, 2, (some FieldType.int), [])
abbrev jX6_classOf : Jm := (yX6_classOf, cX6_classOf, 4, (some FieldType.int), [])
abbrev jX6_find : Jm := (yX6_find, cX6_find, 4, (some FieldType.int), [])
abbrev jX6_nearest : Jm := (yX6_nearest, cX6_nearest, 8, (some FieldType.int), [])
abbrev jX6_density : Jm := (yX6_density, cX6_density, 2, (some FieldType.double), [])
abbrev jX6_isSymmetric : Jm := (yX6_isSymmetric, cX6_isSymmetric, 4, (some FieldType.boolean), [])
abbrev jX6_reaches : Jm := (yX6_reaches, cX6_reaches, 4, (some FieldType.int), [])
abbrev jX6_reached : Jm := (yX6_reached, cX6_reached, 3, (some FieldType.int), [])
abbrev jX6_pairs : Jm := (yX6_pairs, cX6_pairs, 2, (some FieldType.int), [])
abbrev jX6_meanReach : Jm := (yX6_meanReach, cX6_meanReach, 2, (some FieldType.float), [])
abbrev jX6_component : Jm := (yX6_component, cX6_component, 3, (some FieldType.int), [])
abbrev jX6_components : Jm := (yX6_components, cX6_components, 5, (some FieldType.int), [])
abbrev jX6_distance : Jm := (yX6_distance, cX6_distance, 4, (some FieldType.int), [])
abbrev jX6_stepAt : Jm := (yX6_stepAt, cX6_stepAt, 9, (some FieldType.int), [])
abbrev jX6_around : Jm := (yX6_around, cX6_around, 3, (some FieldType.int), [])
abbrev jX6_girth : Jm := (yX6_girth, cX6_girth, 5, (some FieldType.int), [])
abbrev jX6_order : Jm := (yX6_order, cX6_order, 7, (some FieldType.int), [])
abbrev jX6_gained : Jm := (yX6_gained, cX6_gained, 5, (some FieldType.int), [])
abbrev jX6_lost : Jm := (yX6_lost, cX6_lost, 4, (some FieldType.int), [])
abbrev jX6_bestEdge : Jm := (yX6_bestEdge, cX6_bestEdge, 10, (some FieldType.int), [])
abbrev jX6_weakest : Jm := (yX6_weakest, cX6_weakest, 8, (some FieldType.int), [])
abbrev jX6_triangles : Jm := (yX6_triangles, cX6_triangles, 7, (some FieldType.int), [])
abbrev jX6_fieldRank : Jm := (yX6_fieldRank, cX6_fieldRank, 2, (some FieldType.int), [])
abbrev jX6_solve : Jm := (yX6_solve, cX6_solve, 4, (some FieldType.long), [])
abbrev jX6_freedom : Jm := (yX6_freedom, cX6_freedom, 4, (some FieldType.int), [])
abbrev jX6_pivot : Jm := (yX6_pivot, cX6_pivot, 3, (some FieldType.int), [])
abbrev jX6_put : Jm := (yX6_put, cX6_put, 8, (some FieldType.int), [])
abbrev jX6_setRow : Jm := (yX6_setRow, cX6_setRow, 7, (some FieldType.int), [])
abbrev jX6_copy : Jm := (yX6_copy, cX6_copy, 3, (some FieldType.int), [])
abbrev jX6_transpose : Jm := (yX6_transpose, cX6_transpose, 4, (some FieldType.int), [])
abbrev jX6_combine : Jm := (yX6_combine, cX6_combine, 6, (some FieldType.int), [])
abbrev jX6_product : Jm := (yX6_product, cX6_product, 5, (some FieldType.int), [])
abbrev jX6_power : Jm := (yX6_power, cX6_power, 6, (some FieldType.int), [])
abbrev jX6_invert : Jm := (yX6_invert, cX6_invert, 3, (some FieldType.int), [])
abbrev jX6_close : Jm := (yX6_close, cX6_close, 3, (some FieldType.int), [])
abbrev jX6_reduce : Jm := (yX6_reduce, cX6_reduce, 4, (some FieldType.int), [])
abbrev jX6_exchange : Jm := (yX6_exchange, cX6_exchange, 8, (some FieldType.int), [])
abbrev jX6_keep : Jm := (yX6_keep, cX6_keep, 4, (some FieldType.int), [])
abbrev jX6_setBlock : Jm := (yX6_setBlock, cX6_setBlock, 3, (some FieldType.int), [])
abbrev jX6_kept : Jm := (yX6_kept, cX6_kept, 4, (some FieldType.int), [])
abbrev jX6_work : Jm := (yX6_work, cX6_work, 2, (some FieldType.int), [])
abbrev jX6_writeRow : Jm := (yX6_writeRow, cX6_writeRow, 5, (some FieldType.int), [])
abbrev jX6_outputByte : Jm := (yX6_outputByte, cX6_outputByte, 2, (some FieldType.int), [])
abbrev jX6_undo : Jm := (yX6_undo, cX6_undo, 1, (some FieldType.int), [])
abbrev jX6_saveSnapshot : Jm := (yX6_saveSnapshot, cX6_saveSnapshot, 2, (some FieldType.int), [])
abbrev jX6_restoreSnapshot : Jm := (yX6_restoreSnapshot, cX6_restoreSnapshot, 2, (some FieldType.int), [])
abbrev jX6_needSlot : Jm := (yX6_needSlot, cX6_needSlot, 2, none, [])
abbrev jX6_needNode : Jm := (yX6_needNode, cX6_needNode, 2, none, [])
abbrev jX6_needRow : Jm := (yX6_needRow, cX6_needRow, 3, none, [])
abbrev jX6_needCell : Jm := (yX6_needCell, cX6_needCell, 4, none, [])
abbrev jX6_needRange : Jm := (yX6_needRange, cX6_needRange, 4, none, [])
abbrev jX6_rowsOf : Jm := (yX6_rowsOf, cX6_rowsOf, 2, (some (FieldType.array FieldType.int)), [])
abbrev jX6_keptSlots : Jm := (yX6_keptSlots, cX6_keptSlots, 3, (some FieldType.int), [])
abbrev jX6_remember : Jm := (yX6_remember, cX6_remember, 1, none, [])
abbrev jX6_replaceState : Jm := (yX6_replaceState, cX6_replaceState, 2, none, [])
abbrev jX6_dropClosures : Jm := (yX6_dropClosures, cX6_dropClosures, 2, none, [])
abbrev jX6_closureOf : Jm := (yX6_closureOf, cX6_closureOf, 3, (some (FieldType.object "BitDesk$Closure")), [])
abbrev jX6_store : Jm := (yX6_store, cX6_store, 3, (some FieldType.int), [])
abbrev jX6_noteChange : Jm := (yX6_noteChange, cX6_noteChange, 2, none, [])
abbrev jX6_noteWork : Jm := (yX6_noteWork, cX6_noteWork, 1, none, [])
abbrev jX6_firstEqual : Jm := (yX6_firstEqual, cX6_firstEqual, 4, (some FieldType.int), [])
abbrev jX6_firstRows : Jm := (yX6_firstRows, cX6_firstRows, 5, (some FieldType.int), [])
abbrev jX6_joinedRows : Jm := (yX6_joinedRows, cX6_joinedRows, 5, (some FieldType.int), [])
abbrev jX6_fewestEdges : Jm := (yX6_fewestEdges, cX6_fewestEdges, 6, (some FieldType.int), [])
abbrev jX6_fillLevels : Jm := (yX6_fillLevels, cX6_fillLevels, 7, none, [])
abbrev jX6_lossWithout : Jm := (yX6_lossWithout, cX6_lossWithout, 4, (some FieldType.int), [])
abbrev jX6_dropNeedless : Jm := (yX6_dropNeedless, cX6_dropNeedless, 5, none, [])
abbrev jX6_combined : Jm := (yX6_combined, cX6_combined, 3, (some FieldType.int), [])
abbrev jX6_exchanged : Jm := (yX6_exchanged, cX6_exchanged, 3, (some FieldType.int), [])
abbrev jX6_edgeNumber : Jm := (yX6_edgeNumber, cX6_edgeNumber, 2, (some FieldType.int), [])
abbrev jX6_unsigned : Jm := (yX6_unsigned, cX6_unsigned, 1, (some FieldType.long), [])
abbrev jX6_hasOne : Jm := (yX6_hasOne, cX6_hasOne, 2, (some FieldType.boolean), [])
abbrev jX6_lowest : Jm := (yX6_lowest, cX6_lowest, 1, (some FieldType.int), [])
abbrev jX6_lowestOne : Jm := (yX6_lowestOne, cX6_lowestOne, 1, (some FieldType.int), [])
abbrev jX6_oneAt : Jm := (yX6_oneAt, cX6_oneAt, 4, (some FieldType.int), [])
abbrev jX6_onesOf : Jm := (yX6_onesOf, cX6_onesOf, 4, (some FieldType.int), [])
abbrev jX6_columnOf : Jm := (yX6_columnOf, cX6_columnOf, 5, (some FieldType.int), [])
abbrev jX6_reachedFrom : Jm := (yX6_reachedFrom, cX6_reachedFrom, 7, (some FieldType.int), [])
abbrev jX7_init : Jm := (yX7_init, cX7_init, 1, none, [])
abbrev jX7_thrown : Jm := (yX7_thrown, cX7_thrown, 1, (some FieldType.int), [])
abbrev jX7_in : Jm := (yX7_in, cX7_in, 6, (some FieldType.boolean), [])
abbrev jX7_copies : Jm := (yX7_copies, cX7_copies, 5, none, [])
abbrev jX7_begins : Jm := (yX7_begins, cX7_begins, 3, none, [])
abbrev jX7_isThrown : Jm := (yX7_isThrown, cX7_isThrown, 3, (some FieldType.boolean), [])
abbrev jX7_size : Jm := (yX7_size, cX7_size, 1, (some FieldType.int), [])
abbrev jX7_isSlot : Jm := (yX7_isSlot, cX7_isSlot, 1, (some FieldType.boolean), [])
abbrev jX7_isNode : Jm := (yX7_isNode, cX7_isNode, 2, (some FieldType.boolean), [])
abbrev jX7_rowOf : Jm := (yX7_rowOf, cX7_rowOf, 3, (some FieldType.long), [])
abbrev jX7_setsRow : Jm := (yX7_setsRow, cX7_setsRow, 5, none, [])
abbrev jX7_one : Jm := (yX7_one, cX7_one, 3, (some FieldType.int), [])
abbrev jX7_bitsOf : Jm := (yX7_bitsOf, cX7_bitsOf, 5, (some FieldType.int), [])
abbrev jX7_all : Jm := (yX7_all, cX7_all, 1, (some FieldType.long), [])
abbrev jX7_byteOf : Jm := (yX7_byteOf, cX7_byteOf, 3, (some FieldType.int), [])
abbrev jX7_append : Jm := (yX7_append, cX7_append, 5, (some FieldType.int), [])
abbrev jX7_here : Jm := (yX7_here, cX7_here, 1, (some FieldType.int), [])
abbrev jX7_next : Jm := (yX7_next, cX7_next, 1, (some FieldType.int), [])
abbrev jX7_fails : Jm := (yX7_fails, cX7_fails, 2, none, [])
abbrev jX7_reads : Jm := (yX7_reads, cX7_reads, 1, none, [])
abbrev jX7_isWord : Jm := (yX7_isWord, cX7_isWord, 4, (some FieldType.boolean), [])
abbrev jX7_number : Jm := (yX7_number, cX7_number, 4, (some FieldType.int), [])
abbrev jX7_readSlot : Jm := (yX7_readSlot, cX7_readSlot, 1, (some FieldType.int), [])
abbrev jX7_readNode : Jm := (yX7_readNode, cX7_readNode, 1, (some FieldType.int), [])
abbrev jX7_sizePart : Jm := (yX7_sizePart, cX7_sizePart, 1, none, [])
abbrev jX7_edgePart : Jm := (yX7_edgePart, cX7_edgePart, 4, none, [])
abbrev jX7_rowPart : Jm := (yX7_rowPart, cX7_rowPart, 7, none, [])
abbrev jX7_filled : Jm := (yX7_filled, cX7_filled, 5, (some FieldType.long), [])
abbrev jX7_kindHere : Jm := (yX7_kindHere, cX7_kindHere, 1, (some FieldType.int), [])
abbrev jX7_fillPart : Jm := (yX7_fillPart, cX7_fillPart, 5, none, [])
abbrev jX7_keepPart : Jm := (yX7_keepPart, cX7_keepPart, 2, none, [])
abbrev jX7_statement : Jm := (yX7_statement, cX7_statement, 1, none, [])
abbrev jX7_isMore : Jm := (yX7_isMore, cX7_isMore, 1, (some FieldType.boolean), [])
abbrev jX7_load : Jm := (yX7_load, cX7_load, 2, (some FieldType.int), [])
abbrev jX7_loadError : Jm := (yX7_loadError, cX7_loadError, 1, (some FieldType.int), [])
abbrev jX7_loadStatement : Jm := (yX7_loadStatement, cX7_loadStatement, 1, (some FieldType.int), [])
abbrev jX7_keptMany : Jm := (yX7_keptMany, cX7_keptMany, 3, (some FieldType.int), [])
abbrev jX7_count : Jm := (yX7_count, cX7_count, 2, (some FieldType.int), [])
abbrev jX7_areIn : Jm := (yX7_areIn, cX7_areIn, 3, (some FieldType.boolean), [])
abbrev jX7_bit : Jm := (yX7_bit, cX7_bit, 4, (some FieldType.int), [])
abbrev jX7_row : Jm := (yX7_row, cX7_row, 3, (some FieldType.long), [])
abbrev jX7_rank : Jm := (yX7_rank, cX7_rank, 4, (some FieldType.int), [])
abbrev jX7_select : Jm := (yX7_select, cX7_select, 6, (some FieldType.int), [])
abbrev jX7_onesOf : Jm := (yX7_onesOf, cX7_onesOf, 4, (some FieldType.int), [])
abbrev jX7_ones : Jm := (yX7_ones, cX7_ones, 2, (some FieldType.int), [])
abbrev jX7_columnOnes : Jm := (yX7_columnOnes, cX7_columnOnes, 5, (some FieldType.int), [])
abbrev jX7_firstAs : Jm := (yX7_firstAs, cX7_firstAs, 4, (some FieldType.int), [])
abbrev jX7_sameAs : Jm := (yX7_sameAs, cX7_sameAs, 3, (some FieldType.int), [])
abbrev jX7_find : Jm := (yX7_find, cX7_find, 5, (some FieldType.int), [])
abbrev jX7_classesAhead : Jm := (yX7_classesAhead, cX7_classesAhead, 5, (some FieldType.int), [])
abbrev jX7_classes : Jm := (yX7_classes, cX7_classes, 2, (some FieldType.int), [])
abbrev jX7_classOf : Jm := (yX7_classOf, cX7_classOf, 3, (some FieldType.int), [])
abbrev jX7_nearest : Jm := (yX7_nearest, cX7_nearest, 7, (some FieldType.int), [])
abbrev jX7_density : Jm := (yX7_density, cX7_density, 2, (some FieldType.double), [])
abbrev jX7_isSymmetric : Jm := (yX7_isSymmetric, cX7_isSymmetric, 4, (some FieldType.boolean), [])
abbrev jX7_takes : Jm := (yX7_takes, cX7_takes, 4, none, [])
abbrev jX7_closes : Jm := (yX7_closes, cX7_closes, 4, none, [])
abbrev jX7_closure : Jm := (yX7_closure, cX7_closure, 2, none, [])
abbrev jX7_sumOf : Jm := (yX7_sumOf, cX7_sumOf, 4, (some FieldType.int), [])
abbrev jX7_reaches : Jm := (yX7_reaches, cX7_reaches, 4, (some FieldType.int), [])
abbrev jX7_reached : Jm := (yX7_reached, cX7_reached, 3, (some FieldType.int), [])
abbrev jX7_pairsOf : Jm := (yX7_pairsOf, cX7_pairsOf, 2, (some FieldType.int), [])
abbrev jX7_pairs : Jm := (yX7_pairs, cX7_pairs, 2, (some FieldType.int), [])
abbrev jX7_meanReach : Jm := (yX7_meanReach, cX7_meanReach, 2, (some FieldType.float), [])
abbrev jX7_componentOf : Jm := (yX7_componentOf, cX7_componentOf, 3, (some FieldType.int), [])
abbrev jX7_component : Jm := (yX7_component, cX7_component, 3, (some FieldType.int), [])
abbrev jX7_components : Jm := (yX7_components, cX7_components, 4, (some FieldType.int), [])
abbrev jX7_measures : Jm := (yX7_measures, cX7_measures, 6, none, [])
abbrev jX7_distance : Jm := (yX7_distance, cX7_distance, 4, (some FieldType.int), [])
abbrev jX7_stepAt : Jm := (yX7_stepAt, cX7_stepAt, 8, (some FieldType.int), [])
abbrev jX7_aroundOf : Jm := (yX7_aroundOf, cX7_aroundOf, 5, (some FieldType.int), [])
abbrev jX7_around : Jm := (yX7_around, cX7_around, 3, (some FieldType.int), [])
abbrev jX7_girth : Jm := (yX7_girth, cX7_girth, 5, (some FieldType.int), [])
abbrev jX7_free : Jm := (yX7_free, cX7_free, 7, (some FieldType.int), [])
abbrev jX7_order : Jm := (yX7_order, cX7_order, 7, (some FieldType.int), [])
abbrev jX7_pairsTurned : Jm := (yX7_pairsTurned, cX7_pairsTurned, 4, (some FieldType.int), [])
abbrev jX7_gained : Jm := (yX7_gained, cX7_gained, 4, (some FieldType.int), [])
abbrev jX7_lost : Jm := (yX7_lost, cX7_lost, 4, (some FieldType.int), [])
abbrev jX7_mostTurned : Jm := (yX7_mostTurned, cX7_mostTurned, 8, (some FieldType.int), [])
abbrev jX7_bestEdge : Jm := (yX7_bestEdge, cX7_bestEdge, 2, (some FieldType.int), [])
abbrev jX7_weakest : Jm := (yX7_weakest, cX7_weakest, 2, (some FieldType.int), [])
abbrev jX7_triangles : Jm := (yX7_triangles, cX7_triangles, 6, (some FieldType.int), [])
abbrev jX7_changes : Jm := (yX7_changes, cX7_changes, 7, none, [])
abbrev jX7_reduces : Jm := (yX7_reduces, cX7_reduces, 5, none, [])
abbrev jX7_fieldRank : Jm := (yX7_fieldRank, cX7_fieldRank, 2, (some FieldType.int), [])
abbrev jX7_solved : Jm := (yX7_solved, cX7_solved, 7, (some FieldType.long), [])
abbrev jX7_solve : Jm := (yX7_solve, cX7_solve, 4, (some FieldType.long), [])
abbrev jX7_freedom : Jm := (yX7_freedom, cX7_freedom, 4, (some FieldType.int), [])
abbrev jX7_pivot : Jm := (yX7_pivot, cX7_pivot, 3, (some FieldType.int), [])
abbrev jX7_keeps : Jm := (yX7_keeps, cX7_keeps, 2, none, [])
abbrev jX7_undo : Jm := (yX7_undo, cX7_undo, 1, (some FieldType.int), [])
abbrev jX7_looks : Jm := (yX7_looks, cX7_looks, 3, none, [])
abbrev jX7_madeAnew : Jm := (yX7_madeAnew, cX7_madeAnew, 2, none, [])
abbrev jX7_put : Jm := (yX7_put, cX7_put, 8, (some FieldType.int), [])
abbrev jX7_setRow : Jm := (yX7_setRow, cX7_setRow, 6, (some FieldType.int), [])
abbrev jX7_lays : Jm := (yX7_lays, cX7_lays, 4, (some FieldType.int), [])
abbrev jX7_copy : Jm := (yX7_copy, cX7_copy, 3, (some FieldType.int), [])
abbrev jX7_transpose : Jm := (yX7_transpose, cX7_transpose, 5, (some FieldType.int), [])
abbrev jX7_combined : Jm := (yX7_combined, cX7_combined, 5, (some FieldType.long), [])
abbrev jX7_combine : Jm := (yX7_combine, cX7_combine, 6, (some FieldType.int), [])
abbrev jX7_counts : Jm := (yX7_counts, cX7_counts, 8, none, [])
abbrev jX7_multiplies : Jm := (yX7_multiplies, cX7_multiplies, 9, none, [])
abbrev jX7_product : Jm := (yX7_product, cX7_product, 5, (some FieldType.int), [])
abbrev jX7_moves : Jm := (yX7_moves, cX7_moves, 4, none, [])
abbrev jX7_power : Jm := (yX7_power, cX7_power, 6, (some FieldType.int), [])
abbrev jX7_invert : Jm := (yX7_invert, cX7_invert, 4, (some FieldType.int), [])
abbrev jX7_close : Jm := (yX7_close, cX7_close, 3, (some FieldType.int), [])
abbrev jX7_isSame : Jm := (yX7_isSame, cX7_isSame, 4, (some FieldType.boolean), [])
abbrev jX7_reduce : Jm := (yX7_reduce, cX7_reduce, 6, (some FieldType.int), [])
abbrev jX7_exchanged : Jm := (yX7_exchanged, cX7_exchanged, 5, (some FieldType.long), [])
abbrev jX7_exchange : Jm := (yX7_exchange, cX7_exchange, 7, (some FieldType.int), [])
abbrev jX7_keep : Jm := (yX7_keep, cX7_keep, 3, (some FieldType.int), [])
abbrev jX7_setBlock : Jm := (yX7_setBlock, cX7_setBlock, 3, (some FieldType.int), [])
abbrev jX7_kept : Jm := (yX7_kept, cX7_kept, 3, (some FieldType.int), [])
abbrev jX7_work : Jm := (yX7_work, cX7_work, 2, (some FieldType.int), [])
abbrev jX7_writeRow : Jm := (yX7_writeRow, cX7_writeRow, 4, (some FieldType.int), [])
abbrev jX7_outputByte : Jm := (yX7_outputByte, cX7_outputByte, 2, (some FieldType.int), [])
abbrev jX7_saveSnapshot : Jm := (yX7_saveSnapshot, cX7_saveSnapshot, 2, (some FieldType.int), [])
abbrev jX7_restoreSnapshot : Jm := (yX7_restoreSnapshot, cX7_restoreSnapshot, 2, (some FieldType.int), [])
abbrev jJ6_bitCount_0f7a4 : Jm := (yJ6_bitCount_0f7a4, cJ6_bitCount_0f7a4, 1, (some FieldType.int), [])
abbrev jJ9_abs_0f7a4 : Jm := (yJ9_abs_0f7a4, cJ9_abs_0f7a4, 1, (some FieldType.int), [])
abbrev jJ9_max_7cf53 : Jm := (yJ9_max_7cf53, cJ9_max_7cf53, 2, (some FieldType.int), [])
abbrev jJ9_min_7cf53 : Jm := (yJ9_min_7cf53, cJ9_min_7cf53, 2, (some FieldType.int), [])
abbrev jJ0_length_8abf5 : Jm := (yJ0_length_8abf5, cJ0_length_8abf5, 1, (some FieldType.int), [])
abbrev jJ0_charAt_5068e : Jm := (yJ0_charAt_5068e, cJ0_charAt_5068e, 2, (some FieldType.char), [])
abbrev jJ0_coder_7d493 : Jm := (yJ0_coder_7d493, cJ0_coder_7d493, 1, (some FieldType.byte), [])
abbrev jJ0_isLatin1_aae02 : Jm := (yJ0_isLatin1_aae02, cJ0_isLatin1_aae02, 1, (some FieldType.boolean), [])
abbrev jJ0_checkIndex_df160 : Jm := (yJ0_checkIndex_df160, cJ0_checkIndex_df160, 2, none, [])
abbrev jJ1_charAt_3b067 : Jm := (yJ1_charAt_3b067, cJ1_charAt_3b067, 2, (some FieldType.char), [])
abbrev jJ2_getChar_3b067 : Jm := (yJ2_getChar_3b067, cJ2_getChar_3b067, 2, (some FieldType.char), [])
abbrev jJ2_length_9d52b : Jm := (yJ2_length_9d52b, cJ2_length_9d52b, 1, (some FieldType.int), [])
abbrev jJ2_charAt_3b067 : Jm := (yJ2_charAt_3b067, cJ2_charAt_3b067, 2, (some FieldType.char), [])
abbrev jJ2_checkIndex_2214a : Jm := (yJ2_checkIndex_2214a, cJ2_checkIndex_2214a, 2, none, [])
abbrev jJ3_checkIndex_8e157 : Jm := (yJ3_checkIndex_8e157, cJ3_checkIndex_8e157, 3, (some FieldType.int), [])
theorem ws_list {ws : List Cond} (ps : List Nat) (hp : ws = ps.filterMap (fun i => lw_tbl[i]?)) (h : ws.all goodWord = true) : ∀ w ∈ ws, w ∈ WS := fun w hw => List.mem_filter.mpr ⟨(goodIn_r ws ps hp h w hw).1, List.all_eq_true.mp h w hw⟩
theorem ws_c0 {w : Cond} (i : Nat) (h : (k2_sels lw_privs)[i]? = some w) (g : goodWord w = true) : w ∈ WS := List.mem_filter.mpr ⟨List.mem_append_left _ (List.mem_of_getElem? h), g⟩
theorem ws_c1 {w : Cond} (i : Nat) (h : tables_1_1[i]? = some w) (g : goodWord w = true) : w ∈ WS := List.mem_filter.mpr ⟨List.mem_append_right _ (List.mem_append_left _ (List.mem_of_getElem? h)), g⟩
theorem ws_c2 {w : Cond} (i : Nat) (h : tables_1_2[i]? = some w) (g : goodWord w = true) : w ∈ WS := List.mem_filter.mpr ⟨List.mem_append_right _ (List.mem_append_right _ (List.mem_append_left _ (List.mem_of_getElem? h))), g⟩
theorem ws_c3 {w : Cond} (i : Nat) (h : tables_1_3[i]? = some w) (g : goodWord w = true) : w ∈ WS := List.mem_filter.mpr ⟨List.mem_append_right _ (List.mem_append_right _ (List.mem_append_right _ (List.mem_append_left _ (List.mem_of_getElem? h)))), g⟩
theorem ws_c4 {w : Cond} (i : Nat) (h : tables_1_4[i]? = some w) (g : goodWord w = true) : w ∈ WS := List.mem_filter.mpr ⟨List.mem_append_right _ (List.mem_append_right _ (List.mem_append_right _ (List.mem_append_right _ (List.mem_append_left _ (List.mem_of_getElem? h))))), g⟩
theorem ws_c5 {w : Cond} (i : Nat) (h : tables_1_5[i]? = some w) (g : goodWord w = true) : w ∈ WS := List.mem_filter.mpr ⟨List.mem_append_right _ (List.mem_append_right _ (List.mem_append_right _ (List.mem_append_right _ (List.mem_append_right _ (List.mem_append_left _ (List.mem_of_getElem? h)))))), g⟩
theorem ws_c6 {w : Cond} (i : Nat) (h : tables_1_6[i]? = some w) (g : goodWord w = true) : w ∈ WS := List.mem_filter.mpr ⟨List.mem_append_right _ (List.mem_append_right _ (List.mem_append_right _ (List.mem_append_right _ (List.mem_append_right _ (List.mem_append_right _ (List.mem_append_left _ (List.mem_of_getElem? h))))))), g⟩
theorem ws_c7 {w : Cond} (i : Nat) (h : tables_1_7[i]? = some w) (g : goodWord w = true) : w ∈ WS := List.mem_filter.mpr ⟨List.mem_append_right _ (List.mem_append_right _ (List.mem_append_right _ (List.mem_append_right _ (List.mem_append_right _ (List.mem_append_right _ (List.mem_append_right _ (List.mem_append_left _ (List.mem_of_getElem? h)))))))), g⟩
theorem ws_c8 {w : Cond} (i : Nat) (h : tables_1_8[i]? = some w) (g : goodWord w = true) : w ∈ WS := List.mem_filter.mpr ⟨List.mem_append_right _ (List.mem_append_right _ (List.mem_append_right _ (List.mem_append_right _ (List.mem_append_right _ (List.mem_append_right _ (List.mem_append_right _ (List.mem_append_right _ (List.mem_of_getElem? h)))))))), g⟩
theorem cwd_nil {J : Jm} (h : J.2.2.2.2 = []) : cwd J = .code J.1 J.2.1 J.2.2.1 J.2.2.2.1 := if_pos h
theorem cwd_hh {J : Jm} (h : J.2.2.2.2 ≠ []) : cwd J = .codeWith J.1 J.2.1 J.2.2.1 J.2.2.2.1 J.2.2.2.2 := if_neg h
set_option maxRecDepth 20000 in
theorem inW0 : ∀ w ∈ u_ws RX0 TX0 2, w ∈ WS := ws_list [229, 231] (by decide +kernel) (by decide +kernel)
set_option maxRecDepth 20000 in
theorem inW1 : ∀ w ∈ u_ws RX1 TX1 4, w ∈ WS := ws_list [280, 282, 284, 286] (by decide +kernel) (by decide +kernel)
set_option maxRecDepth 20000 in
theorem inW2 : ∀ w ∈ u_ws RX2 TX2 5, w ∈ WS := ws_list [180, 182, 184, 186, 188] (by decide +kernel) (by decide +kernel)
set_option maxRecDepth 20000 in
theorem inW3 : ∀ w ∈ u_ws RX3 TX3 8, w ∈ WS := ws_list [251, 253, 255, 257, 259, 261, 263, 265] (by decide +kernel) (by decide +kernel)
set_option maxRecDepth 20000 in
theorem inW4 : ∀ w ∈ u_ws RX4 TX4 7, w ∈ WS := ws_list [139, 141, 143, 145, 147, 149, 151] (by decide +kernel) (by decide +kernel)
set_option maxRecDepth 20000 in
theorem inW5 : ∀ w ∈ u_ws RX5 TX5 5, w ∈ WS := ws_list [206, 208, 210, 212, 214] (by decide +kernel) (by decide +kernel)
set_option maxRecDepth 20000 in
theorem inW6 : ∀ w ∈ u_ws RX6 TX6 15, w ∈ WS := ws_list [304, 306, 308, 310, 312, 314, 316, 318, 320, 322, 324, 326, 328, 330, 332] (by decide +kernel) (by decide +kernel)
set_option maxRecDepth 20000 in
theorem inW7 : ∀ w ∈ u_ws RX7 TX7 25, w ∈ WS := ws_list [1241, 1243, 1245, 1247, 1249, 1251, 1253, 1255, 1257, 1259, 1261, 1263, 1265, 1267, 1269, 1271, 1273, 1275, 1277, 1279, 1281, 1283, 1285, 1287, 1289] (by decide +kernel) (by decide +kernel)
theorem wd_94 : (Jvm.Cond.initialized "BitDeskLaw") ∈ WS := ws_c1 0 rfl rfl
theorem wd_95 : (Jvm.Cond.initialized "BitDesk") ∈ WS := ws_c1 1 rfl rfl
theorem wd_96 : (Jvm.Cond.initialized "BitDesk$Reader") ∈ WS := ws_c1 2 rfl rfl
theorem wd_97 : (Jvm.Cond.initialized "BitDesk$State") ∈ WS := ws_c1 3 rfl rfl
theorem wd_98 : (Jvm.Cond.initialized "BitDesk$Matrix") ∈ WS := ws_c1 4 rfl rfl
theorem wd_99 : (Jvm.Cond.initialized "BitDesk$Closure") ∈ WS := ws_c1 5 rfl rfl
theorem wd_100 : (Jvm.Cond.initialized "BitDesk$Multiplier") ∈ WS := ws_c1 6 rfl rfl
theorem wd_101 : (Jvm.Cond.initialized "BitDesk$Elimination") ∈ WS := ws_c1 7 rfl rfl
theorem wd_102 : (Jvm.Cond.initialized "BitDeskModel") ∈ WS := ws_c1 8 rfl rfl
theorem wd_103 : (Jvm.Cond.initialized "java/lang/String") ∈ WS := ws_c1 9 rfl rfl
theorem wd_104 : (Jvm.Cond.initialized "java/lang/StringLatin1") ∈ WS := ws_c1 10 rfl rfl
theorem wd_105 : (Jvm.Cond.initialized "jdk/internal/util/Preconditions") ∈ WS := ws_c1 11 rfl rfl
theorem wd_106 : (Jvm.Cond.initialized "java/lang/StringUTF16") ∈ WS := ws_c1 12 rfl rfl
theorem wd_107 : (Jvm.Cond.initialized "java/lang/Math") ∈ WS := ws_c1 13 rfl rfl
theorem wd_108 : (Jvm.Cond.initialized "java/lang/System") ∈ WS := ws_c1 14 rfl rfl
theorem wd_109 : (Jvm.Cond.initialized "java/lang/Throwable") ∈ WS := ws_c1 15 rfl rfl
theorem wd_110 : (Jvm.Cond.initialized "java/lang/Exception") ∈ WS := ws_c1 16 rfl rfl
theorem wd_111 : (Jvm.Cond.initialized "java/lang/RuntimeException") ∈ WS := ws_c1 17 rfl rfl
theorem wd_112 : (Jvm.Cond.initialized "java/lang/IllegalArgumentException") ∈ WS := ws_c1 18 rfl rfl
theorem wd_113 : (Jvm.Cond.initialized "java/lang/IndexOutOfBoundsException") ∈ WS := ws_c1 19 rfl rfl
theorem wd_114 : (Jvm.Cond.initialized "java/lang/Integer") ∈ WS := ws_c1 20 rfl rfl
theorem wd_154 : (Jvm.Cond.arrayClass Jvm.ClassFile.FieldType.int) ∈ WS := ws_c1 60 rfl rfl
theorem wd_234 : (Jvm.Cond.arrayClass Jvm.ClassFile.FieldType.boolean) ∈ WS := ws_c1 140 rfl rfl
theorem wd_515 : (Jvm.Cond.arrayClass Jvm.ClassFile.FieldType.byte) ∈ WS := ws_c2 181 rfl rfl
theorem wd_1292 : (Jvm.Cond.arrayClass Jvm.ClassFile.FieldType.long) ∈ WS := ws_c5 238 rfl rfl
theorem wd_1784 : (Jvm.Cond.arrayClass Jvm.ClassFile.FieldType.double) ∈ WS := ws_c8 10 rfl rfl
theorem wn_f0 : (Jvm.Cond.fieldLinkNest "BitDesk" (92 : Nat) "BitDesk$Reader" "statement" "I" "BitDesk") ∈ NWL := List.mem_append_left _ (List.mem_of_getElem? (i := 0) rfl)
theorem wn_f1 : (Jvm.Cond.fieldLinkNest "BitDesk" (76 : Nat) "BitDesk$Reader" "error" "I" "BitDesk") ∈ NWL := List.mem_append_left _ (List.mem_of_getElem? (i := 1) rfl)
theorem wn_f2 : (Jvm.Cond.fieldLinkNest "BitDesk" (80 : Nat) "BitDesk$Reader" "errorPosition" "I" "BitDesk") ∈ NWL := List.mem_append_left _ (List.mem_of_getElem? (i := 2) rfl)
theorem wn_f3 : (Jvm.Cond.fieldLinkNest "BitDesk$Reader" (108 : Nat) "BitDesk$Matrix" "rows" "[I" "BitDesk") ∈ NWL := List.mem_append_left _ (List.mem_of_getElem? (i := 3) rfl)
theorem wn_f4 : (Jvm.Cond.fieldLinkNest "BitDesk" (229 : Nat) "BitDesk$Matrix" "rows" "[I" "BitDesk") ∈ NWL := List.mem_append_left _ (List.mem_of_getElem? (i := 4) rfl)
theorem wn_f5 : (Jvm.Cond.fieldLinkNest "BitDesk$Reader" (115 : Nat) "BitDesk$Matrix" "isKept" "Z" "BitDesk") ∈ NWL := List.mem_append_left _ (List.mem_of_getElem? (i := 5) rfl)
theorem wn_f6 : (Jvm.Cond.fieldLinkNest "BitDesk" (288 : Nat) "BitDesk$Matrix" "isKept" "Z" "BitDesk") ∈ NWL := List.mem_append_left _ (List.mem_of_getElem? (i := 6) rfl)
theorem wn_f7 : (Jvm.Cond.fieldLinkNest "BitDesk" (295 : Nat) "BitDesk$Matrix" "lookedLately" "I" "BitDesk") ∈ NWL := List.mem_append_left _ (List.mem_of_getElem? (i := 7) rfl)
theorem wn_f8 : (Jvm.Cond.fieldLinkNest "BitDesk" (298 : Nat) "BitDesk$Matrix" "lookedInAll" "I" "BitDesk") ∈ NWL := List.mem_append_left _ (List.mem_of_getElem? (i := 8) rfl)
theorem wn_f9 : (Jvm.Cond.fieldLinkNest "BitDesk" (301 : Nat) "BitDesk$Matrix" "timesMadeAnew" "I" "BitDesk") ∈ NWL := List.mem_append_left _ (List.mem_of_getElem? (i := 9) rfl)
theorem wn_f10 : (Jvm.Cond.fieldLinkNest "BitDesk$Reader" (47 : Nat) "BitDesk$State" "slots" "[LBitDesk$Matrix;" "BitDesk") ∈ NWL := List.mem_append_left _ (List.mem_of_getElem? (i := 10) rfl)
theorem wn_f11 : (Jvm.Cond.fieldLinkNest "BitDesk" (225 : Nat) "BitDesk$State" "slots" "[LBitDesk$Matrix;" "BitDesk") ∈ NWL := List.mem_append_left _ (List.mem_of_getElem? (i := 11) rfl)
theorem wn_f12 : (Jvm.Cond.fieldLinkNest "BitDesk$Multiplier" (21 : Nat) "BitDesk$State" "size" "I" "BitDesk") ∈ NWL := List.mem_append_left _ (List.mem_of_getElem? (i := 12) rfl)
theorem wn_f13 : (Jvm.Cond.fieldLinkNest "BitDesk" (89 : Nat) "BitDesk$State" "size" "I" "BitDesk") ∈ NWL := List.mem_append_left _ (List.mem_of_getElem? (i := 13) rfl)
theorem wn_f14 : (Jvm.Cond.fieldLinkNest "BitDesk$Reader" (53 : Nat) "BitDesk$State" "size" "I" "BitDesk") ∈ NWL := List.mem_append_left _ (List.mem_of_getElem? (i := 14) rfl)
theorem wn_f15 : (Jvm.Cond.fieldLinkNest "BitDesk$Multiplier" (28 : Nat) "BitDesk$State" "block" "I" "BitDesk") ∈ NWL := List.mem_append_left _ (List.mem_of_getElem? (i := 15) rfl)
theorem wn_f16 : (Jvm.Cond.fieldLinkNest "BitDesk$Reader" (106 : Nat) "BitDesk$State" "block" "I" "BitDesk") ∈ NWL := List.mem_append_left _ (List.mem_of_getElem? (i := 16) rfl)
theorem wn_f17 : (Jvm.Cond.fieldLinkNest "BitDesk" (99 : Nat) "BitDesk$State" "block" "I" "BitDesk") ∈ NWL := List.mem_append_left _ (List.mem_of_getElem? (i := 17) rfl)
theorem wn_f18 : (Jvm.Cond.fieldLinkNest "BitDesk" (304 : Nat) "BitDesk$State" "entriesMade" "I" "BitDesk") ∈ NWL := List.mem_append_left _ (List.mem_of_getElem? (i := 18) rfl)
theorem wn_f19 : (Jvm.Cond.fieldLinkNest "BitDesk" (307 : Nat) "BitDesk$State" "entriesTaken" "I" "BitDesk") ∈ NWL := List.mem_append_left _ (List.mem_of_getElem? (i := 19) rfl)
theorem wn_f20 : (Jvm.Cond.fieldLinkNest "BitDesk" (166 : Nat) "BitDesk$Closure" "reach" "[I" "BitDesk") ∈ NWL := List.mem_append_left _ (List.mem_of_getElem? (i := 20) rfl)
theorem wn_f21 : (Jvm.Cond.fieldLinkNest "BitDesk" (341 : Nat) "BitDesk$Closure" "isCurrent" "Z" "BitDesk") ∈ NWL := List.mem_append_left _ (List.mem_of_getElem? (i := 21) rfl)
theorem wn_f22 : (Jvm.Cond.fieldLinkNest "BitDesk" (347 : Nat) "BitDesk$Multiplier" "entriesMade" "I" "BitDesk") ∈ NWL := List.mem_append_left _ (List.mem_of_getElem? (i := 22) rfl)
theorem wn_f23 : (Jvm.Cond.fieldLinkNest "BitDesk" (348 : Nat) "BitDesk$Multiplier" "entriesTaken" "I" "BitDesk") ∈ NWL := List.mem_append_left _ (List.mem_of_getElem? (i := 23) rfl)
theorem wn_f24 : (Jvm.Cond.fieldLinkNest "BitDesk" (273 : Nat) "BitDesk$Elimination" "right" "[I" "BitDesk") ∈ NWL := List.mem_append_left _ (List.mem_of_getElem? (i := 24) rfl)
theorem wn_f25 : (Jvm.Cond.fieldLinkNest "BitDesk" (207 : Nat) "BitDesk$Elimination" "pivotCount" "I" "BitDesk") ∈ NWL := List.mem_append_left _ (List.mem_of_getElem? (i := 25) rfl)
theorem wn_m0 : (Jvm.Cond.methodLinkNest "BitDesk$Reader" (126 : Nat) ({ cls := "BitDesk", name := "lowest", desc := "(I)I" } : Jvm.MethodName) "BitDesk") ∈ NWL := List.mem_append_right _ (List.mem_of_getElem? (i := 0) rfl)
theorem wn_m1 : (Jvm.Cond.methodLinkNest "BitDesk$Closure" (21 : Nat) ({ cls := "BitDesk", name := "hasOne", desc := "(II)Z" } : Jvm.MethodName) "BitDesk") ∈ NWL := List.mem_append_right _ (List.mem_of_getElem? (i := 1) rfl)
theorem wn_m2 : (Jvm.Cond.methodLinkNest "BitDesk$Closure" (29 : Nat) ({ cls := "BitDesk", name := "columnOf", desc := "([III)I" } : Jvm.MethodName) "BitDesk") ∈ NWL := List.mem_append_right _ (List.mem_of_getElem? (i := 2) rfl)
theorem wn_m3 : (Jvm.Cond.methodLinkNest "BitDesk$Closure" (33 : Nat) ({ cls := "BitDesk", name := "lowestOne", desc := "(I)I" } : Jvm.MethodName) "BitDesk") ∈ NWL := List.mem_append_right _ (List.mem_of_getElem? (i := 3) rfl)
theorem wn_m4 : (Jvm.Cond.methodLinkNest "BitDesk$Closure" (46 : Nat) ({ cls := "BitDesk", name := "reachedFrom", desc := "([III)I" } : Jvm.MethodName) "BitDesk") ∈ NWL := List.mem_append_right _ (List.mem_of_getElem? (i := 4) rfl)
theorem wn_m5 : (Jvm.Cond.methodLinkNest "BitDesk$Elimination" (47 : Nat) ({ cls := "BitDesk", name := "hasOne", desc := "(II)Z" } : Jvm.MethodName) "BitDesk") ∈ NWL := List.mem_append_right _ (List.mem_of_getElem? (i := 5) rfl)
theorem wn_m6 : (Jvm.Cond.methodLinkNest "BitDesk$Multiplier" (67 : Nat) ({ cls := "BitDesk", name := "lowest", desc := "(I)I" } : Jvm.MethodName) "BitDesk") ∈ NWL := List.mem_append_right _ (List.mem_of_getElem? (i := 6) rfl)
theorem wn_m7 : (Jvm.Cond.methodLinkNest "BitDesk$Multiplier" (60 : Nat) ({ cls := "BitDesk", name := "hasOne", desc := "(II)Z" } : Jvm.MethodName) "BitDesk") ∈ NWL := List.mem_append_right _ (List.mem_of_getElem? (i := 7) rfl)
theorem wd_224 : (Jvm.Cond.methodLink "BitDesk$Closure" (3 : Nat) ({ cls := "java/lang/Object", name := "<init>", desc := "()V" } : Jvm.MethodName)) ∈ WS := ws_c1 130 rfl rfl
theorem wd_121 : (Jvm.Cond.instanceMethod ({ cls := "java/lang/Object", name := "<init>", desc := "()V" } : Jvm.MethodName)) ∈ WS := ws_c1 27 rfl rfl
theorem wd_122 : (Jvm.Cond.code ({ cls := "java/lang/Object", name := "<init>", desc := "()V" } : Jvm.MethodName) object_method_1_code (1 : Nat) (Option.none : Option Jvm.ClassFile.FieldType)) ∈ WS := ws_c1 28 rfl rfl
theorem wd_225 : (Jvm.Cond.fieldLink "BitDesk$Closure" (9 : Nat) "BitDesk$Closure" "reach" "[I") ∈ WS := ws_c1 131 rfl rfl
theorem fp_X0_9 : FP RX0 9 0 0 (.array .int) true := ⟨RX0, TX0, 2, tyX0, rfl, by decide, rfl, rfl, (Or.inl wd_225), inW0, tyX0_ok, nmX0, rfl, tyX0_ok 0 (by decide), rfl⟩
theorem fk_X0_9 : FK RX0 9 0 0 (.array .int) := ⟨RX0, TX0, 2, rfl, by decide, rfl, rfl, (Or.inl wd_225), inW0⟩
theorem wd_790 : (Jvm.Cond.methodLink "BitDesk$Closure" (15 : Nat) ({ cls := "java/lang/System", name := "arraycopy", desc := "(Ljava/lang/Object;ILjava/lang/Object;II)V" } : Jvm.MethodName)) ∈ WS := ws_c3 216 rfl rfl
theorem wd_510 : (Jvm.Cond.native ({ cls := "java/lang/System", name := "arraycopy", desc := "(Ljava/lang/Object;ILjava/lang/Object;II)V" } : Jvm.MethodName)) ∈ WS := ws_c2 176 rfl rfl
theorem wd_509 : (Jvm.Cond.static ({ cls := "java/lang/System", name := "arraycopy", desc := "(Ljava/lang/Object;ILjava/lang/Object;II)V" } : Jvm.MethodName)) ∈ WS := ws_c2 175 rfl rfl
theorem wd_661 : (Jvm.Cond.code ({ cls := "BitDesk", name := "hasOne", desc := "(II)Z" } : Jvm.MethodName) prog_1_method_85_code (2 : Nat) (Option.some Jvm.ClassFile.FieldType.boolean)) ∈ WS := ws_c3 87 rfl rfl
theorem wd_660 : (Jvm.Cond.static ({ cls := "BitDesk", name := "hasOne", desc := "(II)Z" } : Jvm.MethodName)) ∈ WS := ws_c3 86 rfl rfl
theorem lk_X0_21 : LkSN RX0 21 jX6_hasOne 2 := ⟨⟨⟨_, wn_m1⟩, ⟨rfl, (by rw [cwd_nil rfl]; exact wd_661)⟩, wd_95, ⟨by decide +kernel, by decide +kernel⟩, by decide +kernel⟩, wd_660⟩
theorem wd_227 : (Jvm.Cond.fieldLink "BitDesk$Closure" (25 : Nat) "BitDesk$Closure" "isCurrent" "Z") ∈ WS := ws_c1 133 rfl rfl
theorem fp_X0_25 : FP RX0 25 0 1 (.boolean) false := ⟨RX0, TX0, 2, tyX0, rfl, by decide, rfl, rfl, (Or.inl wd_227), inW0, tyX0_ok, nmX0, rfl, tyX0_ok 1 (by decide), rfl⟩
theorem wd_716 : (Jvm.Cond.code ({ cls := "BitDesk", name := "columnOf", desc := "([III)I" } : Jvm.MethodName) prog_1_method_90_code (5 : Nat) (Option.some Jvm.ClassFile.FieldType.int)) ∈ WS := ws_c3 142 rfl rfl
theorem wd_715 : (Jvm.Cond.static ({ cls := "BitDesk", name := "columnOf", desc := "([III)I" } : Jvm.MethodName)) ∈ WS := ws_c3 141 rfl rfl
theorem lk_X0_29 : LkSN RX0 29 jX6_columnOf 3 := ⟨⟨⟨_, wn_m2⟩, ⟨rfl, (by rw [cwd_nil rfl]; exact wd_716)⟩, wd_95, ⟨by decide +kernel, by decide +kernel⟩, by decide +kernel⟩, wd_715⟩
theorem wd_828 : (Jvm.Cond.code ({ cls := "BitDesk", name := "lowestOne", desc := "(I)I" } : Jvm.MethodName) prog_1_method_87_code (1 : Nat) (Option.some Jvm.ClassFile.FieldType.int)) ∈ WS := ws_c4 14 rfl rfl
theorem wd_827 : (Jvm.Cond.static ({ cls := "BitDesk", name := "lowestOne", desc := "(I)I" } : Jvm.MethodName)) ∈ WS := ws_c4 13 rfl rfl
theorem lk_X0_33 : LkSN RX0 33 jX6_lowestOne 1 := ⟨⟨⟨_, wn_m3⟩, ⟨rfl, (by rw [cwd_nil rfl]; exact wd_828)⟩, wd_95, ⟨by decide +kernel, by decide +kernel⟩, by decide +kernel⟩, wd_827⟩
theorem wd_683 : (Jvm.Cond.code ({ cls := "java/lang/Integer", name := "bitCount", desc := "(I)I" } : Jvm.MethodName) prog_13_method_49_code (1 : Nat) (Option.some Jvm.ClassFile.FieldType.int)) ∈ WS := ws_c3 109 rfl rfl
theorem wd_900 : (Jvm.Cond.methodLink "BitDesk$Closure" (37 : Nat) ({ cls := "java/lang/Integer", name := "bitCount", desc := "(I)I" } : Jvm.MethodName)) ∈ WS := ws_c4 86 rfl rfl
theorem wd_682 : (Jvm.Cond.static ({ cls := "java/lang/Integer", name := "bitCount", desc := "(I)I" } : Jvm.MethodName)) ∈ WS := ws_c3 108 rfl rfl
theorem lk_X0_37 : LkS RX0 37 jJ6_bitCount_0f7a4 1 := ⟨⟨wd_900, ⟨rfl, (by rw [cwd_nil rfl]; exact wd_683)⟩, wd_114, ⟨by decide +kernel, by decide +kernel⟩, by decide +kernel⟩, wd_682⟩
theorem wd_899 : (Jvm.Cond.code ({ cls := "BitDesk$Closure", name := "gainWith", desc := "(III)I" } : Jvm.MethodName) prog_2_method_5_code (7 : Nat) (Option.some Jvm.ClassFile.FieldType.int)) ∈ WS := ws_c4 85 rfl rfl
theorem wd_1025 : (Jvm.Cond.methodLink "BitDesk$Closure" (42 : Nat) ({ cls := "BitDesk$Closure", name := "gainWith", desc := "(III)I" } : Jvm.MethodName)) ∈ WS := ws_c4 211 rfl rfl
theorem wd_897 : (Jvm.Cond.instanceMethod ({ cls := "BitDesk$Closure", name := "gainWith", desc := "(III)I" } : Jvm.MethodName)) ∈ WS := ws_c4 83 rfl rfl
theorem wd_898 : (Jvm.Cond.selects "BitDesk$Closure" ({ cls := "BitDesk$Closure", name := "gainWith", desc := "(III)I" } : Jvm.MethodName) ({ cls := "BitDesk$Closure", name := "gainWith", desc := "(III)I" } : Jvm.MethodName)) ∈ WS := ws_c4 84 rfl rfl
theorem lk_X0_42 : LkV RX0 42 jX0_gainWith 3 := ⟨⟨wd_1025, ⟨rfl, (by rw [cwd_nil rfl]; exact wd_899)⟩, wd_99, ⟨by decide +kernel, by decide +kernel⟩, by decide +kernel⟩, wd_897, wd_898⟩
theorem wd_919 : (Jvm.Cond.code ({ cls := "BitDesk", name := "reachedFrom", desc := "([III)I" } : Jvm.MethodName) prog_1_method_91_code (7 : Nat) (Option.some Jvm.ClassFile.FieldType.int)) ∈ WS := ws_c4 105 rfl rfl
theorem wd_918 : (Jvm.Cond.static ({ cls := "BitDesk", name := "reachedFrom", desc := "([III)I" } : Jvm.MethodName)) ∈ WS := ws_c4 104 rfl rfl
theorem lk_X0_46 : LkSN RX0 46 jX6_reachedFrom 3 := ⟨⟨⟨_, wn_m4⟩, ⟨rfl, (by rw [cwd_nil rfl]; exact wd_919)⟩, wd_95, ⟨by decide +kernel, by decide +kernel⟩, by decide +kernel⟩, wd_918⟩
theorem wd_895 : (Jvm.Cond.code ({ cls := "BitDesk$Closure", name := "nodesTo", desc := "(II)I" } : Jvm.MethodName) prog_2_method_3_code (3 : Nat) (Option.some Jvm.ClassFile.FieldType.int)) ∈ WS := ws_c4 81 rfl rfl
theorem wd_920 : (Jvm.Cond.methodLink "BitDesk$Closure" (49 : Nat) ({ cls := "BitDesk$Closure", name := "nodesTo", desc := "(II)I" } : Jvm.MethodName)) ∈ WS := ws_c4 106 rfl rfl
theorem wd_893 : (Jvm.Cond.instanceMethod ({ cls := "BitDesk$Closure", name := "nodesTo", desc := "(II)I" } : Jvm.MethodName)) ∈ WS := ws_c4 79 rfl rfl
theorem wd_894 : (Jvm.Cond.selects "BitDesk$Closure" ({ cls := "BitDesk$Closure", name := "nodesTo", desc := "(II)I" } : Jvm.MethodName) ({ cls := "BitDesk$Closure", name := "nodesTo", desc := "(II)I" } : Jvm.MethodName)) ∈ WS := ws_c4 80 rfl rfl
theorem lk_X0_49 : LkV RX0 49 jX0_nodesTo 2 := ⟨⟨wd_920, ⟨rfl, (by rw [cwd_nil rfl]; exact wd_895)⟩, wd_99, ⟨by decide +kernel, by decide +kernel⟩, by decide +kernel⟩, wd_893, wd_894⟩
theorem wd_273 : (Jvm.Cond.methodLink "BitDesk$Elimination" (3 : Nat) ({ cls := "java/lang/Object", name := "<init>", desc := "()V" } : Jvm.MethodName)) ∈ WS := ws_c1 179 rfl rfl
theorem wd_274 : (Jvm.Cond.fieldLink "BitDesk$Elimination" (9 : Nat) "BitDesk$Elimination" "left" "[I") ∈ WS := ws_c1 180 rfl rfl
theorem fp_X1_9 : FP RX1 9 1 0 (.array .int) true := ⟨RX1, TX1, 4, tyX1, rfl, by decide, rfl, rfl, (Or.inl wd_274), inW1, tyX1_ok, nmX1, rfl, tyX1_ok 0 (by decide), rfl⟩
theorem wd_275 : (Jvm.Cond.fieldLink "BitDesk$Elimination" (15 : Nat) "BitDesk$Elimination" "right" "[I") ∈ WS := ws_c1 181 rfl rfl
theorem fp_X1_15 : FP RX1 15 1 1 (.array .int) true := ⟨RX1, TX1, 4, tyX1, rfl, by decide, rfl, rfl, (Or.inl wd_275), inW1, tyX1_ok, nmX1, rfl, tyX1_ok 1 (by decide), rfl⟩
theorem wd_277 : (Jvm.Cond.fieldLink "BitDesk$Elimination" (18 : Nat) "BitDesk$Elimination" "pivots" "[I") ∈ WS := ws_c1 183 rfl rfl
theorem fp_X1_18 : FP RX1 18 1 2 (.array .int) true := ⟨RX1, TX1, 4, tyX1, rfl, by decide, rfl, rfl, (Or.inl wd_277), inW1, tyX1_ok, nmX1, rfl, tyX1_ok 2 (by decide), rfl⟩
theorem fk_X1_15 : FK RX1 15 1 1 (.array .int) := ⟨RX1, TX1, 4, rfl, by decide, rfl, rfl, (Or.inl wd_275), inW1⟩
theorem wd_959 : (Jvm.Cond.code ({ cls := "BitDesk$Elimination", name := "eliminateAll", desc := "([II)V" } : Jvm.MethodName) prog_3_method_7_code (5 : Nat) (Option.none : Option Jvm.ClassFile.FieldType)) ∈ WS := ws_c4 145 rfl rfl
theorem wd_956 : (Jvm.Cond.methodLink "BitDesk$Elimination" (21 : Nat) ({ cls := "BitDesk$Elimination", name := "eliminateAll", desc := "([II)V" } : Jvm.MethodName)) ∈ WS := ws_c4 142 rfl rfl
theorem wd_958 : (Jvm.Cond.instanceMethod ({ cls := "BitDesk$Elimination", name := "eliminateAll", desc := "([II)V" } : Jvm.MethodName)) ∈ WS := ws_c4 144 rfl rfl
theorem wd_33 : (Jvm.Cond.selects "BitDesk$Elimination" (⟨"BitDesk$Elimination", "eliminateAll", "([II)V"⟩ : Jvm.MethodName) (⟨"BitDesk$Elimination", "eliminateAll", "([II)V"⟩ : Jvm.MethodName)) ∈ WS := ws_c0 33 rfl rfl
theorem lk_X1_21 : LkV RX1 21 jX1_eliminateAll 2 := ⟨⟨wd_956, ⟨rfl, (by rw [cwd_nil rfl]; exact wd_959)⟩, wd_101, ⟨by decide +kernel, by decide +kernel⟩, by decide +kernel⟩, wd_958, wd_33⟩
theorem wd_278 : (Jvm.Cond.fieldLink "BitDesk$Elimination" (25 : Nat) "BitDesk$Elimination" "pivotCount" "I") ∈ WS := ws_c1 184 rfl rfl
theorem fk_X1_25 : FK RX1 25 1 3 (.int) := ⟨RX1, TX1, 4, rfl, by decide, rfl, rfl, (Or.inl wd_278), inW1⟩
theorem fk_X1_18 : FK RX1 18 1 2 (.array .int) := ⟨RX1, TX1, 4, rfl, by decide, rfl, rfl, (Or.inl wd_277), inW1⟩
theorem fk_X1_9 : FK RX1 9 1 0 (.array .int) := ⟨RX1, TX1, 4, rfl, by decide, rfl, rfl, (Or.inl wd_274), inW1⟩
theorem wd_960 : (Jvm.Cond.methodLink "BitDesk$Elimination" (29 : Nat) ({ cls := "java/lang/System", name := "arraycopy", desc := "(Ljava/lang/Object;ILjava/lang/Object;II)V" } : Jvm.MethodName)) ∈ WS := ws_c4 146 rfl rfl
theorem fp_X1_25 : FP RX1 25 1 3 (.int) false := ⟨RX1, TX1, 4, tyX1, rfl, by decide, rfl, rfl, (Or.inl wd_278), inW1, tyX1_ok, nmX1, rfl, tyX1_ok 3 (by decide), rfl⟩
theorem wd_964 : (Jvm.Cond.code ({ cls := "BitDesk$Elimination", name := "rowNotTaken", desc := "(II)I" } : Jvm.MethodName) prog_3_method_8_code (4 : Nat) (Option.some Jvm.ClassFile.FieldType.int)) ∈ WS := ws_c4 150 rfl rfl
theorem wd_961 : (Jvm.Cond.methodLink "BitDesk$Elimination" (35 : Nat) ({ cls := "BitDesk$Elimination", name := "rowNotTaken", desc := "(II)I" } : Jvm.MethodName)) ∈ WS := ws_c4 147 rfl rfl
theorem wd_963 : (Jvm.Cond.instanceMethod ({ cls := "BitDesk$Elimination", name := "rowNotTaken", desc := "(II)I" } : Jvm.MethodName)) ∈ WS := ws_c4 149 rfl rfl
theorem wd_34 : (Jvm.Cond.selects "BitDesk$Elimination" (⟨"BitDesk$Elimination", "rowNotTaken", "(II)I"⟩ : Jvm.MethodName) (⟨"BitDesk$Elimination", "rowNotTaken", "(II)I"⟩ : Jvm.MethodName)) ∈ WS := ws_c0 34 rfl rfl
theorem lk_X1_35 : LkV RX1 35 jX1_rowNotTaken 2 := ⟨⟨wd_961, ⟨rfl, (by rw [cwd_nil rfl]; exact wd_964)⟩, wd_101, ⟨by decide +kernel, by decide +kernel⟩, by decide +kernel⟩, wd_963, wd_34⟩
theorem wd_969 : (Jvm.Cond.code ({ cls := "BitDesk$Elimination", name := "swapRows", desc := "(II)V" } : Jvm.MethodName) prog_3_method_9_code (5 : Nat) (Option.none : Option Jvm.ClassFile.FieldType)) ∈ WS := ws_c4 155 rfl rfl
theorem wd_966 : (Jvm.Cond.methodLink "BitDesk$Elimination" (39 : Nat) ({ cls := "BitDesk$Elimination", name := "swapRows", desc := "(II)V" } : Jvm.MethodName)) ∈ WS := ws_c4 152 rfl rfl
theorem wd_968 : (Jvm.Cond.instanceMethod ({ cls := "BitDesk$Elimination", name := "swapRows", desc := "(II)V" } : Jvm.MethodName)) ∈ WS := ws_c4 154 rfl rfl
theorem wd_35 : (Jvm.Cond.selects "BitDesk$Elimination" (⟨"BitDesk$Elimination", "swapRows", "(II)V"⟩ : Jvm.MethodName) (⟨"BitDesk$Elimination", "swapRows", "(II)V"⟩ : Jvm.MethodName)) ∈ WS := ws_c0 35 rfl rfl
theorem lk_X1_39 : LkV RX1 39 jX1_swapRows 2 := ⟨⟨wd_966, ⟨rfl, (by rw [cwd_nil rfl]; exact wd_969)⟩, wd_101, ⟨by decide +kernel, by decide +kernel⟩, by decide +kernel⟩, wd_968, wd_35⟩
theorem wd_973 : (Jvm.Cond.code ({ cls := "BitDesk$Elimination", name := "clearOthers", desc := "(III)V" } : Jvm.MethodName) prog_3_method_10_code (5 : Nat) (Option.none : Option Jvm.ClassFile.FieldType)) ∈ WS := ws_c4 159 rfl rfl
theorem wd_970 : (Jvm.Cond.methodLink "BitDesk$Elimination" (43 : Nat) ({ cls := "BitDesk$Elimination", name := "clearOthers", desc := "(III)V" } : Jvm.MethodName)) ∈ WS := ws_c4 156 rfl rfl
theorem wd_972 : (Jvm.Cond.instanceMethod ({ cls := "BitDesk$Elimination", name := "clearOthers", desc := "(III)V" } : Jvm.MethodName)) ∈ WS := ws_c4 158 rfl rfl
theorem wd_36 : (Jvm.Cond.selects "BitDesk$Elimination" (⟨"BitDesk$Elimination", "clearOthers", "(III)V"⟩ : Jvm.MethodName) (⟨"BitDesk$Elimination", "clearOthers", "(III)V"⟩ : Jvm.MethodName)) ∈ WS := ws_c0 36 rfl rfl
theorem lk_X1_43 : LkV RX1 43 jX1_clearOthers 3 := ⟨⟨wd_970, ⟨rfl, (by rw [cwd_nil rfl]; exact wd_973)⟩, wd_101, ⟨by decide +kernel, by decide +kernel⟩, by decide +kernel⟩, wd_972, wd_36⟩
theorem lk_X1_47 : LkSN RX1 47 jX6_hasOne 2 := ⟨⟨⟨_, wn_m5⟩, ⟨rfl, (by rw [cwd_nil rfl]; exact wd_661)⟩, wd_95, ⟨by decide +kernel, by decide +kernel⟩, by decide +kernel⟩, wd_660⟩
theorem wd_167 : (Jvm.Cond.methodLink "BitDesk$Matrix" (3 : Nat) ({ cls := "java/lang/Object", name := "<init>", desc := "()V" } : Jvm.MethodName)) ∈ WS := ws_c1 73 rfl rfl
theorem wd_168 : (Jvm.Cond.fieldLink "BitDesk$Matrix" (9 : Nat) "BitDesk$Matrix" "rows" "[I") ∈ WS := ws_c1 74 rfl rfl
theorem fp_X2_9 : FP RX2 9 2 0 (.array .int) true := ⟨RX2, TX2, 5, tyX2, rfl, by decide, rfl, rfl, (Or.inl wd_168), inW2, tyX2_ok, nmX2, rfl, tyX2_ok 0 (by decide), rfl⟩
theorem fk_X2_9 : FK RX2 9 2 0 (.array .int) := ⟨RX2, TX2, 5, rfl, by decide, rfl, rfl, (Or.inl wd_168), inW2⟩
theorem wd_171 : (Jvm.Cond.fieldLink "BitDesk$Matrix" (15 : Nat) "BitDesk$Matrix" "isKept" "Z") ∈ WS := ws_c1 77 rfl rfl
theorem fp_X2_15 : FP RX2 15 2 1 (.boolean) false := ⟨RX2, TX2, 5, tyX2, rfl, by decide, rfl, rfl, (Or.inl wd_171), inW2, tyX2_ok, nmX2, rfl, tyX2_ok 1 (by decide), rfl⟩
theorem wd_174 : (Jvm.Cond.fieldLink "BitDesk$Matrix" (19 : Nat) "BitDesk$Matrix" "lookedLately" "I") ∈ WS := ws_c1 80 rfl rfl
theorem fp_X2_19 : FP RX2 19 2 2 (.int) false := ⟨RX2, TX2, 5, tyX2, rfl, by decide, rfl, rfl, (Or.inl wd_174), inW2, tyX2_ok, nmX2, rfl, tyX2_ok 2 (by decide), rfl⟩
theorem wd_176 : (Jvm.Cond.fieldLink "BitDesk$Matrix" (23 : Nat) "BitDesk$Matrix" "lookedInAll" "I") ∈ WS := ws_c1 82 rfl rfl
theorem fp_X2_23 : FP RX2 23 2 3 (.int) false := ⟨RX2, TX2, 5, tyX2, rfl, by decide, rfl, rfl, (Or.inl wd_176), inW2, tyX2_ok, nmX2, rfl, tyX2_ok 3 (by decide), rfl⟩
theorem wd_178 : (Jvm.Cond.fieldLink "BitDesk$Matrix" (26 : Nat) "BitDesk$Matrix" "timesMadeAnew" "I") ∈ WS := ws_c1 84 rfl rfl
theorem fp_X2_26 : FP RX2 26 2 4 (.int) false := ⟨RX2, TX2, 5, tyX2, rfl, by decide, rfl, rfl, (Or.inl wd_178), inW2, tyX2_ok, nmX2, rfl, tyX2_ok 4 (by decide), rfl⟩
theorem wd_508 : (Jvm.Cond.methodLink "BitDesk$Matrix" (29 : Nat) ({ cls := "java/lang/System", name := "arraycopy", desc := "(Ljava/lang/Object;ILjava/lang/Object;II)V" } : Jvm.MethodName)) ∈ WS := ws_c2 174 rfl rfl
theorem fk_X2_15 : FK RX2 15 2 1 (.boolean) := ⟨RX2, TX2, 5, rfl, by decide, rfl, rfl, (Or.inl wd_171), inW2⟩
theorem fk_X2_19 : FK RX2 19 2 2 (.int) := ⟨RX2, TX2, 5, rfl, by decide, rfl, rfl, (Or.inl wd_174), inW2⟩
theorem fk_X2_23 : FK RX2 23 2 3 (.int) := ⟨RX2, TX2, 5, rfl, by decide, rfl, rfl, (Or.inl wd_176), inW2⟩
theorem fk_X2_26 : FK RX2 26 2 4 (.int) := ⟨RX2, TX2, 5, rfl, by decide, rfl, rfl, (Or.inl wd_178), inW2⟩
theorem wd_495 : (Jvm.Cond.code ({ cls := "BitDesk$Matrix", name := "noteLooked", desc := "(I)V" } : Jvm.MethodName) prog_4_method_4_code (2 : Nat) (Option.none : Option Jvm.ClassFile.FieldType)) ∈ WS := ws_c2 161 rfl rfl
theorem wd_492 : (Jvm.Cond.methodLink "BitDesk$Matrix" (35 : Nat) ({ cls := "BitDesk$Matrix", name := "noteLooked", desc := "(I)V" } : Jvm.MethodName)) ∈ WS := ws_c2 158 rfl rfl
theorem wd_493 : (Jvm.Cond.instanceMethod ({ cls := "BitDesk$Matrix", name := "noteLooked", desc := "(I)V" } : Jvm.MethodName)) ∈ WS := ws_c2 159 rfl rfl
theorem wd_494 : (Jvm.Cond.selects "BitDesk$Matrix" ({ cls := "BitDesk$Matrix", name := "noteLooked", desc := "(I)V" } : Jvm.MethodName) ({ cls := "BitDesk$Matrix", name := "noteLooked", desc := "(I)V" } : Jvm.MethodName)) ∈ WS := ws_c2 160 rfl rfl
theorem lk_X2_35 : LkV RX2 35 jX2_noteLooked 1 := ⟨⟨wd_492, ⟨rfl, (by rw [cwd_nil rfl]; exact wd_495)⟩, wd_98, ⟨by decide +kernel, by decide +kernel⟩, by decide +kernel⟩, wd_493, wd_494⟩
theorem wd_240 : (Jvm.Cond.methodLink "BitDesk$Multiplier" (3 : Nat) ({ cls := "java/lang/Object", name := "<init>", desc := "()V" } : Jvm.MethodName)) ∈ WS := ws_c1 146 rfl rfl
theorem wd_241 : (Jvm.Cond.fieldLink "BitDesk$Multiplier" (9 : Nat) "BitDesk$Multiplier" "table" "[I") ∈ WS := ws_c1 147 rfl rfl
theorem fp_X3_9 : FP RX3 9 3 0 (.array .int) true := ⟨RX3, TX3, 8, tyX3, rfl, by decide, rfl, rfl, (Or.inl wd_241), inW3, tyX3_ok, nmX3, rfl, tyX3_ok 0 (by decide), rfl⟩
theorem wd_242 : (Jvm.Cond.fieldLink "BitDesk$Multiplier" (15 : Nat) "BitDesk$Multiplier" "first" "[I") ∈ WS := ws_c1 148 rfl rfl
theorem fp_X3_15 : FP RX3 15 3 1 (.array .int) true := ⟨RX3, TX3, 8, tyX3, rfl, by decide, rfl, rfl, (Or.inl wd_242), inW3, tyX3_ok, nmX3, rfl, tyX3_ok 1 (by decide), rfl⟩
theorem wd_243 : (Jvm.Cond.fieldLink "BitDesk$Multiplier" (18 : Nat) "BitDesk$Multiplier" "second" "[I") ∈ WS := ws_c1 149 rfl rfl
theorem fp_X3_18 : FP RX3 18 3 2 (.array .int) true := ⟨RX3, TX3, 8, tyX3, rfl, by decide, rfl, rfl, (Or.inl wd_243), inW3, tyX3_ok, nmX3, rfl, tyX3_ok 2 (by decide), rfl⟩
theorem fk_X3_21 : FK RX3 21 5 1 (.int) := ⟨RX5, TX5, 5, rfl, by decide, rfl, rfl, (Or.inr ⟨_, wn_f12⟩), inW5⟩
theorem wd_244 : (Jvm.Cond.fieldLink "BitDesk$Multiplier" (27 : Nat) "BitDesk$Multiplier" "size" "I") ∈ WS := ws_c1 150 rfl rfl
theorem fp_X3_27 : FP RX3 27 3 3 (.int) false := ⟨RX3, TX3, 8, tyX3, rfl, by decide, rfl, rfl, (Or.inl wd_244), inW3, tyX3_ok, nmX3, rfl, tyX3_ok 3 (by decide), rfl⟩
theorem fk_X3_28 : FK RX3 28 5 2 (.int) := ⟨RX5, TX5, 5, rfl, by decide, rfl, rfl, (Or.inr ⟨_, wn_f15⟩), inW5⟩
theorem wd_245 : (Jvm.Cond.fieldLink "BitDesk$Multiplier" (31 : Nat) "BitDesk$Multiplier" "block" "I") ∈ WS := ws_c1 151 rfl rfl
theorem fp_X3_31 : FP RX3 31 3 4 (.int) false := ⟨RX3, TX3, 8, tyX3, rfl, by decide, rfl, rfl, (Or.inl wd_245), inW3, tyX3_ok, nmX3, rfl, tyX3_ok 4 (by decide), rfl⟩
theorem wd_246 : (Jvm.Cond.fieldLink "BitDesk$Multiplier" (32 : Nat) "BitDesk$Multiplier" "isField" "Z") ∈ WS := ws_c1 152 rfl rfl
theorem fp_X3_32 : FP RX3 32 3 5 (.boolean) false := ⟨RX3, TX3, 8, tyX3, rfl, by decide, rfl, rfl, (Or.inl wd_246), inW3, tyX3_ok, nmX3, rfl, tyX3_ok 5 (by decide), rfl⟩
theorem wd_247 : (Jvm.Cond.fieldLink "BitDesk$Multiplier" (36 : Nat) "BitDesk$Multiplier" "entriesMade" "I") ∈ WS := ws_c1 153 rfl rfl
theorem fp_X3_36 : FP RX3 36 3 6 (.int) false := ⟨RX3, TX3, 8, tyX3, rfl, by decide, rfl, rfl, (Or.inl wd_247), inW3, tyX3_ok, nmX3, rfl, tyX3_ok 6 (by decide), rfl⟩
theorem wd_249 : (Jvm.Cond.fieldLink "BitDesk$Multiplier" (39 : Nat) "BitDesk$Multiplier" "entriesTaken" "I") ∈ WS := ws_c1 155 rfl rfl
theorem fp_X3_39 : FP RX3 39 3 7 (.int) false := ⟨RX3, TX3, 8, tyX3, rfl, by decide, rfl, rfl, (Or.inl wd_249), inW3, tyX3_ok, nmX3, rfl, tyX3_ok 7 (by decide), rfl⟩
theorem fk_X3_27 : FK RX3 27 3 3 (.int) := ⟨RX3, TX3, 8, rfl, by decide, rfl, rfl, (Or.inl wd_244), inW3⟩
theorem fk_X3_31 : FK RX3 31 3 4 (.int) := ⟨RX3, TX3, 8, rfl, by decide, rfl, rfl, (Or.inl wd_245), inW3⟩
theorem wd_431 : (Jvm.Cond.code ({ cls := "java/lang/Math", name := "min", desc := "(II)I" } : Jvm.MethodName) prog_14_method_69_code (2 : Nat) (Option.some Jvm.ClassFile.FieldType.int)) ∈ WS := ws_c2 97 rfl rfl
theorem wd_1085 : (Jvm.Cond.methodLink "BitDesk$Multiplier" (42 : Nat) ({ cls := "java/lang/Math", name := "min", desc := "(II)I" } : Jvm.MethodName)) ∈ WS := ws_c5 31 rfl rfl
theorem wd_430 : (Jvm.Cond.static ({ cls := "java/lang/Math", name := "min", desc := "(II)I" } : Jvm.MethodName)) ∈ WS := ws_c2 96 rfl rfl
theorem lk_X3_42 : LkS RX3 42 jJ9_min_7cf53 2 := ⟨⟨wd_1085, ⟨rfl, (by rw [cwd_nil rfl]; exact wd_431)⟩, wd_107, ⟨by decide +kernel, by decide +kernel⟩, by decide +kernel⟩, wd_430⟩
theorem wd_1089 : (Jvm.Cond.code ({ cls := "BitDesk$Multiplier", name := "fillTable", desc := "([III)V" } : Jvm.MethodName) prog_5_method_5_code (7 : Nat) (Option.none : Option Jvm.ClassFile.FieldType)) ∈ WS := ws_c5 35 rfl rfl
theorem wd_1086 : (Jvm.Cond.methodLink "BitDesk$Multiplier" (48 : Nat) ({ cls := "BitDesk$Multiplier", name := "fillTable", desc := "([III)V" } : Jvm.MethodName)) ∈ WS := ws_c5 32 rfl rfl
theorem wd_1088 : (Jvm.Cond.instanceMethod ({ cls := "BitDesk$Multiplier", name := "fillTable", desc := "([III)V" } : Jvm.MethodName)) ∈ WS := ws_c5 34 rfl rfl
theorem wd_40 : (Jvm.Cond.selects "BitDesk$Multiplier" (⟨"BitDesk$Multiplier", "fillTable", "([III)V"⟩ : Jvm.MethodName) (⟨"BitDesk$Multiplier", "fillTable", "([III)V"⟩ : Jvm.MethodName)) ∈ WS := ws_c0 40 rfl rfl
theorem lk_X3_48 : LkV RX3 48 jX3_fillTable 3 := ⟨⟨wd_1086, ⟨rfl, (by rw [cwd_nil rfl]; exact wd_1089)⟩, wd_100, ⟨by decide +kernel, by decide +kernel⟩, by decide +kernel⟩, wd_1088, wd_40⟩
theorem wd_1097 : (Jvm.Cond.code ({ cls := "BitDesk$Multiplier", name := "takeEntries", desc := "([I[III)V" } : Jvm.MethodName) prog_5_method_6_code (7 : Nat) (Option.none : Option Jvm.ClassFile.FieldType)) ∈ WS := ws_c5 43 rfl rfl
theorem wd_1094 : (Jvm.Cond.methodLink "BitDesk$Multiplier" (52 : Nat) ({ cls := "BitDesk$Multiplier", name := "takeEntries", desc := "([I[III)V" } : Jvm.MethodName)) ∈ WS := ws_c5 40 rfl rfl
theorem wd_1096 : (Jvm.Cond.instanceMethod ({ cls := "BitDesk$Multiplier", name := "takeEntries", desc := "([I[III)V" } : Jvm.MethodName)) ∈ WS := ws_c5 42 rfl rfl
theorem wd_42 : (Jvm.Cond.selects "BitDesk$Multiplier" (⟨"BitDesk$Multiplier", "takeEntries", "([I[III)V"⟩ : Jvm.MethodName) (⟨"BitDesk$Multiplier", "takeEntries", "([I[III)V"⟩ : Jvm.MethodName)) ∈ WS := ws_c0 42 rfl rfl
theorem lk_X3_52 : LkV RX3 52 jX3_takeEntries 4 := ⟨⟨wd_1094, ⟨rfl, (by rw [cwd_nil rfl]; exact wd_1097)⟩, wd_100, ⟨by decide +kernel, by decide +kernel⟩, by decide +kernel⟩, wd_1096, wd_42⟩
theorem fk_X3_15 : FK RX3 15 3 1 (.array .int) := ⟨RX3, TX3, 8, rfl, by decide, rfl, rfl, (Or.inl wd_242), inW3⟩
theorem fk_X3_18 : FK RX3 18 3 2 (.array .int) := ⟨RX3, TX3, 8, rfl, by decide, rfl, rfl, (Or.inl wd_243), inW3⟩
theorem wd_1084 : (Jvm.Cond.code ({ cls := "BitDesk$Multiplier", name := "multiply", desc := "([I[I[I)V" } : Jvm.MethodName) prog_5_method_3_code (6 : Nat) (Option.none : Option Jvm.ClassFile.FieldType)) ∈ WS := ws_c5 30 rfl rfl
theorem wd_1115 : (Jvm.Cond.methodLink "BitDesk$Multiplier" (56 : Nat) ({ cls := "BitDesk$Multiplier", name := "multiply", desc := "([I[I[I)V" } : Jvm.MethodName)) ∈ WS := ws_c5 61 rfl rfl
theorem wd_1082 : (Jvm.Cond.instanceMethod ({ cls := "BitDesk$Multiplier", name := "multiply", desc := "([I[I[I)V" } : Jvm.MethodName)) ∈ WS := ws_c5 28 rfl rfl
theorem wd_1083 : (Jvm.Cond.selects "BitDesk$Multiplier" ({ cls := "BitDesk$Multiplier", name := "multiply", desc := "([I[I[I)V" } : Jvm.MethodName) ({ cls := "BitDesk$Multiplier", name := "multiply", desc := "([I[I[I)V" } : Jvm.MethodName)) ∈ WS := ws_c5 29 rfl rfl
theorem lk_X3_56 : LkV RX3 56 jX3_multiply 3 := ⟨⟨wd_1115, ⟨rfl, (by rw [cwd_nil rfl]; exact wd_1084)⟩, wd_100, ⟨by decide +kernel, by decide +kernel⟩, by decide +kernel⟩, wd_1082, wd_1083⟩
theorem lk_X3_60 : LkSN RX3 60 jX6_hasOne 2 := ⟨⟨⟨_, wn_m7⟩, ⟨rfl, (by rw [cwd_nil rfl]; exact wd_661)⟩, wd_95, ⟨by decide +kernel, by decide +kernel⟩, by decide +kernel⟩, wd_660⟩
theorem fk_X3_9 : FK RX3 9 3 0 (.array .int) := ⟨RX3, TX3, 8, rfl, by decide, rfl, rfl, (Or.inl wd_241), inW3⟩
theorem wd_1093 : (Jvm.Cond.code ({ cls := "BitDesk$Multiplier", name := "joined", desc := "(II)I" } : Jvm.MethodName) prog_5_method_7_code (3 : Nat) (Option.some Jvm.ClassFile.FieldType.int)) ∈ WS := ws_c5 39 rfl rfl
theorem wd_1090 : (Jvm.Cond.methodLink "BitDesk$Multiplier" (64 : Nat) ({ cls := "BitDesk$Multiplier", name := "joined", desc := "(II)I" } : Jvm.MethodName)) ∈ WS := ws_c5 36 rfl rfl
theorem wd_1092 : (Jvm.Cond.instanceMethod ({ cls := "BitDesk$Multiplier", name := "joined", desc := "(II)I" } : Jvm.MethodName)) ∈ WS := ws_c5 38 rfl rfl
theorem wd_41 : (Jvm.Cond.selects "BitDesk$Multiplier" (⟨"BitDesk$Multiplier", "joined", "(II)I"⟩ : Jvm.MethodName) (⟨"BitDesk$Multiplier", "joined", "(II)I"⟩ : Jvm.MethodName)) ∈ WS := ws_c0 41 rfl rfl
theorem lk_X3_64 : LkV RX3 64 jX3_joined 2 := ⟨⟨wd_1090, ⟨rfl, (by rw [cwd_nil rfl]; exact wd_1093)⟩, wd_100, ⟨by decide +kernel, by decide +kernel⟩, by decide +kernel⟩, wd_1092, wd_41⟩
theorem fk_X3_36 : FK RX3 36 3 6 (.int) := ⟨RX3, TX3, 8, rfl, by decide, rfl, rfl, (Or.inl wd_247), inW3⟩
theorem wd_479 : (Jvm.Cond.code ({ cls := "BitDesk", name := "lowest", desc := "(I)I" } : Jvm.MethodName) prog_1_method_86_code (1 : Nat) (Option.some Jvm.ClassFile.FieldType.int)) ∈ WS := ws_c2 145 rfl rfl
theorem wd_478 : (Jvm.Cond.static ({ cls := "BitDesk", name := "lowest", desc := "(I)I" } : Jvm.MethodName)) ∈ WS := ws_c2 144 rfl rfl
theorem lk_X3_67 : LkSN RX3 67 jX6_lowest 1 := ⟨⟨⟨_, wn_m6⟩, ⟨rfl, (by rw [cwd_nil rfl]; exact wd_479)⟩, wd_95, ⟨by decide +kernel, by decide +kernel⟩, by decide +kernel⟩, wd_478⟩
theorem fk_X3_39 : FK RX3 39 3 7 (.int) := ⟨RX3, TX3, 8, rfl, by decide, rfl, rfl, (Or.inl wd_249), inW3⟩
theorem fk_X3_32 : FK RX3 32 3 5 (.boolean) := ⟨RX3, TX3, 8, rfl, by decide, rfl, rfl, (Or.inl wd_246), inW3⟩
theorem wd_128 : (Jvm.Cond.methodLink "BitDesk$Reader" (3 : Nat) ({ cls := "java/lang/Object", name := "<init>", desc := "()V" } : Jvm.MethodName)) ∈ WS := ws_c1 34 rfl rfl
theorem wd_129 : (Jvm.Cond.fieldLink "BitDesk$Reader" (9 : Nat) "BitDesk$Reader" "text" "[I") ∈ WS := ws_c1 35 rfl rfl
theorem fp_X4_9 : FP RX4 9 4 0 (.array .int) true := ⟨RX4, TX4, 7, tyX4, rfl, by decide, rfl, rfl, (Or.inl wd_129), inW4, tyX4_ok, nmX4, rfl, tyX4_ok 0 (by decide), rfl⟩
theorem wd_343 : (Jvm.Cond.constantLong "BitDesk$Reader" (15 : Nat) (255 : Int64)) ∈ WS := ws_c2 9 rfl rfl
theorem wd_130 : (Jvm.Cond.fieldLink "BitDesk$Reader" (17 : Nat) "BitDesk$Reader" "length" "I") ∈ WS := ws_c1 36 rfl rfl
theorem fk_X4_17 : FK RX4 17 4 1 (.int) := ⟨RX4, TX4, 7, rfl, by decide, rfl, rfl, (Or.inl wd_130), inW4⟩
theorem fk_X4_9 : FK RX4 9 4 0 (.array .int) := ⟨RX4, TX4, 7, rfl, by decide, rfl, rfl, (Or.inl wd_129), inW4⟩
theorem fp_X4_17 : FP RX4 17 4 1 (.int) false := ⟨RX4, TX4, 7, tyX4, rfl, by decide, rfl, rfl, (Or.inl wd_130), inW4, tyX4_ok, nmX4, rfl, tyX4_ok 1 (by decide), rfl⟩
theorem wd_131 : (Jvm.Cond.fieldLink "BitDesk$Reader" (21 : Nat) "BitDesk$Reader" "position" "I") ∈ WS := ws_c1 37 rfl rfl
theorem fp_X4_21 : FP RX4 21 4 2 (.int) false := ⟨RX4, TX4, 7, tyX4, rfl, by decide, rfl, rfl, (Or.inl wd_131), inW4, tyX4_ok, nmX4, rfl, tyX4_ok 2 (by decide), rfl⟩
theorem wd_133 : (Jvm.Cond.fieldLink "BitDesk$Reader" (24 : Nat) "BitDesk$Reader" "statement" "I") ∈ WS := ws_c1 39 rfl rfl
theorem fp_X4_24 : FP RX4 24 4 4 (.int) false := ⟨RX4, TX4, 7, tyX4, rfl, by decide, rfl, rfl, (Or.inl wd_133), inW4, tyX4_ok, nmX4, rfl, tyX4_ok 4 (by decide), rfl⟩
theorem wd_135 : (Jvm.Cond.fieldLink "BitDesk$Reader" (27 : Nat) "BitDesk$Reader" "error" "I") ∈ WS := ws_c1 41 rfl rfl
theorem fp_X4_27 : FP RX4 27 4 5 (.int) false := ⟨RX4, TX4, 7, tyX4, rfl, by decide, rfl, rfl, (Or.inl wd_135), inW4, tyX4_ok, nmX4, rfl, tyX4_ok 5 (by decide), rfl⟩
theorem wd_137 : (Jvm.Cond.fieldLink "BitDesk$Reader" (30 : Nat) "BitDesk$Reader" "errorPosition" "I") ∈ WS := ws_c1 43 rfl rfl
theorem fp_X4_30 : FP RX4 30 4 6 (.int) false := ⟨RX4, TX4, 7, tyX4, rfl, by decide, rfl, rfl, (Or.inl wd_137), inW4, tyX4_ok, nmX4, rfl, tyX4_ok 6 (by decide), rfl⟩
theorem wd_355 : (Jvm.Cond.code ({ cls := "BitDesk$Reader", name := "readSize", desc := "(LBitDesk$State;)V" } : Jvm.MethodName) prog_6_method_4_code (2 : Nat) (Option.none : Option Jvm.ClassFile.FieldType)) ∈ WS := ws_c2 21 rfl rfl
theorem wd_352 : (Jvm.Cond.methodLink "BitDesk$Reader" (33 : Nat) ({ cls := "BitDesk$Reader", name := "readSize", desc := "(LBitDesk$State;)V" } : Jvm.MethodName)) ∈ WS := ws_c2 18 rfl rfl
theorem wd_354 : (Jvm.Cond.instanceMethod ({ cls := "BitDesk$Reader", name := "readSize", desc := "(LBitDesk$State;)V" } : Jvm.MethodName)) ∈ WS := ws_c2 20 rfl rfl
theorem wd_0 : (Jvm.Cond.selects "BitDesk$Reader" (⟨"BitDesk$Reader", "readSize", "(LBitDesk$State;)V"⟩ : Jvm.MethodName) (⟨"BitDesk$Reader", "readSize", "(LBitDesk$State;)V"⟩ : Jvm.MethodName)) ∈ WS := ws_c0 0 rfl rfl
theorem lk_X4_33 : LkV RX4 33 jX4_readSize 1 := ⟨⟨wd_352, ⟨rfl, (by rw [cwd_nil rfl]; exact wd_355)⟩, wd_96, ⟨by decide +kernel, by decide +kernel⟩, by decide +kernel⟩, wd_354, wd_0⟩
theorem wd_443 : (Jvm.Cond.code ({ cls := "BitDesk$Reader", name := "hasMore", desc := "()Z" } : Jvm.MethodName) prog_6_method_11_code (1 : Nat) (Option.some Jvm.ClassFile.FieldType.boolean)) ∈ WS := ws_c2 109 rfl rfl
theorem wd_440 : (Jvm.Cond.methodLink "BitDesk$Reader" (37 : Nat) ({ cls := "BitDesk$Reader", name := "hasMore", desc := "()Z" } : Jvm.MethodName)) ∈ WS := ws_c2 106 rfl rfl
theorem wd_442 : (Jvm.Cond.instanceMethod ({ cls := "BitDesk$Reader", name := "hasMore", desc := "()Z" } : Jvm.MethodName)) ∈ WS := ws_c2 108 rfl rfl
theorem wd_7 : (Jvm.Cond.selects "BitDesk$Reader" (⟨"BitDesk$Reader", "hasMore", "()Z"⟩ : Jvm.MethodName) (⟨"BitDesk$Reader", "hasMore", "()Z"⟩ : Jvm.MethodName)) ∈ WS := ws_c0 7 rfl rfl
theorem lk_X4_37 : LkV RX4 37 jX4_hasMore 0 := ⟨⟨wd_440, ⟨rfl, (by rw [cwd_nil rfl]; exact wd_443)⟩, wd_96, ⟨by decide +kernel, by decide +kernel⟩, by decide +kernel⟩, wd_442, wd_7⟩
theorem wd_447 : (Jvm.Cond.code ({ cls := "BitDesk$Reader", name := "takeSemicolon", desc := "()V" } : Jvm.MethodName) prog_6_method_12_code (1 : Nat) (Option.none : Option Jvm.ClassFile.FieldType)) ∈ WS := ws_c2 113 rfl rfl
theorem wd_444 : (Jvm.Cond.methodLink "BitDesk$Reader" (41 : Nat) ({ cls := "BitDesk$Reader", name := "takeSemicolon", desc := "()V" } : Jvm.MethodName)) ∈ WS := ws_c2 110 rfl rfl
theorem wd_446 : (Jvm.Cond.instanceMethod ({ cls := "BitDesk$Reader", name := "takeSemicolon", desc := "()V" } : Jvm.MethodName)) ∈ WS := ws_c2 112 rfl rfl
theorem wd_8 : (Jvm.Cond.selects "BitDesk$Reader" (⟨"BitDesk$Reader", "takeSemicolon", "()V"⟩ : Jvm.MethodName) (⟨"BitDesk$Reader", "takeSemicolon", "()V"⟩ : Jvm.MethodName)) ∈ WS := ws_c0 8 rfl rfl
theorem lk_X4_41 : LkV RX4 41 jX4_takeSemicolon 0 := ⟨⟨wd_444, ⟨rfl, (by rw [cwd_nil rfl]; exact wd_447)⟩, wd_96, ⟨by decide +kernel, by decide +kernel⟩, by decide +kernel⟩, wd_446, wd_8⟩
theorem fk_X4_27 : FK RX4 27 4 5 (.int) := ⟨RX4, TX4, 7, rfl, by decide, rfl, rfl, (Or.inl wd_135), inW4⟩
theorem wd_451 : (Jvm.Cond.code ({ cls := "BitDesk$Reader", name := "readStatement", desc := "(LBitDesk$State;)V" } : Jvm.MethodName) prog_6_method_5_code (2 : Nat) (Option.none : Option Jvm.ClassFile.FieldType)) ∈ WS := ws_c2 117 rfl rfl
theorem wd_448 : (Jvm.Cond.methodLink "BitDesk$Reader" (44 : Nat) ({ cls := "BitDesk$Reader", name := "readStatement", desc := "(LBitDesk$State;)V" } : Jvm.MethodName)) ∈ WS := ws_c2 114 rfl rfl
theorem wd_450 : (Jvm.Cond.instanceMethod ({ cls := "BitDesk$Reader", name := "readStatement", desc := "(LBitDesk$State;)V" } : Jvm.MethodName)) ∈ WS := ws_c2 116 rfl rfl
theorem wd_9 : (Jvm.Cond.selects "BitDesk$Reader" (⟨"BitDesk$Reader", "readStatement", "(LBitDesk$State;)V"⟩ : Jvm.MethodName) (⟨"BitDesk$Reader", "readStatement", "(LBitDesk$State;)V"⟩ : Jvm.MethodName)) ∈ WS := ws_c0 9 rfl rfl
theorem lk_X4_44 : LkV RX4 44 jX4_readStatement 1 := ⟨⟨wd_448, ⟨rfl, (by rw [cwd_nil rfl]; exact wd_451)⟩, wd_96, ⟨by decide +kernel, by decide +kernel⟩, by decide +kernel⟩, wd_450, wd_9⟩
theorem fk_X4_47 : FK RX4 47 5 0 (.array (.object "BitDesk$Matrix")) := ⟨RX5, TX5, 5, rfl, by decide, rfl, rfl, (Or.inr ⟨_, wn_f10⟩), inW5⟩
theorem fk_X4_53 : FK RX4 53 5 1 (.int) := ⟨RX5, TX5, 5, rfl, by decide, rfl, rfl, (Or.inr ⟨_, wn_f14⟩), inW5⟩
theorem wd_491 : (Jvm.Cond.code ({ cls := "BitDesk$Matrix", name := "noteMadeAnew", desc := "(I)V" } : Jvm.MethodName) prog_4_method_5_code (2 : Nat) (Option.none : Option Jvm.ClassFile.FieldType)) ∈ WS := ws_c2 157 rfl rfl
theorem wd_488 : (Jvm.Cond.methodLink "BitDesk$Reader" (56 : Nat) ({ cls := "BitDesk$Matrix", name := "noteMadeAnew", desc := "(I)V" } : Jvm.MethodName)) ∈ WS := ws_c2 154 rfl rfl
theorem wd_489 : (Jvm.Cond.instanceMethod ({ cls := "BitDesk$Matrix", name := "noteMadeAnew", desc := "(I)V" } : Jvm.MethodName)) ∈ WS := ws_c2 155 rfl rfl
theorem wd_490 : (Jvm.Cond.selects "BitDesk$Matrix" ({ cls := "BitDesk$Matrix", name := "noteMadeAnew", desc := "(I)V" } : Jvm.MethodName) ({ cls := "BitDesk$Matrix", name := "noteMadeAnew", desc := "(I)V" } : Jvm.MethodName)) ∈ WS := ws_c2 156 rfl rfl
theorem lk_X4_56 : LkV RX4 56 jX2_noteMadeAnew 1 := ⟨⟨wd_488, ⟨rfl, (by rw [cwd_nil rfl]; exact wd_491)⟩, wd_98, ⟨by decide +kernel, by decide +kernel⟩, by decide +kernel⟩, wd_489, wd_490⟩
theorem wd_359 : (Jvm.Cond.code ({ cls := "BitDesk$Reader", name := "takeWord", desc := "()V" } : Jvm.MethodName) prog_6_method_13_code (1 : Nat) (Option.none : Option Jvm.ClassFile.FieldType)) ∈ WS := ws_c2 25 rfl rfl
theorem wd_356 : (Jvm.Cond.methodLink "BitDesk$Reader" (62 : Nat) ({ cls := "BitDesk$Reader", name := "takeWord", desc := "()V" } : Jvm.MethodName)) ∈ WS := ws_c2 22 rfl rfl
theorem wd_358 : (Jvm.Cond.instanceMethod ({ cls := "BitDesk$Reader", name := "takeWord", desc := "()V" } : Jvm.MethodName)) ∈ WS := ws_c2 24 rfl rfl
theorem wd_1 : (Jvm.Cond.selects "BitDesk$Reader" (⟨"BitDesk$Reader", "takeWord", "()V"⟩ : Jvm.MethodName) (⟨"BitDesk$Reader", "takeWord", "()V"⟩ : Jvm.MethodName)) ∈ WS := ws_c0 1 rfl rfl
theorem lk_X4_62 : LkV RX4 62 jX4_takeWord 0 := ⟨⟨wd_356, ⟨rfl, (by rw [cwd_nil rfl]; exact wd_359)⟩, wd_96, ⟨by decide +kernel, by decide +kernel⟩, by decide +kernel⟩, wd_358, wd_1⟩
theorem wd_368 : (Jvm.Cond.code ({ cls := "BitDesk$Reader", name := "isWord", desc := "(Ljava/lang/String;)Z" } : Jvm.MethodName) prog_6_method_18_code (3 : Nat) (Option.some Jvm.ClassFile.FieldType.boolean)) ∈ WS := ws_c2 34 rfl rfl
theorem wd_365 : (Jvm.Cond.methodLink "BitDesk$Reader" (66 : Nat) ({ cls := "BitDesk$Reader", name := "isWord", desc := "(Ljava/lang/String;)Z" } : Jvm.MethodName)) ∈ WS := ws_c2 31 rfl rfl
theorem wd_367 : (Jvm.Cond.instanceMethod ({ cls := "BitDesk$Reader", name := "isWord", desc := "(Ljava/lang/String;)Z" } : Jvm.MethodName)) ∈ WS := ws_c2 33 rfl rfl
theorem wd_3 : (Jvm.Cond.selects "BitDesk$Reader" (⟨"BitDesk$Reader", "isWord", "(Ljava/lang/String;)Z"⟩ : Jvm.MethodName) (⟨"BitDesk$Reader", "isWord", "(Ljava/lang/String;)Z"⟩ : Jvm.MethodName)) ∈ WS := ws_c0 3 rfl rfl
theorem lk_X4_66 : LkV RX4 66 jX4_isWord 1 := ⟨⟨wd_365, ⟨rfl, (by rw [cwd_nil rfl]; exact wd_368)⟩, wd_96, ⟨by decide +kernel, by decide +kernel⟩, by decide +kernel⟩, wd_367, wd_3⟩
theorem wd_132 : (Jvm.Cond.fieldLink "BitDesk$Reader" (70 : Nat) "BitDesk$Reader" "start" "I") ∈ WS := ws_c1 38 rfl rfl
theorem fk_X4_70 : FK RX4 70 4 3 (.int) := ⟨RX4, TX4, 7, rfl, by decide, rfl, rfl, (Or.inl wd_132), inW4⟩
theorem wd_420 : (Jvm.Cond.code ({ cls := "BitDesk$Reader", name := "fail", desc := "(II)V" } : Jvm.MethodName) prog_6_method_19_code (3 : Nat) (Option.none : Option Jvm.ClassFile.FieldType)) ∈ WS := ws_c2 86 rfl rfl
theorem wd_417 : (Jvm.Cond.methodLink "BitDesk$Reader" (73 : Nat) ({ cls := "BitDesk$Reader", name := "fail", desc := "(II)V" } : Jvm.MethodName)) ∈ WS := ws_c2 83 rfl rfl
theorem wd_419 : (Jvm.Cond.instanceMethod ({ cls := "BitDesk$Reader", name := "fail", desc := "(II)V" } : Jvm.MethodName)) ∈ WS := ws_c2 85 rfl rfl
theorem wd_4 : (Jvm.Cond.selects "BitDesk$Reader" (⟨"BitDesk$Reader", "fail", "(II)V"⟩ : Jvm.MethodName) (⟨"BitDesk$Reader", "fail", "(II)V"⟩ : Jvm.MethodName)) ∈ WS := ws_c0 4 rfl rfl
theorem lk_X4_73 : LkV RX4 73 jX4_fail 2 := ⟨⟨wd_417, ⟨rfl, (by rw [cwd_nil rfl]; exact wd_420)⟩, wd_96, ⟨by decide +kernel, by decide +kernel⟩, by decide +kernel⟩, wd_419, wd_4⟩
theorem wd_424 : (Jvm.Cond.code ({ cls := "BitDesk$Reader", name := "takeNumber", desc := "(II)I" } : Jvm.MethodName) prog_6_method_15_code (5 : Nat) (Option.some Jvm.ClassFile.FieldType.int)) ∈ WS := ws_c2 90 rfl rfl
theorem wd_421 : (Jvm.Cond.methodLink "BitDesk$Reader" (77 : Nat) ({ cls := "BitDesk$Reader", name := "takeNumber", desc := "(II)I" } : Jvm.MethodName)) ∈ WS := ws_c2 87 rfl rfl
theorem wd_423 : (Jvm.Cond.instanceMethod ({ cls := "BitDesk$Reader", name := "takeNumber", desc := "(II)I" } : Jvm.MethodName)) ∈ WS := ws_c2 89 rfl rfl
theorem wd_5 : (Jvm.Cond.selects "BitDesk$Reader" (⟨"BitDesk$Reader", "takeNumber", "(II)I"⟩ : Jvm.MethodName) (⟨"BitDesk$Reader", "takeNumber", "(II)I"⟩ : Jvm.MethodName)) ∈ WS := ws_c0 5 rfl rfl
theorem lk_X4_77 : LkV RX4 77 jX4_takeNumber 2 := ⟨⟨wd_421, ⟨rfl, (by rw [cwd_nil rfl]; exact wd_424)⟩, wd_96, ⟨by decide +kernel, by decide +kernel⟩, by decide +kernel⟩, wd_423, wd_5⟩
theorem wd_435 : (Jvm.Cond.code ({ cls := "BitDesk$State", name := "makeEmpty", desc := "(I)V" } : Jvm.MethodName) prog_7_method_2_code (3 : Nat) (Option.none : Option Jvm.ClassFile.FieldType)) ∈ WS := ws_c2 101 rfl rfl
theorem wd_432 : (Jvm.Cond.methodLink "BitDesk$Reader" (81 : Nat) ({ cls := "BitDesk$State", name := "makeEmpty", desc := "(I)V" } : Jvm.MethodName)) ∈ WS := ws_c2 98 rfl rfl
theorem wd_433 : (Jvm.Cond.instanceMethod ({ cls := "BitDesk$State", name := "makeEmpty", desc := "(I)V" } : Jvm.MethodName)) ∈ WS := ws_c2 99 rfl rfl
theorem wd_434 : (Jvm.Cond.selects "BitDesk$State" ({ cls := "BitDesk$State", name := "makeEmpty", desc := "(I)V" } : Jvm.MethodName) ({ cls := "BitDesk$State", name := "makeEmpty", desc := "(I)V" } : Jvm.MethodName)) ∈ WS := ws_c2 100 rfl rfl
theorem lk_X4_81 : LkV RX4 81 jX5_makeEmpty 1 := ⟨⟨wd_432, ⟨rfl, (by rw [cwd_nil rfl]; exact wd_435)⟩, wd_97, ⟨by decide +kernel, by decide +kernel⟩, by decide +kernel⟩, wd_433, wd_434⟩
theorem wd_456 : (Jvm.Cond.code ({ cls := "BitDesk$Reader", name := "readEdge", desc := "(LBitDesk$State;)V" } : Jvm.MethodName) prog_6_method_6_code (5 : Nat) (Option.none : Option Jvm.ClassFile.FieldType)) ∈ WS := ws_c2 122 rfl rfl
theorem wd_453 : (Jvm.Cond.methodLink "BitDesk$Reader" (86 : Nat) ({ cls := "BitDesk$Reader", name := "readEdge", desc := "(LBitDesk$State;)V" } : Jvm.MethodName)) ∈ WS := ws_c2 119 rfl rfl
theorem wd_455 : (Jvm.Cond.instanceMethod ({ cls := "BitDesk$Reader", name := "readEdge", desc := "(LBitDesk$State;)V" } : Jvm.MethodName)) ∈ WS := ws_c2 121 rfl rfl
theorem wd_10 : (Jvm.Cond.selects "BitDesk$Reader" (⟨"BitDesk$Reader", "readEdge", "(LBitDesk$State;)V"⟩ : Jvm.MethodName) (⟨"BitDesk$Reader", "readEdge", "(LBitDesk$State;)V"⟩ : Jvm.MethodName)) ∈ WS := ws_c0 10 rfl rfl
theorem lk_X4_86 : LkV RX4 86 jX4_readEdge 1 := ⟨⟨wd_453, ⟨rfl, (by rw [cwd_nil rfl]; exact wd_456)⟩, wd_96, ⟨by decide +kernel, by decide +kernel⟩, by decide +kernel⟩, wd_455, wd_10⟩
theorem wd_461 : (Jvm.Cond.code ({ cls := "BitDesk$Reader", name := "readRow", desc := "(LBitDesk$State;)V" } : Jvm.MethodName) prog_6_method_7_code (4 : Nat) (Option.none : Option Jvm.ClassFile.FieldType)) ∈ WS := ws_c2 127 rfl rfl
theorem wd_458 : (Jvm.Cond.methodLink "BitDesk$Reader" (91 : Nat) ({ cls := "BitDesk$Reader", name := "readRow", desc := "(LBitDesk$State;)V" } : Jvm.MethodName)) ∈ WS := ws_c2 124 rfl rfl
theorem wd_460 : (Jvm.Cond.instanceMethod ({ cls := "BitDesk$Reader", name := "readRow", desc := "(LBitDesk$State;)V" } : Jvm.MethodName)) ∈ WS := ws_c2 126 rfl rfl
theorem wd_11 : (Jvm.Cond.selects "BitDesk$Reader" (⟨"BitDesk$Reader", "readRow", "(LBitDesk$State;)V"⟩ : Jvm.MethodName) (⟨"BitDesk$Reader", "readRow", "(LBitDesk$State;)V"⟩ : Jvm.MethodName)) ∈ WS := ws_c0 11 rfl rfl
theorem lk_X4_91 : LkV RX4 91 jX4_readRow 1 := ⟨⟨wd_458, ⟨rfl, (by rw [cwd_nil rfl]; exact wd_461)⟩, wd_96, ⟨by decide +kernel, by decide +kernel⟩, by decide +kernel⟩, wd_460, wd_11⟩
theorem wd_470 : (Jvm.Cond.code ({ cls := "BitDesk$Reader", name := "readFill", desc := "(LBitDesk$State;)V" } : Jvm.MethodName) prog_6_method_9_code (4 : Nat) (Option.none : Option Jvm.ClassFile.FieldType)) ∈ WS := ws_c2 136 rfl rfl
theorem wd_467 : (Jvm.Cond.methodLink "BitDesk$Reader" (96 : Nat) ({ cls := "BitDesk$Reader", name := "readFill", desc := "(LBitDesk$State;)V" } : Jvm.MethodName)) ∈ WS := ws_c2 133 rfl rfl
theorem wd_469 : (Jvm.Cond.instanceMethod ({ cls := "BitDesk$Reader", name := "readFill", desc := "(LBitDesk$State;)V" } : Jvm.MethodName)) ∈ WS := ws_c2 135 rfl rfl
theorem wd_13 : (Jvm.Cond.selects "BitDesk$Reader" (⟨"BitDesk$Reader", "readFill", "(LBitDesk$State;)V"⟩ : Jvm.MethodName) (⟨"BitDesk$Reader", "readFill", "(LBitDesk$State;)V"⟩ : Jvm.MethodName)) ∈ WS := ws_c0 13 rfl rfl
theorem lk_X4_96 : LkV RX4 96 jX4_readFill 1 := ⟨⟨wd_467, ⟨rfl, (by rw [cwd_nil rfl]; exact wd_470)⟩, wd_96, ⟨by decide +kernel, by decide +kernel⟩, by decide +kernel⟩, wd_469, wd_13⟩
theorem wd_486 : (Jvm.Cond.code ({ cls := "BitDesk$Reader", name := "readKeep", desc := "(LBitDesk$State;)V" } : Jvm.MethodName) prog_6_method_8_code (3 : Nat) (Option.none : Option Jvm.ClassFile.FieldType)) ∈ WS := ws_c2 152 rfl rfl
theorem wd_483 : (Jvm.Cond.methodLink "BitDesk$Reader" (101 : Nat) ({ cls := "BitDesk$Reader", name := "readKeep", desc := "(LBitDesk$State;)V" } : Jvm.MethodName)) ∈ WS := ws_c2 149 rfl rfl
theorem wd_485 : (Jvm.Cond.instanceMethod ({ cls := "BitDesk$Reader", name := "readKeep", desc := "(LBitDesk$State;)V" } : Jvm.MethodName)) ∈ WS := ws_c2 151 rfl rfl
theorem wd_15 : (Jvm.Cond.selects "BitDesk$Reader" (⟨"BitDesk$Reader", "readKeep", "(LBitDesk$State;)V"⟩ : Jvm.MethodName) (⟨"BitDesk$Reader", "readKeep", "(LBitDesk$State;)V"⟩ : Jvm.MethodName)) ∈ WS := ws_c0 15 rfl rfl
theorem lk_X4_101 : LkV RX4 101 jX4_readKeep 1 := ⟨⟨wd_483, ⟨rfl, (by rw [cwd_nil rfl]; exact wd_486)⟩, wd_96, ⟨by decide +kernel, by decide +kernel⟩, by decide +kernel⟩, wd_485, wd_15⟩
theorem fp_X4_106 : FP RX4 106 5 2 (.int) false := ⟨RX5, TX5, 5, tyX5, rfl, by decide, rfl, rfl, (Or.inr ⟨_, wn_f16⟩), inW5, tyX5_ok, nmX5, rfl, tyX5_ok 2 (by decide), rfl⟩
theorem fk_X4_108 : FK RX4 108 2 0 (.array .int) := ⟨RX2, TX2, 5, rfl, by decide, rfl, rfl, (Or.inr ⟨_, wn_f3⟩), inW2⟩
theorem wd_465 : (Jvm.Cond.code ({ cls := "BitDesk$Reader", name := "takeBits", desc := "(I)I" } : Jvm.MethodName) prog_6_method_16_code (5 : Nat) (Option.some Jvm.ClassFile.FieldType.int)) ∈ WS := ws_c2 131 rfl rfl
theorem wd_462 : (Jvm.Cond.methodLink "BitDesk$Reader" (111 : Nat) ({ cls := "BitDesk$Reader", name := "takeBits", desc := "(I)I" } : Jvm.MethodName)) ∈ WS := ws_c2 128 rfl rfl
theorem wd_464 : (Jvm.Cond.instanceMethod ({ cls := "BitDesk$Reader", name := "takeBits", desc := "(I)I" } : Jvm.MethodName)) ∈ WS := ws_c2 130 rfl rfl
theorem wd_12 : (Jvm.Cond.selects "BitDesk$Reader" (⟨"BitDesk$Reader", "takeBits", "(I)I"⟩ : Jvm.MethodName) (⟨"BitDesk$Reader", "takeBits", "(I)I"⟩ : Jvm.MethodName)) ∈ WS := ws_c0 12 rfl rfl
theorem lk_X4_111 : LkV RX4 111 jX4_takeBits 1 := ⟨⟨wd_462, ⟨rfl, (by rw [cwd_nil rfl]; exact wd_465)⟩, wd_96, ⟨by decide +kernel, by decide +kernel⟩, by decide +kernel⟩, wd_464, wd_12⟩
theorem fk_X4_115 : FK RX4 115 2 1 (.boolean) := ⟨RX2, TX2, 5, rfl, by decide, rfl, rfl, (Or.inr ⟨_, wn_f5⟩), inW2⟩
theorem fp_X4_115 : FP RX4 115 2 1 (.boolean) false := ⟨RX2, TX2, 5, tyX2, rfl, by decide, rfl, rfl, (Or.inr ⟨_, wn_f5⟩), inW2, tyX2_ok, nmX2, rfl, tyX2_ok 1 (by decide), rfl⟩
theorem wd_474 : (Jvm.Cond.code ({ cls := "BitDesk$Reader", name := "rowOfKind", desc := "(II)I" } : Jvm.MethodName) prog_6_method_10_code (3 : Nat) (Option.some Jvm.ClassFile.FieldType.int)) ∈ WS := ws_c2 140 rfl rfl
theorem wd_471 : (Jvm.Cond.methodLink "BitDesk$Reader" (119 : Nat) ({ cls := "BitDesk$Reader", name := "rowOfKind", desc := "(II)I" } : Jvm.MethodName)) ∈ WS := ws_c2 137 rfl rfl
theorem wd_473 : (Jvm.Cond.instanceMethod ({ cls := "BitDesk$Reader", name := "rowOfKind", desc := "(II)I" } : Jvm.MethodName)) ∈ WS := ws_c2 139 rfl rfl
theorem wd_14 : (Jvm.Cond.selects "BitDesk$Reader" (⟨"BitDesk$Reader", "rowOfKind", "(II)I"⟩ : Jvm.MethodName) (⟨"BitDesk$Reader", "rowOfKind", "(II)I"⟩ : Jvm.MethodName)) ∈ WS := ws_c0 14 rfl rfl
theorem lk_X4_119 : LkV RX4 119 jX4_rowOfKind 2 := ⟨⟨wd_471, ⟨rfl, (by rw [cwd_nil rfl]; exact wd_474)⟩, wd_96, ⟨by decide +kernel, by decide +kernel⟩, by decide +kernel⟩, wd_473, wd_14⟩
theorem lk_X4_126 : LkSN RX4 126 jX6_lowest 1 := ⟨⟨⟨_, wn_m0⟩, ⟨rfl, (by rw [cwd_nil rfl]; exact wd_479)⟩, wd_95, ⟨by decide +kernel, by decide +kernel⟩, by decide +kernel⟩, wd_478⟩
theorem wd_363 : (Jvm.Cond.code ({ cls := "BitDesk$Reader", name := "skipSpaces", desc := "()V" } : Jvm.MethodName) prog_6_method_17_code (1 : Nat) (Option.none : Option Jvm.ClassFile.FieldType)) ∈ WS := ws_c2 29 rfl rfl
theorem wd_360 : (Jvm.Cond.methodLink "BitDesk$Reader" (133 : Nat) ({ cls := "BitDesk$Reader", name := "skipSpaces", desc := "()V" } : Jvm.MethodName)) ∈ WS := ws_c2 26 rfl rfl
theorem wd_362 : (Jvm.Cond.instanceMethod ({ cls := "BitDesk$Reader", name := "skipSpaces", desc := "()V" } : Jvm.MethodName)) ∈ WS := ws_c2 28 rfl rfl
theorem wd_2 : (Jvm.Cond.selects "BitDesk$Reader" (⟨"BitDesk$Reader", "skipSpaces", "()V"⟩ : Jvm.MethodName) (⟨"BitDesk$Reader", "skipSpaces", "()V"⟩ : Jvm.MethodName)) ∈ WS := ws_c0 2 rfl rfl
theorem lk_X4_133 : LkV RX4 133 jX4_skipSpaces 0 := ⟨⟨wd_360, ⟨rfl, (by rw [cwd_nil rfl]; exact wd_363)⟩, wd_96, ⟨by decide +kernel, by decide +kernel⟩, by decide +kernel⟩, wd_362, wd_2⟩
theorem fk_X4_21 : FK RX4 21 4 2 (.int) := ⟨RX4, TX4, 7, rfl, by decide, rfl, rfl, (Or.inl wd_131), inW4⟩
theorem fk_X4_24 : FK RX4 24 4 4 (.int) := ⟨RX4, TX4, 7, rfl, by decide, rfl, rfl, (Or.inl wd_133), inW4⟩
theorem fp_X4_70 : FP RX4 70 4 3 (.int) false := ⟨RX4, TX4, 7, tyX4, rfl, by decide, rfl, rfl, (Or.inl wd_132), inW4, tyX4_ok, nmX4, rfl, tyX4_ok 3 (by decide), rfl⟩
theorem wd_428 : (Jvm.Cond.code ({ cls := "BitDesk$Reader", name := "takeDigits", desc := "()V" } : Jvm.MethodName) prog_6_method_14_code (1 : Nat) (Option.none : Option Jvm.ClassFile.FieldType)) ∈ WS := ws_c2 94 rfl rfl
theorem wd_425 : (Jvm.Cond.methodLink "BitDesk$Reader" (136 : Nat) ({ cls := "BitDesk$Reader", name := "takeDigits", desc := "()V" } : Jvm.MethodName)) ∈ WS := ws_c2 91 rfl rfl
theorem wd_427 : (Jvm.Cond.instanceMethod ({ cls := "BitDesk$Reader", name := "takeDigits", desc := "()V" } : Jvm.MethodName)) ∈ WS := ws_c2 93 rfl rfl
theorem wd_6 : (Jvm.Cond.selects "BitDesk$Reader" (⟨"BitDesk$Reader", "takeDigits", "()V"⟩ : Jvm.MethodName) (⟨"BitDesk$Reader", "takeDigits", "()V"⟩ : Jvm.MethodName)) ∈ WS := ws_c0 6 rfl rfl
theorem lk_X4_136 : LkV RX4 136 jX4_takeDigits 0 := ⟨⟨wd_425, ⟨rfl, (by rw [cwd_nil rfl]; exact wd_428)⟩, wd_96, ⟨by decide +kernel, by decide +kernel⟩, by decide +kernel⟩, wd_427, wd_6⟩
theorem wd_429 : (Jvm.Cond.methodLink "BitDesk$Reader" (139 : Nat) ({ cls := "java/lang/Math", name := "min", desc := "(II)I" } : Jvm.MethodName)) ∈ WS := ws_c2 95 rfl rfl
theorem lk_X4_139 : LkS RX4 139 jJ9_min_7cf53 2 := ⟨⟨wd_429, ⟨rfl, (by rw [cwd_nil rfl]; exact wd_431)⟩, wd_107, ⟨by decide +kernel, by decide +kernel⟩, by decide +kernel⟩, wd_430⟩
theorem wd_372 : (Jvm.Cond.code ({ cls := "java/lang/String", name := "length", desc := "()I" } : Jvm.MethodName) prog_16_method_54_code (1 : Nat) (Option.some Jvm.ClassFile.FieldType.int)) ∈ WS := ws_c2 38 rfl rfl
theorem wd_369 : (Jvm.Cond.methodLink "BitDesk$Reader" (144 : Nat) ({ cls := "java/lang/String", name := "length", desc := "()I" } : Jvm.MethodName)) ∈ WS := ws_c2 35 rfl rfl
theorem wd_370 : (Jvm.Cond.instanceMethod ({ cls := "java/lang/String", name := "length", desc := "()I" } : Jvm.MethodName)) ∈ WS := ws_c2 36 rfl rfl
theorem wd_371 : (Jvm.Cond.selects "java/lang/String" ({ cls := "java/lang/String", name := "length", desc := "()I" } : Jvm.MethodName) ({ cls := "java/lang/String", name := "length", desc := "()I" } : Jvm.MethodName)) ∈ WS := ws_c2 37 rfl rfl
theorem lk_X4_144 : LkV RX4 144 jJ0_length_8abf5 0 := ⟨⟨wd_369, ⟨rfl, (by rw [cwd_nil rfl]; exact wd_372)⟩, wd_103, ⟨by decide +kernel, by decide +kernel⟩, by decide +kernel⟩, wd_370, wd_371⟩
theorem wd_382 : (Jvm.Cond.code ({ cls := "java/lang/String", name := "charAt", desc := "(I)C" } : Jvm.MethodName) prog_16_method_56_code (2 : Nat) (Option.some Jvm.ClassFile.FieldType.char)) ∈ WS := ws_c2 48 rfl rfl
theorem wd_379 : (Jvm.Cond.methodLink "BitDesk$Reader" (149 : Nat) ({ cls := "java/lang/String", name := "charAt", desc := "(I)C" } : Jvm.MethodName)) ∈ WS := ws_c2 45 rfl rfl
theorem wd_380 : (Jvm.Cond.instanceMethod ({ cls := "java/lang/String", name := "charAt", desc := "(I)C" } : Jvm.MethodName)) ∈ WS := ws_c2 46 rfl rfl
theorem wd_381 : (Jvm.Cond.selects "java/lang/String" ({ cls := "java/lang/String", name := "charAt", desc := "(I)C" } : Jvm.MethodName) ({ cls := "java/lang/String", name := "charAt", desc := "(I)C" } : Jvm.MethodName)) ∈ WS := ws_c2 47 rfl rfl
theorem lk_X4_149 : LkV RX4 149 jJ0_charAt_5068e 1 := ⟨⟨wd_379, ⟨rfl, (by rw [cwd_nil rfl]; exact wd_382)⟩, wd_103, ⟨by decide +kernel, by decide +kernel⟩, by decide +kernel⟩, wd_380, wd_381⟩
theorem wd_160 : (Jvm.Cond.methodLink "BitDesk$State" (3 : Nat) ({ cls := "java/lang/Object", name := "<init>", desc := "()V" } : Jvm.MethodName)) ∈ WS := ws_c1 66 rfl rfl
theorem wd_161 : (Jvm.Cond.classLink "BitDesk$State" (9 : Nat) "BitDesk$Matrix") ∈ WS := ws_c1 67 rfl rfl
theorem wd_191 : (Jvm.Cond.fieldLink "BitDesk$State" (11 : Nat) "BitDesk$State" "slots" "[LBitDesk$Matrix;") ∈ WS := ws_c1 97 rfl rfl
theorem fp_X5_11 : FP RX5 11 5 0 (.array (.object "BitDesk$Matrix")) true := ⟨RX5, TX5, 5, tyX5, rfl, by decide, rfl, rfl, (Or.inl wd_191), inW5, tyX5_ok, nmX5, rfl, tyX5_ok 0 (by decide), rfl⟩
theorem fk_X5_11 : FK RX5 11 5 0 (.array (.object "BitDesk$Matrix")) := ⟨RX5, TX5, 5, rfl, by decide, rfl, rfl, (Or.inl wd_191), inW5⟩
theorem wd_163 : (Jvm.Cond.instantiable "BitDesk$Matrix" (5 : Nat)) ∈ WS := ws_c1 69 rfl rfl
theorem wd_166 : (Jvm.Cond.code ({ cls := "BitDesk$Matrix", name := "<init>", desc := "()V" } : Jvm.MethodName) prog_4_method_1_code (1 : Nat) (Option.none : Option Jvm.ClassFile.FieldType)) ∈ WS := ws_c1 72 rfl rfl
theorem wd_164 : (Jvm.Cond.methodLink "BitDesk$State" (17 : Nat) ({ cls := "BitDesk$Matrix", name := "<init>", desc := "()V" } : Jvm.MethodName)) ∈ WS := ws_c1 70 rfl rfl
theorem wd_165 : (Jvm.Cond.instanceMethod ({ cls := "BitDesk$Matrix", name := "<init>", desc := "()V" } : Jvm.MethodName)) ∈ WS := ws_c1 71 rfl rfl
theorem lk_X5_17 : LkI RX5 17 jX2_init 0 := ⟨⟨wd_164, ⟨rfl, (by rw [cwd_nil rfl]; exact wd_166)⟩, wd_98, ⟨by decide +kernel, by decide +kernel⟩, by decide +kernel⟩, wd_165, rfl, rfl⟩
theorem wd_194 : (Jvm.Cond.fieldLink "BitDesk$State" (18 : Nat) "BitDesk$State" "size" "I") ∈ WS := ws_c1 100 rfl rfl
theorem fp_X5_18 : FP RX5 18 5 1 (.int) false := ⟨RX5, TX5, 5, tyX5, rfl, by decide, rfl, rfl, (Or.inl wd_194), inW5, tyX5_ok, nmX5, rfl, tyX5_ok 1 (by decide), rfl⟩
theorem wd_198 : (Jvm.Cond.fieldLink "BitDesk$State" (22 : Nat) "BitDesk$State" "block" "I") ∈ WS := ws_c1 104 rfl rfl
theorem fp_X5_22 : FP RX5 22 5 2 (.int) false := ⟨RX5, TX5, 5, tyX5, rfl, by decide, rfl, rfl, (Or.inl wd_198), inW5, tyX5_ok, nmX5, rfl, tyX5_ok 2 (by decide), rfl⟩
theorem wd_439 : (Jvm.Cond.code ({ cls := "BitDesk$Matrix", name := "makeEmpty", desc := "()V" } : Jvm.MethodName) prog_4_method_2_code (2 : Nat) (Option.none : Option Jvm.ClassFile.FieldType)) ∈ WS := ws_c2 105 rfl rfl
theorem wd_436 : (Jvm.Cond.methodLink "BitDesk$State" (25 : Nat) ({ cls := "BitDesk$Matrix", name := "makeEmpty", desc := "()V" } : Jvm.MethodName)) ∈ WS := ws_c2 102 rfl rfl
theorem wd_437 : (Jvm.Cond.instanceMethod ({ cls := "BitDesk$Matrix", name := "makeEmpty", desc := "()V" } : Jvm.MethodName)) ∈ WS := ws_c2 103 rfl rfl
theorem wd_438 : (Jvm.Cond.selects "BitDesk$Matrix" ({ cls := "BitDesk$Matrix", name := "makeEmpty", desc := "()V" } : Jvm.MethodName) ({ cls := "BitDesk$Matrix", name := "makeEmpty", desc := "()V" } : Jvm.MethodName)) ∈ WS := ws_c2 104 rfl rfl
theorem lk_X5_25 : LkV RX5 25 jX2_makeEmpty 0 := ⟨⟨wd_436, ⟨rfl, (by rw [cwd_nil rfl]; exact wd_439)⟩, wd_98, ⟨by decide +kernel, by decide +kernel⟩, by decide +kernel⟩, wd_437, wd_438⟩
theorem wd_202 : (Jvm.Cond.fieldLink "BitDesk$State" (28 : Nat) "BitDesk$State" "entriesMade" "I") ∈ WS := ws_c1 108 rfl rfl
theorem fp_X5_28 : FP RX5 28 5 3 (.int) false := ⟨RX5, TX5, 5, tyX5, rfl, by decide, rfl, rfl, (Or.inl wd_202), inW5, tyX5_ok, nmX5, rfl, tyX5_ok 3 (by decide), rfl⟩
theorem wd_204 : (Jvm.Cond.fieldLink "BitDesk$State" (31 : Nat) "BitDesk$State" "entriesTaken" "I") ∈ WS := ws_c1 110 rfl rfl
theorem fp_X5_31 : FP RX5 31 5 4 (.int) false := ⟨RX5, TX5, 5, tyX5, rfl, by decide, rfl, rfl, (Or.inl wd_204), inW5, tyX5_ok, nmX5, rfl, tyX5_ok 4 (by decide), rfl⟩
theorem wd_507 : (Jvm.Cond.code ({ cls := "BitDesk$Matrix", name := "takeFrom", desc := "(LBitDesk$Matrix;)V" } : Jvm.MethodName) prog_4_method_3_code (2 : Nat) (Option.none : Option Jvm.ClassFile.FieldType)) ∈ WS := ws_c2 173 rfl rfl
theorem wd_504 : (Jvm.Cond.methodLink "BitDesk$State" (34 : Nat) ({ cls := "BitDesk$Matrix", name := "takeFrom", desc := "(LBitDesk$Matrix;)V" } : Jvm.MethodName)) ∈ WS := ws_c2 170 rfl rfl
theorem wd_505 : (Jvm.Cond.instanceMethod ({ cls := "BitDesk$Matrix", name := "takeFrom", desc := "(LBitDesk$Matrix;)V" } : Jvm.MethodName)) ∈ WS := ws_c2 171 rfl rfl
theorem wd_506 : (Jvm.Cond.selects "BitDesk$Matrix" ({ cls := "BitDesk$Matrix", name := "takeFrom", desc := "(LBitDesk$Matrix;)V" } : Jvm.MethodName) ({ cls := "BitDesk$Matrix", name := "takeFrom", desc := "(LBitDesk$Matrix;)V" } : Jvm.MethodName)) ∈ WS := ws_c2 172 rfl rfl
theorem lk_X5_34 : LkV RX5 34 jX2_takeFrom 1 := ⟨⟨wd_504, ⟨rfl, (by rw [cwd_nil rfl]; exact wd_507)⟩, wd_98, ⟨by decide +kernel, by decide +kernel⟩, by decide +kernel⟩, wd_505, wd_506⟩
theorem fk_X5_18 : FK RX5 18 5 1 (.int) := ⟨RX5, TX5, 5, rfl, by decide, rfl, rfl, (Or.inl wd_194), inW5⟩
theorem fk_X5_22 : FK RX5 22 5 2 (.int) := ⟨RX5, TX5, 5, rfl, by decide, rfl, rfl, (Or.inl wd_198), inW5⟩
theorem fk_X5_28 : FK RX5 28 5 3 (.int) := ⟨RX5, TX5, 5, rfl, by decide, rfl, rfl, (Or.inl wd_202), inW5⟩
theorem fk_X5_31 : FK RX5 31 5 4 (.int) := ⟨RX5, TX5, 5, rfl, by decide, rfl, rfl, (Or.inl wd_204), inW5⟩
theorem wd_120 : (Jvm.Cond.methodLink "BitDesk" (1 : Nat) ({ cls := "java/lang/Object", name := "<init>", desc := "()V" } : Jvm.MethodName)) ∈ WS := ws_c1 26 rfl rfl
theorem wd_123 : (Jvm.Cond.classLink "BitDesk" (7 : Nat) "BitDesk$Reader") ∈ WS := ws_c1 29 rfl rfl
theorem wd_124 : (Jvm.Cond.instantiable "BitDesk$Reader" (7 : Nat)) ∈ WS := ws_c1 30 rfl rfl
theorem wd_127 : (Jvm.Cond.code ({ cls := "BitDesk$Reader", name := "<init>", desc := "()V" } : Jvm.MethodName) prog_6_method_1_code (1 : Nat) (Option.none : Option Jvm.ClassFile.FieldType)) ∈ WS := ws_c1 33 rfl rfl
theorem wd_125 : (Jvm.Cond.methodLink "BitDesk" (9 : Nat) ({ cls := "BitDesk$Reader", name := "<init>", desc := "()V" } : Jvm.MethodName)) ∈ WS := ws_c1 31 rfl rfl
theorem wd_126 : (Jvm.Cond.instanceMethod ({ cls := "BitDesk$Reader", name := "<init>", desc := "()V" } : Jvm.MethodName)) ∈ WS := ws_c1 32 rfl rfl
theorem lk_X6_9 : LkI RX6 9 jX4_init 0 := ⟨⟨wd_125, ⟨rfl, (by rw [cwd_nil rfl]; exact wd_127)⟩, wd_96, ⟨by decide +kernel, by decide +kernel⟩, by decide +kernel⟩, wd_126, rfl, rfl⟩
theorem wd_289 : (Jvm.Cond.fieldLink "BitDesk" (10 : Nat) "BitDesk" "reader" "LBitDesk$Reader;") ∈ WS := ws_c1 195 rfl rfl
theorem fp_X6_10 : FP RX6 10 6 0 (.object "BitDesk$Reader") true := ⟨RX6, TX6, 15, tyX6, rfl, by decide, rfl, rfl, (Or.inl wd_289), inW6, tyX6_ok, nmX6, rfl, tyX6_ok 0 (by decide), rfl⟩
theorem wd_155 : (Jvm.Cond.classLink "BitDesk" (16 : Nat) "BitDesk$State") ∈ WS := ws_c1 61 rfl rfl
theorem wd_156 : (Jvm.Cond.instantiable "BitDesk$State" (5 : Nat)) ∈ WS := ws_c1 62 rfl rfl
theorem wd_159 : (Jvm.Cond.code ({ cls := "BitDesk$State", name := "<init>", desc := "()V" } : Jvm.MethodName) prog_7_method_1_code (2 : Nat) (Option.none : Option Jvm.ClassFile.FieldType)) ∈ WS := ws_c1 65 rfl rfl
theorem wd_157 : (Jvm.Cond.methodLink "BitDesk" (18 : Nat) ({ cls := "BitDesk$State", name := "<init>", desc := "()V" } : Jvm.MethodName)) ∈ WS := ws_c1 63 rfl rfl
theorem wd_158 : (Jvm.Cond.instanceMethod ({ cls := "BitDesk$State", name := "<init>", desc := "()V" } : Jvm.MethodName)) ∈ WS := ws_c1 64 rfl rfl
theorem lk_X6_18 : LkI RX6 18 jX5_init 0 := ⟨⟨wd_157, ⟨rfl, (by rw [cwd_nil rfl]; exact wd_159)⟩, wd_97, ⟨by decide +kernel, by decide +kernel⟩, by decide +kernel⟩, wd_158, rfl, rfl⟩
theorem wd_290 : (Jvm.Cond.fieldLink "BitDesk" (19 : Nat) "BitDesk" "state" "LBitDesk$State;") ∈ WS := ws_c1 196 rfl rfl
theorem fp_X6_19 : FP RX6 19 6 1 (.object "BitDesk$State") true := ⟨RX6, TX6, 15, tyX6, rfl, by decide, rfl, rfl, (Or.inl wd_290), inW6, tyX6_ok, nmX6, rfl, tyX6_ok 1 (by decide), rfl⟩
theorem wd_291 : (Jvm.Cond.fieldLink "BitDesk" (23 : Nat) "BitDesk" "described" "LBitDesk$State;") ∈ WS := ws_c1 197 rfl rfl
theorem fp_X6_23 : FP RX6 23 6 2 (.object "BitDesk$State") true := ⟨RX6, TX6, 15, tyX6, rfl, by decide, rfl, rfl, (Or.inl wd_291), inW6, tyX6_ok, nmX6, rfl, tyX6_ok 2 (by decide), rfl⟩
theorem wd_292 : (Jvm.Cond.fieldLink "BitDesk" (26 : Nat) "BitDesk" "past" "[LBitDesk$State;") ∈ WS := ws_c1 198 rfl rfl
theorem fp_X6_26 : FP RX6 26 6 3 (.array (.object "BitDesk$State")) true := ⟨RX6, TX6, 15, tyX6, rfl, by decide, rfl, rfl, (Or.inl wd_292), inW6, tyX6_ok, nmX6, rfl, tyX6_ok 3 (by decide), rfl⟩
theorem fk_X6_26 : FK RX6 26 6 3 (.array (.object "BitDesk$State")) := ⟨RX6, TX6, 15, rfl, by decide, rfl, rfl, (Or.inl wd_292), inW6⟩
theorem wd_295 : (Jvm.Cond.fieldLink "BitDesk" (30 : Nat) "BitDesk" "snapshots" "[LBitDesk$State;") ∈ WS := ws_c1 201 rfl rfl
theorem fp_X6_30 : FP RX6 30 6 6 (.array (.object "BitDesk$State")) true := ⟨RX6, TX6, 15, tyX6, rfl, by decide, rfl, rfl, (Or.inl wd_295), inW6, tyX6_ok, nmX6, rfl, tyX6_ok 6 (by decide), rfl⟩
theorem fk_X6_30 : FK RX6 30 6 6 (.array (.object "BitDesk$State")) := ⟨RX6, TX6, 15, rfl, by decide, rfl, rfl, (Or.inl wd_295), inW6⟩
theorem wd_296 : (Jvm.Cond.fieldLink "BitDesk" (33 : Nat) "BitDesk" "isSaved" "[Z") ∈ WS := ws_c1 202 rfl rfl
theorem fp_X6_33 : FP RX6 33 6 7 (.array .boolean) true := ⟨RX6, TX6, 15, tyX6, rfl, by decide, rfl, rfl, (Or.inl wd_296), inW6, tyX6_ok, nmX6, rfl, tyX6_ok 7 (by decide), rfl⟩
theorem wd_218 : (Jvm.Cond.classLink "BitDesk" (37 : Nat) "BitDesk$Closure") ∈ WS := ws_c1 124 rfl rfl
theorem wd_297 : (Jvm.Cond.fieldLink "BitDesk" (39 : Nat) "BitDesk" "closures" "[LBitDesk$Closure;") ∈ WS := ws_c1 203 rfl rfl
theorem fp_X6_39 : FP RX6 39 6 8 (.array (.object "BitDesk$Closure")) true := ⟨RX6, TX6, 15, tyX6, rfl, by decide, rfl, rfl, (Or.inl wd_297), inW6, tyX6_ok, nmX6, rfl, tyX6_ok 8 (by decide), rfl⟩
theorem fk_X6_39 : FK RX6 39 6 8 (.array (.object "BitDesk$Closure")) := ⟨RX6, TX6, 15, rfl, by decide, rfl, rfl, (Or.inl wd_297), inW6⟩
theorem wd_220 : (Jvm.Cond.instantiable "BitDesk$Closure" (2 : Nat)) ∈ WS := ws_c1 126 rfl rfl
theorem wd_223 : (Jvm.Cond.code ({ cls := "BitDesk$Closure", name := "<init>", desc := "()V" } : Jvm.MethodName) prog_2_method_1_code (1 : Nat) (Option.none : Option Jvm.ClassFile.FieldType)) ∈ WS := ws_c1 129 rfl rfl
theorem wd_221 : (Jvm.Cond.methodLink "BitDesk" (43 : Nat) ({ cls := "BitDesk$Closure", name := "<init>", desc := "()V" } : Jvm.MethodName)) ∈ WS := ws_c1 127 rfl rfl
theorem wd_222 : (Jvm.Cond.instanceMethod ({ cls := "BitDesk$Closure", name := "<init>", desc := "()V" } : Jvm.MethodName)) ∈ WS := ws_c1 128 rfl rfl
theorem lk_X6_43 : LkI RX6 43 jX0_init 0 := ⟨⟨wd_221, ⟨rfl, (by rw [cwd_nil rfl]; exact wd_223)⟩, wd_99, ⟨by decide +kernel, by decide +kernel⟩, by decide +kernel⟩, wd_222, rfl, rfl⟩
theorem wd_235 : (Jvm.Cond.classLink "BitDesk" (44 : Nat) "BitDesk$Multiplier") ∈ WS := ws_c1 141 rfl rfl
theorem wd_236 : (Jvm.Cond.instantiable "BitDesk$Multiplier" (8 : Nat)) ∈ WS := ws_c1 142 rfl rfl
theorem wd_239 : (Jvm.Cond.code ({ cls := "BitDesk$Multiplier", name := "<init>", desc := "()V" } : Jvm.MethodName) prog_5_method_1_code (1 : Nat) (Option.none : Option Jvm.ClassFile.FieldType)) ∈ WS := ws_c1 145 rfl rfl
theorem wd_237 : (Jvm.Cond.methodLink "BitDesk" (46 : Nat) ({ cls := "BitDesk$Multiplier", name := "<init>", desc := "()V" } : Jvm.MethodName)) ∈ WS := ws_c1 143 rfl rfl
theorem wd_238 : (Jvm.Cond.instanceMethod ({ cls := "BitDesk$Multiplier", name := "<init>", desc := "()V" } : Jvm.MethodName)) ∈ WS := ws_c1 144 rfl rfl
theorem lk_X6_46 : LkI RX6 46 jX3_init 0 := ⟨⟨wd_237, ⟨rfl, (by rw [cwd_nil rfl]; exact wd_239)⟩, wd_100, ⟨by decide +kernel, by decide +kernel⟩, by decide +kernel⟩, wd_238, rfl, rfl⟩
theorem wd_298 : (Jvm.Cond.fieldLink "BitDesk" (47 : Nat) "BitDesk" "multiplier" "LBitDesk$Multiplier;") ∈ WS := ws_c1 204 rfl rfl
theorem fp_X6_47 : FP RX6 47 6 9 (.object "BitDesk$Multiplier") true := ⟨RX6, TX6, 15, tyX6, rfl, by decide, rfl, rfl, (Or.inl wd_298), inW6, tyX6_ok, nmX6, rfl, tyX6_ok 9 (by decide), rfl⟩
theorem wd_268 : (Jvm.Cond.classLink "BitDesk" (51 : Nat) "BitDesk$Elimination") ∈ WS := ws_c1 174 rfl rfl
theorem wd_269 : (Jvm.Cond.instantiable "BitDesk$Elimination" (4 : Nat)) ∈ WS := ws_c1 175 rfl rfl
theorem wd_272 : (Jvm.Cond.code ({ cls := "BitDesk$Elimination", name := "<init>", desc := "()V" } : Jvm.MethodName) prog_3_method_1_code (1 : Nat) (Option.none : Option Jvm.ClassFile.FieldType)) ∈ WS := ws_c1 178 rfl rfl
theorem wd_270 : (Jvm.Cond.methodLink "BitDesk" (53 : Nat) ({ cls := "BitDesk$Elimination", name := "<init>", desc := "()V" } : Jvm.MethodName)) ∈ WS := ws_c1 176 rfl rfl
theorem wd_271 : (Jvm.Cond.instanceMethod ({ cls := "BitDesk$Elimination", name := "<init>", desc := "()V" } : Jvm.MethodName)) ∈ WS := ws_c1 177 rfl rfl
theorem lk_X6_53 : LkI RX6 53 jX1_init 0 := ⟨⟨wd_270, ⟨rfl, (by rw [cwd_nil rfl]; exact wd_272)⟩, wd_101, ⟨by decide +kernel, by decide +kernel⟩, by decide +kernel⟩, wd_271, rfl, rfl⟩
theorem wd_299 : (Jvm.Cond.fieldLink "BitDesk" (54 : Nat) "BitDesk" "elimination" "LBitDesk$Elimination;") ∈ WS := ws_c1 205 rfl rfl
theorem fp_X6_54 : FP RX6 54 6 10 (.object "BitDesk$Elimination") true := ⟨RX6, TX6, 15, tyX6, rfl, by decide, rfl, rfl, (Or.inl wd_299), inW6, tyX6_ok, nmX6, rfl, tyX6_ok 10 (by decide), rfl⟩
theorem wd_300 : (Jvm.Cond.fieldLink "BitDesk" (58 : Nat) "BitDesk" "made" "[I") ∈ WS := ws_c1 206 rfl rfl
theorem fp_X6_58 : FP RX6 58 6 11 (.array .int) true := ⟨RX6, TX6, 15, tyX6, rfl, by decide, rfl, rfl, (Or.inl wd_300), inW6, tyX6_ok, nmX6, rfl, tyX6_ok 11 (by decide), rfl⟩
theorem wd_301 : (Jvm.Cond.fieldLink "BitDesk" (62 : Nat) "BitDesk" "levels" "[I") ∈ WS := ws_c1 207 rfl rfl
theorem fp_X6_62 : FP RX6 62 6 12 (.array .int) true := ⟨RX6, TX6, 15, tyX6, rfl, by decide, rfl, rfl, (Or.inl wd_301), inW6, tyX6_ok, nmX6, rfl, tyX6_ok 12 (by decide), rfl⟩
theorem wd_302 : (Jvm.Cond.fieldLink "BitDesk" (65 : Nat) "BitDesk" "output" "[I") ∈ WS := ws_c1 208 rfl rfl
theorem fp_X6_65 : FP RX6 65 6 13 (.array .int) true := ⟨RX6, TX6, 15, tyX6, rfl, by decide, rfl, rfl, (Or.inl wd_302), inW6, tyX6_ok, nmX6, rfl, tyX6_ok 13 (by decide), rfl⟩
theorem fk_X6_10 : FK RX6 10 6 0 (.object "BitDesk$Reader") := ⟨RX6, TX6, 15, rfl, by decide, rfl, rfl, (Or.inl wd_289), inW6⟩
theorem wd_342 : (Jvm.Cond.code ({ cls := "BitDesk$Reader", name := "addBytes", desc := "(J)I" } : Jvm.MethodName) prog_6_method_2_code (6 : Nat) (Option.some Jvm.ClassFile.FieldType.int)) ∈ WS := ws_c2 8 rfl rfl
theorem wd_339 : (Jvm.Cond.methodLink "BitDesk" (68 : Nat) ({ cls := "BitDesk$Reader", name := "addBytes", desc := "(J)I" } : Jvm.MethodName)) ∈ WS := ws_c2 5 rfl rfl
theorem wd_340 : (Jvm.Cond.instanceMethod ({ cls := "BitDesk$Reader", name := "addBytes", desc := "(J)I" } : Jvm.MethodName)) ∈ WS := ws_c2 6 rfl rfl
theorem wd_341 : (Jvm.Cond.selects "BitDesk$Reader" ({ cls := "BitDesk$Reader", name := "addBytes", desc := "(J)I" } : Jvm.MethodName) ({ cls := "BitDesk$Reader", name := "addBytes", desc := "(J)I" } : Jvm.MethodName)) ∈ WS := ws_c2 7 rfl rfl
theorem lk_X6_68 : LkV RX6 68 jX4_addBytes 1 := ⟨⟨wd_339, ⟨rfl, (by rw [cwd_nil rfl]; exact wd_342)⟩, wd_96, ⟨by decide +kernel, by decide +kernel⟩, by decide +kernel⟩, wd_340, wd_341⟩
theorem fk_X6_23 : FK RX6 23 6 2 (.object "BitDesk$State") := ⟨RX6, TX6, 15, rfl, by decide, rfl, rfl, (Or.inl wd_291), inW6⟩
theorem wd_351 : (Jvm.Cond.code ({ cls := "BitDesk$Reader", name := "readInto", desc := "(LBitDesk$State;)V" } : Jvm.MethodName) prog_6_method_3_code (3 : Nat) (Option.none : Option Jvm.ClassFile.FieldType)) ∈ WS := ws_c2 17 rfl rfl
theorem wd_348 : (Jvm.Cond.methodLink "BitDesk" (72 : Nat) ({ cls := "BitDesk$Reader", name := "readInto", desc := "(LBitDesk$State;)V" } : Jvm.MethodName)) ∈ WS := ws_c2 14 rfl rfl
theorem wd_349 : (Jvm.Cond.instanceMethod ({ cls := "BitDesk$Reader", name := "readInto", desc := "(LBitDesk$State;)V" } : Jvm.MethodName)) ∈ WS := ws_c2 15 rfl rfl
theorem wd_350 : (Jvm.Cond.selects "BitDesk$Reader" ({ cls := "BitDesk$Reader", name := "readInto", desc := "(LBitDesk$State;)V" } : Jvm.MethodName) ({ cls := "BitDesk$Reader", name := "readInto", desc := "(LBitDesk$State;)V" } : Jvm.MethodName)) ∈ WS := ws_c2 16 rfl rfl
theorem lk_X6_72 : LkV RX6 72 jX4_readInto 1 := ⟨⟨wd_348, ⟨rfl, (by rw [cwd_nil rfl]; exact wd_351)⟩, wd_96, ⟨by decide +kernel, by decide +kernel⟩, by decide +kernel⟩, wd_349, wd_350⟩
theorem fk_X6_76 : FK RX6 76 4 5 (.int) := ⟨RX4, TX4, 7, rfl, by decide, rfl, rfl, (Or.inr ⟨_, wn_f1⟩), inW4⟩
theorem fk_X6_80 : FK RX6 80 4 6 (.int) := ⟨RX4, TX4, 7, rfl, by decide, rfl, rfl, (Or.inr ⟨_, wn_f2⟩), inW4⟩
theorem wd_499 : (Jvm.Cond.code ({ cls := "BitDesk", name := "replaceState", desc := "(LBitDesk$State;)V" } : Jvm.MethodName) prog_1_method_68_code (2 : Nat) (Option.none : Option Jvm.ClassFile.FieldType)) ∈ WS := ws_c2 165 rfl rfl
theorem wd_496 : (Jvm.Cond.methodLink "BitDesk" (83 : Nat) ({ cls := "BitDesk", name := "replaceState", desc := "(LBitDesk$State;)V" } : Jvm.MethodName)) ∈ WS := ws_c2 162 rfl rfl
theorem wd_498 : (Jvm.Cond.instanceMethod ({ cls := "BitDesk", name := "replaceState", desc := "(LBitDesk$State;)V" } : Jvm.MethodName)) ∈ WS := ws_c2 164 rfl rfl
theorem wd_16 : (Jvm.Cond.selects "BitDesk" (⟨"BitDesk", "replaceState", "(LBitDesk$State;)V"⟩ : Jvm.MethodName) (⟨"BitDesk", "replaceState", "(LBitDesk$State;)V"⟩ : Jvm.MethodName)) ∈ WS := ws_c0 16 rfl rfl
theorem lk_X6_83 : LkV RX6 83 jX6_replaceState 1 := ⟨⟨wd_496, ⟨rfl, (by rw [cwd_nil rfl]; exact wd_499)⟩, wd_95, ⟨by decide +kernel, by decide +kernel⟩, by decide +kernel⟩, wd_498, wd_16⟩
theorem wd_303 : (Jvm.Cond.fieldLink "BitDesk" (86 : Nat) "BitDesk" "outputLength" "I") ∈ WS := ws_c1 209 rfl rfl
theorem fp_X6_86 : FP RX6 86 6 14 (.int) false := ⟨RX6, TX6, 15, tyX6, rfl, by decide, rfl, rfl, (Or.inl wd_303), inW6, tyX6_ok, nmX6, rfl, tyX6_ok 14 (by decide), rfl⟩
theorem fk_X6_19 : FK RX6 19 6 1 (.object "BitDesk$State") := ⟨RX6, TX6, 15, rfl, by decide, rfl, rfl, (Or.inl wd_290), inW6⟩
theorem fk_X6_89 : FK RX6 89 5 1 (.int) := ⟨RX5, TX5, 5, rfl, by decide, rfl, rfl, (Or.inr ⟨_, wn_f13⟩), inW5⟩
theorem fk_X6_92 : FK RX6 92 4 4 (.int) := ⟨RX4, TX4, 7, rfl, by decide, rfl, rfl, (Or.inr ⟨_, wn_f0⟩), inW4⟩
theorem wd_543 : (Jvm.Cond.code ({ cls := "BitDesk", name := "needRange", desc := "(III)V" } : Jvm.MethodName) prog_1_method_64_code (4 : Nat) (Option.none : Option Jvm.ClassFile.FieldType)) ∈ WS := ws_c2 209 rfl rfl
theorem wd_540 : (Jvm.Cond.methodLink "BitDesk" (95 : Nat) ({ cls := "BitDesk", name := "needRange", desc := "(III)V" } : Jvm.MethodName)) ∈ WS := ws_c2 206 rfl rfl
theorem wd_542 : (Jvm.Cond.instanceMethod ({ cls := "BitDesk", name := "needRange", desc := "(III)V" } : Jvm.MethodName)) ∈ WS := ws_c2 208 rfl rfl
theorem wd_18 : (Jvm.Cond.selects "BitDesk" (⟨"BitDesk", "needRange", "(III)V"⟩ : Jvm.MethodName) (⟨"BitDesk", "needRange", "(III)V"⟩ : Jvm.MethodName)) ∈ WS := ws_c0 18 rfl rfl
theorem lk_X6_95 : LkV RX6 95 jX6_needRange 3 := ⟨⟨wd_540, ⟨rfl, (by rw [cwd_nil rfl]; exact wd_543)⟩, wd_95, ⟨by decide +kernel, by decide +kernel⟩, by decide +kernel⟩, wd_542, wd_18⟩
theorem fk_X6_99 : FK RX6 99 5 2 (.int) := ⟨RX5, TX5, 5, rfl, by decide, rfl, rfl, (Or.inr ⟨_, wn_f17⟩), inW5⟩
theorem wd_613 : (Jvm.Cond.code ({ cls := "BitDesk", name := "keptSlots", desc := "()I" } : Jvm.MethodName) prog_1_method_66_code (3 : Nat) (Option.some Jvm.ClassFile.FieldType.int)) ∈ WS := ws_c3 39 rfl rfl
theorem wd_610 : (Jvm.Cond.methodLink "BitDesk" (102 : Nat) ({ cls := "BitDesk", name := "keptSlots", desc := "()I" } : Jvm.MethodName)) ∈ WS := ws_c3 36 rfl rfl
theorem wd_612 : (Jvm.Cond.instanceMethod ({ cls := "BitDesk", name := "keptSlots", desc := "()I" } : Jvm.MethodName)) ∈ WS := ws_c3 38 rfl rfl
theorem wd_20 : (Jvm.Cond.selects "BitDesk" (⟨"BitDesk", "keptSlots", "()I"⟩ : Jvm.MethodName) (⟨"BitDesk", "keptSlots", "()I"⟩ : Jvm.MethodName)) ∈ WS := ws_c0 20 rfl rfl
theorem lk_X6_102 : LkV RX6 102 jX6_keptSlots 0 := ⟨⟨wd_610, ⟨rfl, (by rw [cwd_nil rfl]; exact wd_613)⟩, wd_95, ⟨by decide +kernel, by decide +kernel⟩, by decide +kernel⟩, wd_612, wd_20⟩
theorem wd_294 : (Jvm.Cond.fieldLink "BitDesk" (106 : Nat) "BitDesk" "pastCount" "I") ∈ WS := ws_c1 200 rfl rfl
theorem fk_X6_106 : FK RX6 106 6 5 (.int) := ⟨RX6, TX6, 15, rfl, by decide, rfl, rfl, (Or.inl wd_294), inW6⟩
theorem wd_625 : (Jvm.Cond.code ({ cls := "BitDesk", name := "needCell", desc := "(III)V" } : Jvm.MethodName) prog_1_method_63_code (4 : Nat) (Option.none : Option Jvm.ClassFile.FieldType)) ∈ WS := ws_c3 51 rfl rfl
theorem wd_622 : (Jvm.Cond.methodLink "BitDesk" (109 : Nat) ({ cls := "BitDesk", name := "needCell", desc := "(III)V" } : Jvm.MethodName)) ∈ WS := ws_c3 48 rfl rfl
theorem wd_624 : (Jvm.Cond.instanceMethod ({ cls := "BitDesk", name := "needCell", desc := "(III)V" } : Jvm.MethodName)) ∈ WS := ws_c3 50 rfl rfl
theorem wd_21 : (Jvm.Cond.selects "BitDesk" (⟨"BitDesk", "needCell", "(III)V"⟩ : Jvm.MethodName) (⟨"BitDesk", "needCell", "(III)V"⟩ : Jvm.MethodName)) ∈ WS := ws_c0 21 rfl rfl
theorem lk_X6_109 : LkV RX6 109 jX6_needCell 3 := ⟨⟨wd_622, ⟨rfl, (by rw [cwd_nil rfl]; exact wd_625)⟩, wd_95, ⟨by decide +kernel, by decide +kernel⟩, by decide +kernel⟩, wd_624, wd_21⟩
theorem wd_658 : (Jvm.Cond.code ({ cls := "BitDesk", name := "rowsOf", desc := "(I)[I" } : Jvm.MethodName) prog_1_method_65_code (2 : Nat) (Option.some (Jvm.ClassFile.FieldType.array Jvm.ClassFile.FieldType.int))) ∈ WS := ws_c3 84 rfl rfl
theorem wd_655 : (Jvm.Cond.methodLink "BitDesk" (112 : Nat) ({ cls := "BitDesk", name := "rowsOf", desc := "(I)[I" } : Jvm.MethodName)) ∈ WS := ws_c3 81 rfl rfl
theorem wd_657 : (Jvm.Cond.instanceMethod ({ cls := "BitDesk", name := "rowsOf", desc := "(I)[I" } : Jvm.MethodName)) ∈ WS := ws_c3 83 rfl rfl
theorem wd_25 : (Jvm.Cond.selects "BitDesk" (⟨"BitDesk", "rowsOf", "(I)[I"⟩ : Jvm.MethodName) (⟨"BitDesk", "rowsOf", "(I)[I"⟩ : Jvm.MethodName)) ∈ WS := ws_c0 25 rfl rfl
theorem lk_X6_112 : LkV RX6 112 jX6_rowsOf 1 := ⟨⟨wd_655, ⟨rfl, (by rw [cwd_nil rfl]; exact wd_658)⟩, wd_95, ⟨by decide +kernel, by decide +kernel⟩, by decide +kernel⟩, wd_657, wd_25⟩
theorem wd_659 : (Jvm.Cond.methodLink "BitDesk" (116 : Nat) ({ cls := "BitDesk", name := "hasOne", desc := "(II)Z" } : Jvm.MethodName)) ∈ WS := ws_c3 85 rfl rfl
theorem lk_X6_116 : LkS RX6 116 jX6_hasOne 2 := ⟨⟨wd_659, ⟨rfl, (by rw [cwd_nil rfl]; exact wd_661)⟩, wd_95, ⟨by decide +kernel, by decide +kernel⟩, by decide +kernel⟩, wd_660⟩
theorem wd_629 : (Jvm.Cond.code ({ cls := "BitDesk", name := "needRow", desc := "(II)V" } : Jvm.MethodName) prog_1_method_62_code (3 : Nat) (Option.none : Option Jvm.ClassFile.FieldType)) ∈ WS := ws_c3 55 rfl rfl
theorem wd_626 : (Jvm.Cond.methodLink "BitDesk" (120 : Nat) ({ cls := "BitDesk", name := "needRow", desc := "(II)V" } : Jvm.MethodName)) ∈ WS := ws_c3 52 rfl rfl
theorem wd_628 : (Jvm.Cond.instanceMethod ({ cls := "BitDesk", name := "needRow", desc := "(II)V" } : Jvm.MethodName)) ∈ WS := ws_c3 54 rfl rfl
theorem wd_22 : (Jvm.Cond.selects "BitDesk" (⟨"BitDesk", "needRow", "(II)V"⟩ : Jvm.MethodName) (⟨"BitDesk", "needRow", "(II)V"⟩ : Jvm.MethodName)) ∈ WS := ws_c0 22 rfl rfl
theorem lk_X6_120 : LkV RX6 120 jX6_needRow 2 := ⟨⟨wd_626, ⟨rfl, (by rw [cwd_nil rfl]; exact wd_629)⟩, wd_95, ⟨by decide +kernel, by decide +kernel⟩, by decide +kernel⟩, wd_628, wd_22⟩
theorem wd_671 : (Jvm.Cond.code ({ cls := "BitDesk", name := "unsigned", desc := "(I)J" } : Jvm.MethodName) prog_1_method_84_code (1 : Nat) (Option.some Jvm.ClassFile.FieldType.long)) ∈ WS := ws_c3 97 rfl rfl
theorem wd_669 : (Jvm.Cond.methodLink "BitDesk" (124 : Nat) ({ cls := "BitDesk", name := "unsigned", desc := "(I)J" } : Jvm.MethodName)) ∈ WS := ws_c3 95 rfl rfl
theorem wd_670 : (Jvm.Cond.static ({ cls := "BitDesk", name := "unsigned", desc := "(I)J" } : Jvm.MethodName)) ∈ WS := ws_c3 96 rfl rfl
theorem lk_X6_124 : LkS RX6 124 jX6_unsigned 1 := ⟨⟨wd_669, ⟨rfl, (by rw [cwd_nil rfl]; exact wd_671)⟩, wd_95, ⟨by decide +kernel, by decide +kernel⟩, by decide +kernel⟩, wd_670⟩
theorem wd_680 : (Jvm.Cond.methodLink "BitDesk" (128 : Nat) ({ cls := "BitDesk", name := "lowest", desc := "(I)I" } : Jvm.MethodName)) ∈ WS := ws_c3 106 rfl rfl
theorem lk_X6_128 : LkS RX6 128 jX6_lowest 1 := ⟨⟨wd_680, ⟨rfl, (by rw [cwd_nil rfl]; exact wd_479)⟩, wd_95, ⟨by decide +kernel, by decide +kernel⟩, by decide +kernel⟩, wd_478⟩
theorem wd_681 : (Jvm.Cond.methodLink "BitDesk" (132 : Nat) ({ cls := "java/lang/Integer", name := "bitCount", desc := "(I)I" } : Jvm.MethodName)) ∈ WS := ws_c3 107 rfl rfl
theorem lk_X6_132 : LkS RX6 132 jJ6_bitCount_0f7a4 1 := ⟨⟨wd_681, ⟨rfl, (by rw [cwd_nil rfl]; exact wd_683)⟩, wd_114, ⟨by decide +kernel, by decide +kernel⟩, by decide +kernel⟩, wd_682⟩
theorem wd_696 : (Jvm.Cond.code ({ cls := "BitDesk", name := "oneAt", desc := "(II)I" } : Jvm.MethodName) prog_1_method_88_code (4 : Nat) (Option.some Jvm.ClassFile.FieldType.int)) ∈ WS := ws_c3 122 rfl rfl
theorem wd_694 : (Jvm.Cond.methodLink "BitDesk" (137 : Nat) ({ cls := "BitDesk", name := "oneAt", desc := "(II)I" } : Jvm.MethodName)) ∈ WS := ws_c3 120 rfl rfl
theorem wd_695 : (Jvm.Cond.static ({ cls := "BitDesk", name := "oneAt", desc := "(II)I" } : Jvm.MethodName)) ∈ WS := ws_c3 121 rfl rfl
theorem lk_X6_137 : LkS RX6 137 jX6_oneAt 2 := ⟨⟨wd_694, ⟨rfl, (by rw [cwd_nil rfl]; exact wd_696)⟩, wd_95, ⟨by decide +kernel, by decide +kernel⟩, by decide +kernel⟩, wd_695⟩
theorem wd_633 : (Jvm.Cond.code ({ cls := "BitDesk", name := "needSlot", desc := "(I)V" } : Jvm.MethodName) prog_1_method_60_code (2 : Nat) (Option.none : Option Jvm.ClassFile.FieldType)) ∈ WS := ws_c3 59 rfl rfl
theorem wd_630 : (Jvm.Cond.methodLink "BitDesk" (141 : Nat) ({ cls := "BitDesk", name := "needSlot", desc := "(I)V" } : Jvm.MethodName)) ∈ WS := ws_c3 56 rfl rfl
theorem wd_632 : (Jvm.Cond.instanceMethod ({ cls := "BitDesk", name := "needSlot", desc := "(I)V" } : Jvm.MethodName)) ∈ WS := ws_c3 58 rfl rfl
theorem wd_23 : (Jvm.Cond.selects "BitDesk" (⟨"BitDesk", "needSlot", "(I)V"⟩ : Jvm.MethodName) (⟨"BitDesk", "needSlot", "(I)V"⟩ : Jvm.MethodName)) ∈ WS := ws_c0 23 rfl rfl
theorem lk_X6_141 : LkV RX6 141 jX6_needSlot 1 := ⟨⟨wd_630, ⟨rfl, (by rw [cwd_nil rfl]; exact wd_633)⟩, wd_95, ⟨by decide +kernel, by decide +kernel⟩, by decide +kernel⟩, wd_632, wd_23⟩
theorem wd_706 : (Jvm.Cond.code ({ cls := "BitDesk", name := "onesOf", desc := "([II)I" } : Jvm.MethodName) prog_1_method_89_code (4 : Nat) (Option.some Jvm.ClassFile.FieldType.int)) ∈ WS := ws_c3 132 rfl rfl
theorem wd_704 : (Jvm.Cond.methodLink "BitDesk" (145 : Nat) ({ cls := "BitDesk", name := "onesOf", desc := "([II)I" } : Jvm.MethodName)) ∈ WS := ws_c3 130 rfl rfl
theorem wd_705 : (Jvm.Cond.static ({ cls := "BitDesk", name := "onesOf", desc := "([II)I" } : Jvm.MethodName)) ∈ WS := ws_c3 131 rfl rfl
theorem lk_X6_145 : LkS RX6 145 jX6_onesOf 2 := ⟨⟨wd_704, ⟨rfl, (by rw [cwd_nil rfl]; exact wd_706)⟩, wd_95, ⟨by decide +kernel, by decide +kernel⟩, by decide +kernel⟩, wd_705⟩
theorem wd_714 : (Jvm.Cond.methodLink "BitDesk" (149 : Nat) ({ cls := "BitDesk", name := "columnOf", desc := "([III)I" } : Jvm.MethodName)) ∈ WS := ws_c3 140 rfl rfl
theorem lk_X6_149 : LkS RX6 149 jX6_columnOf 3 := ⟨⟨wd_714, ⟨rfl, (by rw [cwd_nil rfl]; exact wd_716)⟩, wd_95, ⟨by decide +kernel, by decide +kernel⟩, by decide +kernel⟩, wd_715⟩
theorem wd_727 : (Jvm.Cond.code ({ cls := "BitDesk", name := "firstEqual", desc := "([II)I" } : Jvm.MethodName) prog_1_method_74_code (4 : Nat) (Option.some Jvm.ClassFile.FieldType.int)) ∈ WS := ws_c3 153 rfl rfl
theorem wd_724 : (Jvm.Cond.methodLink "BitDesk" (153 : Nat) ({ cls := "BitDesk", name := "firstEqual", desc := "([II)I" } : Jvm.MethodName)) ∈ WS := ws_c3 150 rfl rfl
theorem wd_726 : (Jvm.Cond.instanceMethod ({ cls := "BitDesk", name := "firstEqual", desc := "([II)I" } : Jvm.MethodName)) ∈ WS := ws_c3 152 rfl rfl
theorem wd_26 : (Jvm.Cond.selects "BitDesk" (⟨"BitDesk", "firstEqual", "([II)I"⟩ : Jvm.MethodName) (⟨"BitDesk", "firstEqual", "([II)I"⟩ : Jvm.MethodName)) ∈ WS := ws_c0 26 rfl rfl
theorem lk_X6_153 : LkV RX6 153 jX6_firstEqual 2 := ⟨⟨wd_724, ⟨rfl, (by rw [cwd_nil rfl]; exact wd_727)⟩, wd_95, ⟨by decide +kernel, by decide +kernel⟩, by decide +kernel⟩, wd_726, wd_26⟩
theorem wd_738 : (Jvm.Cond.code ({ cls := "BitDesk", name := "firstRows", desc := "([II)I" } : Jvm.MethodName) prog_1_method_75_code (5 : Nat) (Option.some Jvm.ClassFile.FieldType.int)) ∈ WS := ws_c3 164 rfl rfl
theorem wd_735 : (Jvm.Cond.methodLink "BitDesk" (156 : Nat) ({ cls := "BitDesk", name := "firstRows", desc := "([II)I" } : Jvm.MethodName)) ∈ WS := ws_c3 161 rfl rfl
theorem wd_737 : (Jvm.Cond.instanceMethod ({ cls := "BitDesk", name := "firstRows", desc := "([II)I" } : Jvm.MethodName)) ∈ WS := ws_c3 163 rfl rfl
theorem wd_27 : (Jvm.Cond.selects "BitDesk" (⟨"BitDesk", "firstRows", "([II)I"⟩ : Jvm.MethodName) (⟨"BitDesk", "firstRows", "([II)I"⟩ : Jvm.MethodName)) ∈ WS := ws_c0 27 rfl rfl
theorem lk_X6_156 : LkV RX6 156 jX6_firstRows 2 := ⟨⟨wd_735, ⟨rfl, (by rw [cwd_nil rfl]; exact wd_738)⟩, wd_95, ⟨by decide +kernel, by decide +kernel⟩, by decide +kernel⟩, wd_737, wd_27⟩
theorem wd_703 : (Jvm.Cond.code ({ cls := "BitDesk", name := "ones", desc := "(I)I" } : Jvm.MethodName) prog_1_method_11_code (2 : Nat) (Option.some Jvm.ClassFile.FieldType.int)) ∈ WS := ws_c3 129 rfl rfl
theorem wd_767 : (Jvm.Cond.methodLink "BitDesk" (159 : Nat) ({ cls := "BitDesk", name := "ones", desc := "(I)I" } : Jvm.MethodName)) ∈ WS := ws_c3 193 rfl rfl
theorem wd_701 : (Jvm.Cond.instanceMethod ({ cls := "BitDesk", name := "ones", desc := "(I)I" } : Jvm.MethodName)) ∈ WS := ws_c3 127 rfl rfl
theorem wd_702 : (Jvm.Cond.selects "BitDesk" ({ cls := "BitDesk", name := "ones", desc := "(I)I" } : Jvm.MethodName) ({ cls := "BitDesk", name := "ones", desc := "(I)I" } : Jvm.MethodName)) ∈ WS := ws_c3 128 rfl rfl
theorem lk_X6_159 : LkV RX6 159 jX6_ones 1 := ⟨⟨wd_767, ⟨rfl, (by rw [cwd_nil rfl]; exact wd_703)⟩, wd_95, ⟨by decide +kernel, by decide +kernel⟩, by decide +kernel⟩, wd_701, wd_702⟩
theorem wd_785 : (Jvm.Cond.code ({ cls := "BitDesk", name := "closureOf", desc := "(I)LBitDesk$Closure;" } : Jvm.MethodName) prog_1_method_70_code (3 : Nat) (Option.some (Jvm.ClassFile.FieldType.object "BitDesk$Closure"))) ∈ WS := ws_c3 211 rfl rfl
theorem wd_782 : (Jvm.Cond.methodLink "BitDesk" (162 : Nat) ({ cls := "BitDesk", name := "closureOf", desc := "(I)LBitDesk$Closure;" } : Jvm.MethodName)) ∈ WS := ws_c3 208 rfl rfl
theorem wd_784 : (Jvm.Cond.instanceMethod ({ cls := "BitDesk", name := "closureOf", desc := "(I)LBitDesk$Closure;" } : Jvm.MethodName)) ∈ WS := ws_c3 210 rfl rfl
theorem wd_28 : (Jvm.Cond.selects "BitDesk" (⟨"BitDesk", "closureOf", "(I)LBitDesk$Closure;"⟩ : Jvm.MethodName) (⟨"BitDesk", "closureOf", "(I)LBitDesk$Closure;"⟩ : Jvm.MethodName)) ∈ WS := ws_c0 28 rfl rfl
theorem lk_X6_162 : LkV RX6 162 jX6_closureOf 1 := ⟨⟨wd_782, ⟨rfl, (by rw [cwd_nil rfl]; exact wd_785)⟩, wd_95, ⟨by decide +kernel, by decide +kernel⟩, by decide +kernel⟩, wd_784, wd_28⟩
theorem fk_X6_166 : FK RX6 166 0 0 (.array .int) := ⟨RX0, TX0, 2, rfl, by decide, rfl, rfl, (Or.inr ⟨_, wn_f20⟩), inW0⟩
theorem wd_805 : (Jvm.Cond.code ({ cls := "BitDesk", name := "pairs", desc := "(I)I" } : Jvm.MethodName) prog_1_method_22_code (2 : Nat) (Option.some Jvm.ClassFile.FieldType.int)) ∈ WS := ws_c3 231 rfl rfl
theorem wd_813 : (Jvm.Cond.methodLink "BitDesk" (169 : Nat) ({ cls := "BitDesk", name := "pairs", desc := "(I)I" } : Jvm.MethodName)) ∈ WS := ws_c3 239 rfl rfl
theorem wd_803 : (Jvm.Cond.instanceMethod ({ cls := "BitDesk", name := "pairs", desc := "(I)I" } : Jvm.MethodName)) ∈ WS := ws_c3 229 rfl rfl
theorem wd_804 : (Jvm.Cond.selects "BitDesk" ({ cls := "BitDesk", name := "pairs", desc := "(I)I" } : Jvm.MethodName) ({ cls := "BitDesk", name := "pairs", desc := "(I)I" } : Jvm.MethodName)) ∈ WS := ws_c3 230 rfl rfl
theorem lk_X6_169 : LkV RX6 169 jX6_pairs 1 := ⟨⟨wd_813, ⟨rfl, (by rw [cwd_nil rfl]; exact wd_805)⟩, wd_95, ⟨by decide +kernel, by decide +kernel⟩, by decide +kernel⟩, wd_803, wd_804⟩
theorem wd_824 : (Jvm.Cond.code ({ cls := "BitDesk$Closure", name := "lowestMutual", desc := "(II)I" } : Jvm.MethodName) prog_2_method_4_code (3 : Nat) (Option.some Jvm.ClassFile.FieldType.int)) ∈ WS := ws_c4 10 rfl rfl
theorem wd_821 : (Jvm.Cond.methodLink "BitDesk" (172 : Nat) ({ cls := "BitDesk$Closure", name := "lowestMutual", desc := "(II)I" } : Jvm.MethodName)) ∈ WS := ws_c4 7 rfl rfl
theorem wd_822 : (Jvm.Cond.instanceMethod ({ cls := "BitDesk$Closure", name := "lowestMutual", desc := "(II)I" } : Jvm.MethodName)) ∈ WS := ws_c4 8 rfl rfl
theorem wd_823 : (Jvm.Cond.selects "BitDesk$Closure" ({ cls := "BitDesk$Closure", name := "lowestMutual", desc := "(II)I" } : Jvm.MethodName) ({ cls := "BitDesk$Closure", name := "lowestMutual", desc := "(II)I" } : Jvm.MethodName)) ∈ WS := ws_c4 9 rfl rfl
theorem lk_X6_172 : LkV RX6 172 jX0_lowestMutual 2 := ⟨⟨wd_821, ⟨rfl, (by rw [cwd_nil rfl]; exact wd_824)⟩, wd_99, ⟨by decide +kernel, by decide +kernel⟩, by decide +kernel⟩, wd_822, wd_823⟩
theorem wd_846 : (Jvm.Cond.code ({ cls := "BitDesk", name := "fewestEdges", desc := "([III)I" } : Jvm.MethodName) prog_1_method_77_code (6 : Nat) (Option.some Jvm.ClassFile.FieldType.int)) ∈ WS := ws_c4 32 rfl rfl
theorem wd_843 : (Jvm.Cond.methodLink "BitDesk" (175 : Nat) ({ cls := "BitDesk", name := "fewestEdges", desc := "([III)I" } : Jvm.MethodName)) ∈ WS := ws_c4 29 rfl rfl
theorem wd_845 : (Jvm.Cond.instanceMethod ({ cls := "BitDesk", name := "fewestEdges", desc := "([III)I" } : Jvm.MethodName)) ∈ WS := ws_c4 31 rfl rfl
theorem wd_29 : (Jvm.Cond.selects "BitDesk" (⟨"BitDesk", "fewestEdges", "([III)I"⟩ : Jvm.MethodName) (⟨"BitDesk", "fewestEdges", "([III)I"⟩ : Jvm.MethodName)) ∈ WS := ws_c0 29 rfl rfl
theorem lk_X6_175 : LkV RX6 175 jX6_fewestEdges 3 := ⟨⟨wd_843, ⟨rfl, (by rw [cwd_nil rfl]; exact wd_846)⟩, wd_95, ⟨by decide +kernel, by decide +kernel⟩, by decide +kernel⟩, wd_845, wd_29⟩
theorem wd_842 : (Jvm.Cond.code ({ cls := "BitDesk", name := "distance", desc := "(III)I" } : Jvm.MethodName) prog_1_method_26_code (4 : Nat) (Option.some Jvm.ClassFile.FieldType.int)) ∈ WS := ws_c4 28 rfl rfl
theorem wd_858 : (Jvm.Cond.methodLink "BitDesk" (178 : Nat) ({ cls := "BitDesk", name := "distance", desc := "(III)I" } : Jvm.MethodName)) ∈ WS := ws_c4 44 rfl rfl
theorem wd_840 : (Jvm.Cond.instanceMethod ({ cls := "BitDesk", name := "distance", desc := "(III)I" } : Jvm.MethodName)) ∈ WS := ws_c4 26 rfl rfl
theorem wd_841 : (Jvm.Cond.selects "BitDesk" ({ cls := "BitDesk", name := "distance", desc := "(III)I" } : Jvm.MethodName) ({ cls := "BitDesk", name := "distance", desc := "(III)I" } : Jvm.MethodName)) ∈ WS := ws_c4 27 rfl rfl
theorem lk_X6_178 : LkV RX6 178 jX6_distance 3 := ⟨⟨wd_858, ⟨rfl, (by rw [cwd_nil rfl]; exact wd_842)⟩, wd_95, ⟨by decide +kernel, by decide +kernel⟩, by decide +kernel⟩, wd_840, wd_841⟩
theorem wd_862 : (Jvm.Cond.code ({ cls := "BitDesk", name := "fillLevels", desc := "([III)V" } : Jvm.MethodName) prog_1_method_78_code (7 : Nat) (Option.none : Option Jvm.ClassFile.FieldType)) ∈ WS := ws_c4 48 rfl rfl
theorem wd_859 : (Jvm.Cond.methodLink "BitDesk" (182 : Nat) ({ cls := "BitDesk", name := "fillLevels", desc := "([III)V" } : Jvm.MethodName)) ∈ WS := ws_c4 45 rfl rfl
theorem wd_861 : (Jvm.Cond.instanceMethod ({ cls := "BitDesk", name := "fillLevels", desc := "([III)V" } : Jvm.MethodName)) ∈ WS := ws_c4 47 rfl rfl
theorem wd_31 : (Jvm.Cond.selects "BitDesk" (⟨"BitDesk", "fillLevels", "([III)V"⟩ : Jvm.MethodName) (⟨"BitDesk", "fillLevels", "([III)V"⟩ : Jvm.MethodName)) ∈ WS := ws_c0 31 rfl rfl
theorem lk_X6_182 : LkV RX6 182 jX6_fillLevels 3 := ⟨⟨wd_859, ⟨rfl, (by rw [cwd_nil rfl]; exact wd_862)⟩, wd_95, ⟨by decide +kernel, by decide +kernel⟩, by decide +kernel⟩, wd_861, wd_31⟩
theorem fk_X6_62 : FK RX6 62 6 12 (.array .int) := ⟨RX6, TX6, 15, rfl, by decide, rfl, rfl, (Or.inl wd_301), inW6⟩
theorem wd_863 : (Jvm.Cond.methodLink "BitDesk" (186 : Nat) ({ cls := "BitDesk", name := "lowestOne", desc := "(I)I" } : Jvm.MethodName)) ∈ WS := ws_c4 49 rfl rfl
theorem lk_X6_186 : LkS RX6 186 jX6_lowestOne 1 := ⟨⟨wd_863, ⟨rfl, (by rw [cwd_nil rfl]; exact wd_828)⟩, wd_95, ⟨by decide +kernel, by decide +kernel⟩, by decide +kernel⟩, wd_827⟩
theorem wd_850 : (Jvm.Cond.code ({ cls := "BitDesk", name := "joinedRows", desc := "([II)I" } : Jvm.MethodName) prog_1_method_76_code (5 : Nat) (Option.some Jvm.ClassFile.FieldType.int)) ∈ WS := ws_c4 36 rfl rfl
theorem wd_847 : (Jvm.Cond.methodLink "BitDesk" (189 : Nat) ({ cls := "BitDesk", name := "joinedRows", desc := "([II)I" } : Jvm.MethodName)) ∈ WS := ws_c4 33 rfl rfl
theorem wd_849 : (Jvm.Cond.instanceMethod ({ cls := "BitDesk", name := "joinedRows", desc := "([II)I" } : Jvm.MethodName)) ∈ WS := ws_c4 35 rfl rfl
theorem wd_30 : (Jvm.Cond.selects "BitDesk" (⟨"BitDesk", "joinedRows", "([II)I"⟩ : Jvm.MethodName) (⟨"BitDesk", "joinedRows", "([II)I"⟩ : Jvm.MethodName)) ∈ WS := ws_c0 30 rfl rfl
theorem lk_X6_189 : LkV RX6 189 jX6_joinedRows 2 := ⟨⟨wd_847, ⟨rfl, (by rw [cwd_nil rfl]; exact wd_850)⟩, wd_95, ⟨by decide +kernel, by decide +kernel⟩, by decide +kernel⟩, wd_849, wd_30⟩
theorem wd_892 : (Jvm.Cond.methodLink "BitDesk" (192 : Nat) ({ cls := "BitDesk$Closure", name := "nodesTo", desc := "(II)I" } : Jvm.MethodName)) ∈ WS := ws_c4 78 rfl rfl
theorem lk_X6_192 : LkV RX6 192 jX0_nodesTo 2 := ⟨⟨wd_892, ⟨rfl, (by rw [cwd_nil rfl]; exact wd_895)⟩, wd_99, ⟨by decide +kernel, by decide +kernel⟩, by decide +kernel⟩, wd_893, wd_894⟩
theorem wd_896 : (Jvm.Cond.methodLink "BitDesk" (195 : Nat) ({ cls := "BitDesk$Closure", name := "gainWith", desc := "(III)I" } : Jvm.MethodName)) ∈ WS := ws_c4 82 rfl rfl
theorem lk_X6_195 : LkV RX6 195 jX0_gainWith 3 := ⟨⟨wd_896, ⟨rfl, (by rw [cwd_nil rfl]; exact wd_899)⟩, wd_99, ⟨by decide +kernel, by decide +kernel⟩, by decide +kernel⟩, wd_897, wd_898⟩
theorem wd_911 : (Jvm.Cond.code ({ cls := "BitDesk", name := "lossWithout", desc := "(III)I" } : Jvm.MethodName) prog_1_method_79_code (4 : Nat) (Option.some Jvm.ClassFile.FieldType.int)) ∈ WS := ws_c4 97 rfl rfl
theorem wd_908 : (Jvm.Cond.methodLink "BitDesk" (198 : Nat) ({ cls := "BitDesk", name := "lossWithout", desc := "(III)I" } : Jvm.MethodName)) ∈ WS := ws_c4 94 rfl rfl
theorem wd_910 : (Jvm.Cond.instanceMethod ({ cls := "BitDesk", name := "lossWithout", desc := "(III)I" } : Jvm.MethodName)) ∈ WS := ws_c4 96 rfl rfl
theorem wd_32 : (Jvm.Cond.selects "BitDesk" (⟨"BitDesk", "lossWithout", "(III)I"⟩ : Jvm.MethodName) (⟨"BitDesk", "lossWithout", "(III)I"⟩ : Jvm.MethodName)) ∈ WS := ws_c0 32 rfl rfl
theorem lk_X6_198 : LkV RX6 198 jX6_lossWithout 3 := ⟨⟨wd_908, ⟨rfl, (by rw [cwd_nil rfl]; exact wd_911)⟩, wd_95, ⟨by decide +kernel, by decide +kernel⟩, by decide +kernel⟩, wd_910, wd_32⟩
theorem wd_930 : (Jvm.Cond.code ({ cls := "BitDesk", name := "edgeNumber", desc := "(II)I" } : Jvm.MethodName) prog_1_method_83_code (2 : Nat) (Option.some Jvm.ClassFile.FieldType.int)) ∈ WS := ws_c4 116 rfl rfl
theorem wd_928 : (Jvm.Cond.methodLink "BitDesk" (201 : Nat) ({ cls := "BitDesk", name := "edgeNumber", desc := "(II)I" } : Jvm.MethodName)) ∈ WS := ws_c4 114 rfl rfl
theorem wd_929 : (Jvm.Cond.static ({ cls := "BitDesk", name := "edgeNumber", desc := "(II)I" } : Jvm.MethodName)) ∈ WS := ws_c4 115 rfl rfl
theorem lk_X6_201 : LkS RX6 201 jX6_edgeNumber 2 := ⟨⟨wd_928, ⟨rfl, (by rw [cwd_nil rfl]; exact wd_930)⟩, wd_95, ⟨by decide +kernel, by decide +kernel⟩, by decide +kernel⟩, wd_929⟩
theorem fk_X6_54 : FK RX6 54 6 10 (.object "BitDesk$Elimination") := ⟨RX6, TX6, 15, rfl, by decide, rfl, rfl, (Or.inl wd_299), inW6⟩
theorem wd_955 : (Jvm.Cond.code ({ cls := "BitDesk$Elimination", name := "eliminate", desc := "([III)V" } : Jvm.MethodName) prog_3_method_2_code (5 : Nat) (Option.none : Option Jvm.ClassFile.FieldType)) ∈ WS := ws_c4 141 rfl rfl
theorem wd_952 : (Jvm.Cond.methodLink "BitDesk" (204 : Nat) ({ cls := "BitDesk$Elimination", name := "eliminate", desc := "([III)V" } : Jvm.MethodName)) ∈ WS := ws_c4 138 rfl rfl
theorem wd_953 : (Jvm.Cond.instanceMethod ({ cls := "BitDesk$Elimination", name := "eliminate", desc := "([III)V" } : Jvm.MethodName)) ∈ WS := ws_c4 139 rfl rfl
theorem wd_954 : (Jvm.Cond.selects "BitDesk$Elimination" ({ cls := "BitDesk$Elimination", name := "eliminate", desc := "([III)V" } : Jvm.MethodName) ({ cls := "BitDesk$Elimination", name := "eliminate", desc := "([III)V" } : Jvm.MethodName)) ∈ WS := ws_c4 140 rfl rfl
theorem lk_X6_204 : LkV RX6 204 jX1_eliminate 3 := ⟨⟨wd_952, ⟨rfl, (by rw [cwd_nil rfl]; exact wd_955)⟩, wd_101, ⟨by decide +kernel, by decide +kernel⟩, by decide +kernel⟩, wd_953, wd_954⟩
theorem fk_X6_207 : FK RX6 207 1 3 (.int) := ⟨RX1, TX1, 4, rfl, by decide, rfl, rfl, (Or.inr ⟨_, wn_f25⟩), inW1⟩
theorem wd_984 : (Jvm.Cond.code ({ cls := "BitDesk$Elimination", name := "isSolvable", desc := "(I)Z" } : Jvm.MethodName) prog_3_method_4_code (3 : Nat) (Option.some Jvm.ClassFile.FieldType.boolean)) ∈ WS := ws_c4 170 rfl rfl
theorem wd_981 : (Jvm.Cond.methodLink "BitDesk" (210 : Nat) ({ cls := "BitDesk$Elimination", name := "isSolvable", desc := "(I)Z" } : Jvm.MethodName)) ∈ WS := ws_c4 167 rfl rfl
theorem wd_982 : (Jvm.Cond.instanceMethod ({ cls := "BitDesk$Elimination", name := "isSolvable", desc := "(I)Z" } : Jvm.MethodName)) ∈ WS := ws_c4 168 rfl rfl
theorem wd_983 : (Jvm.Cond.selects "BitDesk$Elimination" ({ cls := "BitDesk$Elimination", name := "isSolvable", desc := "(I)Z" } : Jvm.MethodName) ({ cls := "BitDesk$Elimination", name := "isSolvable", desc := "(I)Z" } : Jvm.MethodName)) ∈ WS := ws_c4 169 rfl rfl
theorem lk_X6_210 : LkV RX6 210 jX1_isSolvable 1 := ⟨⟨wd_981, ⟨rfl, (by rw [cwd_nil rfl]; exact wd_984)⟩, wd_101, ⟨by decide +kernel, by decide +kernel⟩, by decide +kernel⟩, wd_982, wd_983⟩
theorem wd_988 : (Jvm.Cond.code ({ cls := "BitDesk$Elimination", name := "solution", desc := "()I" } : Jvm.MethodName) prog_3_method_5_code (3 : Nat) (Option.some Jvm.ClassFile.FieldType.int)) ∈ WS := ws_c4 174 rfl rfl
theorem wd_985 : (Jvm.Cond.methodLink "BitDesk" (214 : Nat) ({ cls := "BitDesk$Elimination", name := "solution", desc := "()I" } : Jvm.MethodName)) ∈ WS := ws_c4 171 rfl rfl
theorem wd_986 : (Jvm.Cond.instanceMethod ({ cls := "BitDesk$Elimination", name := "solution", desc := "()I" } : Jvm.MethodName)) ∈ WS := ws_c4 172 rfl rfl
theorem wd_987 : (Jvm.Cond.selects "BitDesk$Elimination" ({ cls := "BitDesk$Elimination", name := "solution", desc := "()I" } : Jvm.MethodName) ({ cls := "BitDesk$Elimination", name := "solution", desc := "()I" } : Jvm.MethodName)) ∈ WS := ws_c4 173 rfl rfl
theorem lk_X6_214 : LkV RX6 214 jX1_solution 0 := ⟨⟨wd_985, ⟨rfl, (by rw [cwd_nil rfl]; exact wd_988)⟩, wd_101, ⟨by decide +kernel, by decide +kernel⟩, by decide +kernel⟩, wd_986, wd_987⟩
theorem wd_989 : (Jvm.Cond.constantLong "BitDesk" (217 : Nat) (-1 : Int64)) ∈ WS := ws_c4 175 rfl rfl
theorem wd_1007 : (Jvm.Cond.code ({ cls := "BitDesk$Elimination", name := "pivotAt", desc := "(I)I" } : Jvm.MethodName) prog_3_method_6_code (2 : Nat) (Option.some Jvm.ClassFile.FieldType.int)) ∈ WS := ws_c4 193 rfl rfl
theorem wd_1004 : (Jvm.Cond.methodLink "BitDesk" (219 : Nat) ({ cls := "BitDesk$Elimination", name := "pivotAt", desc := "(I)I" } : Jvm.MethodName)) ∈ WS := ws_c4 190 rfl rfl
theorem wd_1005 : (Jvm.Cond.instanceMethod ({ cls := "BitDesk$Elimination", name := "pivotAt", desc := "(I)I" } : Jvm.MethodName)) ∈ WS := ws_c4 191 rfl rfl
theorem wd_1006 : (Jvm.Cond.selects "BitDesk$Elimination" ({ cls := "BitDesk$Elimination", name := "pivotAt", desc := "(I)I" } : Jvm.MethodName) ({ cls := "BitDesk$Elimination", name := "pivotAt", desc := "(I)I" } : Jvm.MethodName)) ∈ WS := ws_c4 192 rfl rfl
theorem lk_X6_219 : LkV RX6 219 jX1_pivotAt 1 := ⟨⟨wd_1004, ⟨rfl, (by rw [cwd_nil rfl]; exact wd_1007)⟩, wd_101, ⟨by decide +kernel, by decide +kernel⟩, by decide +kernel⟩, wd_1005, wd_1006⟩
theorem wd_1018 : (Jvm.Cond.code ({ cls := "BitDesk", name := "remember", desc := "()V" } : Jvm.MethodName) prog_1_method_67_code (1 : Nat) (Option.none : Option Jvm.ClassFile.FieldType)) ∈ WS := ws_c4 204 rfl rfl
theorem wd_1015 : (Jvm.Cond.methodLink "BitDesk" (222 : Nat) ({ cls := "BitDesk", name := "remember", desc := "()V" } : Jvm.MethodName)) ∈ WS := ws_c4 201 rfl rfl
theorem wd_1017 : (Jvm.Cond.instanceMethod ({ cls := "BitDesk", name := "remember", desc := "()V" } : Jvm.MethodName)) ∈ WS := ws_c4 203 rfl rfl
theorem wd_37 : (Jvm.Cond.selects "BitDesk" (⟨"BitDesk", "remember", "()V"⟩ : Jvm.MethodName) (⟨"BitDesk", "remember", "()V"⟩ : Jvm.MethodName)) ∈ WS := ws_c0 37 rfl rfl
theorem lk_X6_222 : LkV RX6 222 jX6_remember 0 := ⟨⟨wd_1015, ⟨rfl, (by rw [cwd_nil rfl]; exact wd_1018)⟩, wd_95, ⟨by decide +kernel, by decide +kernel⟩, by decide +kernel⟩, wd_1017, wd_37⟩
theorem fk_X6_225 : FK RX6 225 5 0 (.array (.object "BitDesk$Matrix")) := ⟨RX5, TX5, 5, rfl, by decide, rfl, rfl, (Or.inr ⟨_, wn_f11⟩), inW5⟩
theorem fk_X6_229 : FK RX6 229 2 0 (.array .int) := ⟨RX2, TX2, 5, rfl, by decide, rfl, rfl, (Or.inr ⟨_, wn_f4⟩), inW2⟩
theorem wd_1020 : (Jvm.Cond.methodLink "BitDesk" (234 : Nat) ({ cls := "BitDesk$Matrix", name := "noteLooked", desc := "(I)V" } : Jvm.MethodName)) ∈ WS := ws_c4 206 rfl rfl
theorem lk_X6_234 : LkV RX6 234 jX2_noteLooked 1 := ⟨⟨wd_1020, ⟨rfl, (by rw [cwd_nil rfl]; exact wd_495)⟩, wd_98, ⟨by decide +kernel, by decide +kernel⟩, by decide +kernel⟩, wd_493, wd_494⟩
theorem wd_1024 : (Jvm.Cond.code ({ cls := "BitDesk$Closure", name := "extend", desc := "(III)I" } : Jvm.MethodName) prog_2_method_6_code (7 : Nat) (Option.some Jvm.ClassFile.FieldType.int)) ∈ WS := ws_c4 210 rfl rfl
theorem wd_1021 : (Jvm.Cond.methodLink "BitDesk" (237 : Nat) ({ cls := "BitDesk$Closure", name := "extend", desc := "(III)I" } : Jvm.MethodName)) ∈ WS := ws_c4 207 rfl rfl
theorem wd_1022 : (Jvm.Cond.instanceMethod ({ cls := "BitDesk$Closure", name := "extend", desc := "(III)I" } : Jvm.MethodName)) ∈ WS := ws_c4 208 rfl rfl
theorem wd_1023 : (Jvm.Cond.selects "BitDesk$Closure" ({ cls := "BitDesk$Closure", name := "extend", desc := "(III)I" } : Jvm.MethodName) ({ cls := "BitDesk$Closure", name := "extend", desc := "(III)I" } : Jvm.MethodName)) ∈ WS := ws_c4 209 rfl rfl
theorem lk_X6_237 : LkV RX6 237 jX0_extend 3 := ⟨⟨wd_1021, ⟨rfl, (by rw [cwd_nil rfl]; exact wd_1024)⟩, wd_99, ⟨by decide +kernel, by decide +kernel⟩, by decide +kernel⟩, wd_1022, wd_1023⟩
theorem wd_1029 : (Jvm.Cond.code ({ cls := "BitDesk$Closure", name := "mend", desc := "(I[II)I" } : Jvm.MethodName) prog_2_method_7_code (7 : Nat) (Option.some Jvm.ClassFile.FieldType.int)) ∈ WS := ws_c4 215 rfl rfl
theorem wd_1026 : (Jvm.Cond.methodLink "BitDesk" (240 : Nat) ({ cls := "BitDesk$Closure", name := "mend", desc := "(I[II)I" } : Jvm.MethodName)) ∈ WS := ws_c4 212 rfl rfl
theorem wd_1027 : (Jvm.Cond.instanceMethod ({ cls := "BitDesk$Closure", name := "mend", desc := "(I[II)I" } : Jvm.MethodName)) ∈ WS := ws_c4 213 rfl rfl
theorem wd_1028 : (Jvm.Cond.selects "BitDesk$Closure" ({ cls := "BitDesk$Closure", name := "mend", desc := "(I[II)I" } : Jvm.MethodName) ({ cls := "BitDesk$Closure", name := "mend", desc := "(I[II)I" } : Jvm.MethodName)) ∈ WS := ws_c4 214 rfl rfl
theorem lk_X6_240 : LkV RX6 240 jX0_mend 3 := ⟨⟨wd_1026, ⟨rfl, (by rw [cwd_nil rfl]; exact wd_1029)⟩, wd_99, ⟨by decide +kernel, by decide +kernel⟩, by decide +kernel⟩, wd_1027, wd_1028⟩
theorem wd_1040 : (Jvm.Cond.code ({ cls := "BitDesk", name := "noteChange", desc := "(I)V" } : Jvm.MethodName) prog_1_method_72_code (2 : Nat) (Option.none : Option Jvm.ClassFile.FieldType)) ∈ WS := ws_c4 226 rfl rfl
theorem wd_1037 : (Jvm.Cond.methodLink "BitDesk" (244 : Nat) ({ cls := "BitDesk", name := "noteChange", desc := "(I)V" } : Jvm.MethodName)) ∈ WS := ws_c4 223 rfl rfl
theorem wd_1039 : (Jvm.Cond.instanceMethod ({ cls := "BitDesk", name := "noteChange", desc := "(I)V" } : Jvm.MethodName)) ∈ WS := ws_c4 225 rfl rfl
theorem wd_38 : (Jvm.Cond.selects "BitDesk" (⟨"BitDesk", "noteChange", "(I)V"⟩ : Jvm.MethodName) (⟨"BitDesk", "noteChange", "(I)V"⟩ : Jvm.MethodName)) ∈ WS := ws_c0 38 rfl rfl
theorem lk_X6_244 : LkV RX6 244 jX6_noteChange 1 := ⟨⟨wd_1037, ⟨rfl, (by rw [cwd_nil rfl]; exact wd_1040)⟩, wd_95, ⟨by decide +kernel, by decide +kernel⟩, by decide +kernel⟩, wd_1039, wd_38⟩
theorem wd_1052 : (Jvm.Cond.code ({ cls := "BitDesk", name := "store", desc := "([II)I" } : Jvm.MethodName) prog_1_method_71_code (3 : Nat) (Option.some Jvm.ClassFile.FieldType.int)) ∈ WS := ws_c4 238 rfl rfl
theorem wd_1049 : (Jvm.Cond.methodLink "BitDesk" (247 : Nat) ({ cls := "BitDesk", name := "store", desc := "([II)I" } : Jvm.MethodName)) ∈ WS := ws_c4 235 rfl rfl
theorem wd_1051 : (Jvm.Cond.instanceMethod ({ cls := "BitDesk", name := "store", desc := "([II)I" } : Jvm.MethodName)) ∈ WS := ws_c4 237 rfl rfl
theorem wd_39 : (Jvm.Cond.selects "BitDesk" (⟨"BitDesk", "store", "([II)I"⟩ : Jvm.MethodName) (⟨"BitDesk", "store", "([II)I"⟩ : Jvm.MethodName)) ∈ WS := ws_c0 39 rfl rfl
theorem lk_X6_247 : LkV RX6 247 jX6_store 2 := ⟨⟨wd_1049, ⟨rfl, (by rw [cwd_nil rfl]; exact wd_1052)⟩, wd_95, ⟨by decide +kernel, by decide +kernel⟩, by decide +kernel⟩, wd_1051, wd_39⟩
theorem fk_X6_58 : FK RX6 58 6 11 (.array .int) := ⟨RX6, TX6, 15, rfl, by decide, rfl, rfl, (Or.inl wd_300), inW6⟩
theorem wd_1069 : (Jvm.Cond.code ({ cls := "BitDesk", name := "combined", desc := "(III)I" } : Jvm.MethodName) prog_1_method_81_code (3 : Nat) (Option.some Jvm.ClassFile.FieldType.int)) ∈ WS := ws_c5 15 rfl rfl
theorem wd_1067 : (Jvm.Cond.methodLink "BitDesk" (250 : Nat) ({ cls := "BitDesk", name := "combined", desc := "(III)I" } : Jvm.MethodName)) ∈ WS := ws_c5 13 rfl rfl
theorem wd_1068 : (Jvm.Cond.static ({ cls := "BitDesk", name := "combined", desc := "(III)I" } : Jvm.MethodName)) ∈ WS := ws_c5 14 rfl rfl
theorem lk_X6_250 : LkS RX6 250 jX6_combined 3 := ⟨⟨wd_1067, ⟨rfl, (by rw [cwd_nil rfl]; exact wd_1069)⟩, wd_95, ⟨by decide +kernel, by decide +kernel⟩, by decide +kernel⟩, wd_1068⟩
theorem fk_X6_47 : FK RX6 47 6 9 (.object "BitDesk$Multiplier") := ⟨RX6, TX6, 15, rfl, by decide, rfl, rfl, (Or.inl wd_298), inW6⟩
theorem wd_1080 : (Jvm.Cond.code ({ cls := "BitDesk$Multiplier", name := "begin", desc := "(LBitDesk$State;Z)V" } : Jvm.MethodName) prog_5_method_2_code (3 : Nat) (Option.none : Option Jvm.ClassFile.FieldType)) ∈ WS := ws_c5 26 rfl rfl
theorem wd_1077 : (Jvm.Cond.methodLink "BitDesk" (253 : Nat) ({ cls := "BitDesk$Multiplier", name := "begin", desc := "(LBitDesk$State;Z)V" } : Jvm.MethodName)) ∈ WS := ws_c5 23 rfl rfl
theorem wd_1078 : (Jvm.Cond.instanceMethod ({ cls := "BitDesk$Multiplier", name := "begin", desc := "(LBitDesk$State;Z)V" } : Jvm.MethodName)) ∈ WS := ws_c5 24 rfl rfl
theorem wd_1079 : (Jvm.Cond.selects "BitDesk$Multiplier" ({ cls := "BitDesk$Multiplier", name := "begin", desc := "(LBitDesk$State;Z)V" } : Jvm.MethodName) ({ cls := "BitDesk$Multiplier", name := "begin", desc := "(LBitDesk$State;Z)V" } : Jvm.MethodName)) ∈ WS := ws_c5 25 rfl rfl
theorem lk_X6_253 : LkV RX6 253 jX3_begin 2 := ⟨⟨wd_1077, ⟨rfl, (by rw [cwd_nil rfl]; exact wd_1080)⟩, wd_100, ⟨by decide +kernel, by decide +kernel⟩, by decide +kernel⟩, wd_1078, wd_1079⟩
theorem wd_1081 : (Jvm.Cond.methodLink "BitDesk" (257 : Nat) ({ cls := "BitDesk$Multiplier", name := "multiply", desc := "([I[I[I)V" } : Jvm.MethodName)) ∈ WS := ws_c5 27 rfl rfl
theorem lk_X6_257 : LkV RX6 257 jX3_multiply 3 := ⟨⟨wd_1081, ⟨rfl, (by rw [cwd_nil rfl]; exact wd_1084)⟩, wd_100, ⟨by decide +kernel, by decide +kernel⟩, by decide +kernel⟩, wd_1082, wd_1083⟩
theorem wd_1102 : (Jvm.Cond.code ({ cls := "BitDesk", name := "noteWork", desc := "()V" } : Jvm.MethodName) prog_1_method_73_code (1 : Nat) (Option.none : Option Jvm.ClassFile.FieldType)) ∈ WS := ws_c5 48 rfl rfl
theorem wd_1099 : (Jvm.Cond.methodLink "BitDesk" (261 : Nat) ({ cls := "BitDesk", name := "noteWork", desc := "()V" } : Jvm.MethodName)) ∈ WS := ws_c5 45 rfl rfl
theorem wd_1101 : (Jvm.Cond.instanceMethod ({ cls := "BitDesk", name := "noteWork", desc := "()V" } : Jvm.MethodName)) ∈ WS := ws_c5 47 rfl rfl
theorem wd_43 : (Jvm.Cond.selects "BitDesk" (⟨"BitDesk", "noteWork", "()V"⟩ : Jvm.MethodName) (⟨"BitDesk", "noteWork", "()V"⟩ : Jvm.MethodName)) ∈ WS := ws_c0 43 rfl rfl
theorem lk_X6_261 : LkV RX6 261 jX6_noteWork 0 := ⟨⟨wd_1099, ⟨rfl, (by rw [cwd_nil rfl]; exact wd_1102)⟩, wd_95, ⟨by decide +kernel, by decide +kernel⟩, by decide +kernel⟩, wd_1101, wd_43⟩
theorem wd_1110 : (Jvm.Cond.constant "BitDesk" (264 : Nat) (1000000 : Int32)) ∈ WS := ws_c5 56 rfl rfl
theorem wd_1114 : (Jvm.Cond.code ({ cls := "BitDesk$Multiplier", name := "raise", desc := "([II)[I" } : Jvm.MethodName) prog_5_method_4_code (7 : Nat) (Option.some (Jvm.ClassFile.FieldType.array Jvm.ClassFile.FieldType.int))) ∈ WS := ws_c5 60 rfl rfl
theorem wd_1111 : (Jvm.Cond.methodLink "BitDesk" (265 : Nat) ({ cls := "BitDesk$Multiplier", name := "raise", desc := "([II)[I" } : Jvm.MethodName)) ∈ WS := ws_c5 57 rfl rfl
theorem wd_1112 : (Jvm.Cond.instanceMethod ({ cls := "BitDesk$Multiplier", name := "raise", desc := "([II)[I" } : Jvm.MethodName)) ∈ WS := ws_c5 58 rfl rfl
theorem wd_1113 : (Jvm.Cond.selects "BitDesk$Multiplier" ({ cls := "BitDesk$Multiplier", name := "raise", desc := "([II)[I" } : Jvm.MethodName) ({ cls := "BitDesk$Multiplier", name := "raise", desc := "([II)[I" } : Jvm.MethodName)) ∈ WS := ws_c5 59 rfl rfl
theorem lk_X6_265 : LkV RX6 265 jX3_raise 2 := ⟨⟨wd_1111, ⟨rfl, (by rw [cwd_nil rfl]; exact wd_1114)⟩, wd_100, ⟨by decide +kernel, by decide +kernel⟩, by decide +kernel⟩, wd_1112, wd_1113⟩
theorem wd_1127 : (Jvm.Cond.code ({ cls := "BitDesk$Elimination", name := "eliminateBesideUnit", desc := "([II)V" } : Jvm.MethodName) prog_3_method_3_code (4 : Nat) (Option.none : Option Jvm.ClassFile.FieldType)) ∈ WS := ws_c5 73 rfl rfl
theorem wd_1124 : (Jvm.Cond.methodLink "BitDesk" (269 : Nat) ({ cls := "BitDesk$Elimination", name := "eliminateBesideUnit", desc := "([II)V" } : Jvm.MethodName)) ∈ WS := ws_c5 70 rfl rfl
theorem wd_1125 : (Jvm.Cond.instanceMethod ({ cls := "BitDesk$Elimination", name := "eliminateBesideUnit", desc := "([II)V" } : Jvm.MethodName)) ∈ WS := ws_c5 71 rfl rfl
theorem wd_1126 : (Jvm.Cond.selects "BitDesk$Elimination" ({ cls := "BitDesk$Elimination", name := "eliminateBesideUnit", desc := "([II)V" } : Jvm.MethodName) ({ cls := "BitDesk$Elimination", name := "eliminateBesideUnit", desc := "([II)V" } : Jvm.MethodName)) ∈ WS := ws_c5 72 rfl rfl
theorem lk_X6_269 : LkV RX6 269 jX1_eliminateBesideUnit 2 := ⟨⟨wd_1124, ⟨rfl, (by rw [cwd_nil rfl]; exact wd_1127)⟩, wd_101, ⟨by decide +kernel, by decide +kernel⟩, by decide +kernel⟩, wd_1125, wd_1126⟩
theorem fk_X6_273 : FK RX6 273 1 1 (.array .int) := ⟨RX1, TX1, 4, rfl, by decide, rfl, rfl, (Or.inr ⟨_, wn_f24⟩), inW1⟩
theorem wd_912 : (Jvm.Cond.methodLink "BitDesk" (276 : Nat) ({ cls := "java/lang/System", name := "arraycopy", desc := "(Ljava/lang/Object;ILjava/lang/Object;II)V" } : Jvm.MethodName)) ∈ WS := ws_c4 98 rfl rfl
theorem wd_1145 : (Jvm.Cond.code ({ cls := "BitDesk", name := "dropNeedless", desc := "([II)V" } : Jvm.MethodName) prog_1_method_80_code (5 : Nat) (Option.none : Option Jvm.ClassFile.FieldType)) ∈ WS := ws_c5 91 rfl rfl
theorem wd_1142 : (Jvm.Cond.methodLink "BitDesk" (282 : Nat) ({ cls := "BitDesk", name := "dropNeedless", desc := "([II)V" } : Jvm.MethodName)) ∈ WS := ws_c5 88 rfl rfl
theorem wd_1144 : (Jvm.Cond.instanceMethod ({ cls := "BitDesk", name := "dropNeedless", desc := "([II)V" } : Jvm.MethodName)) ∈ WS := ws_c5 90 rfl rfl
theorem wd_44 : (Jvm.Cond.selects "BitDesk" (⟨"BitDesk", "dropNeedless", "([II)V"⟩ : Jvm.MethodName) (⟨"BitDesk", "dropNeedless", "([II)V"⟩ : Jvm.MethodName)) ∈ WS := ws_c0 44 rfl rfl
theorem lk_X6_282 : LkV RX6 282 jX6_dropNeedless 2 := ⟨⟨wd_1142, ⟨rfl, (by rw [cwd_nil rfl]; exact wd_1145)⟩, wd_95, ⟨by decide +kernel, by decide +kernel⟩, by decide +kernel⟩, wd_1144, wd_44⟩
theorem wd_1156 : (Jvm.Cond.code ({ cls := "BitDesk", name := "exchanged", desc := "(III)I" } : Jvm.MethodName) prog_1_method_82_code (3 : Nat) (Option.some Jvm.ClassFile.FieldType.int)) ∈ WS := ws_c5 102 rfl rfl
theorem wd_1154 : (Jvm.Cond.methodLink "BitDesk" (285 : Nat) ({ cls := "BitDesk", name := "exchanged", desc := "(III)I" } : Jvm.MethodName)) ∈ WS := ws_c5 100 rfl rfl
theorem wd_1155 : (Jvm.Cond.static ({ cls := "BitDesk", name := "exchanged", desc := "(III)I" } : Jvm.MethodName)) ∈ WS := ws_c5 101 rfl rfl
theorem lk_X6_285 : LkS RX6 285 jX6_exchanged 3 := ⟨⟨wd_1154, ⟨rfl, (by rw [cwd_nil rfl]; exact wd_1156)⟩, wd_95, ⟨by decide +kernel, by decide +kernel⟩, by decide +kernel⟩, wd_1155⟩
theorem fp_X6_288 : FP RX6 288 2 1 (.boolean) false := ⟨RX2, TX2, 5, tyX2, rfl, by decide, rfl, rfl, (Or.inr ⟨_, wn_f6⟩), inW2, tyX2_ok, nmX2, rfl, tyX2_ok 1 (by decide), rfl⟩
theorem wd_1041 : (Jvm.Cond.methodLink "BitDesk" (292 : Nat) ({ cls := "BitDesk$Matrix", name := "noteMadeAnew", desc := "(I)V" } : Jvm.MethodName)) ∈ WS := ws_c4 227 rfl rfl
theorem lk_X6_292 : LkV RX6 292 jX2_noteMadeAnew 1 := ⟨⟨wd_1041, ⟨rfl, (by rw [cwd_nil rfl]; exact wd_491)⟩, wd_98, ⟨by decide +kernel, by decide +kernel⟩, by decide +kernel⟩, wd_489, wd_490⟩
theorem fp_X6_99 : FP RX6 99 5 2 (.int) false := ⟨RX5, TX5, 5, tyX5, rfl, by decide, rfl, rfl, (Or.inr ⟨_, wn_f17⟩), inW5, tyX5_ok, nmX5, rfl, tyX5_ok 2 (by decide), rfl⟩
theorem fk_X6_288 : FK RX6 288 2 1 (.boolean) := ⟨RX2, TX2, 5, rfl, by decide, rfl, rfl, (Or.inr ⟨_, wn_f6⟩), inW2⟩
theorem fk_X6_295 : FK RX6 295 2 2 (.int) := ⟨RX2, TX2, 5, rfl, by decide, rfl, rfl, (Or.inr ⟨_, wn_f7⟩), inW2⟩
theorem fk_X6_298 : FK RX6 298 2 3 (.int) := ⟨RX2, TX2, 5, rfl, by decide, rfl, rfl, (Or.inr ⟨_, wn_f8⟩), inW2⟩
theorem fk_X6_301 : FK RX6 301 2 4 (.int) := ⟨RX2, TX2, 5, rfl, by decide, rfl, rfl, (Or.inr ⟨_, wn_f9⟩), inW2⟩
theorem fk_X6_304 : FK RX6 304 5 3 (.int) := ⟨RX5, TX5, 5, rfl, by decide, rfl, rfl, (Or.inr ⟨_, wn_f18⟩), inW5⟩
theorem fk_X6_307 : FK RX6 307 5 4 (.int) := ⟨RX5, TX5, 5, rfl, by decide, rfl, rfl, (Or.inr ⟨_, wn_f19⟩), inW5⟩
theorem fk_X6_86 : FK RX6 86 6 14 (.int) := ⟨RX6, TX6, 15, rfl, by decide, rfl, rfl, (Or.inl wd_303), inW6⟩
theorem fk_X6_65 : FK RX6 65 6 13 (.array .int) := ⟨RX6, TX6, 15, rfl, by decide, rfl, rfl, (Or.inl wd_302), inW6⟩
theorem fp_X6_106 : FP RX6 106 6 5 (.int) false := ⟨RX6, TX6, 15, tyX6, rfl, by decide, rfl, rfl, (Or.inl wd_294), inW6, tyX6_ok, nmX6, rfl, tyX6_ok 5 (by decide), rfl⟩
theorem wd_293 : (Jvm.Cond.fieldLink "BitDesk" (310 : Nat) "BitDesk" "pastNext" "I") ∈ WS := ws_c1 199 rfl rfl
theorem fk_X6_310 : FK RX6 310 6 4 (.int) := ⟨RX6, TX6, 15, rfl, by decide, rfl, rfl, (Or.inl wd_293), inW6⟩
theorem fp_X6_310 : FP RX6 310 6 4 (.int) false := ⟨RX6, TX6, 15, tyX6, rfl, by decide, rfl, rfl, (Or.inl wd_293), inW6, tyX6_ok, nmX6, rfl, tyX6_ok 4 (by decide), rfl⟩
theorem wd_503 : (Jvm.Cond.code ({ cls := "BitDesk$State", name := "takeFrom", desc := "(LBitDesk$State;)V" } : Jvm.MethodName) prog_7_method_3_code (3 : Nat) (Option.none : Option Jvm.ClassFile.FieldType)) ∈ WS := ws_c2 169 rfl rfl
theorem wd_500 : (Jvm.Cond.methodLink "BitDesk" (313 : Nat) ({ cls := "BitDesk$State", name := "takeFrom", desc := "(LBitDesk$State;)V" } : Jvm.MethodName)) ∈ WS := ws_c2 166 rfl rfl
theorem wd_501 : (Jvm.Cond.instanceMethod ({ cls := "BitDesk$State", name := "takeFrom", desc := "(LBitDesk$State;)V" } : Jvm.MethodName)) ∈ WS := ws_c2 167 rfl rfl
theorem wd_502 : (Jvm.Cond.selects "BitDesk$State" ({ cls := "BitDesk$State", name := "takeFrom", desc := "(LBitDesk$State;)V" } : Jvm.MethodName) ({ cls := "BitDesk$State", name := "takeFrom", desc := "(LBitDesk$State;)V" } : Jvm.MethodName)) ∈ WS := ws_c2 168 rfl rfl
theorem lk_X6_313 : LkV RX6 313 jX5_takeFrom 1 := ⟨⟨wd_500, ⟨rfl, (by rw [cwd_nil rfl]; exact wd_503)⟩, wd_97, ⟨by decide +kernel, by decide +kernel⟩, by decide +kernel⟩, wd_501, wd_502⟩
theorem wd_514 : (Jvm.Cond.code ({ cls := "BitDesk", name := "dropClosures", desc := "()V" } : Jvm.MethodName) prog_1_method_69_code (2 : Nat) (Option.none : Option Jvm.ClassFile.FieldType)) ∈ WS := ws_c2 180 rfl rfl
theorem wd_511 : (Jvm.Cond.methodLink "BitDesk" (316 : Nat) ({ cls := "BitDesk", name := "dropClosures", desc := "()V" } : Jvm.MethodName)) ∈ WS := ws_c2 177 rfl rfl
theorem wd_513 : (Jvm.Cond.instanceMethod ({ cls := "BitDesk", name := "dropClosures", desc := "()V" } : Jvm.MethodName)) ∈ WS := ws_c2 179 rfl rfl
theorem wd_17 : (Jvm.Cond.selects "BitDesk" (⟨"BitDesk", "dropClosures", "()V"⟩ : Jvm.MethodName) (⟨"BitDesk", "dropClosures", "()V"⟩ : Jvm.MethodName)) ∈ WS := ws_c0 17 rfl rfl
theorem lk_X6_316 : LkV RX6 316 jX6_dropClosures 0 := ⟨⟨wd_511, ⟨rfl, (by rw [cwd_nil rfl]; exact wd_514)⟩, wd_95, ⟨by decide +kernel, by decide +kernel⟩, by decide +kernel⟩, wd_513, wd_17⟩
theorem fk_X6_33 : FK RX6 33 6 7 (.array .boolean) := ⟨RX6, TX6, 15, rfl, by decide, rfl, rfl, (Or.inl wd_296), inW6⟩
theorem wd_634 : (Jvm.Cond.classLink "BitDesk" (319 : Nat) "java/lang/IndexOutOfBoundsException") ∈ WS := ws_c3 60 rfl rfl
theorem wd_653 : (Jvm.Cond.code ({ cls := "BitDesk", name := "needNode", desc := "(I)V" } : Jvm.MethodName) prog_1_method_61_code (2 : Nat) (Option.none : Option Jvm.ClassFile.FieldType)) ∈ WS := ws_c3 79 rfl rfl
theorem wd_650 : (Jvm.Cond.methodLink "BitDesk" (328 : Nat) ({ cls := "BitDesk", name := "needNode", desc := "(I)V" } : Jvm.MethodName)) ∈ WS := ws_c3 76 rfl rfl
theorem wd_652 : (Jvm.Cond.instanceMethod ({ cls := "BitDesk", name := "needNode", desc := "(I)V" } : Jvm.MethodName)) ∈ WS := ws_c3 78 rfl rfl
theorem wd_24 : (Jvm.Cond.selects "BitDesk" (⟨"BitDesk", "needNode", "(I)V"⟩ : Jvm.MethodName) (⟨"BitDesk", "needNode", "(I)V"⟩ : Jvm.MethodName)) ∈ WS := ws_c0 24 rfl rfl
theorem lk_X6_328 : LkV RX6 328 jX6_needNode 1 := ⟨⟨wd_650, ⟨rfl, (by rw [cwd_nil rfl]; exact wd_653)⟩, wd_95, ⟨by decide +kernel, by decide +kernel⟩, by decide +kernel⟩, wd_652, wd_24⟩
theorem wd_544 : (Jvm.Cond.classLink "BitDesk" (331 : Nat) "java/lang/IllegalArgumentException") ∈ WS := ws_c2 210 rfl rfl
theorem wd_1019 : (Jvm.Cond.methodLink "BitDesk" (336 : Nat) ({ cls := "java/lang/Math", name := "min", desc := "(II)I" } : Jvm.MethodName)) ∈ WS := ws_c4 205 rfl rfl
theorem lk_X6_336 : LkS RX6 336 jJ9_min_7cf53 2 := ⟨⟨wd_1019, ⟨rfl, (by rw [cwd_nil rfl]; exact wd_431)⟩, wd_107, ⟨by decide +kernel, by decide +kernel⟩, by decide +kernel⟩, wd_430⟩
theorem fp_X6_341 : FP RX6 341 0 1 (.boolean) false := ⟨RX0, TX0, 2, tyX0, rfl, by decide, rfl, rfl, (Or.inr ⟨_, wn_f21⟩), inW0, tyX0_ok, nmX0, rfl, tyX0_ok 1 (by decide), rfl⟩
theorem fk_X6_341 : FK RX6 341 0 1 (.boolean) := ⟨RX0, TX0, 2, rfl, by decide, rfl, rfl, (Or.inr ⟨_, wn_f21⟩), inW0⟩
theorem wd_789 : (Jvm.Cond.code ({ cls := "BitDesk$Closure", name := "makeFrom", desc := "([II)V" } : Jvm.MethodName) prog_2_method_2_code (5 : Nat) (Option.none : Option Jvm.ClassFile.FieldType)) ∈ WS := ws_c3 215 rfl rfl
theorem wd_786 : (Jvm.Cond.methodLink "BitDesk" (344 : Nat) ({ cls := "BitDesk$Closure", name := "makeFrom", desc := "([II)V" } : Jvm.MethodName)) ∈ WS := ws_c3 212 rfl rfl
theorem wd_787 : (Jvm.Cond.instanceMethod ({ cls := "BitDesk$Closure", name := "makeFrom", desc := "([II)V" } : Jvm.MethodName)) ∈ WS := ws_c3 213 rfl rfl
theorem wd_788 : (Jvm.Cond.selects "BitDesk$Closure" ({ cls := "BitDesk$Closure", name := "makeFrom", desc := "([II)V" } : Jvm.MethodName) ({ cls := "BitDesk$Closure", name := "makeFrom", desc := "([II)V" } : Jvm.MethodName)) ∈ WS := ws_c3 214 rfl rfl
theorem lk_X6_344 : LkV RX6 344 jX0_makeFrom 2 := ⟨⟨wd_786, ⟨rfl, (by rw [cwd_nil rfl]; exact wd_789)⟩, wd_99, ⟨by decide +kernel, by decide +kernel⟩, by decide +kernel⟩, wd_787, wd_788⟩
theorem fk_X6_347 : FK RX6 347 3 6 (.int) := ⟨RX3, TX3, 8, rfl, by decide, rfl, rfl, (Or.inr ⟨_, wn_f22⟩), inW3⟩
theorem fp_X6_304 : FP RX6 304 5 3 (.int) false := ⟨RX5, TX5, 5, tyX5, rfl, by decide, rfl, rfl, (Or.inr ⟨_, wn_f18⟩), inW5, tyX5_ok, nmX5, rfl, tyX5_ok 3 (by decide), rfl⟩
theorem fk_X6_348 : FK RX6 348 3 7 (.int) := ⟨RX3, TX3, 8, rfl, by decide, rfl, rfl, (Or.inr ⟨_, wn_f23⟩), inW3⟩
theorem fp_X6_307 : FP RX6 307 5 4 (.int) false := ⟨RX5, TX5, 5, tyX5, rfl, by decide, rfl, rfl, (Or.inr ⟨_, wn_f19⟩), inW5, tyX5_ok, nmX5, rfl, tyX5_ok 4 (by decide), rfl⟩
theorem wd_916 : (Jvm.Cond.code ({ cls := "BitDesk$Closure", name := "lossBy", desc := "([IIII)I" } : Jvm.MethodName) prog_2_method_8_code (8 : Nat) (Option.some Jvm.ClassFile.FieldType.int)) ∈ WS := ws_c4 102 rfl rfl
theorem wd_913 : (Jvm.Cond.methodLink "BitDesk" (349 : Nat) ({ cls := "BitDesk$Closure", name := "lossBy", desc := "([IIII)I" } : Jvm.MethodName)) ∈ WS := ws_c4 99 rfl rfl
theorem wd_914 : (Jvm.Cond.instanceMethod ({ cls := "BitDesk$Closure", name := "lossBy", desc := "([IIII)I" } : Jvm.MethodName)) ∈ WS := ws_c4 100 rfl rfl
theorem wd_915 : (Jvm.Cond.selects "BitDesk$Closure" ({ cls := "BitDesk$Closure", name := "lossBy", desc := "([IIII)I" } : Jvm.MethodName) ({ cls := "BitDesk$Closure", name := "lossBy", desc := "([IIII)I" } : Jvm.MethodName)) ∈ WS := ws_c4 101 rfl rfl
theorem lk_X6_349 : LkV RX6 349 jX0_lossBy 4 := ⟨⟨wd_913, ⟨rfl, (by rw [cwd_nil rfl]; exact wd_916)⟩, wd_99, ⟨by decide +kernel, by decide +kernel⟩, by decide +kernel⟩, wd_914, wd_915⟩
theorem wd_1146 : (Jvm.Cond.methodLink "BitDesk" (353 : Nat) ({ cls := "BitDesk", name := "reachedFrom", desc := "([III)I" } : Jvm.MethodName)) ∈ WS := ws_c5 92 rfl rfl
theorem lk_X6_353 : LkS RX6 353 jX6_reachedFrom 3 := ⟨⟨wd_1146, ⟨rfl, (by rw [cwd_nil rfl]; exact wd_919)⟩, wd_95, ⟨by decide +kernel, by decide +kernel⟩, by decide +kernel⟩, wd_918⟩
theorem wd_672 : (Jvm.Cond.constantLong "BitDesk" (356 : Nat) (4294967295 : Int64)) ∈ WS := ws_c3 98 rfl rfl
theorem wd_1211 : (Jvm.Cond.methodLink "BitDeskModel" (3 : Nat) ({ cls := "java/lang/Object", name := "<init>", desc := "()V" } : Jvm.MethodName)) ∈ WS := ws_c5 157 rfl rfl
theorem wd_1216 : (Jvm.Cond.fieldLink "BitDeskModel" (9 : Nat) "BitDeskModel" "now" "[J") ∈ WS := ws_c5 162 rfl rfl
theorem fp_X7_9 : FP RX7 9 7 0 (.array .long) true := ⟨RX7, TX7, 25, tyX7, rfl, by decide, rfl, rfl, (Or.inl wd_1216), inW7, tyX7_ok, nmX7, rfl, tyX7_ok 0 (by decide), rfl⟩
theorem wd_1217 : (Jvm.Cond.fieldLink "BitDeskModel" (13 : Nat) "BitDeskModel" "read" "[J") ∈ WS := ws_c5 163 rfl rfl
theorem fp_X7_13 : FP RX7 13 7 1 (.array .long) true := ⟨RX7, TX7, 25, tyX7, rfl, by decide, rfl, rfl, (Or.inl wd_1217), inW7, tyX7_ok, nmX7, rfl, tyX7_ok 1 (by decide), rfl⟩
theorem wd_1218 : (Jvm.Cond.fieldLink "BitDeskModel" (16 : Nat) "BitDeskModel" "past" "[J") ∈ WS := ws_c5 164 rfl rfl
theorem fp_X7_16 : FP RX7 16 7 2 (.array .long) true := ⟨RX7, TX7, 25, tyX7, rfl, by decide, rfl, rfl, (Or.inl wd_1218), inW7, tyX7_ok, nmX7, rfl, tyX7_ok 2 (by decide), rfl⟩
theorem wd_1219 : (Jvm.Cond.fieldLink "BitDeskModel" (19 : Nat) "BitDeskModel" "copies" "[J") ∈ WS := ws_c5 165 rfl rfl
theorem fp_X7_19 : FP RX7 19 7 3 (.array .long) true := ⟨RX7, TX7, 25, tyX7, rfl, by decide, rfl, rfl, (Or.inl wd_1219), inW7, tyX7_ok, nmX7, rfl, tyX7_ok 3 (by decide), rfl⟩
theorem wd_1220 : (Jvm.Cond.fieldLink "BitDeskModel" (22 : Nat) "BitDeskModel" "isSaved" "[Z") ∈ WS := ws_c5 166 rfl rfl
theorem fp_X7_22 : FP RX7 22 7 4 (.array .boolean) true := ⟨RX7, TX7, 25, tyX7, rfl, by decide, rfl, rfl, (Or.inl wd_1220), inW7, tyX7_ok, nmX7, rfl, tyX7_ok 4 (by decide), rfl⟩
theorem wd_1223 : (Jvm.Cond.fieldLink "BitDeskModel" (26 : Nat) "BitDeskModel" "buffer" "[B") ∈ WS := ws_c5 169 rfl rfl
theorem fp_X7_26 : FP RX7 26 7 7 (.array .byte) true := ⟨RX7, TX7, 25, tyX7, rfl, by decide, rfl, rfl, (Or.inl wd_1223), inW7, tyX7_ok, nmX7, rfl, tyX7_ok 7 (by decide), rfl⟩
theorem wd_1231 : (Jvm.Cond.fieldLink "BitDeskModel" (30 : Nat) "BitDeskModel" "lastStatement" "I") ∈ WS := ws_c5 177 rfl rfl
theorem fp_X7_30 : FP RX7 30 7 15 (.int) false := ⟨RX7, TX7, 25, tyX7, rfl, by decide, rfl, rfl, (Or.inl wd_1231), inW7, tyX7_ok, nmX7, rfl, tyX7_ok 15 (by decide), rfl⟩
theorem wd_1232 : (Jvm.Cond.fieldLink "BitDeskModel" (34 : Nat) "BitDeskModel" "hand" "[J") ∈ WS := ws_c5 178 rfl rfl
theorem fp_X7_34 : FP RX7 34 7 16 (.array .long) true := ⟨RX7, TX7, 25, tyX7, rfl, by decide, rfl, rfl, (Or.inl wd_1232), inW7, tyX7_ok, nmX7, rfl, tyX7_ok 16 (by decide), rfl⟩
theorem wd_1233 : (Jvm.Cond.fieldLink "BitDeskModel" (37 : Nat) "BitDeskModel" "other" "[J") ∈ WS := ws_c5 179 rfl rfl
theorem fp_X7_37 : FP RX7 37 7 17 (.array .long) true := ⟨RX7, TX7, 25, tyX7, rfl, by decide, rfl, rfl, (Or.inl wd_1233), inW7, tyX7_ok, nmX7, rfl, tyX7_ok 17 (by decide), rfl⟩
theorem wd_1234 : (Jvm.Cond.fieldLink "BitDeskModel" (40 : Nat) "BitDeskModel" "third" "[J") ∈ WS := ws_c5 180 rfl rfl
theorem fp_X7_40 : FP RX7 40 7 18 (.array .long) true := ⟨RX7, TX7, 25, tyX7, rfl, by decide, rfl, rfl, (Or.inl wd_1234), inW7, tyX7_ok, nmX7, rfl, tyX7_ok 18 (by decide), rfl⟩
theorem wd_1235 : (Jvm.Cond.fieldLink "BitDeskModel" (43 : Nat) "BitDeskModel" "far" "[I") ∈ WS := ws_c5 181 rfl rfl
theorem fp_X7_43 : FP RX7 43 7 19 (.array .int) true := ⟨RX7, TX7, 25, tyX7, rfl, by decide, rfl, rfl, (Or.inl wd_1235), inW7, tyX7_ok, nmX7, rfl, tyX7_ok 19 (by decide), rfl⟩
theorem wd_1236 : (Jvm.Cond.fieldLink "BitDeskModel" (47 : Nat) "BitDeskModel" "beside" "[J") ∈ WS := ws_c5 182 rfl rfl
theorem fp_X7_47 : FP RX7 47 7 20 (.array .long) true := ⟨RX7, TX7, 25, tyX7, rfl, by decide, rfl, rfl, (Or.inl wd_1236), inW7, tyX7_ok, nmX7, rfl, tyX7_ok 20 (by decide), rfl⟩
theorem wd_1237 : (Jvm.Cond.fieldLink "BitDeskModel" (50 : Nat) "BitDeskModel" "pivots" "[I") ∈ WS := ws_c5 183 rfl rfl
theorem fp_X7_50 : FP RX7 50 7 21 (.array .int) true := ⟨RX7, TX7, 25, tyX7, rfl, by decide, rfl, rfl, (Or.inl wd_1237), inW7, tyX7_ok, nmX7, rfl, tyX7_ok 21 (by decide), rfl⟩
theorem wd_1239 : (Jvm.Cond.fieldLink "BitDeskModel" (53 : Nat) "BitDeskModel" "output" "[B") ∈ WS := ws_c5 185 rfl rfl
theorem fp_X7_53 : FP RX7 53 7 23 (.array .byte) true := ⟨RX7, TX7, 25, tyX7, rfl, by decide, rfl, rfl, (Or.inl wd_1239), inW7, tyX7_ok, nmX7, rfl, tyX7_ok 23 (by decide), rfl⟩
theorem fk_X7_9 : FK RX7 9 7 0 (.array .long) := ⟨RX7, TX7, 25, rfl, by decide, rfl, rfl, (Or.inl wd_1216), inW7⟩
theorem wd_1214 : (Jvm.Cond.code ({ cls := "BitDeskModel", name := "begins", desc := "([JI)V" } : Jvm.MethodName) prog_9_method_5_code (3 : Nat) (Option.none : Option Jvm.ClassFile.FieldType)) ∈ WS := ws_c5 160 rfl rfl
theorem wd_1212 : (Jvm.Cond.methodLink "BitDeskModel" (56 : Nat) ({ cls := "BitDeskModel", name := "begins", desc := "([JI)V" } : Jvm.MethodName)) ∈ WS := ws_c5 158 rfl rfl
theorem wd_1213 : (Jvm.Cond.static ({ cls := "BitDeskModel", name := "begins", desc := "([JI)V" } : Jvm.MethodName)) ∈ WS := ws_c5 159 rfl rfl
theorem lk_X7_56 : LkS RX7 56 jX7_begins 2 := ⟨⟨wd_1212, ⟨rfl, (by rw [cwd_nil rfl]; exact wd_1214)⟩, wd_102, ⟨by decide +kernel, by decide +kernel⟩, by decide +kernel⟩, wd_1213⟩
theorem wd_1222 : (Jvm.Cond.fieldLink "BitDeskModel" (60 : Nat) "BitDeskModel" "thrown" "I") ∈ WS := ws_c5 168 rfl rfl
theorem fk_X7_60 : FK RX7 60 7 6 (.int) := ⟨RX7, TX7, 25, rfl, by decide, rfl, rfl, (Or.inl wd_1222), inW7⟩
theorem wd_1215 : (Jvm.Cond.constantLong "BitDeskModel" (63 : Nat) (4 : Int64)) ∈ WS := ws_c5 161 rfl rfl
theorem fp_X7_60 : FP RX7 60 7 6 (.int) false := ⟨RX7, TX7, 25, tyX7, rfl, by decide, rfl, rfl, (Or.inl wd_1222), inW7, tyX7_ok, nmX7, rfl, tyX7_ok 6 (by decide), rfl⟩
theorem wd_1444 : (Jvm.Cond.constantLong "BitDeskModel" (65 : Nat) (5 : Int64)) ∈ WS := ws_c6 150 rfl rfl
theorem wd_1329 : (Jvm.Cond.code ({ cls := "BitDeskModel", name := "in", desc := "(JJJ)Z" } : Jvm.MethodName) prog_9_method_3_code (6 : Nat) (Option.some Jvm.ClassFile.FieldType.boolean)) ∈ WS := ws_c6 35 rfl rfl
theorem wd_1327 : (Jvm.Cond.methodLink "BitDeskModel" (67 : Nat) ({ cls := "BitDeskModel", name := "in", desc := "(JJJ)Z" } : Jvm.MethodName)) ∈ WS := ws_c6 33 rfl rfl
theorem wd_1328 : (Jvm.Cond.static ({ cls := "BitDeskModel", name := "in", desc := "(JJJ)Z" } : Jvm.MethodName)) ∈ WS := ws_c6 34 rfl rfl
theorem lk_X7_67 : LkS RX7 67 jX7_in 3 := ⟨⟨wd_1327, ⟨rfl, (by rw [cwd_nil rfl]; exact wd_1329)⟩, wd_102, ⟨by decide +kernel, by decide +kernel⟩, by decide +kernel⟩, wd_1328⟩
theorem wd_1407 : (Jvm.Cond.code ({ cls := "BitDeskModel", name := "size", desc := "()I" } : Jvm.MethodName) prog_9_method_7_code (1 : Nat) (Option.some Jvm.ClassFile.FieldType.int)) ∈ WS := ws_c6 113 rfl rfl
theorem wd_1404 : (Jvm.Cond.methodLink "BitDeskModel" (71 : Nat) ({ cls := "BitDeskModel", name := "size", desc := "()I" } : Jvm.MethodName)) ∈ WS := ws_c6 110 rfl rfl
theorem wd_1406 : (Jvm.Cond.instanceMethod ({ cls := "BitDeskModel", name := "size", desc := "()I" } : Jvm.MethodName)) ∈ WS := ws_c6 112 rfl rfl
theorem wd_62 : (Jvm.Cond.selects "BitDeskModel" (⟨"BitDeskModel", "size", "()I"⟩ : Jvm.MethodName) (⟨"BitDeskModel", "size", "()I"⟩ : Jvm.MethodName)) ∈ WS := ws_c0 62 rfl rfl
theorem lk_X7_71 : LkV RX7 71 jX7_size 0 := ⟨⟨wd_1404, ⟨rfl, (by rw [cwd_nil rfl]; exact wd_1407)⟩, wd_102, ⟨by decide +kernel, by decide +kernel⟩, by decide +kernel⟩, wd_1406, wd_62⟩
theorem wd_1304 : (Jvm.Cond.constantLong "BitDeskModel" (75 : Nat) (255 : Int64)) ∈ WS := ws_c6 10 rfl rfl
theorem wd_1303 : (Jvm.Cond.code ({ cls := "BitDeskModel", name := "byteOf", desc := "(JI)I" } : Jvm.MethodName) prog_9_method_15_code (3 : Nat) (Option.some Jvm.ClassFile.FieldType.int)) ∈ WS := ws_c6 9 rfl rfl
theorem wd_1301 : (Jvm.Cond.methodLink "BitDeskModel" (77 : Nat) ({ cls := "BitDeskModel", name := "byteOf", desc := "(JI)I" } : Jvm.MethodName)) ∈ WS := ws_c6 7 rfl rfl
theorem wd_1302 : (Jvm.Cond.static ({ cls := "BitDeskModel", name := "byteOf", desc := "(JI)I" } : Jvm.MethodName)) ∈ WS := ws_c6 8 rfl rfl
theorem lk_X7_77 : LkS RX7 77 jX7_byteOf 2 := ⟨⟨wd_1301, ⟨rfl, (by rw [cwd_nil rfl]; exact wd_1303)⟩, wd_102, ⟨by decide +kernel, by decide +kernel⟩, by decide +kernel⟩, wd_1302⟩
theorem wd_1224 : (Jvm.Cond.fieldLink "BitDeskModel" (81 : Nat) "BitDeskModel" "length" "I") ∈ WS := ws_c5 170 rfl rfl
theorem fk_X7_81 : FK RX7 81 7 8 (.int) := ⟨RX7, TX7, 25, rfl, by decide, rfl, rfl, (Or.inl wd_1224), inW7⟩
theorem fk_X7_26 : FK RX7 26 7 7 (.array .byte) := ⟨RX7, TX7, 25, rfl, by decide, rfl, rfl, (Or.inl wd_1223), inW7⟩
theorem fp_X7_81 : FP RX7 81 7 8 (.int) false := ⟨RX7, TX7, 25, tyX7, rfl, by decide, rfl, rfl, (Or.inl wd_1224), inW7, tyX7_ok, nmX7, rfl, tyX7_ok 8 (by decide), rfl⟩
theorem wd_1225 : (Jvm.Cond.fieldLink "BitDeskModel" (84 : Nat) "BitDeskModel" "at" "I") ∈ WS := ws_c5 171 rfl rfl
theorem fk_X7_84 : FK RX7 84 7 9 (.int) := ⟨RX7, TX7, 25, rfl, by decide, rfl, rfl, (Or.inl wd_1225), inW7⟩
theorem wd_1324 : (Jvm.Cond.code ({ cls := "BitDeskModel", name := "here", desc := "()I" } : Jvm.MethodName) prog_9_method_17_code (1 : Nat) (Option.some Jvm.ClassFile.FieldType.int)) ∈ WS := ws_c6 30 rfl rfl
theorem wd_1321 : (Jvm.Cond.methodLink "BitDeskModel" (87 : Nat) ({ cls := "BitDeskModel", name := "here", desc := "()I" } : Jvm.MethodName)) ∈ WS := ws_c6 27 rfl rfl
theorem wd_1323 : (Jvm.Cond.instanceMethod ({ cls := "BitDeskModel", name := "here", desc := "()I" } : Jvm.MethodName)) ∈ WS := ws_c6 29 rfl rfl
theorem wd_48 : (Jvm.Cond.selects "BitDeskModel" (⟨"BitDeskModel", "here", "()I"⟩ : Jvm.MethodName) (⟨"BitDeskModel", "here", "()I"⟩ : Jvm.MethodName)) ∈ WS := ws_c0 48 rfl rfl
theorem lk_X7_87 : LkV RX7 87 jX7_here 0 := ⟨⟨wd_1321, ⟨rfl, (by rw [cwd_nil rfl]; exact wd_1324)⟩, wd_102, ⟨by decide +kernel, by decide +kernel⟩, by decide +kernel⟩, wd_1323, wd_48⟩
theorem fp_X7_84 : FP RX7 84 7 9 (.int) false := ⟨RX7, TX7, 25, tyX7, rfl, by decide, rfl, rfl, (Or.inl wd_1225), inW7, tyX7_ok, nmX7, rfl, tyX7_ok 9 (by decide), rfl⟩
theorem wd_1226 : (Jvm.Cond.fieldLink "BitDeskModel" (90 : Nat) "BitDeskModel" "begin" "I") ∈ WS := ws_c5 172 rfl rfl
theorem fp_X7_90 : FP RX7 90 7 10 (.int) false := ⟨RX7, TX7, 25, tyX7, rfl, by decide, rfl, rfl, (Or.inl wd_1226), inW7, tyX7_ok, nmX7, rfl, tyX7_ok 10 (by decide), rfl⟩
theorem wd_1227 : (Jvm.Cond.fieldLink "BitDeskModel" (93 : Nat) "BitDeskModel" "error" "I") ∈ WS := ws_c5 173 rfl rfl
theorem fk_X7_93 : FK RX7 93 7 11 (.int) := ⟨RX7, TX7, 25, rfl, by decide, rfl, rfl, (Or.inl wd_1227), inW7⟩
theorem fp_X7_93 : FP RX7 93 7 11 (.int) false := ⟨RX7, TX7, 25, tyX7, rfl, by decide, rfl, rfl, (Or.inl wd_1227), inW7, tyX7_ok, nmX7, rfl, tyX7_ok 11 (by decide), rfl⟩
theorem fk_X7_90 : FK RX7 90 7 10 (.int) := ⟨RX7, TX7, 25, rfl, by decide, rfl, rfl, (Or.inl wd_1226), inW7⟩
theorem wd_1228 : (Jvm.Cond.fieldLink "BitDeskModel" (96 : Nat) "BitDeskModel" "errorAt" "I") ∈ WS := ws_c5 174 rfl rfl
theorem fp_X7_96 : FP RX7 96 7 12 (.int) false := ⟨RX7, TX7, 25, tyX7, rfl, by decide, rfl, rfl, (Or.inl wd_1228), inW7, tyX7_ok, nmX7, rfl, tyX7_ok 12 (by decide), rfl⟩
theorem wd_1320 : (Jvm.Cond.code ({ cls := "BitDeskModel", name := "next", desc := "()I" } : Jvm.MethodName) prog_9_method_18_code (1 : Nat) (Option.some Jvm.ClassFile.FieldType.int)) ∈ WS := ws_c6 26 rfl rfl
theorem wd_1317 : (Jvm.Cond.methodLink "BitDeskModel" (99 : Nat) ({ cls := "BitDeskModel", name := "next", desc := "()I" } : Jvm.MethodName)) ∈ WS := ws_c6 23 rfl rfl
theorem wd_1319 : (Jvm.Cond.instanceMethod ({ cls := "BitDeskModel", name := "next", desc := "()I" } : Jvm.MethodName)) ∈ WS := ws_c6 25 rfl rfl
theorem wd_47 : (Jvm.Cond.selects "BitDeskModel" (⟨"BitDeskModel", "next", "()I"⟩ : Jvm.MethodName) (⟨"BitDeskModel", "next", "()I"⟩ : Jvm.MethodName)) ∈ WS := ws_c0 47 rfl rfl
theorem lk_X7_99 : LkV RX7 99 jX7_next 0 := ⟨⟨wd_1317, ⟨rfl, (by rw [cwd_nil rfl]; exact wd_1320)⟩, wd_102, ⟨by decide +kernel, by decide +kernel⟩, by decide +kernel⟩, wd_1319, wd_47⟩
theorem wd_1325 : (Jvm.Cond.constantLong "BitDeskModel" (102 : Nat) (97 : Int64)) ∈ WS := ws_c6 31 rfl rfl
theorem wd_1326 : (Jvm.Cond.constantLong "BitDeskModel" (104 : Nat) (122 : Int64)) ∈ WS := ws_c6 32 rfl rfl
theorem wd_1335 : (Jvm.Cond.methodLink "BitDeskModel" (106 : Nat) ({ cls := "java/lang/String", name := "length", desc := "()I" } : Jvm.MethodName)) ∈ WS := ws_c6 41 rfl rfl
theorem lk_X7_106 : LkV RX7 106 jJ0_length_8abf5 0 := ⟨⟨wd_1335, ⟨rfl, (by rw [cwd_nil rfl]; exact wd_372)⟩, wd_103, ⟨by decide +kernel, by decide +kernel⟩, by decide +kernel⟩, wd_370, wd_371⟩
theorem wd_1336 : (Jvm.Cond.methodLink "BitDeskModel" (110 : Nat) ({ cls := "java/lang/String", name := "charAt", desc := "(I)C" } : Jvm.MethodName)) ∈ WS := ws_c6 42 rfl rfl
theorem lk_X7_110 : LkV RX7 110 jJ0_charAt_5068e 1 := ⟨⟨wd_1336, ⟨rfl, (by rw [cwd_nil rfl]; exact wd_382)⟩, wd_103, ⟨by decide +kernel, by decide +kernel⟩, by decide +kernel⟩, wd_380, wd_381⟩
theorem wd_1345 : (Jvm.Cond.constantLong "BitDeskModel" (114 : Nat) (48 : Int64)) ∈ WS := ws_c6 51 rfl rfl
theorem wd_1346 : (Jvm.Cond.constantLong "BitDeskModel" (116 : Nat) (57 : Int64)) ∈ WS := ws_c6 52 rfl rfl
theorem wd_1340 : (Jvm.Cond.code ({ cls := "BitDeskModel", name := "fails", desc := "(I)V" } : Jvm.MethodName) prog_9_method_19_code (2 : Nat) (Option.none : Option Jvm.ClassFile.FieldType)) ∈ WS := ws_c6 46 rfl rfl
theorem wd_1337 : (Jvm.Cond.methodLink "BitDeskModel" (118 : Nat) ({ cls := "BitDeskModel", name := "fails", desc := "(I)V" } : Jvm.MethodName)) ∈ WS := ws_c6 43 rfl rfl
theorem wd_1339 : (Jvm.Cond.instanceMethod ({ cls := "BitDeskModel", name := "fails", desc := "(I)V" } : Jvm.MethodName)) ∈ WS := ws_c6 45 rfl rfl
theorem wd_50 : (Jvm.Cond.selects "BitDeskModel" (⟨"BitDeskModel", "fails", "(I)V"⟩ : Jvm.MethodName) (⟨"BitDeskModel", "fails", "(I)V"⟩ : Jvm.MethodName)) ∈ WS := ws_c0 50 rfl rfl
theorem lk_X7_118 : LkV RX7 118 jX7_fails 1 := ⟨⟨wd_1337, ⟨rfl, (by rw [cwd_nil rfl]; exact wd_1340)⟩, wd_102, ⟨by decide +kernel, by decide +kernel⟩, by decide +kernel⟩, wd_1339, wd_50⟩
theorem wd_1347 : (Jvm.Cond.constant "BitDeskModel" (122 : Nat) (10000000 : Int32)) ∈ WS := ws_c6 53 rfl rfl
theorem wd_1348 : (Jvm.Cond.methodLink "BitDeskModel" (123 : Nat) ({ cls := "java/lang/Math", name := "min", desc := "(II)I" } : Jvm.MethodName)) ∈ WS := ws_c6 54 rfl rfl
theorem lk_X7_123 : LkS RX7 123 jJ9_min_7cf53 2 := ⟨⟨wd_1348, ⟨rfl, (by rw [cwd_nil rfl]; exact wd_431)⟩, wd_107, ⟨by decide +kernel, by decide +kernel⟩, by decide +kernel⟩, wd_430⟩
theorem wd_1344 : (Jvm.Cond.code ({ cls := "BitDeskModel", name := "number", desc := "(II)I" } : Jvm.MethodName) prog_9_method_22_code (4 : Nat) (Option.some Jvm.ClassFile.FieldType.int)) ∈ WS := ws_c6 50 rfl rfl
theorem wd_1341 : (Jvm.Cond.methodLink "BitDeskModel" (129 : Nat) ({ cls := "BitDeskModel", name := "number", desc := "(II)I" } : Jvm.MethodName)) ∈ WS := ws_c6 47 rfl rfl
theorem wd_1343 : (Jvm.Cond.instanceMethod ({ cls := "BitDeskModel", name := "number", desc := "(II)I" } : Jvm.MethodName)) ∈ WS := ws_c6 49 rfl rfl
theorem wd_51 : (Jvm.Cond.selects "BitDeskModel" (⟨"BitDeskModel", "number", "(II)I"⟩ : Jvm.MethodName) (⟨"BitDeskModel", "number", "(II)I"⟩ : Jvm.MethodName)) ∈ WS := ws_c0 51 rfl rfl
theorem lk_X7_129 : LkV RX7 129 jX7_number 2 := ⟨⟨wd_1341, ⟨rfl, (by rw [cwd_nil rfl]; exact wd_1344)⟩, wd_102, ⟨by decide +kernel, by decide +kernel⟩, by decide +kernel⟩, wd_1343, wd_51⟩
theorem fk_X7_13 : FK RX7 13 7 1 (.array .long) := ⟨RX7, TX7, 25, rfl, by decide, rfl, rfl, (Or.inl wd_1217), inW7⟩
theorem wd_1316 : (Jvm.Cond.code ({ cls := "BitDeskModel", name := "reads", desc := "()V" } : Jvm.MethodName) prog_9_method_20_code (1 : Nat) (Option.none : Option Jvm.ClassFile.FieldType)) ∈ WS := ws_c6 22 rfl rfl
theorem wd_1313 : (Jvm.Cond.methodLink "BitDeskModel" (132 : Nat) ({ cls := "BitDeskModel", name := "reads", desc := "()V" } : Jvm.MethodName)) ∈ WS := ws_c6 19 rfl rfl
theorem wd_1315 : (Jvm.Cond.instanceMethod ({ cls := "BitDeskModel", name := "reads", desc := "()V" } : Jvm.MethodName)) ∈ WS := ws_c6 21 rfl rfl
theorem wd_46 : (Jvm.Cond.selects "BitDeskModel" (⟨"BitDeskModel", "reads", "()V"⟩ : Jvm.MethodName) (⟨"BitDeskModel", "reads", "()V"⟩ : Jvm.MethodName)) ∈ WS := ws_c0 46 rfl rfl
theorem lk_X7_132 : LkV RX7 132 jX7_reads 0 := ⟨⟨wd_1313, ⟨rfl, (by rw [cwd_nil rfl]; exact wd_1316)⟩, wd_102, ⟨by decide +kernel, by decide +kernel⟩, by decide +kernel⟩, wd_1315, wd_46⟩
theorem wd_1334 : (Jvm.Cond.code ({ cls := "BitDeskModel", name := "isWord", desc := "(Ljava/lang/String;)Z" } : Jvm.MethodName) prog_9_method_21_code (4 : Nat) (Option.some Jvm.ClassFile.FieldType.boolean)) ∈ WS := ws_c6 40 rfl rfl
theorem wd_1331 : (Jvm.Cond.methodLink "BitDeskModel" (136 : Nat) ({ cls := "BitDeskModel", name := "isWord", desc := "(Ljava/lang/String;)Z" } : Jvm.MethodName)) ∈ WS := ws_c6 37 rfl rfl
theorem wd_1333 : (Jvm.Cond.instanceMethod ({ cls := "BitDeskModel", name := "isWord", desc := "(Ljava/lang/String;)Z" } : Jvm.MethodName)) ∈ WS := ws_c6 39 rfl rfl
theorem wd_49 : (Jvm.Cond.selects "BitDeskModel" (⟨"BitDeskModel", "isWord", "(Ljava/lang/String;)Z"⟩ : Jvm.MethodName) (⟨"BitDeskModel", "isWord", "(Ljava/lang/String;)Z"⟩ : Jvm.MethodName)) ∈ WS := ws_c0 49 rfl rfl
theorem lk_X7_136 : LkV RX7 136 jX7_isWord 1 := ⟨⟨wd_1331, ⟨rfl, (by rw [cwd_nil rfl]; exact wd_1334)⟩, wd_102, ⟨by decide +kernel, by decide +kernel⟩, by decide +kernel⟩, wd_1333, wd_49⟩
theorem wd_1365 : (Jvm.Cond.code ({ cls := "BitDeskModel", name := "readSlot", desc := "()I" } : Jvm.MethodName) prog_9_method_23_code (1 : Nat) (Option.some Jvm.ClassFile.FieldType.int)) ∈ WS := ws_c6 71 rfl rfl
theorem wd_1362 : (Jvm.Cond.methodLink "BitDeskModel" (140 : Nat) ({ cls := "BitDeskModel", name := "readSlot", desc := "()I" } : Jvm.MethodName)) ∈ WS := ws_c6 68 rfl rfl
theorem wd_1364 : (Jvm.Cond.instanceMethod ({ cls := "BitDeskModel", name := "readSlot", desc := "()I" } : Jvm.MethodName)) ∈ WS := ws_c6 70 rfl rfl
theorem wd_55 : (Jvm.Cond.selects "BitDeskModel" (⟨"BitDeskModel", "readSlot", "()I"⟩ : Jvm.MethodName) (⟨"BitDeskModel", "readSlot", "()I"⟩ : Jvm.MethodName)) ∈ WS := ws_c0 55 rfl rfl
theorem lk_X7_140 : LkV RX7 140 jX7_readSlot 0 := ⟨⟨wd_1362, ⟨rfl, (by rw [cwd_nil rfl]; exact wd_1365)⟩, wd_102, ⟨by decide +kernel, by decide +kernel⟩, by decide +kernel⟩, wd_1364, wd_55⟩
theorem wd_1369 : (Jvm.Cond.code ({ cls := "BitDeskModel", name := "readNode", desc := "()I" } : Jvm.MethodName) prog_9_method_24_code (1 : Nat) (Option.some Jvm.ClassFile.FieldType.int)) ∈ WS := ws_c6 75 rfl rfl
theorem wd_1366 : (Jvm.Cond.methodLink "BitDeskModel" (143 : Nat) ({ cls := "BitDeskModel", name := "readNode", desc := "()I" } : Jvm.MethodName)) ∈ WS := ws_c6 72 rfl rfl
theorem wd_1368 : (Jvm.Cond.instanceMethod ({ cls := "BitDeskModel", name := "readNode", desc := "()I" } : Jvm.MethodName)) ∈ WS := ws_c6 74 rfl rfl
theorem wd_56 : (Jvm.Cond.selects "BitDeskModel" (⟨"BitDeskModel", "readNode", "()I"⟩ : Jvm.MethodName) (⟨"BitDeskModel", "readNode", "()I"⟩ : Jvm.MethodName)) ∈ WS := ws_c0 56 rfl rfl
theorem lk_X7_143 : LkV RX7 143 jX7_readNode 0 := ⟨⟨wd_1366, ⟨rfl, (by rw [cwd_nil rfl]; exact wd_1369)⟩, wd_102, ⟨by decide +kernel, by decide +kernel⟩, by decide +kernel⟩, wd_1368, wd_56⟩
theorem wd_1383 : (Jvm.Cond.code ({ cls := "BitDeskModel", name := "kindHere", desc := "()I" } : Jvm.MethodName) prog_9_method_29_code (1 : Nat) (Option.some Jvm.ClassFile.FieldType.int)) ∈ WS := ws_c6 89 rfl rfl
theorem wd_1380 : (Jvm.Cond.methodLink "BitDeskModel" (154 : Nat) ({ cls := "BitDeskModel", name := "kindHere", desc := "()I" } : Jvm.MethodName)) ∈ WS := ws_c6 86 rfl rfl
theorem wd_1382 : (Jvm.Cond.instanceMethod ({ cls := "BitDeskModel", name := "kindHere", desc := "()I" } : Jvm.MethodName)) ∈ WS := ws_c6 88 rfl rfl
theorem wd_59 : (Jvm.Cond.selects "BitDeskModel" (⟨"BitDeskModel", "kindHere", "()I"⟩ : Jvm.MethodName) (⟨"BitDeskModel", "kindHere", "()I"⟩ : Jvm.MethodName)) ∈ WS := ws_c0 59 rfl rfl
theorem lk_X7_154 : LkV RX7 154 jX7_kindHere 0 := ⟨⟨wd_1380, ⟨rfl, (by rw [cwd_nil rfl]; exact wd_1383)⟩, wd_102, ⟨by decide +kernel, by decide +kernel⟩, by decide +kernel⟩, wd_1382, wd_59⟩
theorem wd_1390 : (Jvm.Cond.code ({ cls := "BitDeskModel", name := "filled", desc := "(III)J" } : Jvm.MethodName) prog_9_method_28_code (5 : Nat) (Option.some Jvm.ClassFile.FieldType.long)) ∈ WS := ws_c6 96 rfl rfl
theorem wd_1388 : (Jvm.Cond.methodLink "BitDeskModel" (157 : Nat) ({ cls := "BitDeskModel", name := "filled", desc := "(III)J" } : Jvm.MethodName)) ∈ WS := ws_c6 94 rfl rfl
theorem wd_1389 : (Jvm.Cond.static ({ cls := "BitDeskModel", name := "filled", desc := "(III)J" } : Jvm.MethodName)) ∈ WS := ws_c6 95 rfl rfl
theorem lk_X7_157 : LkS RX7 157 jX7_filled 3 := ⟨⟨wd_1388, ⟨rfl, (by rw [cwd_nil rfl]; exact wd_1390)⟩, wd_102, ⟨by decide +kernel, by decide +kernel⟩, by decide +kernel⟩, wd_1389⟩
theorem wd_1361 : (Jvm.Cond.code ({ cls := "BitDeskModel", name := "edgePart", desc := "()V" } : Jvm.MethodName) prog_9_method_26_code (4 : Nat) (Option.none : Option Jvm.ClassFile.FieldType)) ∈ WS := ws_c6 67 rfl rfl
theorem wd_1358 : (Jvm.Cond.methodLink "BitDeskModel" (163 : Nat) ({ cls := "BitDeskModel", name := "edgePart", desc := "()V" } : Jvm.MethodName)) ∈ WS := ws_c6 64 rfl rfl
theorem wd_1360 : (Jvm.Cond.instanceMethod ({ cls := "BitDeskModel", name := "edgePart", desc := "()V" } : Jvm.MethodName)) ∈ WS := ws_c6 66 rfl rfl
theorem wd_54 : (Jvm.Cond.selects "BitDeskModel" (⟨"BitDeskModel", "edgePart", "()V"⟩ : Jvm.MethodName) (⟨"BitDeskModel", "edgePart", "()V"⟩ : Jvm.MethodName)) ∈ WS := ws_c0 54 rfl rfl
theorem lk_X7_163 : LkV RX7 163 jX7_edgePart 0 := ⟨⟨wd_1358, ⟨rfl, (by rw [cwd_nil rfl]; exact wd_1361)⟩, wd_102, ⟨by decide +kernel, by decide +kernel⟩, by decide +kernel⟩, wd_1360, wd_54⟩
theorem wd_1374 : (Jvm.Cond.code ({ cls := "BitDeskModel", name := "rowPart", desc := "()V" } : Jvm.MethodName) prog_9_method_27_code (7 : Nat) (Option.none : Option Jvm.ClassFile.FieldType)) ∈ WS := ws_c6 80 rfl rfl
theorem wd_1371 : (Jvm.Cond.methodLink "BitDeskModel" (168 : Nat) ({ cls := "BitDeskModel", name := "rowPart", desc := "()V" } : Jvm.MethodName)) ∈ WS := ws_c6 77 rfl rfl
theorem wd_1373 : (Jvm.Cond.instanceMethod ({ cls := "BitDeskModel", name := "rowPart", desc := "()V" } : Jvm.MethodName)) ∈ WS := ws_c6 79 rfl rfl
theorem wd_57 : (Jvm.Cond.selects "BitDeskModel" (⟨"BitDeskModel", "rowPart", "()V"⟩ : Jvm.MethodName) (⟨"BitDeskModel", "rowPart", "()V"⟩ : Jvm.MethodName)) ∈ WS := ws_c0 57 rfl rfl
theorem lk_X7_168 : LkV RX7 168 jX7_rowPart 0 := ⟨⟨wd_1371, ⟨rfl, (by rw [cwd_nil rfl]; exact wd_1374)⟩, wd_102, ⟨by decide +kernel, by decide +kernel⟩, by decide +kernel⟩, wd_1373, wd_57⟩
theorem wd_1379 : (Jvm.Cond.code ({ cls := "BitDeskModel", name := "fillPart", desc := "()V" } : Jvm.MethodName) prog_9_method_30_code (5 : Nat) (Option.none : Option Jvm.ClassFile.FieldType)) ∈ WS := ws_c6 85 rfl rfl
theorem wd_1376 : (Jvm.Cond.methodLink "BitDeskModel" (173 : Nat) ({ cls := "BitDeskModel", name := "fillPart", desc := "()V" } : Jvm.MethodName)) ∈ WS := ws_c6 82 rfl rfl
theorem wd_1378 : (Jvm.Cond.instanceMethod ({ cls := "BitDeskModel", name := "fillPart", desc := "()V" } : Jvm.MethodName)) ∈ WS := ws_c6 84 rfl rfl
theorem wd_58 : (Jvm.Cond.selects "BitDeskModel" (⟨"BitDeskModel", "fillPart", "()V"⟩ : Jvm.MethodName) (⟨"BitDeskModel", "fillPart", "()V"⟩ : Jvm.MethodName)) ∈ WS := ws_c0 58 rfl rfl
theorem lk_X7_173 : LkV RX7 173 jX7_fillPart 0 := ⟨⟨wd_1376, ⟨rfl, (by rw [cwd_nil rfl]; exact wd_1379)⟩, wd_102, ⟨by decide +kernel, by decide +kernel⟩, by decide +kernel⟩, wd_1378, wd_58⟩
theorem wd_1395 : (Jvm.Cond.code ({ cls := "BitDeskModel", name := "keepPart", desc := "()V" } : Jvm.MethodName) prog_9_method_31_code (2 : Nat) (Option.none : Option Jvm.ClassFile.FieldType)) ∈ WS := ws_c6 101 rfl rfl
theorem wd_1392 : (Jvm.Cond.methodLink "BitDeskModel" (178 : Nat) ({ cls := "BitDeskModel", name := "keepPart", desc := "()V" } : Jvm.MethodName)) ∈ WS := ws_c6 98 rfl rfl
theorem wd_1394 : (Jvm.Cond.instanceMethod ({ cls := "BitDeskModel", name := "keepPart", desc := "()V" } : Jvm.MethodName)) ∈ WS := ws_c6 100 rfl rfl
theorem wd_60 : (Jvm.Cond.selects "BitDeskModel" (⟨"BitDeskModel", "keepPart", "()V"⟩ : Jvm.MethodName) (⟨"BitDeskModel", "keepPart", "()V"⟩ : Jvm.MethodName)) ∈ WS := ws_c0 60 rfl rfl
theorem lk_X7_178 : LkV RX7 178 jX7_keepPart 0 := ⟨⟨wd_1392, ⟨rfl, (by rw [cwd_nil rfl]; exact wd_1395)⟩, wd_102, ⟨by decide +kernel, by decide +kernel⟩, by decide +kernel⟩, wd_1394, wd_60⟩
theorem wd_1229 : (Jvm.Cond.fieldLink "BitDeskModel" (183 : Nat) "BitDeskModel" "statement" "I") ∈ WS := ws_c5 175 rfl rfl
theorem fk_X7_183 : FK RX7 183 7 13 (.int) := ⟨RX7, TX7, 25, rfl, by decide, rfl, rfl, (Or.inl wd_1229), inW7⟩
theorem fp_X7_183 : FP RX7 183 7 13 (.int) false := ⟨RX7, TX7, 25, tyX7, rfl, by decide, rfl, rfl, (Or.inl wd_1229), inW7, tyX7_ok, nmX7, rfl, tyX7_ok 13 (by decide), rfl⟩
theorem wd_1312 : (Jvm.Cond.code ({ cls := "BitDeskModel", name := "sizePart", desc := "()V" } : Jvm.MethodName) prog_9_method_25_code (1 : Nat) (Option.none : Option Jvm.ClassFile.FieldType)) ∈ WS := ws_c6 18 rfl rfl
theorem wd_1309 : (Jvm.Cond.methodLink "BitDeskModel" (186 : Nat) ({ cls := "BitDeskModel", name := "sizePart", desc := "()V" } : Jvm.MethodName)) ∈ WS := ws_c6 15 rfl rfl
theorem wd_1311 : (Jvm.Cond.instanceMethod ({ cls := "BitDeskModel", name := "sizePart", desc := "()V" } : Jvm.MethodName)) ∈ WS := ws_c6 17 rfl rfl
theorem wd_45 : (Jvm.Cond.selects "BitDeskModel" (⟨"BitDeskModel", "sizePart", "()V"⟩ : Jvm.MethodName) (⟨"BitDeskModel", "sizePart", "()V"⟩ : Jvm.MethodName)) ∈ WS := ws_c0 45 rfl rfl
theorem lk_X7_186 : LkV RX7 186 jX7_sizePart 0 := ⟨⟨wd_1309, ⟨rfl, (by rw [cwd_nil rfl]; exact wd_1312)⟩, wd_102, ⟨by decide +kernel, by decide +kernel⟩, by decide +kernel⟩, wd_1311, wd_45⟩
theorem wd_1352 : (Jvm.Cond.code ({ cls := "BitDeskModel", name := "isMore", desc := "()Z" } : Jvm.MethodName) prog_9_method_33_code (1 : Nat) (Option.some Jvm.ClassFile.FieldType.boolean)) ∈ WS := ws_c6 58 rfl rfl
theorem wd_1349 : (Jvm.Cond.methodLink "BitDeskModel" (189 : Nat) ({ cls := "BitDeskModel", name := "isMore", desc := "()Z" } : Jvm.MethodName)) ∈ WS := ws_c6 55 rfl rfl
theorem wd_1351 : (Jvm.Cond.instanceMethod ({ cls := "BitDeskModel", name := "isMore", desc := "()Z" } : Jvm.MethodName)) ∈ WS := ws_c6 57 rfl rfl
theorem wd_52 : (Jvm.Cond.selects "BitDeskModel" (⟨"BitDeskModel", "isMore", "()Z"⟩ : Jvm.MethodName) (⟨"BitDeskModel", "isMore", "()Z"⟩ : Jvm.MethodName)) ∈ WS := ws_c0 52 rfl rfl
theorem lk_X7_189 : LkV RX7 189 jX7_isMore 0 := ⟨⟨wd_1349, ⟨rfl, (by rw [cwd_nil rfl]; exact wd_1352)⟩, wd_102, ⟨by decide +kernel, by decide +kernel⟩, by decide +kernel⟩, wd_1351, wd_52⟩
theorem wd_1356 : (Jvm.Cond.code ({ cls := "BitDeskModel", name := "statement", desc := "()V" } : Jvm.MethodName) prog_9_method_32_code (1 : Nat) (Option.none : Option Jvm.ClassFile.FieldType)) ∈ WS := ws_c6 62 rfl rfl
theorem wd_1353 : (Jvm.Cond.methodLink "BitDeskModel" (193 : Nat) ({ cls := "BitDeskModel", name := "statement", desc := "()V" } : Jvm.MethodName)) ∈ WS := ws_c6 59 rfl rfl
theorem wd_1355 : (Jvm.Cond.instanceMethod ({ cls := "BitDeskModel", name := "statement", desc := "()V" } : Jvm.MethodName)) ∈ WS := ws_c6 61 rfl rfl
theorem wd_53 : (Jvm.Cond.selects "BitDeskModel" (⟨"BitDeskModel", "statement", "()V"⟩ : Jvm.MethodName) (⟨"BitDeskModel", "statement", "()V"⟩ : Jvm.MethodName)) ∈ WS := ws_c0 53 rfl rfl
theorem lk_X7_193 : LkV RX7 193 jX7_statement 0 := ⟨⟨wd_1353, ⟨rfl, (by rw [cwd_nil rfl]; exact wd_1356)⟩, wd_102, ⟨by decide +kernel, by decide +kernel⟩, by decide +kernel⟩, wd_1355, wd_53⟩
theorem wd_1230 : (Jvm.Cond.fieldLink "BitDeskModel" (195 : Nat) "BitDeskModel" "lastError" "I") ∈ WS := ws_c5 176 rfl rfl
theorem fp_X7_195 : FP RX7 195 7 14 (.int) false := ⟨RX7, TX7, 25, tyX7, rfl, by decide, rfl, rfl, (Or.inl wd_1230), inW7, tyX7_ok, nmX7, rfl, tyX7_ok 14 (by decide), rfl⟩
theorem fk_X7_96 : FK RX7 96 7 12 (.int) := ⟨RX7, TX7, 25, rfl, by decide, rfl, rfl, (Or.inl wd_1228), inW7⟩
theorem wd_1399 : (Jvm.Cond.code ({ cls := "BitDeskModel", name := "copies", desc := "([JI[JI)V" } : Jvm.MethodName) prog_9_method_4_code (5 : Nat) (Option.none : Option Jvm.ClassFile.FieldType)) ∈ WS := ws_c6 105 rfl rfl
theorem wd_1397 : (Jvm.Cond.methodLink "BitDeskModel" (198 : Nat) ({ cls := "BitDeskModel", name := "copies", desc := "([JI[JI)V" } : Jvm.MethodName)) ∈ WS := ws_c6 103 rfl rfl
theorem wd_1398 : (Jvm.Cond.static ({ cls := "BitDeskModel", name := "copies", desc := "([JI[JI)V" } : Jvm.MethodName)) ∈ WS := ws_c6 104 rfl rfl
theorem lk_X7_198 : LkS RX7 198 jX7_copies 4 := ⟨⟨wd_1397, ⟨rfl, (by rw [cwd_nil rfl]; exact wd_1399)⟩, wd_102, ⟨by decide +kernel, by decide +kernel⟩, by decide +kernel⟩, wd_1398⟩
theorem wd_1221 : (Jvm.Cond.fieldLink "BitDeskModel" (201 : Nat) "BitDeskModel" "pastMany" "I") ∈ WS := ws_c5 167 rfl rfl
theorem fp_X7_201 : FP RX7 201 7 5 (.int) false := ⟨RX7, TX7, 25, tyX7, rfl, by decide, rfl, rfl, (Or.inl wd_1221), inW7, tyX7_ok, nmX7, rfl, tyX7_ok 5 (by decide), rfl⟩
theorem wd_1403 : (Jvm.Cond.code ({ cls := "BitDeskModel", name := "madeAnew", desc := "(I)V" } : Jvm.MethodName) prog_9_method_93_code (2 : Nat) (Option.none : Option Jvm.ClassFile.FieldType)) ∈ WS := ws_c6 109 rfl rfl
theorem wd_1400 : (Jvm.Cond.methodLink "BitDeskModel" (204 : Nat) ({ cls := "BitDeskModel", name := "madeAnew", desc := "(I)V" } : Jvm.MethodName)) ∈ WS := ws_c6 106 rfl rfl
theorem wd_1402 : (Jvm.Cond.instanceMethod ({ cls := "BitDeskModel", name := "madeAnew", desc := "(I)V" } : Jvm.MethodName)) ∈ WS := ws_c6 108 rfl rfl
theorem wd_61 : (Jvm.Cond.selects "BitDeskModel" (⟨"BitDeskModel", "madeAnew", "(I)V"⟩ : Jvm.MethodName) (⟨"BitDeskModel", "madeAnew", "(I)V"⟩ : Jvm.MethodName)) ∈ WS := ws_c0 61 rfl rfl
theorem lk_X7_204 : LkV RX7 204 jX7_madeAnew 1 := ⟨⟨wd_1400, ⟨rfl, (by rw [cwd_nil rfl]; exact wd_1403)⟩, wd_102, ⟨by decide +kernel, by decide +kernel⟩, by decide +kernel⟩, wd_1402, wd_61⟩
theorem fk_X7_195 : FK RX7 195 7 14 (.int) := ⟨RX7, TX7, 25, rfl, by decide, rfl, rfl, (Or.inl wd_1230), inW7⟩
theorem fk_X7_30 : FK RX7 30 7 15 (.int) := ⟨RX7, TX7, 25, rfl, by decide, rfl, rfl, (Or.inl wd_1231), inW7⟩
theorem wd_1424 : (Jvm.Cond.constantLong "BitDeskModel" (207 : Nat) (3 : Int64)) ∈ WS := ws_c6 130 rfl rfl
theorem wd_1428 : (Jvm.Cond.code ({ cls := "BitDeskModel", name := "isThrown", desc := "(ZI)Z" } : Jvm.MethodName) prog_9_method_6_code (3 : Nat) (Option.some Jvm.ClassFile.FieldType.boolean)) ∈ WS := ws_c6 134 rfl rfl
theorem wd_1425 : (Jvm.Cond.methodLink "BitDeskModel" (209 : Nat) ({ cls := "BitDeskModel", name := "isThrown", desc := "(ZI)Z" } : Jvm.MethodName)) ∈ WS := ws_c6 131 rfl rfl
theorem wd_1427 : (Jvm.Cond.instanceMethod ({ cls := "BitDeskModel", name := "isThrown", desc := "(ZI)Z" } : Jvm.MethodName)) ∈ WS := ws_c6 133 rfl rfl
theorem wd_64 : (Jvm.Cond.selects "BitDeskModel" (⟨"BitDeskModel", "isThrown", "(ZI)Z"⟩ : Jvm.MethodName) (⟨"BitDeskModel", "isThrown", "(ZI)Z"⟩ : Jvm.MethodName)) ∈ WS := ws_c0 64 rfl rfl
theorem lk_X7_209 : LkV RX7 209 jX7_isThrown 2 := ⟨⟨wd_1425, ⟨rfl, (by rw [cwd_nil rfl]; exact wd_1428)⟩, wd_102, ⟨by decide +kernel, by decide +kernel⟩, by decide +kernel⟩, wd_1427, wd_64⟩
theorem wd_1432 : (Jvm.Cond.code ({ cls := "BitDeskModel", name := "keptMany", desc := "()I" } : Jvm.MethodName) prog_9_method_37_code (3 : Nat) (Option.some Jvm.ClassFile.FieldType.int)) ∈ WS := ws_c6 138 rfl rfl
theorem wd_1429 : (Jvm.Cond.methodLink "BitDeskModel" (213 : Nat) ({ cls := "BitDeskModel", name := "keptMany", desc := "()I" } : Jvm.MethodName)) ∈ WS := ws_c6 135 rfl rfl
theorem wd_1431 : (Jvm.Cond.instanceMethod ({ cls := "BitDeskModel", name := "keptMany", desc := "()I" } : Jvm.MethodName)) ∈ WS := ws_c6 137 rfl rfl
theorem wd_65 : (Jvm.Cond.selects "BitDeskModel" (⟨"BitDeskModel", "keptMany", "()I"⟩ : Jvm.MethodName) (⟨"BitDeskModel", "keptMany", "()I"⟩ : Jvm.MethodName)) ∈ WS := ws_c0 65 rfl rfl
theorem lk_X7_213 : LkV RX7 213 jX7_keptMany 0 := ⟨⟨wd_1429, ⟨rfl, (by rw [cwd_nil rfl]; exact wd_1432)⟩, wd_102, ⟨by decide +kernel, by decide +kernel⟩, by decide +kernel⟩, wd_1431, wd_65⟩
theorem fk_X7_201 : FK RX7 201 7 5 (.int) := ⟨RX7, TX7, 25, rfl, by decide, rfl, rfl, (Or.inl wd_1221), inW7⟩
theorem wd_1443 : (Jvm.Cond.code ({ cls := "BitDeskModel", name := "isSlot", desc := "(I)Z" } : Jvm.MethodName) prog_9_method_8_code (1 : Nat) (Option.some Jvm.ClassFile.FieldType.boolean)) ∈ WS := ws_c6 149 rfl rfl
theorem wd_1441 : (Jvm.Cond.methodLink "BitDeskModel" (216 : Nat) ({ cls := "BitDeskModel", name := "isSlot", desc := "(I)Z" } : Jvm.MethodName)) ∈ WS := ws_c6 147 rfl rfl
theorem wd_1442 : (Jvm.Cond.static ({ cls := "BitDeskModel", name := "isSlot", desc := "(I)Z" } : Jvm.MethodName)) ∈ WS := ws_c6 148 rfl rfl
theorem lk_X7_216 : LkS RX7 216 jX7_isSlot 1 := ⟨⟨wd_1441, ⟨rfl, (by rw [cwd_nil rfl]; exact wd_1443)⟩, wd_102, ⟨by decide +kernel, by decide +kernel⟩, by decide +kernel⟩, wd_1442⟩
theorem wd_1448 : (Jvm.Cond.code ({ cls := "BitDeskModel", name := "isNode", desc := "(I)Z" } : Jvm.MethodName) prog_9_method_9_code (2 : Nat) (Option.some Jvm.ClassFile.FieldType.boolean)) ∈ WS := ws_c6 154 rfl rfl
theorem wd_1445 : (Jvm.Cond.methodLink "BitDeskModel" (220 : Nat) ({ cls := "BitDeskModel", name := "isNode", desc := "(I)Z" } : Jvm.MethodName)) ∈ WS := ws_c6 151 rfl rfl
theorem wd_1447 : (Jvm.Cond.instanceMethod ({ cls := "BitDeskModel", name := "isNode", desc := "(I)Z" } : Jvm.MethodName)) ∈ WS := ws_c6 153 rfl rfl
theorem wd_67 : (Jvm.Cond.selects "BitDeskModel" (⟨"BitDeskModel", "isNode", "(I)Z"⟩ : Jvm.MethodName) (⟨"BitDeskModel", "isNode", "(I)Z"⟩ : Jvm.MethodName)) ∈ WS := ws_c0 67 rfl rfl
theorem lk_X7_220 : LkV RX7 220 jX7_isNode 1 := ⟨⟨wd_1445, ⟨rfl, (by rw [cwd_nil rfl]; exact wd_1448)⟩, wd_102, ⟨by decide +kernel, by decide +kernel⟩, by decide +kernel⟩, wd_1447, wd_67⟩
theorem wd_1440 : (Jvm.Cond.code ({ cls := "BitDeskModel", name := "areIn", desc := "(II)Z" } : Jvm.MethodName) prog_9_method_39_code (3 : Nat) (Option.some Jvm.ClassFile.FieldType.boolean)) ∈ WS := ws_c6 146 rfl rfl
theorem wd_1437 : (Jvm.Cond.methodLink "BitDeskModel" (223 : Nat) ({ cls := "BitDeskModel", name := "areIn", desc := "(II)Z" } : Jvm.MethodName)) ∈ WS := ws_c6 143 rfl rfl
theorem wd_1439 : (Jvm.Cond.instanceMethod ({ cls := "BitDeskModel", name := "areIn", desc := "(II)Z" } : Jvm.MethodName)) ∈ WS := ws_c6 145 rfl rfl
theorem wd_66 : (Jvm.Cond.selects "BitDeskModel" (⟨"BitDeskModel", "areIn", "(II)Z"⟩ : Jvm.MethodName) (⟨"BitDeskModel", "areIn", "(II)Z"⟩ : Jvm.MethodName)) ∈ WS := ws_c0 66 rfl rfl
theorem lk_X7_223 : LkV RX7 223 jX7_areIn 2 := ⟨⟨wd_1437, ⟨rfl, (by rw [cwd_nil rfl]; exact wd_1440)⟩, wd_102, ⟨by decide +kernel, by decide +kernel⟩, by decide +kernel⟩, wd_1439, wd_66⟩
theorem wd_1452 : (Jvm.Cond.code ({ cls := "BitDeskModel", name := "rowOf", desc := "(II)J" } : Jvm.MethodName) prog_9_method_10_code (3 : Nat) (Option.some Jvm.ClassFile.FieldType.long)) ∈ WS := ws_c6 158 rfl rfl
theorem wd_1449 : (Jvm.Cond.methodLink "BitDeskModel" (227 : Nat) ({ cls := "BitDeskModel", name := "rowOf", desc := "(II)J" } : Jvm.MethodName)) ∈ WS := ws_c6 155 rfl rfl
theorem wd_1451 : (Jvm.Cond.instanceMethod ({ cls := "BitDeskModel", name := "rowOf", desc := "(II)J" } : Jvm.MethodName)) ∈ WS := ws_c6 157 rfl rfl
theorem wd_68 : (Jvm.Cond.selects "BitDeskModel" (⟨"BitDeskModel", "rowOf", "(II)J"⟩ : Jvm.MethodName) (⟨"BitDeskModel", "rowOf", "(II)J"⟩ : Jvm.MethodName)) ∈ WS := ws_c0 68 rfl rfl
theorem lk_X7_227 : LkV RX7 227 jX7_rowOf 2 := ⟨⟨wd_1449, ⟨rfl, (by rw [cwd_nil rfl]; exact wd_1452)⟩, wd_102, ⟨by decide +kernel, by decide +kernel⟩, by decide +kernel⟩, wd_1451, wd_68⟩
theorem wd_1455 : (Jvm.Cond.code ({ cls := "BitDeskModel", name := "one", desc := "(JI)I" } : Jvm.MethodName) prog_9_method_12_code (3 : Nat) (Option.some Jvm.ClassFile.FieldType.int)) ∈ WS := ws_c6 161 rfl rfl
theorem wd_1453 : (Jvm.Cond.methodLink "BitDeskModel" (231 : Nat) ({ cls := "BitDeskModel", name := "one", desc := "(JI)I" } : Jvm.MethodName)) ∈ WS := ws_c6 159 rfl rfl
theorem wd_1454 : (Jvm.Cond.static ({ cls := "BitDeskModel", name := "one", desc := "(JI)I" } : Jvm.MethodName)) ∈ WS := ws_c6 160 rfl rfl
theorem lk_X7_231 : LkS RX7 231 jX7_one 2 := ⟨⟨wd_1453, ⟨rfl, (by rw [cwd_nil rfl]; exact wd_1455)⟩, wd_102, ⟨by decide +kernel, by decide +kernel⟩, by decide +kernel⟩, wd_1454⟩
theorem wd_1466 : (Jvm.Cond.code ({ cls := "BitDeskModel", name := "bitsOf", desc := "(J)I" } : Jvm.MethodName) prog_9_method_13_code (5 : Nat) (Option.some Jvm.ClassFile.FieldType.int)) ∈ WS := ws_c6 172 rfl rfl
theorem wd_1464 : (Jvm.Cond.methodLink "BitDeskModel" (234 : Nat) ({ cls := "BitDeskModel", name := "bitsOf", desc := "(J)I" } : Jvm.MethodName)) ∈ WS := ws_c6 170 rfl rfl
theorem wd_1465 : (Jvm.Cond.static ({ cls := "BitDeskModel", name := "bitsOf", desc := "(J)I" } : Jvm.MethodName)) ∈ WS := ws_c6 171 rfl rfl
theorem lk_X7_234 : LkS RX7 234 jX7_bitsOf 1 := ⟨⟨wd_1464, ⟨rfl, (by rw [cwd_nil rfl]; exact wd_1466)⟩, wd_102, ⟨by decide +kernel, by decide +kernel⟩, by decide +kernel⟩, wd_1465⟩
theorem wd_1478 : (Jvm.Cond.code ({ cls := "BitDeskModel", name := "onesOf", desc := "(I)I" } : Jvm.MethodName) prog_9_method_44_code (4 : Nat) (Option.some Jvm.ClassFile.FieldType.int)) ∈ WS := ws_c6 184 rfl rfl
theorem wd_1475 : (Jvm.Cond.methodLink "BitDeskModel" (238 : Nat) ({ cls := "BitDeskModel", name := "onesOf", desc := "(I)I" } : Jvm.MethodName)) ∈ WS := ws_c6 181 rfl rfl
theorem wd_1477 : (Jvm.Cond.instanceMethod ({ cls := "BitDeskModel", name := "onesOf", desc := "(I)I" } : Jvm.MethodName)) ∈ WS := ws_c6 183 rfl rfl
theorem wd_69 : (Jvm.Cond.selects "BitDeskModel" (⟨"BitDeskModel", "onesOf", "(I)I"⟩ : Jvm.MethodName) (⟨"BitDeskModel", "onesOf", "(I)I"⟩ : Jvm.MethodName)) ∈ WS := ws_c0 69 rfl rfl
theorem lk_X7_238 : LkV RX7 238 jX7_onesOf 1 := ⟨⟨wd_1475, ⟨rfl, (by rw [cwd_nil rfl]; exact wd_1478)⟩, wd_102, ⟨by decide +kernel, by decide +kernel⟩, by decide +kernel⟩, wd_1477, wd_69⟩
theorem wd_1490 : (Jvm.Cond.code ({ cls := "BitDeskModel", name := "firstAs", desc := "(II)I" } : Jvm.MethodName) prog_9_method_47_code (4 : Nat) (Option.some Jvm.ClassFile.FieldType.int)) ∈ WS := ws_c6 196 rfl rfl
theorem wd_1487 : (Jvm.Cond.methodLink "BitDeskModel" (242 : Nat) ({ cls := "BitDeskModel", name := "firstAs", desc := "(II)I" } : Jvm.MethodName)) ∈ WS := ws_c6 193 rfl rfl
theorem wd_1489 : (Jvm.Cond.instanceMethod ({ cls := "BitDeskModel", name := "firstAs", desc := "(II)I" } : Jvm.MethodName)) ∈ WS := ws_c6 195 rfl rfl
theorem wd_70 : (Jvm.Cond.selects "BitDeskModel" (⟨"BitDeskModel", "firstAs", "(II)I"⟩ : Jvm.MethodName) (⟨"BitDeskModel", "firstAs", "(II)I"⟩ : Jvm.MethodName)) ∈ WS := ws_c0 70 rfl rfl
theorem lk_X7_242 : LkV RX7 242 jX7_firstAs 2 := ⟨⟨wd_1487, ⟨rfl, (by rw [cwd_nil rfl]; exact wd_1490)⟩, wd_102, ⟨by decide +kernel, by decide +kernel⟩, by decide +kernel⟩, wd_1489, wd_70⟩
theorem wd_1498 : (Jvm.Cond.code ({ cls := "BitDeskModel", name := "all", desc := "()J" } : Jvm.MethodName) prog_9_method_14_code (1 : Nat) (Option.some Jvm.ClassFile.FieldType.long)) ∈ WS := ws_c6 204 rfl rfl
theorem wd_1495 : (Jvm.Cond.methodLink "BitDeskModel" (245 : Nat) ({ cls := "BitDeskModel", name := "all", desc := "()J" } : Jvm.MethodName)) ∈ WS := ws_c6 201 rfl rfl
theorem wd_1497 : (Jvm.Cond.instanceMethod ({ cls := "BitDeskModel", name := "all", desc := "()J" } : Jvm.MethodName)) ∈ WS := ws_c6 203 rfl rfl
theorem wd_71 : (Jvm.Cond.selects "BitDeskModel" (⟨"BitDeskModel", "all", "()J"⟩ : Jvm.MethodName) (⟨"BitDeskModel", "all", "()J"⟩ : Jvm.MethodName)) ∈ WS := ws_c0 71 rfl rfl
theorem lk_X7_245 : LkV RX7 245 jX7_all 0 := ⟨⟨wd_1495, ⟨rfl, (by rw [cwd_nil rfl]; exact wd_1498)⟩, wd_102, ⟨by decide +kernel, by decide +kernel⟩, by decide +kernel⟩, wd_1497, wd_71⟩
theorem wd_1506 : (Jvm.Cond.code ({ cls := "BitDeskModel", name := "classesAhead", desc := "(II)I" } : Jvm.MethodName) prog_9_method_50_code (5 : Nat) (Option.some Jvm.ClassFile.FieldType.int)) ∈ WS := ws_c6 212 rfl rfl
theorem wd_1503 : (Jvm.Cond.methodLink "BitDeskModel" (249 : Nat) ({ cls := "BitDeskModel", name := "classesAhead", desc := "(II)I" } : Jvm.MethodName)) ∈ WS := ws_c6 209 rfl rfl
theorem wd_1505 : (Jvm.Cond.instanceMethod ({ cls := "BitDeskModel", name := "classesAhead", desc := "(II)I" } : Jvm.MethodName)) ∈ WS := ws_c6 211 rfl rfl
theorem wd_72 : (Jvm.Cond.selects "BitDeskModel" (⟨"BitDeskModel", "classesAhead", "(II)I"⟩ : Jvm.MethodName) (⟨"BitDeskModel", "classesAhead", "(II)I"⟩ : Jvm.MethodName)) ∈ WS := ws_c0 72 rfl rfl
theorem lk_X7_249 : LkV RX7 249 jX7_classesAhead 2 := ⟨⟨wd_1503, ⟨rfl, (by rw [cwd_nil rfl]; exact wd_1506)⟩, wd_102, ⟨by decide +kernel, by decide +kernel⟩, by decide +kernel⟩, wd_1505, wd_72⟩
theorem fk_X7_34 : FK RX7 34 7 16 (.array .long) := ⟨RX7, TX7, 25, rfl, by decide, rfl, rfl, (Or.inl wd_1232), inW7⟩
theorem wd_1534 : (Jvm.Cond.code ({ cls := "BitDeskModel", name := "takes", desc := "(I[J)V" } : Jvm.MethodName) prog_9_method_56_code (4 : Nat) (Option.none : Option Jvm.ClassFile.FieldType)) ∈ WS := ws_c7 0 rfl rfl
theorem wd_1531 : (Jvm.Cond.methodLink "BitDeskModel" (252 : Nat) ({ cls := "BitDeskModel", name := "takes", desc := "(I[J)V" } : Jvm.MethodName)) ∈ WS := ws_c6 237 rfl rfl
theorem wd_1533 : (Jvm.Cond.instanceMethod ({ cls := "BitDeskModel", name := "takes", desc := "(I[J)V" } : Jvm.MethodName)) ∈ WS := ws_c6 239 rfl rfl
theorem wd_74 : (Jvm.Cond.selects "BitDeskModel" (⟨"BitDeskModel", "takes", "(I[J)V"⟩ : Jvm.MethodName) (⟨"BitDeskModel", "takes", "(I[J)V"⟩ : Jvm.MethodName)) ∈ WS := ws_c0 74 rfl rfl
theorem lk_X7_252 : LkV RX7 252 jX7_takes 2 := ⟨⟨wd_1531, ⟨rfl, (by rw [cwd_nil rfl]; exact wd_1534)⟩, wd_102, ⟨by decide +kernel, by decide +kernel⟩, by decide +kernel⟩, wd_1533, wd_74⟩
theorem wd_1538 : (Jvm.Cond.code ({ cls := "BitDeskModel", name := "closes", desc := "([J)V" } : Jvm.MethodName) prog_9_method_57_code (4 : Nat) (Option.none : Option Jvm.ClassFile.FieldType)) ∈ WS := ws_c7 4 rfl rfl
theorem wd_1535 : (Jvm.Cond.methodLink "BitDeskModel" (256 : Nat) ({ cls := "BitDeskModel", name := "closes", desc := "([J)V" } : Jvm.MethodName)) ∈ WS := ws_c7 1 rfl rfl
theorem wd_1537 : (Jvm.Cond.instanceMethod ({ cls := "BitDeskModel", name := "closes", desc := "([J)V" } : Jvm.MethodName)) ∈ WS := ws_c7 3 rfl rfl
theorem wd_75 : (Jvm.Cond.selects "BitDeskModel" (⟨"BitDeskModel", "closes", "([J)V"⟩ : Jvm.MethodName) (⟨"BitDeskModel", "closes", "([J)V"⟩ : Jvm.MethodName)) ∈ WS := ws_c0 75 rfl rfl
theorem lk_X7_256 : LkV RX7 256 jX7_closes 1 := ⟨⟨wd_1535, ⟨rfl, (by rw [cwd_nil rfl]; exact wd_1538)⟩, wd_102, ⟨by decide +kernel, by decide +kernel⟩, by decide +kernel⟩, wd_1537, wd_75⟩
theorem wd_1530 : (Jvm.Cond.code ({ cls := "BitDeskModel", name := "closure", desc := "(I)V" } : Jvm.MethodName) prog_9_method_58_code (2 : Nat) (Option.none : Option Jvm.ClassFile.FieldType)) ∈ WS := ws_c6 236 rfl rfl
theorem wd_1527 : (Jvm.Cond.methodLink "BitDeskModel" (260 : Nat) ({ cls := "BitDeskModel", name := "closure", desc := "(I)V" } : Jvm.MethodName)) ∈ WS := ws_c6 233 rfl rfl
theorem wd_1529 : (Jvm.Cond.instanceMethod ({ cls := "BitDeskModel", name := "closure", desc := "(I)V" } : Jvm.MethodName)) ∈ WS := ws_c6 235 rfl rfl
theorem wd_73 : (Jvm.Cond.selects "BitDeskModel" (⟨"BitDeskModel", "closure", "(I)V"⟩ : Jvm.MethodName) (⟨"BitDeskModel", "closure", "(I)V"⟩ : Jvm.MethodName)) ∈ WS := ws_c0 73 rfl rfl
theorem lk_X7_260 : LkV RX7 260 jX7_closure 1 := ⟨⟨wd_1527, ⟨rfl, (by rw [cwd_nil rfl]; exact wd_1530)⟩, wd_102, ⟨by decide +kernel, by decide +kernel⟩, by decide +kernel⟩, wd_1529, wd_73⟩
theorem wd_1554 : (Jvm.Cond.code ({ cls := "BitDeskModel", name := "sumOf", desc := "([J)I" } : Jvm.MethodName) prog_9_method_59_code (4 : Nat) (Option.some Jvm.ClassFile.FieldType.int)) ∈ WS := ws_c7 20 rfl rfl
theorem wd_1551 : (Jvm.Cond.methodLink "BitDeskModel" (263 : Nat) ({ cls := "BitDeskModel", name := "sumOf", desc := "([J)I" } : Jvm.MethodName)) ∈ WS := ws_c7 17 rfl rfl
theorem wd_1553 : (Jvm.Cond.instanceMethod ({ cls := "BitDeskModel", name := "sumOf", desc := "([J)I" } : Jvm.MethodName)) ∈ WS := ws_c7 19 rfl rfl
theorem wd_77 : (Jvm.Cond.selects "BitDeskModel" (⟨"BitDeskModel", "sumOf", "([J)I"⟩ : Jvm.MethodName) (⟨"BitDeskModel", "sumOf", "([J)I"⟩ : Jvm.MethodName)) ∈ WS := ws_c0 77 rfl rfl
theorem lk_X7_263 : LkV RX7 263 jX7_sumOf 1 := ⟨⟨wd_1551, ⟨rfl, (by rw [cwd_nil rfl]; exact wd_1554)⟩, wd_102, ⟨by decide +kernel, by decide +kernel⟩, by decide +kernel⟩, wd_1553, wd_77⟩
theorem wd_1550 : (Jvm.Cond.code ({ cls := "BitDeskModel", name := "pairsOf", desc := "(I)I" } : Jvm.MethodName) prog_9_method_62_code (2 : Nat) (Option.some Jvm.ClassFile.FieldType.int)) ∈ WS := ws_c7 16 rfl rfl
theorem wd_1547 : (Jvm.Cond.methodLink "BitDeskModel" (267 : Nat) ({ cls := "BitDeskModel", name := "pairsOf", desc := "(I)I" } : Jvm.MethodName)) ∈ WS := ws_c7 13 rfl rfl
theorem wd_1549 : (Jvm.Cond.instanceMethod ({ cls := "BitDeskModel", name := "pairsOf", desc := "(I)I" } : Jvm.MethodName)) ∈ WS := ws_c7 15 rfl rfl
theorem wd_76 : (Jvm.Cond.selects "BitDeskModel" (⟨"BitDeskModel", "pairsOf", "(I)I"⟩ : Jvm.MethodName) (⟨"BitDeskModel", "pairsOf", "(I)I"⟩ : Jvm.MethodName)) ∈ WS := ws_c0 76 rfl rfl
theorem lk_X7_267 : LkV RX7 267 jX7_pairsOf 1 := ⟨⟨wd_1547, ⟨rfl, (by rw [cwd_nil rfl]; exact wd_1550)⟩, wd_102, ⟨by decide +kernel, by decide +kernel⟩, by decide +kernel⟩, wd_1549, wd_76⟩
theorem wd_1566 : (Jvm.Cond.code ({ cls := "BitDeskModel", name := "componentOf", desc := "(I)I" } : Jvm.MethodName) prog_9_method_65_code (3 : Nat) (Option.some Jvm.ClassFile.FieldType.int)) ∈ WS := ws_c7 32 rfl rfl
theorem wd_1563 : (Jvm.Cond.methodLink "BitDeskModel" (270 : Nat) ({ cls := "BitDeskModel", name := "componentOf", desc := "(I)I" } : Jvm.MethodName)) ∈ WS := ws_c7 29 rfl rfl
theorem wd_1565 : (Jvm.Cond.instanceMethod ({ cls := "BitDeskModel", name := "componentOf", desc := "(I)I" } : Jvm.MethodName)) ∈ WS := ws_c7 31 rfl rfl
theorem wd_78 : (Jvm.Cond.selects "BitDeskModel" (⟨"BitDeskModel", "componentOf", "(I)I"⟩ : Jvm.MethodName) (⟨"BitDeskModel", "componentOf", "(I)I"⟩ : Jvm.MethodName)) ∈ WS := ws_c0 78 rfl rfl
theorem lk_X7_270 : LkV RX7 270 jX7_componentOf 1 := ⟨⟨wd_1563, ⟨rfl, (by rw [cwd_nil rfl]; exact wd_1566)⟩, wd_102, ⟨by decide +kernel, by decide +kernel⟩, by decide +kernel⟩, wd_1565, wd_78⟩
theorem fk_X7_43 : FK RX7 43 7 19 (.array .int) := ⟨RX7, TX7, 25, rfl, by decide, rfl, rfl, (Or.inl wd_1235), inW7⟩
theorem wd_1578 : (Jvm.Cond.code ({ cls := "BitDeskModel", name := "measures", desc := "(II)V" } : Jvm.MethodName) prog_9_method_68_code (6 : Nat) (Option.none : Option Jvm.ClassFile.FieldType)) ∈ WS := ws_c7 44 rfl rfl
theorem wd_1575 : (Jvm.Cond.methodLink "BitDeskModel" (273 : Nat) ({ cls := "BitDeskModel", name := "measures", desc := "(II)V" } : Jvm.MethodName)) ∈ WS := ws_c7 41 rfl rfl
theorem wd_1577 : (Jvm.Cond.instanceMethod ({ cls := "BitDeskModel", name := "measures", desc := "(II)V" } : Jvm.MethodName)) ∈ WS := ws_c7 43 rfl rfl
theorem wd_79 : (Jvm.Cond.selects "BitDeskModel" (⟨"BitDeskModel", "measures", "(II)V"⟩ : Jvm.MethodName) (⟨"BitDeskModel", "measures", "(II)V"⟩ : Jvm.MethodName)) ∈ WS := ws_c0 79 rfl rfl
theorem lk_X7_273 : LkV RX7 273 jX7_measures 2 := ⟨⟨wd_1575, ⟨rfl, (by rw [cwd_nil rfl]; exact wd_1578)⟩, wd_102, ⟨by decide +kernel, by decide +kernel⟩, by decide +kernel⟩, wd_1577, wd_79⟩
theorem wd_1590 : (Jvm.Cond.code ({ cls := "BitDeskModel", name := "aroundOf", desc := "(II)I" } : Jvm.MethodName) prog_9_method_71_code (5 : Nat) (Option.some Jvm.ClassFile.FieldType.int)) ∈ WS := ws_c7 56 rfl rfl
theorem wd_1587 : (Jvm.Cond.methodLink "BitDeskModel" (277 : Nat) ({ cls := "BitDeskModel", name := "aroundOf", desc := "(II)I" } : Jvm.MethodName)) ∈ WS := ws_c7 53 rfl rfl
theorem wd_1589 : (Jvm.Cond.instanceMethod ({ cls := "BitDeskModel", name := "aroundOf", desc := "(II)I" } : Jvm.MethodName)) ∈ WS := ws_c7 55 rfl rfl
theorem wd_80 : (Jvm.Cond.selects "BitDeskModel" (⟨"BitDeskModel", "aroundOf", "(II)I"⟩ : Jvm.MethodName) (⟨"BitDeskModel", "aroundOf", "(II)I"⟩ : Jvm.MethodName)) ∈ WS := ws_c0 80 rfl rfl
theorem lk_X7_277 : LkV RX7 277 jX7_aroundOf 2 := ⟨⟨wd_1587, ⟨rfl, (by rw [cwd_nil rfl]; exact wd_1590)⟩, wd_102, ⟨by decide +kernel, by decide +kernel⟩, by decide +kernel⟩, wd_1589, wd_80⟩
theorem wd_1602 : (Jvm.Cond.code ({ cls := "BitDeskModel", name := "free", desc := "(IJ)I" } : Jvm.MethodName) prog_9_method_74_code (7 : Nat) (Option.some Jvm.ClassFile.FieldType.int)) ∈ WS := ws_c7 68 rfl rfl
theorem wd_1599 : (Jvm.Cond.methodLink "BitDeskModel" (280 : Nat) ({ cls := "BitDeskModel", name := "free", desc := "(IJ)I" } : Jvm.MethodName)) ∈ WS := ws_c7 65 rfl rfl
theorem wd_1601 : (Jvm.Cond.instanceMethod ({ cls := "BitDeskModel", name := "free", desc := "(IJ)I" } : Jvm.MethodName)) ∈ WS := ws_c7 67 rfl rfl
theorem wd_81 : (Jvm.Cond.selects "BitDeskModel" (⟨"BitDeskModel", "free", "(IJ)I"⟩ : Jvm.MethodName) (⟨"BitDeskModel", "free", "(IJ)I"⟩ : Jvm.MethodName)) ∈ WS := ws_c0 81 rfl rfl
theorem lk_X7_280 : LkV RX7 280 jX7_free 2 := ⟨⟨wd_1599, ⟨rfl, (by rw [cwd_nil rfl]; exact wd_1602)⟩, wd_102, ⟨by decide +kernel, by decide +kernel⟩, by decide +kernel⟩, wd_1601, wd_81⟩
theorem wd_1610 : (Jvm.Cond.code ({ cls := "BitDeskModel", name := "pairsTurned", desc := "(III)I" } : Jvm.MethodName) prog_9_method_76_code (4 : Nat) (Option.some Jvm.ClassFile.FieldType.int)) ∈ WS := ws_c7 76 rfl rfl
theorem wd_1607 : (Jvm.Cond.methodLink "BitDeskModel" (284 : Nat) ({ cls := "BitDeskModel", name := "pairsTurned", desc := "(III)I" } : Jvm.MethodName)) ∈ WS := ws_c7 73 rfl rfl
theorem wd_1609 : (Jvm.Cond.instanceMethod ({ cls := "BitDeskModel", name := "pairsTurned", desc := "(III)I" } : Jvm.MethodName)) ∈ WS := ws_c7 75 rfl rfl
theorem wd_82 : (Jvm.Cond.selects "BitDeskModel" (⟨"BitDeskModel", "pairsTurned", "(III)I"⟩ : Jvm.MethodName) (⟨"BitDeskModel", "pairsTurned", "(III)I"⟩ : Jvm.MethodName)) ∈ WS := ws_c0 82 rfl rfl
theorem lk_X7_284 : LkV RX7 284 jX7_pairsTurned 3 := ⟨⟨wd_1607, ⟨rfl, (by rw [cwd_nil rfl]; exact wd_1610)⟩, wd_102, ⟨by decide +kernel, by decide +kernel⟩, by decide +kernel⟩, wd_1609, wd_82⟩
theorem wd_1625 : (Jvm.Cond.code ({ cls := "java/lang/Math", name := "abs", desc := "(I)I" } : Jvm.MethodName) prog_14_method_59_code (1 : Nat) (Option.some Jvm.ClassFile.FieldType.int)) ∈ WS := ws_c7 91 rfl rfl
theorem wd_1623 : (Jvm.Cond.methodLink "BitDeskModel" (288 : Nat) ({ cls := "java/lang/Math", name := "abs", desc := "(I)I" } : Jvm.MethodName)) ∈ WS := ws_c7 89 rfl rfl
theorem wd_1624 : (Jvm.Cond.static ({ cls := "java/lang/Math", name := "abs", desc := "(I)I" } : Jvm.MethodName)) ∈ WS := ws_c7 90 rfl rfl
theorem lk_X7_288 : LkS RX7 288 jJ9_abs_0f7a4 1 := ⟨⟨wd_1623, ⟨rfl, (by rw [cwd_nil rfl]; exact wd_1625)⟩, wd_107, ⟨by decide +kernel, by decide +kernel⟩, by decide +kernel⟩, wd_1624⟩
theorem wd_1628 : (Jvm.Cond.code ({ cls := "java/lang/Math", name := "max", desc := "(II)I" } : Jvm.MethodName) prog_14_method_65_code (2 : Nat) (Option.some Jvm.ClassFile.FieldType.int)) ∈ WS := ws_c7 94 rfl rfl
theorem wd_1626 : (Jvm.Cond.methodLink "BitDeskModel" (291 : Nat) ({ cls := "java/lang/Math", name := "max", desc := "(II)I" } : Jvm.MethodName)) ∈ WS := ws_c7 92 rfl rfl
theorem wd_1627 : (Jvm.Cond.static ({ cls := "java/lang/Math", name := "max", desc := "(II)I" } : Jvm.MethodName)) ∈ WS := ws_c7 93 rfl rfl
theorem lk_X7_291 : LkS RX7 291 jJ9_max_7cf53 2 := ⟨⟨wd_1626, ⟨rfl, (by rw [cwd_nil rfl]; exact wd_1628)⟩, wd_107, ⟨by decide +kernel, by decide +kernel⟩, by decide +kernel⟩, wd_1627⟩
theorem wd_1622 : (Jvm.Cond.code ({ cls := "BitDeskModel", name := "mostTurned", desc := "(II)I" } : Jvm.MethodName) prog_9_method_79_code (8 : Nat) (Option.some Jvm.ClassFile.FieldType.int)) ∈ WS := ws_c7 88 rfl rfl
theorem wd_1619 : (Jvm.Cond.methodLink "BitDeskModel" (294 : Nat) ({ cls := "BitDeskModel", name := "mostTurned", desc := "(II)I" } : Jvm.MethodName)) ∈ WS := ws_c7 85 rfl rfl
theorem wd_1621 : (Jvm.Cond.instanceMethod ({ cls := "BitDeskModel", name := "mostTurned", desc := "(II)I" } : Jvm.MethodName)) ∈ WS := ws_c7 87 rfl rfl
theorem wd_83 : (Jvm.Cond.selects "BitDeskModel" (⟨"BitDeskModel", "mostTurned", "(II)I"⟩ : Jvm.MethodName) (⟨"BitDeskModel", "mostTurned", "(II)I"⟩ : Jvm.MethodName)) ∈ WS := ws_c0 83 rfl rfl
theorem lk_X7_294 : LkV RX7 294 jX7_mostTurned 2 := ⟨⟨wd_1619, ⟨rfl, (by rw [cwd_nil rfl]; exact wd_1622)⟩, wd_102, ⟨by decide +kernel, by decide +kernel⟩, by decide +kernel⟩, wd_1621, wd_83⟩
theorem fk_X7_47 : FK RX7 47 7 20 (.array .long) := ⟨RX7, TX7, 25, rfl, by decide, rfl, rfl, (Or.inl wd_1236), inW7⟩
theorem wd_1238 : (Jvm.Cond.fieldLink "BitDeskModel" (297 : Nat) "BitDeskModel" "pivotMany" "I") ∈ WS := ws_c5 184 rfl rfl
theorem fp_X7_297 : FP RX7 297 7 22 (.int) false := ⟨RX7, TX7, 25, tyX7, rfl, by decide, rfl, rfl, (Or.inl wd_1238), inW7, tyX7_ok, nmX7, rfl, tyX7_ok 22 (by decide), rfl⟩
theorem fk_X7_297 : FK RX7 297 7 22 (.int) := ⟨RX7, TX7, 25, rfl, by decide, rfl, rfl, (Or.inl wd_1238), inW7⟩
theorem wd_1648 : (Jvm.Cond.code ({ cls := "BitDeskModel", name := "changes", desc := "(II)V" } : Jvm.MethodName) prog_9_method_83_code (7 : Nat) (Option.none : Option Jvm.ClassFile.FieldType)) ∈ WS := ws_c7 114 rfl rfl
theorem wd_1645 : (Jvm.Cond.methodLink "BitDeskModel" (300 : Nat) ({ cls := "BitDeskModel", name := "changes", desc := "(II)V" } : Jvm.MethodName)) ∈ WS := ws_c7 111 rfl rfl
theorem wd_1647 : (Jvm.Cond.instanceMethod ({ cls := "BitDeskModel", name := "changes", desc := "(II)V" } : Jvm.MethodName)) ∈ WS := ws_c7 113 rfl rfl
theorem wd_85 : (Jvm.Cond.selects "BitDeskModel" (⟨"BitDeskModel", "changes", "(II)V"⟩ : Jvm.MethodName) (⟨"BitDeskModel", "changes", "(II)V"⟩ : Jvm.MethodName)) ∈ WS := ws_c0 85 rfl rfl
theorem lk_X7_300 : LkV RX7 300 jX7_changes 2 := ⟨⟨wd_1645, ⟨rfl, (by rw [cwd_nil rfl]; exact wd_1648)⟩, wd_102, ⟨by decide +kernel, by decide +kernel⟩, by decide +kernel⟩, wd_1647, wd_85⟩
theorem fk_X7_50 : FK RX7 50 7 21 (.array .int) := ⟨RX7, TX7, 25, rfl, by decide, rfl, rfl, (Or.inl wd_1237), inW7⟩
theorem wd_1644 : (Jvm.Cond.code ({ cls := "BitDeskModel", name := "reduces", desc := "(I)V" } : Jvm.MethodName) prog_9_method_84_code (5 : Nat) (Option.none : Option Jvm.ClassFile.FieldType)) ∈ WS := ws_c7 110 rfl rfl
theorem wd_1641 : (Jvm.Cond.methodLink "BitDeskModel" (303 : Nat) ({ cls := "BitDeskModel", name := "reduces", desc := "(I)V" } : Jvm.MethodName)) ∈ WS := ws_c7 107 rfl rfl
theorem wd_1643 : (Jvm.Cond.instanceMethod ({ cls := "BitDeskModel", name := "reduces", desc := "(I)V" } : Jvm.MethodName)) ∈ WS := ws_c7 109 rfl rfl
theorem wd_84 : (Jvm.Cond.selects "BitDeskModel" (⟨"BitDeskModel", "reduces", "(I)V"⟩ : Jvm.MethodName) (⟨"BitDeskModel", "reduces", "(I)V"⟩ : Jvm.MethodName)) ∈ WS := ws_c0 84 rfl rfl
theorem lk_X7_303 : LkV RX7 303 jX7_reduces 1 := ⟨⟨wd_1641, ⟨rfl, (by rw [cwd_nil rfl]; exact wd_1644)⟩, wd_102, ⟨by decide +kernel, by decide +kernel⟩, by decide +kernel⟩, wd_1643, wd_84⟩
theorem wd_1657 : (Jvm.Cond.constantLong "BitDeskModel" (306 : Nat) (-1 : Int64)) ∈ WS := ws_c7 123 rfl rfl
theorem wd_1656 : (Jvm.Cond.code ({ cls := "BitDeskModel", name := "solved", desc := "(IJ)J" } : Jvm.MethodName) prog_9_method_86_code (7 : Nat) (Option.some Jvm.ClassFile.FieldType.long)) ∈ WS := ws_c7 122 rfl rfl
theorem wd_1653 : (Jvm.Cond.methodLink "BitDeskModel" (308 : Nat) ({ cls := "BitDeskModel", name := "solved", desc := "(IJ)J" } : Jvm.MethodName)) ∈ WS := ws_c7 119 rfl rfl
theorem wd_1655 : (Jvm.Cond.instanceMethod ({ cls := "BitDeskModel", name := "solved", desc := "(IJ)J" } : Jvm.MethodName)) ∈ WS := ws_c7 121 rfl rfl
theorem wd_86 : (Jvm.Cond.selects "BitDeskModel" (⟨"BitDeskModel", "solved", "(IJ)J"⟩ : Jvm.MethodName) (⟨"BitDeskModel", "solved", "(IJ)J"⟩ : Jvm.MethodName)) ∈ WS := ws_c0 86 rfl rfl
theorem lk_X7_308 : LkV RX7 308 jX7_solved 2 := ⟨⟨wd_1653, ⟨rfl, (by rw [cwd_nil rfl]; exact wd_1656)⟩, wd_102, ⟨by decide +kernel, by decide +kernel⟩, by decide +kernel⟩, wd_1655, wd_86⟩
theorem fk_X7_16 : FK RX7 16 7 2 (.array .long) := ⟨RX7, TX7, 25, rfl, by decide, rfl, rfl, (Or.inl wd_1218), inW7⟩
theorem wd_1411 : (Jvm.Cond.code ({ cls := "BitDeskModel", name := "looks", desc := "(II)V" } : Jvm.MethodName) prog_9_method_92_code (3 : Nat) (Option.none : Option Jvm.ClassFile.FieldType)) ∈ WS := ws_c6 117 rfl rfl
theorem wd_1408 : (Jvm.Cond.methodLink "BitDeskModel" (312 : Nat) ({ cls := "BitDeskModel", name := "looks", desc := "(II)V" } : Jvm.MethodName)) ∈ WS := ws_c6 114 rfl rfl
theorem wd_1410 : (Jvm.Cond.instanceMethod ({ cls := "BitDeskModel", name := "looks", desc := "(II)V" } : Jvm.MethodName)) ∈ WS := ws_c6 116 rfl rfl
theorem wd_63 : (Jvm.Cond.selects "BitDeskModel" (⟨"BitDeskModel", "looks", "(II)V"⟩ : Jvm.MethodName) (⟨"BitDeskModel", "looks", "(II)V"⟩ : Jvm.MethodName)) ∈ WS := ws_c0 63 rfl rfl
theorem lk_X7_312 : LkV RX7 312 jX7_looks 2 := ⟨⟨wd_1408, ⟨rfl, (by rw [cwd_nil rfl]; exact wd_1411)⟩, wd_102, ⟨by decide +kernel, by decide +kernel⟩, by decide +kernel⟩, wd_1410, wd_63⟩
theorem wd_1677 : (Jvm.Cond.code ({ cls := "BitDeskModel", name := "keeps", desc := "()V" } : Jvm.MethodName) prog_9_method_90_code (2 : Nat) (Option.none : Option Jvm.ClassFile.FieldType)) ∈ WS := ws_c7 143 rfl rfl
theorem wd_1674 : (Jvm.Cond.methodLink "BitDeskModel" (315 : Nat) ({ cls := "BitDeskModel", name := "keeps", desc := "()V" } : Jvm.MethodName)) ∈ WS := ws_c7 140 rfl rfl
theorem wd_1676 : (Jvm.Cond.instanceMethod ({ cls := "BitDeskModel", name := "keeps", desc := "()V" } : Jvm.MethodName)) ∈ WS := ws_c7 142 rfl rfl
theorem wd_87 : (Jvm.Cond.selects "BitDeskModel" (⟨"BitDeskModel", "keeps", "()V"⟩ : Jvm.MethodName) (⟨"BitDeskModel", "keeps", "()V"⟩ : Jvm.MethodName)) ∈ WS := ws_c0 87 rfl rfl
theorem lk_X7_315 : LkV RX7 315 jX7_keeps 0 := ⟨⟨wd_1674, ⟨rfl, (by rw [cwd_nil rfl]; exact wd_1677)⟩, wd_102, ⟨by decide +kernel, by decide +kernel⟩, by decide +kernel⟩, wd_1676, wd_87⟩
theorem fk_X7_37 : FK RX7 37 7 17 (.array .long) := ⟨RX7, TX7, 25, rfl, by decide, rfl, rfl, (Or.inl wd_1233), inW7⟩
theorem wd_1681 : (Jvm.Cond.code ({ cls := "BitDeskModel", name := "setsRow", desc := "(IIJ)V" } : Jvm.MethodName) prog_9_method_11_code (5 : Nat) (Option.none : Option Jvm.ClassFile.FieldType)) ∈ WS := ws_c7 147 rfl rfl
theorem wd_1678 : (Jvm.Cond.methodLink "BitDeskModel" (318 : Nat) ({ cls := "BitDeskModel", name := "setsRow", desc := "(IIJ)V" } : Jvm.MethodName)) ∈ WS := ws_c7 144 rfl rfl
theorem wd_1680 : (Jvm.Cond.instanceMethod ({ cls := "BitDeskModel", name := "setsRow", desc := "(IIJ)V" } : Jvm.MethodName)) ∈ WS := ws_c7 146 rfl rfl
theorem wd_88 : (Jvm.Cond.selects "BitDeskModel" (⟨"BitDeskModel", "setsRow", "(IIJ)V"⟩ : Jvm.MethodName) (⟨"BitDeskModel", "setsRow", "(IIJ)V"⟩ : Jvm.MethodName)) ∈ WS := ws_c0 88 rfl rfl
theorem lk_X7_318 : LkV RX7 318 jX7_setsRow 3 := ⟨⟨wd_1678, ⟨rfl, (by rw [cwd_nil rfl]; exact wd_1681)⟩, wd_102, ⟨by decide +kernel, by decide +kernel⟩, by decide +kernel⟩, wd_1680, wd_88⟩
theorem wd_1693 : (Jvm.Cond.code ({ cls := "BitDeskModel", name := "lays", desc := "([JI)I" } : Jvm.MethodName) prog_9_method_96_code (4 : Nat) (Option.some Jvm.ClassFile.FieldType.int)) ∈ WS := ws_c7 159 rfl rfl
theorem wd_1690 : (Jvm.Cond.methodLink "BitDeskModel" (322 : Nat) ({ cls := "BitDeskModel", name := "lays", desc := "([JI)I" } : Jvm.MethodName)) ∈ WS := ws_c7 156 rfl rfl
theorem wd_1692 : (Jvm.Cond.instanceMethod ({ cls := "BitDeskModel", name := "lays", desc := "([JI)I" } : Jvm.MethodName)) ∈ WS := ws_c7 158 rfl rfl
theorem wd_89 : (Jvm.Cond.selects "BitDeskModel" (⟨"BitDeskModel", "lays", "([JI)I"⟩ : Jvm.MethodName) (⟨"BitDeskModel", "lays", "([JI)I"⟩ : Jvm.MethodName)) ∈ WS := ws_c0 89 rfl rfl
theorem lk_X7_322 : LkV RX7 322 jX7_lays 2 := ⟨⟨wd_1690, ⟨rfl, (by rw [cwd_nil rfl]; exact wd_1693)⟩, wd_102, ⟨by decide +kernel, by decide +kernel⟩, by decide +kernel⟩, wd_1692, wd_89⟩
theorem wd_1704 : (Jvm.Cond.code ({ cls := "BitDeskModel", name := "combined", desc := "(JJI)J" } : Jvm.MethodName) prog_9_method_99_code (5 : Nat) (Option.some Jvm.ClassFile.FieldType.long)) ∈ WS := ws_c7 170 rfl rfl
theorem wd_1702 : (Jvm.Cond.methodLink "BitDeskModel" (326 : Nat) ({ cls := "BitDeskModel", name := "combined", desc := "(JJI)J" } : Jvm.MethodName)) ∈ WS := ws_c7 168 rfl rfl
theorem wd_1703 : (Jvm.Cond.static ({ cls := "BitDeskModel", name := "combined", desc := "(JJI)J" } : Jvm.MethodName)) ∈ WS := ws_c7 169 rfl rfl
theorem lk_X7_326 : LkS RX7 326 jX7_combined 3 := ⟨⟨wd_1702, ⟨rfl, (by rw [cwd_nil rfl]; exact wd_1704)⟩, wd_102, ⟨by decide +kernel, by decide +kernel⟩, by decide +kernel⟩, wd_1703⟩
theorem wd_1716 : (Jvm.Cond.code ({ cls := "BitDeskModel", name := "counts", desc := "([J)V" } : Jvm.MethodName) prog_9_method_101_code (8 : Nat) (Option.none : Option Jvm.ClassFile.FieldType)) ∈ WS := ws_c7 182 rfl rfl
theorem wd_1713 : (Jvm.Cond.methodLink "BitDeskModel" (330 : Nat) ({ cls := "BitDeskModel", name := "counts", desc := "([J)V" } : Jvm.MethodName)) ∈ WS := ws_c7 179 rfl rfl
theorem wd_1715 : (Jvm.Cond.instanceMethod ({ cls := "BitDeskModel", name := "counts", desc := "([J)V" } : Jvm.MethodName)) ∈ WS := ws_c7 181 rfl rfl
theorem wd_91 : (Jvm.Cond.selects "BitDeskModel" (⟨"BitDeskModel", "counts", "([J)V"⟩ : Jvm.MethodName) (⟨"BitDeskModel", "counts", "([J)V"⟩ : Jvm.MethodName)) ∈ WS := ws_c0 91 rfl rfl
theorem lk_X7_330 : LkV RX7 330 jX7_counts 1 := ⟨⟨wd_1713, ⟨rfl, (by rw [cwd_nil rfl]; exact wd_1716)⟩, wd_102, ⟨by decide +kernel, by decide +kernel⟩, by decide +kernel⟩, wd_1715, wd_91⟩
theorem fk_X7_40 : FK RX7 40 7 18 (.array .long) := ⟨RX7, TX7, 25, rfl, by decide, rfl, rfl, (Or.inl wd_1234), inW7⟩
theorem wd_1712 : (Jvm.Cond.code ({ cls := "BitDeskModel", name := "multiplies", desc := "([J[J[JZ)V" } : Jvm.MethodName) prog_9_method_102_code (9 : Nat) (Option.none : Option Jvm.ClassFile.FieldType)) ∈ WS := ws_c7 178 rfl rfl
theorem wd_1709 : (Jvm.Cond.methodLink "BitDeskModel" (333 : Nat) ({ cls := "BitDeskModel", name := "multiplies", desc := "([J[J[JZ)V" } : Jvm.MethodName)) ∈ WS := ws_c7 175 rfl rfl
theorem wd_1711 : (Jvm.Cond.instanceMethod ({ cls := "BitDeskModel", name := "multiplies", desc := "([J[J[JZ)V" } : Jvm.MethodName)) ∈ WS := ws_c7 177 rfl rfl
theorem wd_90 : (Jvm.Cond.selects "BitDeskModel" (⟨"BitDeskModel", "multiplies", "([J[J[JZ)V"⟩ : Jvm.MethodName) (⟨"BitDeskModel", "multiplies", "([J[J[JZ)V"⟩ : Jvm.MethodName)) ∈ WS := ws_c0 90 rfl rfl
theorem lk_X7_333 : LkV RX7 333 jX7_multiplies 4 := ⟨⟨wd_1709, ⟨rfl, (by rw [cwd_nil rfl]; exact wd_1712)⟩, wd_102, ⟨by decide +kernel, by decide +kernel⟩, by decide +kernel⟩, wd_1711, wd_90⟩
theorem wd_1721 : (Jvm.Cond.constantLong "BitDeskModel" (337 : Nat) (1000000 : Int64)) ∈ WS := ws_c7 187 rfl rfl
theorem wd_1725 : (Jvm.Cond.code ({ cls := "BitDeskModel", name := "moves", desc := "([J[J)V" } : Jvm.MethodName) prog_9_method_104_code (4 : Nat) (Option.none : Option Jvm.ClassFile.FieldType)) ∈ WS := ws_c7 191 rfl rfl
theorem wd_1722 : (Jvm.Cond.methodLink "BitDeskModel" (339 : Nat) ({ cls := "BitDeskModel", name := "moves", desc := "([J[J)V" } : Jvm.MethodName)) ∈ WS := ws_c7 188 rfl rfl
theorem wd_1724 : (Jvm.Cond.instanceMethod ({ cls := "BitDeskModel", name := "moves", desc := "([J[J)V" } : Jvm.MethodName)) ∈ WS := ws_c7 190 rfl rfl
theorem wd_92 : (Jvm.Cond.selects "BitDeskModel" (⟨"BitDeskModel", "moves", "([J[J)V"⟩ : Jvm.MethodName) (⟨"BitDeskModel", "moves", "([J[J)V"⟩ : Jvm.MethodName)) ∈ WS := ws_c0 92 rfl rfl
theorem lk_X7_339 : LkV RX7 339 jX7_moves 2 := ⟨⟨wd_1722, ⟨rfl, (by rw [cwd_nil rfl]; exact wd_1725)⟩, wd_102, ⟨by decide +kernel, by decide +kernel⟩, by decide +kernel⟩, wd_1724, wd_92⟩
theorem wd_1741 : (Jvm.Cond.code ({ cls := "BitDeskModel", name := "isSame", desc := "([J[J)Z" } : Jvm.MethodName) prog_9_method_108_code (4 : Nat) (Option.some Jvm.ClassFile.FieldType.boolean)) ∈ WS := ws_c7 207 rfl rfl
theorem wd_1738 : (Jvm.Cond.methodLink "BitDeskModel" (343 : Nat) ({ cls := "BitDeskModel", name := "isSame", desc := "([J[J)Z" } : Jvm.MethodName)) ∈ WS := ws_c7 204 rfl rfl
theorem wd_1740 : (Jvm.Cond.instanceMethod ({ cls := "BitDeskModel", name := "isSame", desc := "([J[J)Z" } : Jvm.MethodName)) ∈ WS := ws_c7 206 rfl rfl
theorem wd_93 : (Jvm.Cond.selects "BitDeskModel" (⟨"BitDeskModel", "isSame", "([J[J)Z"⟩ : Jvm.MethodName) (⟨"BitDeskModel", "isSame", "([J[J)Z"⟩ : Jvm.MethodName)) ∈ WS := ws_c0 93 rfl rfl
theorem lk_X7_343 : LkV RX7 343 jX7_isSame 2 := ⟨⟨wd_1738, ⟨rfl, (by rw [cwd_nil rfl]; exact wd_1741)⟩, wd_102, ⟨by decide +kernel, by decide +kernel⟩, by decide +kernel⟩, wd_1740, wd_93⟩
theorem wd_1748 : (Jvm.Cond.code ({ cls := "BitDeskModel", name := "exchanged", desc := "(JII)J" } : Jvm.MethodName) prog_9_method_110_code (5 : Nat) (Option.some Jvm.ClassFile.FieldType.long)) ∈ WS := ws_c7 214 rfl rfl
theorem wd_1746 : (Jvm.Cond.methodLink "BitDeskModel" (347 : Nat) ({ cls := "BitDeskModel", name := "exchanged", desc := "(JII)J" } : Jvm.MethodName)) ∈ WS := ws_c7 212 rfl rfl
theorem wd_1747 : (Jvm.Cond.static ({ cls := "BitDeskModel", name := "exchanged", desc := "(JII)J" } : Jvm.MethodName)) ∈ WS := ws_c7 213 rfl rfl
theorem lk_X7_347 : LkS RX7 347 jX7_exchanged 3 := ⟨⟨wd_1746, ⟨rfl, (by rw [cwd_nil rfl]; exact wd_1748)⟩, wd_102, ⟨by decide +kernel, by decide +kernel⟩, by decide +kernel⟩, wd_1747⟩
theorem wd_1757 : (Jvm.Cond.constantLong "BitDeskModel" (351 : Nat) (8 : Int64)) ∈ WS := ws_c7 223 rfl rfl
theorem wd_1762 : (Jvm.Cond.constantLong "BitDeskModel" (353 : Nat) (2 : Int64)) ∈ WS := ws_c7 228 rfl rfl
theorem wd_1240 : (Jvm.Cond.fieldLink "BitDeskModel" (355 : Nat) "BitDeskModel" "written" "I") ∈ WS := ws_c5 186 rfl rfl
theorem fp_X7_355 : FP RX7 355 7 24 (.int) false := ⟨RX7, TX7, 25, tyX7, rfl, by decide, rfl, rfl, (Or.inl wd_1240), inW7, tyX7_ok, nmX7, rfl, tyX7_ok 24 (by decide), rfl⟩
theorem fk_X7_355 : FK RX7 355 7 24 (.int) := ⟨RX7, TX7, 25, rfl, by decide, rfl, rfl, (Or.inl wd_1240), inW7⟩
theorem fk_X7_53 : FK RX7 53 7 23 (.array .byte) := ⟨RX7, TX7, 25, rfl, by decide, rfl, rfl, (Or.inl wd_1239), inW7⟩
theorem fk_X7_19 : FK RX7 19 7 3 (.array .long) := ⟨RX7, TX7, 25, rfl, by decide, rfl, rfl, (Or.inl wd_1219), inW7⟩
theorem fk_X7_22 : FK RX7 22 7 4 (.array .boolean) := ⟨RX7, TX7, 25, rfl, by decide, rfl, rfl, (Or.inl wd_1220), inW7⟩
theorem wd_684 : (Jvm.Cond.constant "java/lang/Integer" (265 : Nat) (1431655765 : Int32)) ∈ WS := ws_c3 110 rfl rfl
theorem wd_685 : (Jvm.Cond.constant "java/lang/Integer" (266 : Nat) (858993459 : Int32)) ∈ WS := ws_c3 111 rfl rfl
theorem wd_686 : (Jvm.Cond.constant "java/lang/Integer" (267 : Nat) (252645135 : Int32)) ∈ WS := ws_c3 112 rfl rfl
theorem wd_1786 : (Jvm.Cond.fieldLink "java/lang/String" (9 : Nat) "java/lang/String" "value" "[B") ∈ WS := ws_c8 12 rfl rfl
theorem wd_376 : (Jvm.Cond.code ({ cls := "java/lang/String", name := "coder", desc := "()B" } : Jvm.MethodName) prog_16_method_152_code (1 : Nat) (Option.some Jvm.ClassFile.FieldType.byte)) ∈ WS := ws_c2 42 rfl rfl
theorem wd_373 : (Jvm.Cond.methodLink "java/lang/String" (335 : Nat) ({ cls := "java/lang/String", name := "coder", desc := "()B" } : Jvm.MethodName)) ∈ WS := ws_c2 39 rfl rfl
theorem wd_374 : (Jvm.Cond.instanceMethod ({ cls := "java/lang/String", name := "coder", desc := "()B" } : Jvm.MethodName)) ∈ WS := ws_c2 40 rfl rfl
theorem wd_375 : (Jvm.Cond.selects "java/lang/String" ({ cls := "java/lang/String", name := "coder", desc := "()B" } : Jvm.MethodName) ({ cls := "java/lang/String", name := "coder", desc := "()B" } : Jvm.MethodName)) ∈ WS := ws_c2 41 rfl rfl
theorem lk_J0_335 : LkV RJ0 335 jJ0_coder_7d493 0 := ⟨⟨wd_373, ⟨rfl, (by rw [cwd_nil rfl]; exact wd_376)⟩, wd_103, ⟨by decide +kernel, by decide +kernel⟩, by decide +kernel⟩, wd_374, wd_375⟩
theorem wd_386 : (Jvm.Cond.code ({ cls := "java/lang/String", name := "isLatin1", desc := "()Z" } : Jvm.MethodName) prog_16_method_154_code (1 : Nat) (Option.some Jvm.ClassFile.FieldType.boolean)) ∈ WS := ws_c2 52 rfl rfl
theorem wd_383 : (Jvm.Cond.methodLink "java/lang/String" (492 : Nat) ({ cls := "java/lang/String", name := "isLatin1", desc := "()Z" } : Jvm.MethodName)) ∈ WS := ws_c2 49 rfl rfl
theorem wd_384 : (Jvm.Cond.instanceMethod ({ cls := "java/lang/String", name := "isLatin1", desc := "()Z" } : Jvm.MethodName)) ∈ WS := ws_c2 50 rfl rfl
theorem wd_385 : (Jvm.Cond.selects "java/lang/String" ({ cls := "java/lang/String", name := "isLatin1", desc := "()Z" } : Jvm.MethodName) ({ cls := "java/lang/String", name := "isLatin1", desc := "()Z" } : Jvm.MethodName)) ∈ WS := ws_c2 51 rfl rfl
theorem lk_J0_492 : LkV RJ0 492 jJ0_isLatin1_aae02 0 := ⟨⟨wd_383, ⟨rfl, (by rw [cwd_nil rfl]; exact wd_386)⟩, wd_103, ⟨by decide +kernel, by decide +kernel⟩, by decide +kernel⟩, wd_384, wd_385⟩
theorem wd_389 : (Jvm.Cond.code ({ cls := "java/lang/StringLatin1", name := "charAt", desc := "([BI)C" } : Jvm.MethodName) prog_17_method_2_code (2 : Nat) (Option.some Jvm.ClassFile.FieldType.char)) ∈ WS := ws_c2 55 rfl rfl
theorem wd_387 : (Jvm.Cond.methodLink "java/lang/String" (495 : Nat) ({ cls := "java/lang/StringLatin1", name := "charAt", desc := "([BI)C" } : Jvm.MethodName)) ∈ WS := ws_c2 53 rfl rfl
theorem wd_388 : (Jvm.Cond.static ({ cls := "java/lang/StringLatin1", name := "charAt", desc := "([BI)C" } : Jvm.MethodName)) ∈ WS := ws_c2 54 rfl rfl
theorem lk_J0_495 : LkS RJ0 495 jJ1_charAt_3b067 2 := ⟨⟨wd_387, ⟨rfl, (by rw [cwd_nil rfl]; exact wd_389)⟩, wd_104, ⟨by decide +kernel, by decide +kernel⟩, by decide +kernel⟩, wd_388⟩
theorem wd_400 : (Jvm.Cond.code ({ cls := "java/lang/StringUTF16", name := "charAt", desc := "([BI)C" } : Jvm.MethodName) prog_18_method_83_code (2 : Nat) (Option.some Jvm.ClassFile.FieldType.char)) ∈ WS := ws_c2 66 rfl rfl
theorem wd_398 : (Jvm.Cond.methodLink "java/lang/String" (498 : Nat) ({ cls := "java/lang/StringUTF16", name := "charAt", desc := "([BI)C" } : Jvm.MethodName)) ∈ WS := ws_c2 64 rfl rfl
theorem wd_399 : (Jvm.Cond.static ({ cls := "java/lang/StringUTF16", name := "charAt", desc := "([BI)C" } : Jvm.MethodName)) ∈ WS := ws_c2 65 rfl rfl
theorem lk_J0_498 : LkS RJ0 498 jJ2_charAt_3b067 2 := ⟨⟨wd_398, ⟨rfl, (by rw [cwd_nil rfl]; exact wd_400)⟩, wd_106, ⟨by decide +kernel, by decide +kernel⟩, by decide +kernel⟩, wd_399⟩
theorem wd_377 : (Jvm.Cond.fieldLink "java/lang/String" (38 : Nat) "java/lang/String" "COMPACT_STRINGS" "Z") ∈ WS := ws_c2 43 rfl rfl
theorem wd_1787 : (Jvm.Cond.fieldLink "java/lang/String" (15 : Nat) "java/lang/String" "coder" "B") ∈ WS := ws_c8 13 rfl rfl
theorem wd_393 : (Jvm.Cond.fieldLink "java/lang/String" (1053 : Nat) "jdk/internal/util/Preconditions" "SIOOBE_FORMATTER" "Ljava/util/function/BiFunction;") ∈ WS := ws_c2 59 rfl rfl
theorem wd_397 : (Jvm.Cond.code ({ cls := "jdk/internal/util/Preconditions", name := "checkIndex", desc := "(IILjava/util/function/BiFunction;)I" } : Jvm.MethodName) prog_21_method_11_code (3 : Nat) (Option.some Jvm.ClassFile.FieldType.int)) ∈ WS := ws_c2 63 rfl rfl
theorem wd_395 : (Jvm.Cond.methodLink "java/lang/String" (1059 : Nat) ({ cls := "jdk/internal/util/Preconditions", name := "checkIndex", desc := "(IILjava/util/function/BiFunction;)I" } : Jvm.MethodName)) ∈ WS := ws_c2 61 rfl rfl
theorem wd_396 : (Jvm.Cond.static ({ cls := "jdk/internal/util/Preconditions", name := "checkIndex", desc := "(IILjava/util/function/BiFunction;)I" } : Jvm.MethodName)) ∈ WS := ws_c2 62 rfl rfl
theorem lk_J0_1059 : LkS RJ0 1059 jJ3_checkIndex_8e157 3 := ⟨⟨wd_395, ⟨rfl, (by rw [cwd_nil rfl]; exact wd_397)⟩, wd_105, ⟨by decide +kernel, by decide +kernel⟩, by decide +kernel⟩, wd_396⟩
theorem wd_392 : (Jvm.Cond.code ({ cls := "java/lang/String", name := "checkIndex", desc := "(II)V" } : Jvm.MethodName) prog_16_method_155_code (2 : Nat) (Option.none : Option Jvm.ClassFile.FieldType)) ∈ WS := ws_c2 58 rfl rfl
theorem wd_390 : (Jvm.Cond.methodLink "java/lang/StringLatin1" (9 : Nat) ({ cls := "java/lang/String", name := "checkIndex", desc := "(II)V" } : Jvm.MethodName)) ∈ WS := ws_c2 56 rfl rfl
theorem wd_391 : (Jvm.Cond.static ({ cls := "java/lang/String", name := "checkIndex", desc := "(II)V" } : Jvm.MethodName)) ∈ WS := ws_c2 57 rfl rfl
theorem lk_J1_9 : LkS RJ1 9 jJ0_checkIndex_df160 2 := ⟨⟨wd_390, ⟨rfl, (by rw [cwd_nil rfl]; exact wd_392)⟩, wd_103, ⟨by decide +kernel, by decide +kernel⟩, by decide +kernel⟩, wd_391⟩
theorem wd_411 : (Jvm.Cond.fieldLink "java/lang/StringUTF16" (44 : Nat) "java/lang/StringUTF16" "$assertionsDisabled" "Z") ∈ WS := ws_c2 77 rfl rfl
theorem wd_406 : (Jvm.Cond.code ({ cls := "java/lang/StringUTF16", name := "length", desc := "([B)I" } : Jvm.MethodName) prog_18_method_6_code (1 : Nat) (Option.some Jvm.ClassFile.FieldType.int)) ∈ WS := ws_c2 72 rfl rfl
theorem wd_404 : (Jvm.Cond.methodLink "java/lang/StringUTF16" (48 : Nat) ({ cls := "java/lang/StringUTF16", name := "length", desc := "([B)I" } : Jvm.MethodName)) ∈ WS := ws_c2 70 rfl rfl
theorem wd_405 : (Jvm.Cond.static ({ cls := "java/lang/StringUTF16", name := "length", desc := "([B)I" } : Jvm.MethodName)) ∈ WS := ws_c2 71 rfl rfl
theorem lk_J2_48 : LkS RJ2 48 jJ2_length_9d52b 1 := ⟨⟨wd_404, ⟨rfl, (by rw [cwd_nil rfl]; exact wd_406)⟩, wd_106, ⟨by decide +kernel, by decide +kernel⟩, by decide +kernel⟩, wd_405⟩
theorem wd_413 : (Jvm.Cond.fieldLink "java/lang/StringUTF16" (59 : Nat) "java/lang/StringUTF16" "HI_BYTE_SHIFT" "I") ∈ WS := ws_c2 79 rfl rfl
theorem wd_415 : (Jvm.Cond.fieldLink "java/lang/StringUTF16" (63 : Nat) "java/lang/StringUTF16" "LO_BYTE_SHIFT" "I") ∈ WS := ws_c2 81 rfl rfl
theorem wd_403 : (Jvm.Cond.code ({ cls := "java/lang/StringUTF16", name := "checkIndex", desc := "(I[B)V" } : Jvm.MethodName) prog_18_method_91_code (2 : Nat) (Option.none : Option Jvm.ClassFile.FieldType)) ∈ WS := ws_c2 69 rfl rfl
theorem wd_401 : (Jvm.Cond.methodLink "java/lang/StringUTF16" (67 : Nat) ({ cls := "java/lang/StringUTF16", name := "checkIndex", desc := "(I[B)V" } : Jvm.MethodName)) ∈ WS := ws_c2 67 rfl rfl
theorem wd_402 : (Jvm.Cond.static ({ cls := "java/lang/StringUTF16", name := "checkIndex", desc := "(I[B)V" } : Jvm.MethodName)) ∈ WS := ws_c2 68 rfl rfl
theorem lk_J2_67 : LkS RJ2 67 jJ2_checkIndex_2214a 2 := ⟨⟨wd_401, ⟨rfl, (by rw [cwd_nil rfl]; exact wd_403)⟩, wd_106, ⟨by decide +kernel, by decide +kernel⟩, by decide +kernel⟩, wd_402⟩
theorem wd_410 : (Jvm.Cond.code ({ cls := "java/lang/StringUTF16", name := "getChar", desc := "([BI)C" } : Jvm.MethodName) prog_18_method_5_code (2 : Nat) (Option.some Jvm.ClassFile.FieldType.char)) ∈ WS := ws_c2 76 rfl rfl
theorem wd_408 : (Jvm.Cond.methodLink "java/lang/StringUTF16" (71 : Nat) ({ cls := "java/lang/StringUTF16", name := "getChar", desc := "([BI)C" } : Jvm.MethodName)) ∈ WS := ws_c2 74 rfl rfl
theorem wd_409 : (Jvm.Cond.static ({ cls := "java/lang/StringUTF16", name := "getChar", desc := "([BI)C" } : Jvm.MethodName)) ∈ WS := ws_c2 75 rfl rfl
theorem lk_J2_71 : LkS RJ2 71 jJ2_getChar_3b067 2 := ⟨⟨wd_408, ⟨rfl, (by rw [cwd_nil rfl]; exact wd_410)⟩, wd_106, ⟨by decide +kernel, by decide +kernel⟩, by decide +kernel⟩, wd_409⟩
theorem wd_407 : (Jvm.Cond.methodLink "java/lang/StringUTF16" (414 : Nat) ({ cls := "java/lang/String", name := "checkIndex", desc := "(II)V" } : Jvm.MethodName)) ∈ WS := ws_c2 73 rfl rfl
theorem lk_J2_414 : LkS RJ2 414 jJ0_checkIndex_df160 2 := ⟨⟨wd_407, ⟨rfl, (by rw [cwd_nil rfl]; exact wd_392)⟩, wd_103, ⟨by decide +kernel, by decide +kernel⟩, by decide +kernel⟩, wd_391⟩
end
-- 09.shape
section
/-! loops, calls whose end is known, the shape of the memory -/
section
variable {l : Launch} {J : Jm} {F L MC MS : Nat} {Q : Res → Mem → Prop} {pc : Nat} {lv : List (Nat × Value)} {st : List Value} {k n : Nat} {M : Mem}
/-- a loop that counts: A i, MM i at its head before round i -/
theorem go_loop (N : Nat) (A : Nat → List (Nat × Value)) (MM : Nat → Mem) (hA : lvSub lv (A 0)) (hM : M = MM 0)
    (hs : ∀ i, i < N → Go l J F L MC MS Q pc (A (i + 1)) [] k n (MM (i + 1)) → Go l J F L MC MS Q pc (A i) [] k n (MM i)) (hx : Go l J F L MC MS Q pc (A N) [] k n (MM N)) : Go l J F L MC MS Q pc lv [] k n M := by
  refine g_sub hA ?_
  rw [hM]
  have key : ∀ d i, i + d = N → Go l J F L MC MS Q pc (A i) [] k n (MM i) := by
    intro d
    induction d with
    | zero => intro i hi; rw [Nat.add_zero] at hi; rw [hi]; exact hx
    | succ d ih => intro i hi; exact hs i (by omega) (ih (i + 1) (by omega))
  exact key N 0 (Nat.zero_add N)
/-- a loop with a measure -/
theorem go_while {σ : Type} (I : σ → Prop) (μ : σ → Nat) (A : σ → List (Nat × Value)) (MM : σ → Mem) (s0 : σ) (hA : lvSub lv (A s0)) (hM : M = MM s0) (h0 : I s0)
    (hs : ∀ s, I s → (∀ s', I s' → μ s' < μ s → Go l J F L MC MS Q pc (A s') [] k n (MM s')) → Go l J F L MC MS Q pc (A s) [] k n (MM s)) : Go l J F L MC MS Q pc lv [] k n M := by
  refine g_sub hA ?_
  rw [hM]
  have key : ∀ d s, I s → μ s ≤ d → Go l J F L MC MS Q pc (A s) [] k n (MM s) := by
    intro d
    induction d with
    | zero => intro s h1 h2; exact hs s h1 (fun s' _ h4 => absurd h4 (by omega))
    | succ d ih => intro s h1 h2; exact hs s h1 (fun s' h3 h4 => ih s' h3 (by omega))
  exact key (μ s0) s0 h0 (Nat.le_refl _)
/-- a call's end is known -/
def EvR (l : Launch) (J : Jm) (F L mc ms : Nat) (As : List Value) (M : Mem) (r : Res) (M' : Mem) : Prop := Ev l J F L mc ms As M (fun r' M9 => r' = r ∧ M9 = M')
theorem ev_mono {J : Jm} {F L mc ms : Nat} {As : List Value} {Q Q' : Res → Mem → Prop} (h : Ev l J F L mc ms As M Q) (hq : ∀ r M', Q r M' → Q' r M') : Ev l J F L mc ms As M Q' := by
  intro G p e ha hc hk s m args below h1 h2 h3 h4
  obtain ⟨t, o, a1, a2, a3, a4⟩ := h G p e ha hc hk s m args below h1 h2 h3 h4
  refine ⟨t, o, a1, a2, a3, ?_⟩
  rcases a4 with ⟨⟨⟨v, M', b1, b2, b3⟩, b4⟩, b5⟩ | ⟨q, b1, E, ce, L9, ⟨⟨M', c1, c2⟩, c3⟩, c4⟩
  · exact Or.inl ⟨⟨⟨v, M', b1, hq _ _ b2, b3⟩, b4⟩, b5⟩
  · exact Or.inr ⟨q, b1, E, ce, L9, ⟨⟨M', hq _ _ c1, c2⟩, c3⟩, c4⟩
theorem g_invV_r {ix nA F' L' mc' ms' : Nat} {J' : Jm} {As rest : List Value} {id ci : Nat} {q0 : vw_C} {k0 n0 : Nat} {v : Option Value} {M' : Mem} (hd : decode J.2.1 pc = .ok (.invokevirtual ix, 3)) (hst : st = As.reverse ++ .ref id :: rest) (hE : EvR l J' F' L' mc' ms' (.ref id :: As) M (.inl v) M') (hk9 : k0 = k + mc') (hn9 : n0 = n + ms') (hk : (mK M)[id]? = some (.inr ci)) (hc0 : vwCl[ci]? = some q0) (hq0 : q0.1 = J'.1.cls) (hlk : LkV J.1.cls ix J' nA) (hn : As.length = nA) (hcat : (rest.map fun v => v.category).sum ≤ 8) (hF : F' + 1 ≤ F ∧ 8 + (J'.2.2.1 + 11) + L' ≤ L) (hh : J.2.2.2.2 = []) (kk : Go l J F L MC MS Q (pc + 3) lv (v.toList ++ rest) k n M') : Go l J F L MC MS Q pc lv st k0 n0 M := by
  subst hk9; subst hn9
  exact g_invV hd hlk hn hcat hF hE hst hk hc0 hq0 hh (fun v1 M1 h => by obtain ⟨h1, h2⟩ := h; cases h1; subst h2; exact kk) (fun E M1 h => by cases h.1)
theorem g_invV_x {ix nA F' L' mc' ms' : Nat} {J' : Jm} {As rest : List Value} {id ci : Nat} {q0 : vw_C} {k0 n0 : Nat} {E : String} {M' : Mem} (hd : decode J.2.1 pc = .ok (.invokevirtual ix, 3)) (hst : st = As.reverse ++ .ref id :: rest) (hE : EvR l J' F' L' mc' ms' (.ref id :: As) M (.inr E) M') (hk9 : k0 = k + mc') (hn9 : n0 = n + ms') (hk : (mK M)[id]? = some (.inr ci)) (hc0 : vwCl[ci]? = some q0) (hq0 : q0.1 = J'.1.cls) (hlk : LkV J.1.cls ix J' nA) (hn : As.length = nA) (hcat : (rest.map fun v => v.category).sum ≤ 8) (hF : F' + 1 ≤ F ∧ 8 + (J'.2.2.1 + 11) + L' ≤ L) (hh : J.2.2.2.2 = []) (kk : Q (.inr E) M') : Go l J F L MC MS Q pc lv st k0 n0 M := by
  subst hk9; subst hn9
  exact g_invV hd hlk hn hcat hF hE hst hk hc0 hq0 hh (fun v1 M1 h => by cases h.1) (fun E1 M1 h => by obtain ⟨h1, h2⟩ := h; cases h1; subst h2; exact kk)
theorem g_invS_r {ix nA F' L' mc' ms' : Nat} {J' : Jm} {As rest : List Value} {k0 n0 : Nat} {v : Option Value} {M' : Mem} (hd : decode J.2.1 pc = .ok (.invokestatic ix, 3)) (hst : st = As.reverse ++ rest) (hE : EvR l J' F' L' mc' ms' As M (.inl v) M') (hk9 : k0 = k + mc') (hn9 : n0 = n + ms') (hlk : LkS J.1.cls ix J' nA) (hn : As.length = nA) (hcat : (rest.map fun v => v.category).sum ≤ 8) (hF : F' + 1 ≤ F ∧ 8 + (J'.2.2.1 + 11) + L' ≤ L) (hh : J.2.2.2.2 = []) (kk : Go l J F L MC MS Q (pc + 3) lv (v.toList ++ rest) k n M') : Go l J F L MC MS Q pc lv st k0 n0 M := by
  subst hk9; subst hn9
  exact g_invS hd hlk hn hcat hF hE hst hh (fun v1 M1 h => by obtain ⟨h1, h2⟩ := h; cases h1; subst h2; exact kk) (fun E M1 h => by cases h.1)
theorem g_invS_x {ix nA F' L' mc' ms' : Nat} {J' : Jm} {As rest : List Value} {k0 n0 : Nat} {E : String} {M' : Mem} (hd : decode J.2.1 pc = .ok (.invokestatic ix, 3)) (hst : st = As.reverse ++ rest) (hE : EvR l J' F' L' mc' ms' As M (.inr E) M') (hk9 : k0 = k + mc') (hn9 : n0 = n + ms') (hlk : LkS J.1.cls ix J' nA) (hn : As.length = nA) (hcat : (rest.map fun v => v.category).sum ≤ 8) (hF : F' + 1 ≤ F ∧ 8 + (J'.2.2.1 + 11) + L' ≤ L) (hh : J.2.2.2.2 = []) (kk : Q (.inr E) M') : Go l J F L MC MS Q pc lv st k0 n0 M := by
  subst hk9; subst hn9
  exact g_invS hd hlk hn hcat hF hE hst hh (fun v1 M1 h => by cases h.1) (fun E1 M1 h => by obtain ⟨h1, h2⟩ := h; cases h1; subst h2; exact kk)
theorem g_invSN_r {ix nA F' L' mc' ms' : Nat} {J' : Jm} {As rest : List Value} {k0 n0 : Nat} {v : Option Value} {M' : Mem} (hd : decode J.2.1 pc = .ok (.invokestatic ix, 3)) (hst : st = As.reverse ++ rest) (hE : EvR l J' F' L' mc' ms' As M (.inl v) M') (hk9 : k0 = k + mc') (hn9 : n0 = n + ms') (hlk : LkSN J.1.cls ix J' nA) (hn : As.length = nA) (hcat : (rest.map fun v => v.category).sum ≤ 8) (hF : F' + 1 ≤ F ∧ 8 + (J'.2.2.1 + 11) + L' ≤ L) (hh : J.2.2.2.2 = []) (kk : Go l J F L MC MS Q (pc + 3) lv (v.toList ++ rest) k n M') : Go l J F L MC MS Q pc lv st k0 n0 M := by
  subst hk9; subst hn9
  exact g_invSN hd hlk hn hcat hF hE hst hh (fun v1 M1 h => by obtain ⟨h1, h2⟩ := h; cases h1; subst h2; exact kk) (fun E M1 h => by cases h.1)
theorem g_invSN_x {ix nA F' L' mc' ms' : Nat} {J' : Jm} {As rest : List Value} {k0 n0 : Nat} {E : String} {M' : Mem} (hd : decode J.2.1 pc = .ok (.invokestatic ix, 3)) (hst : st = As.reverse ++ rest) (hE : EvR l J' F' L' mc' ms' As M (.inr E) M') (hk9 : k0 = k + mc') (hn9 : n0 = n + ms') (hlk : LkSN J.1.cls ix J' nA) (hn : As.length = nA) (hcat : (rest.map fun v => v.category).sum ≤ 8) (hF : F' + 1 ≤ F ∧ 8 + (J'.2.2.1 + 11) + L' ≤ L) (hh : J.2.2.2.2 = []) (kk : Q (.inr E) M') : Go l J F L MC MS Q pc lv st k0 n0 M := by
  subst hk9; subst hn9
  exact g_invSN hd hlk hn hcat hF hE hst hh (fun v1 M1 h => by cases h.1) (fun E1 M1 h => by obtain ⟨h1, h2⟩ := h; cases h1; subst h2; exact kk)
theorem g_invI_r {ix nA F' L' mc' ms' : Nat} {J' : Jm} {As rest : List Value} {id ci : Nat} {q0 : vw_C} {k0 n0 : Nat} {v : Option Value} {M' : Mem} (hd : decode J.2.1 pc = .ok (.invokespecial ix, 3)) (hst : st = As.reverse ++ .ref id :: rest) (hE : EvR l J' F' L' mc' ms' (.ref id :: As) M (.inl v) M') (hk9 : k0 = k + mc') (hn9 : n0 = n + ms') (hk : (mK M)[id]? = some (.inr ci)) (hc0 : vwCl[ci]? = some q0) (hq0 : q0.1 = J'.1.cls) (hlk : LkI J.1.cls ix J' nA) (hn : As.length = nA) (hcat : (rest.map fun v => v.category).sum ≤ 8) (hF : F' + 1 ≤ F ∧ 8 + (J'.2.2.1 + 11) + L' ≤ L) (hh : J.2.2.2.2 = []) (kk : Go l J F L MC MS Q (pc + 3) lv (v.toList ++ rest) k n M') : Go l J F L MC MS Q pc lv st k0 n0 M := by
  subst hk9; subst hn9
  exact g_invI hd hlk hn hcat hF hE hst hk hc0 hq0 hh (fun v1 M1 h => by obtain ⟨h1, h2⟩ := h; cases h1; subst h2; exact kk) (fun E M1 h => by cases h.1)
theorem g_invI_x {ix nA F' L' mc' ms' : Nat} {J' : Jm} {As rest : List Value} {id ci : Nat} {q0 : vw_C} {k0 n0 : Nat} {E : String} {M' : Mem} (hd : decode J.2.1 pc = .ok (.invokespecial ix, 3)) (hst : st = As.reverse ++ .ref id :: rest) (hE : EvR l J' F' L' mc' ms' (.ref id :: As) M (.inr E) M') (hk9 : k0 = k + mc') (hn9 : n0 = n + ms') (hk : (mK M)[id]? = some (.inr ci)) (hc0 : vwCl[ci]? = some q0) (hq0 : q0.1 = J'.1.cls) (hlk : LkI J.1.cls ix J' nA) (hn : As.length = nA) (hcat : (rest.map fun v => v.category).sum ≤ 8) (hF : F' + 1 ≤ F ∧ 8 + (J'.2.2.1 + 11) + L' ≤ L) (hh : J.2.2.2.2 = []) (kk : Q (.inr E) M') : Go l J F L MC MS Q pc lv st k0 n0 M := by
  subst hk9; subst hn9
  exact g_invI hd hlk hn hcat hF hE hst hk hc0 hq0 hh (fun v1 M1 h => by cases h.1) (fun E1 M1 h => by obtain ⟨h1, h2⟩ := h; cases h1; subst h2; exact kk)
/-- LAYOUT: of the class's object (0 ..), the reference's (198 ..), the law's two arrays -/
abbrev kI (n : Nat) : Knd := .inl (.int, n)
abbrev kL (n : Nat) : Knd := .inl (.long, n)
abbrev kSt : String := "BitDesk$State"
abbrev kMx : String := "BitDesk$Matrix"
abbrev kCl : String := "BitDesk$Closure"
def laySt : List Knd := [.inr 5, .inl (.object kMx, 6), .inr 2, kI 32, .inr 2, kI 32, .inr 2, kI 32, .inr 2, kI 32, .inr 2, kI 32, .inr 2, kI 32]
def layC : List Knd := [.inr 6, .inr 4, kI 600] ++ laySt ++ laySt ++ [.inl (.object kSt, 8)] ++ laySt ++ laySt ++ laySt ++ laySt ++ laySt ++ laySt ++ laySt ++ laySt ++ [.inl (.object kSt, 2)] ++ laySt ++ laySt ++ [.inl (.boolean, 2), .inl (.object kCl, 6), .inr 0, kI 32, .inr 0, kI 32, .inr 0, kI 32, .inr 0, kI 32, .inr 0, kI 32, .inr 0, kI 32, .inr 3, kI 256, kI 32, kI 32, .inr 1, kI 32, kI 32, kI 32, kI 32, kI 32, kI 32]
def layM : List Knd := [.inr 7, kL 220, kL 220, kL 1760, kL 440, .inl (.boolean, 2), .inl (.byte, 600), kL 32, kL 32, kL 32, kI 32, kL 32, kI 32, .inl (.byte, 32)]
def layO : List Knd := [kL 1, .inl (.double, 1)]
def LAY : List Knd := layC ++ layM ++ layO
/-- references: state b: its slots' array b + 1, slot s at b + 2 + 2 s, its rows behind it -/
def refSt (b i j : Nat) : Option Nat := if i = b then (if j = 0 then some (b + 1) else none) else if i = b + 1 then (if j < 6 then some (b + 2 + 2 * j) else none) else if b + 2 ≤ i ∧ i < b + 14 ∧ j = 0 ∧ (i - b) % 2 = 0 then some (i + 1) else none
def ref0 (j : Nat) : Option Nat := [some 1, some 3, some 17, some 31, none, none, some 144, some 173, some 174, some 187, some 191, some 195, some 196, some 197, none].getD j none
def ref198 (j : Nat) : Option Nat := [some 199, some 200, some 201, some 202, some 203, none, none, some 204, none, none, none, none, none, none, none, none, some 205, some 206, some 207, some 208, some 209, some 210, none, some 211, none].getD j none
def REFT (i j : Nat) : Option Nat :=
  if i = 0 then ref0 j else if i = 1 then (if j = 0 then some 2 else none) else if i < 17 then refSt 3 i j else if i < 31 then refSt 17 i j
  else if i = 31 then (if j < 8 then some (32 + 14 * j) else none) else if i < 144 then refSt (32 + 14 * ((i - 32) / 14)) i j
  else if i = 144 then (if j < 2 then some (145 + 14 * j) else none) else if i < 159 then refSt 145 i j else if i < 173 then refSt 159 i j
  else if i = 174 then (if j < 6 then some (175 + 2 * j) else none) else if i < 175 then none else if i < 187 then (if j = 0 ∧ i % 2 = 1 then some (i + 1) else none)
  else if i = 187 then (if j < 3 then some (188 + j) else none) else if i = 191 then (if j < 3 then some (192 + j) else none) else if i = 198 then ref198 j else none
def Shp (M : Mem) : Prop := mK M = LAY ∧ mX M = false ∧ ∀ i j r, REFT i j = some r → mR M i j = some r
theorem shK {M : Mem} {i : Nat} {x : Knd} (h : Shp M) (e : LAY[i]? = some x) : (mK M)[i]? = some x := by rw [h.1]; exact e
theorem shR {M : Mem} {i j r : Nat} (h : Shp M) (e : REFT i j = some r) : mR M i j = some r := h.2.2 i j r e
theorem fv_obj {M : Mem} {i j r : Nat} {C : String} (h : mR M i j = some r) : ∀ G : Gl, fval G M i j (.object C) = cv G (.ref r) := fun G => by simp only [fval, h, cv, va_rf, Option.map]
theorem fv_arr {M : Mem} {i j r : Nat} {t : FieldType} (h : mR M i j = some r) : ∀ G : Gl, fval G M i j (.array t) = cv G (.ref r) := fun G => by simp only [fval, h, cv, va_rf, Option.map]
theorem new_df {M : Mem} {ci N : Nat} {ty0 : Nat → FieldType} (h : ∀ a, a < N → (ftyA ci)[a]? = some (ty0 a) ∧ ty0 a ≠ .float) : ∀ a, a < N → ∀ G : Gl, defaultValue (ty0 a) = vp_V (fvs G (nK M (.inr ci)) (mK M).length 0 (ftyA ci)) a := by
  intro a ha G
  have h1 := fvs_get G (nK M (.inr ci)) (mK M).length (ftyA ci) 0 a (ty0 a) (h a ha).1
  have h2 := (h a ha).2
  unfold vp_V
  rw [List.getD_eq_getElem?_getD, h1, Nat.zero_add]
  cases hty : ty0 a <;> first | exact absurd hty h2 | (simp [fval, nK, mI, mL, mR, mD, fs_self, va_rf] <;> rfl)
theorem new_df0 (M : Mem) : ∀ a, a < 2 → ∀ G : Gl, defaultValue (tyX0 a) = vp_V (fvs G (nK M (.inr 0)) (mK M).length 0 (ftyA 0)) a := new_df (by decide +kernel)
theorem new_df1 (M : Mem) : ∀ a, a < 4 → ∀ G : Gl, defaultValue (tyX1 a) = vp_V (fvs G (nK M (.inr 1)) (mK M).length 0 (ftyA 1)) a := new_df (by decide +kernel)
theorem new_df2 (M : Mem) : ∀ a, a < 5 → ∀ G : Gl, defaultValue (tyX2 a) = vp_V (fvs G (nK M (.inr 2)) (mK M).length 0 (ftyA 2)) a := new_df (by decide +kernel)
theorem new_df3 (M : Mem) : ∀ a, a < 8 → ∀ G : Gl, defaultValue (tyX3 a) = vp_V (fvs G (nK M (.inr 3)) (mK M).length 0 (ftyA 3)) a := new_df (by decide +kernel)
theorem new_df4 (M : Mem) : ∀ a, a < 7 → ∀ G : Gl, defaultValue (tyX4 a) = vp_V (fvs G (nK M (.inr 4)) (mK M).length 0 (ftyA 4)) a := new_df (by decide +kernel)
theorem new_df5 (M : Mem) : ∀ a, a < 5 → ∀ G : Gl, defaultValue (tyX5 a) = vp_V (fvs G (nK M (.inr 5)) (mK M).length 0 (ftyA 5)) a := new_df (by decide +kernel)
theorem new_df6 (M : Mem) : ∀ a, a < 15 → ∀ G : Gl, defaultValue (tyX6 a) = vp_V (fvs G (nK M (.inr 6)) (mK M).length 0 (ftyA 6)) a := new_df (by decide +kernel)
theorem new_df7 (M : Mem) : ∀ a, a < 25 → ∀ G : Gl, defaultValue (tyX7 a) = vp_V (fvs G (nK M (.inr 7)) (mK M).length 0 (ftyA 7)) a := new_df (by decide +kernel)
theorem nl {a b : Nat} (h : Nat.blt a b = true) : a < b := Nat.le_of_ble_eq_true h
theorem nb {a b : Nat} (h : Nat.ble a b = true) : a ≤ b := Nat.le_of_ble_eq_true h
end
end
-- 091.bits
section
/-! bits of ints and longs -/
def hb (x : Int32) (c : Nat) : Bool := x.toBitVec.getLsbD c
def hl (x : Int64) (c : Nat) : Bool := x.toBitVec.getLsbD c
def b1 (b : Bool) : Int32 := match b with
  | true => 1
  | false => 0
theorem sh31 : ∀ c, c < 32 → (nI c).toUInt32 &&& Int32.toUInt32 31 = UInt32.ofNat c := by decide +kernel
theorem ush32 (x : Int32) {c : Nat} (h : c < 32) : (x.toUInt32 >>> ((nI c).toUInt32 &&& Int32.toUInt32 31)).toInt32.toBitVec = x.toBitVec >>> c := by
  rw [sh31 c h]
  show x.toBitVec >>> ((UInt32.ofNat c).mod 32).toBitVec = _
  have e : ((UInt32.ofNat c).mod 32).toBitVec.toNat = c := by
    have h1 : ∀ c, c < 32 → ((UInt32.ofNat c).mod 32).toBitVec.toNat = c := by decide +kernel
    exact h1 c h
  show x.toBitVec >>> ((UInt32.ofNat c).mod 32).toBitVec.toNat = _
  rw [e]
/-- a bit taken out -/
theorem bit32 (x : Int32) {c : Nat} (h : c < 32) : (x.toUInt32 >>> ((nI c).toUInt32 &&& Int32.toUInt32 31)).toInt32 &&& 1 = b1 (hb x c) := by
  apply Int32.toBitVec_inj.mp
  rw [Int32.toBitVec_and, ush32 x h]
  apply BitVec.eq_of_getLsbD_eq
  intro i hi
  unfold hb
  cases hx : x.toBitVec.getLsbD c
  · simp only [b1, BitVec.getLsbD_and, BitVec.getLsbD_ushiftRight]
    rcases Nat.eq_zero_or_pos i with rfl | h0
    · simp [hx]
    · have : (1 : Int32).toBitVec.getLsbD i = false := by
        show (1#32).getLsbD i = false
        simp [BitVec.getLsbD_one]; omega
      rw [this]; simp
  · simp only [b1, BitVec.getLsbD_and, BitVec.getLsbD_ushiftRight]
    rcases Nat.eq_zero_or_pos i with rfl | h0
    · simp [hx]
    · have : (1 : Int32).toBitVec.getLsbD i = false := by
        show (1#32).getLsbD i = false
        simp [BitVec.getLsbD_one]; omega
      rw [this]; simp
theorem b1_0 (b : Bool) : (b1 b = 0) = (b = false) := by cases b <;> simp [b1]
end
-- 095.wr
section
/-! writes that go up an array -/
section
variable {l : Launch} {J : Jm} {F L MC MS : Nat} {Q : Res → Mem → Prop} {pc : Nat} {lv : List (Nat × Value)} {st : List Value} {k n : Nat} {M : Mem}
abbrev pI (M : Mem) (i k : Nat) (x : Int32) : Mem := sI M i (fun_set (mI M i) k x)
abbrev pL (M : Mem) (i k : Nat) (x : Int64) : Mem := sL M i (fun_set (mL M i) k x)
def wr {α : Type} (f x : Nat → α) (i : Nat) : Nat → α := fun k => if k < i then x k else f k
theorem wr_0 {α : Type} (f x : Nat → α) : wr f x 0 = f := by funext k; simp [wr]
theorem wr_s {α : Type} (f x : Nat → α) (i : Nat) : fun_set (wr f x i) i (x i) = wr f x (i + 1) := by
  funext k
  simp only [fun_set, wr]
  by_cases h : k = i
  · subst h; simp
  · by_cases h2 : k < i
    · rw [if_neg h, if_pos h2, if_pos (by omega)]
    · rw [if_neg h, if_neg h2, if_neg (by omega)]
theorem wr_lt {α : Type} {f x : Nat → α} {i k : Nat} (h : k < i) : wr f x i k = x k := by simp [wr, h]
theorem wr_ge {α : Type} {f x : Nat → α} {i k : Nat} (h : i ≤ k) : wr f x i k = f k := by simp [wr, Nat.not_lt.mpr h]
theorem cpy_wr {α : Type} (f g : Nat → α) (c : Nat) : va_cpy f g 0 0 c = wr g f c := by funext k; simp [va_cpy, wr]
theorem go_cast {M' : Mem} (e : M = M') (h : Go l J F L MC MS Q pc lv st k n M') : Go l J F L MC MS Q pc lv st k n M := by rw [e]; exact h
theorem sI_id (M : Mem) (a : Nat) : sI M a (mI M a) = M := by simp only [sI, mI, fs_same]
theorem sL_id (M : Mem) (a : Nat) : sL M a (mL M a) = M := by simp only [sL, mL, fs_same]
theorem sI_eq {M : Mem} {a : Nat} {f : Nat → Int32} (h : f = mI M a) : M = sI M a f := by rw [h, sI_id]
theorem sL_eq {M : Mem} {a : Nat} {f : Nat → Int64} (h : f = mL M a) : M = sL M a f := by rw [h, sL_id]
theorem sI_2 (M : Mem) (a : Nat) (f g : Nat → Int32) : sI (sI M a f) a g = sI M a g := by simp only [sI, fs_twice]
theorem sL_2 (M : Mem) (a : Nat) (f g : Nat → Int64) : sL (sL M a f) a g = sL M a g := by simp only [sL, fs_twice]
theorem sI_self (M : Mem) (a : Nat) (f : Nat → Int32) : mI (sI M a f) a = f := by simp only [sI, mI, fs_self]
theorem sL_self (M : Mem) (a : Nat) (f : Nat → Int64) : mL (sL M a f) a = f := by simp only [sL, mL, fs_self]
theorem sI_ne {M : Mem} {a b : Nat} {f : Nat → Int32} (h : b ≠ a) : mI (sI M a f) b = mI M b := by simp only [sI, mI, fs_ne _ _ h]
theorem sL_ne {M : Mem} {a b : Nat} {f : Nat → Int64} (h : b ≠ a) : mL (sL M a f) b = mL M b := by simp only [sL, mL, fs_ne _ _ h]
theorem sI_st {M : Mem} {a i : Nat} {g h : Nat → Int32} {x : Int32} (e : fun_set g i x = h) : pI (sI M a g) a i x = sI M a h := by
  simp only [pI, sI, mI, fs_self, fs_twice, e]
theorem sL_st {M : Mem} {a i : Nat} {g h : Nat → Int64} {x : Int64} (e : fun_set g i x = h) : pL (sL M a g) a i x = sL M a h := by
  simp only [pL, sL, mL, fs_self, fs_twice, e]
theorem pI_self (M : Mem) (i k : Nat) (x : Int32) : mI (pI M i k x) i k = x := by simp only [pI, sI, mI, fs_self]
theorem pI_k {M : Mem} {i k j : Nat} {x : Int32} (h : j ≠ k) : mI (pI M i k x) i j = mI M i j := by simp only [pI, sI, mI, fs_self, fs_ne _ _ h]
theorem pI_i {M : Mem} {i k j : Nat} {x : Int32} (h : j ≠ i) : mI (pI M i k x) j = mI M j := by simp only [pI, sI, mI, fs_ne _ _ h]
theorem pI_get (M : Mem) (i k j r : Nat) (x : Int32) : mI (pI M i k x) j r = if j = i ∧ r = k then x else mI M j r := by
  by_cases h : j = i
  · subst h
    by_cases h2 : r = k
    · subst h2; simp [pI_self]
    · rw [pI_k h2, if_neg (fun h => h2 h.2)]
  · rw [pI_i h, if_neg (fun h9 => h h9.1)]
theorem mem_extI {M M' : Mem} (h1 : mK M = mK M') (h2 : mX M = mX M') (h3 : mL M = mL M') (h4 : mR M = mR M') (h5 : mD M = mD M') (h6 : mS M = mS M') (h : ∀ i, mI M i = mI M' i) : M = M' := by
  obtain ⟨a1, a2, a3, a4, a5, a6, a7⟩ := M
  obtain ⟨b1, b2, b3, b4, b5, b6, b7⟩ := M'
  have h7 : a3 = b3 := funext h
  cases h1; cases h2; cases h3; cases h4; cases h5; cases h6; cases h7
  rfl
end
end
-- 10.leaf
section
/-! leaves: the class's static methods, Integer.bitCount, Math -/
section
variable {l : Launch} {M : Mem}
theorem s_hasOne {x : Int32} {c : Nat} (hc : c < 32) : EvR l jX6_hasOne 0 0 0 0 [.int x, .int (nI c)] M (.inl (some (.int (b1 (hb x c))))) M := by
  refine ev_intro rfl (nb rfl) rfl ?_
  refine g_iload_n (pc := 0) dX6_hasOne_0 rfl ?_
  refine g_iload_n (pc := 1) dX6_hasOne_1 rfl ?_
  refine g_iushr (pc := 2) dX6_hasOne_2 rfl ?_
  refine g_iconst (pc := 3) (v := 1) dX6_hasOne_3 rfl ?_
  refine g_iand (pc := 4) dX6_hasOne_4 ?_
  rw [bit32 x hc]
  refine g_if_eq (pc := 5) (tgt := 12) dX6_hasOne_5 rfl (fun h5 => ?_) (fun h5 => ?_)
  · rw [b1_0] at h5
    rw [h5]
    refine g_iconst (pc := 12) (v := 0) dX6_hasOne_12 rfl ?_
    refine g_ireturn (pc := 13) dX6_hasOne_13 rfl rfl ?_
    exact ⟨rfl, rfl⟩
  · rw [b1_0, Bool.not_eq_false] at h5
    rw [h5]
    refine g_iconst (pc := 8) (v := 1) dX6_hasOne_8 rfl ?_
    refine g_goto (pc := 9) (tgt := 13) dX6_hasOne_9 rfl ?_
    refine g_ireturn (pc := 13) dX6_hasOne_13 rfl rfl ?_
    exact ⟨rfl, rfl⟩
/-- shift to the right without sign -/
def us (x k : Int32) : Int32 := (x.toUInt32 >>> (k.toUInt32 &&& Int32.toUInt32 31)).toInt32
def bcJ (x : Int32) : Int32 :=
  let a := x - (us x 1 &&& 1431655765)
  let b := (a &&& 858993459) + (us a 2 &&& 858993459)
  let c := (b + us b 4) &&& 252645135
  let d := c + us c 8
  let e := d + us d 16
  e &&& 63
theorem s_bitCount {x : Int32} : EvR l jJ6_bitCount_0f7a4 0 0 0 0 [.int x] M (.inl (some (.int (bcJ x)))) M := by
  refine ev_intro rfl (nb rfl) rfl ?_
  refine g_iload_n (pc := 0) dJ6_bitCount_0f7a4_0 rfl ?_
  refine g_iload_n (pc := 1) dJ6_bitCount_0f7a4_1 rfl ?_
  refine g_iconst (pc := 2) (v := 1) dJ6_bitCount_0f7a4_2 rfl ?_
  refine g_iushr (pc := 3) dJ6_bitCount_0f7a4_3 rfl ?_
  refine g_ldcw (pc := 4) dJ6_bitCount_0f7a4_4 wd_684 ?_
  refine g_iand (pc := 7) dJ6_bitCount_0f7a4_7 ?_
  refine g_isub (pc := 8) dJ6_bitCount_0f7a4_8 ?_
  refine g_istore_n (pc := 9) (lv' := [(0, _)]) dJ6_bitCount_0f7a4_9 (nl rfl) rfl ?_
  refine g_iload_n (pc := 10) dJ6_bitCount_0f7a4_10 rfl ?_
  refine g_ldcw (pc := 11) dJ6_bitCount_0f7a4_11 wd_685 ?_
  refine g_iand (pc := 14) dJ6_bitCount_0f7a4_14 ?_
  refine g_iload_n (pc := 15) dJ6_bitCount_0f7a4_15 rfl ?_
  refine g_iconst (pc := 16) (v := 2) dJ6_bitCount_0f7a4_16 rfl ?_
  refine g_iushr (pc := 17) dJ6_bitCount_0f7a4_17 rfl ?_
  refine g_ldcw (pc := 18) dJ6_bitCount_0f7a4_18 wd_685 ?_
  refine g_iand (pc := 21) dJ6_bitCount_0f7a4_21 ?_
  refine g_iadd (pc := 22) dJ6_bitCount_0f7a4_22 ?_
  refine g_istore_n (pc := 23) (lv' := [(0, _)]) dJ6_bitCount_0f7a4_23 (nl rfl) rfl ?_
  refine g_iload_n (pc := 24) dJ6_bitCount_0f7a4_24 rfl ?_
  refine g_iload_n (pc := 25) dJ6_bitCount_0f7a4_25 rfl ?_
  refine g_iconst (pc := 26) (v := 4) dJ6_bitCount_0f7a4_26 rfl ?_
  refine g_iushr (pc := 27) dJ6_bitCount_0f7a4_27 rfl ?_
  refine g_iadd (pc := 28) dJ6_bitCount_0f7a4_28 ?_
  refine g_ldcw (pc := 29) dJ6_bitCount_0f7a4_29 wd_686 ?_
  refine g_iand (pc := 32) dJ6_bitCount_0f7a4_32 ?_
  refine g_istore_n (pc := 33) (lv' := [(0, _)]) dJ6_bitCount_0f7a4_33 (nl rfl) rfl ?_
  refine g_iload_n (pc := 34) dJ6_bitCount_0f7a4_34 rfl ?_
  refine g_iload_n (pc := 35) dJ6_bitCount_0f7a4_35 rfl ?_
  refine g_bipush (pc := 36) (v := 8) dJ6_bitCount_0f7a4_36 rfl ?_
  refine g_iushr (pc := 38) dJ6_bitCount_0f7a4_38 rfl ?_
  refine g_iadd (pc := 39) dJ6_bitCount_0f7a4_39 ?_
  refine g_istore_n (pc := 40) (lv' := [(0, _)]) dJ6_bitCount_0f7a4_40 (nl rfl) rfl ?_
  refine g_iload_n (pc := 41) dJ6_bitCount_0f7a4_41 rfl ?_
  refine g_iload_n (pc := 42) dJ6_bitCount_0f7a4_42 rfl ?_
  refine g_bipush (pc := 43) (v := 16) dJ6_bitCount_0f7a4_43 rfl ?_
  refine g_iushr (pc := 45) dJ6_bitCount_0f7a4_45 rfl ?_
  refine g_iadd (pc := 46) dJ6_bitCount_0f7a4_46 ?_
  refine g_istore_n (pc := 47) (lv' := [(0, _)]) dJ6_bitCount_0f7a4_47 (nl rfl) rfl ?_
  refine g_iload_n (pc := 48) dJ6_bitCount_0f7a4_48 rfl ?_
  refine g_bipush (pc := 49) (v := 63) dJ6_bitCount_0f7a4_49 rfl ?_
  refine g_iand (pc := 51) dJ6_bitCount_0f7a4_51 ?_
  refine g_ireturn (pc := 52) dJ6_bitCount_0f7a4_52 rfl rfl ?_
  exact ⟨rfl, rfl⟩
def colOf (f : Nat → Int32) (c : Nat) : Nat → Int32
  | 0 => 0
  | i + 1 => colOf f c i ||| b1 (hb (f i) c) <<< (nI i &&& 31)
theorem s_columnOf {r c n : Nat} (hk : (mK M)[r]? = some (kI 32)) (hc : c < 32) (hn : n ≤ 32) : EvR l jX6_columnOf 0 0 0 0 [.ref r, .int (nI c), .int (nI n)] M (.inl (some (.int (colOf (mI M r) c n)))) M := by
  refine ev_intro rfl (nb rfl) rfl ?_
  refine g_iconst (pc := 0) (v := 0) dX6_columnOf_0 rfl ?_
  refine g_istore_n (pc := 1) (lv' := [(0, _), (1, _), (2, _), (3, _)]) dX6_columnOf_1 (nl rfl) rfl ?_
  refine g_iconst (pc := 2) (v := 0) dX6_columnOf_2 rfl ?_
  refine g_istore (pc := 3) (lv' := [(0, _), (1, _), (2, _), (3, _), (4, _)]) dX6_columnOf_3 (nl rfl) rfl ?_
  refine go_loop (pc := 5) n (fun i => [(0, .ref r), (1, .int (nI c)), (2, .int (nI n)), (3, .int (colOf (mI M r) c i)), (4, .int (nI i))]) (fun _ => M) ⟨rfl, rfl, rfl, rfl, rfl, trivial⟩ rfl ?_ ?_
  · intro i hi ih
    refine g_iload (pc := 5) dX6_columnOf_5 rfl ?_
    refine g_iload_n (pc := 7) dX6_columnOf_7 rfl ?_
    refine g_icmp_ge (pc := 8) (tgt := 31) dX6_columnOf_8 rfl (fun h8 => absurd h8 (nI_ge hi (by omega))) (fun _ => ?_)
    refine g_iload_n (pc := 11) dX6_columnOf_11 rfl ?_
    refine g_aload_n (pc := 12) dX6_columnOf_12 rfl trivial ?_
    refine g_iload (pc := 13) dX6_columnOf_13 rfl ?_
    refine g_iaload (pc := 15) dX6_columnOf_15 hk rfl (by omega) (nl rfl) ?_
    refine g_iload_n (pc := 16) dX6_columnOf_16 rfl ?_
    refine g_iushr (pc := 17) dX6_columnOf_17 rfl ?_
    refine g_iconst (pc := 18) (v := 1) dX6_columnOf_18 rfl ?_
    refine g_iand (pc := 19) dX6_columnOf_19 ?_
    rw [bit32 _ hc]
    refine g_iload (pc := 20) dX6_columnOf_20 rfl ?_
    refine g_ishl (pc := 22) dX6_columnOf_22 ?_
    refine g_ior (pc := 23) dX6_columnOf_23 ?_
    refine g_istore_n (pc := 24) (lv' := [(0, _), (1, _), (2, _), (3, _), (4, _)]) dX6_columnOf_24 (nl rfl) rfl ?_
    refine g_iinc (pc := 25) (lv' := [(0, _), (1, _), (2, _), (3, _), (4, _)]) dX6_columnOf_25 rfl (nI_1 _) (nl rfl) rfl ?_
    refine g_goto (pc := 28) (tgt := 5) dX6_columnOf_28 rfl ?_
    exact ih
  · refine g_iload (pc := 5) dX6_columnOf_5 rfl ?_
    refine g_iload_n (pc := 7) dX6_columnOf_7 rfl ?_
    refine g_icmp_ge (pc := 8) (tgt := 31) dX6_columnOf_8 rfl (fun _ => ?_) (fun h8 => absurd (nI_le (Nat.le_refl _) (by omega)) h8)
    refine g_iload_n (pc := 31) dX6_columnOf_31 rfl ?_
    refine g_ireturn (pc := 32) dX6_columnOf_32 rfl rfl ?_
    exact ⟨rfl, rfl⟩
def onesF (f : Nat → Int32) : Nat → Int32
  | 0 => 0
  | i + 1 => onesF f i + bcJ (f i)
theorem s_onesOf {r n : Nat} (hk : (mK M)[r]? = some (kI 32)) (hn : n ≤ 32) : EvR l jX6_onesOf 1 20 0 0 [.ref r, .int (nI n)] M (.inl (some (.int (onesF (mI M r) n)))) M := by
  refine ev_intro rfl (nb rfl) rfl ?_
  refine g_iconst (pc := 0) (v := 0) dX6_onesOf_0 rfl ?_
  refine g_istore_n (pc := 1) (lv' := [(0, _), (1, _), (2, _)]) dX6_onesOf_1 (nl rfl) rfl ?_
  refine g_iconst (pc := 2) (v := 0) dX6_onesOf_2 rfl ?_
  refine g_istore_n (pc := 3) (lv' := [(0, _), (1, _), (2, _), (3, _)]) dX6_onesOf_3 (nl rfl) rfl ?_
  refine go_loop (pc := 4) n (fun i => [(0, .ref r), (1, .int (nI n)), (2, .int (onesF (mI M r) i)), (3, .int (nI i))]) (fun _ => M) ⟨rfl, rfl, rfl, rfl, trivial⟩ rfl ?_ ?_
  · intro i hi ih
    refine g_iload_n (pc := 4) dX6_onesOf_4 rfl ?_
    refine g_iload_n (pc := 5) dX6_onesOf_5 rfl ?_
    refine g_icmp_ge (pc := 6) (tgt := 24) dX6_onesOf_6 rfl (fun h6 => absurd h6 (nI_ge hi (by omega))) (fun _ => ?_)
    refine g_iload_n (pc := 9) dX6_onesOf_9 rfl ?_
    refine g_aload_n (pc := 10) dX6_onesOf_10 rfl trivial ?_
    refine g_iload_n (pc := 11) dX6_onesOf_11 rfl ?_
    refine g_iaload (pc := 12) dX6_onesOf_12 hk rfl (by omega) (nl rfl) ?_
    refine g_invS_r (pc := 13) (As := [_]) dX6_onesOf_13 rfl (s_bitCount) rfl rfl lk_X6_132 rfl (nb rfl) ⟨nb rfl, nb rfl⟩ rfl ?_
    refine g_iadd (pc := 16) dX6_onesOf_16 ?_
    refine g_istore_n (pc := 17) (lv' := [(0, _), (1, _), (2, _), (3, _)]) dX6_onesOf_17 (nl rfl) rfl ?_
    refine g_iinc (pc := 18) (lv' := [(0, _), (1, _), (2, _), (3, _)]) dX6_onesOf_18 rfl (nI_1 _) (nl rfl) rfl ?_
    refine g_goto (pc := 21) (tgt := 4) dX6_onesOf_21 rfl ?_
    exact ih
  · refine g_iload_n (pc := 4) dX6_onesOf_4 rfl ?_
    refine g_iload_n (pc := 5) dX6_onesOf_5 rfl ?_
    refine g_icmp_ge (pc := 6) (tgt := 24) dX6_onesOf_6 rfl (fun _ => ?_) (fun h6 => absurd (nI_le (Nat.le_refl _) (by omega)) h6)
    refine g_iload_n (pc := 24) dX6_onesOf_24 rfl ?_
    refine g_ireturn (pc := 25) dX6_onesOf_25 rfl rfl ?_
    exact ⟨rfl, rfl⟩
def comb (x y : Int32) (how : Nat) : Int32 := match how with
  | 0 => x &&& y
  | 1 => x ||| y
  | 2 => x ^^^ y
  | _ => x &&& (y ^^^ -1)
theorem s_combined {x y : Int32} {how : Nat} (hh : how < 4) : EvR l jX6_combined 0 0 0 0 [.int x, .int y, .int (nI how)] M (.inl (some (.int (comb x y how)))) M := by
  refine ev_intro rfl (nb rfl) rfl ?_
  rcases (by omega : how = 0 ∨ how = 1 ∨ how = 2 ∨ how = 3) with rfl | rfl | rfl | rfl
  · refine g_iload_n (pc := 0) dX6_combined_0 rfl ?_
    refine g_tableIn (pc := 1) (tgt := 28) (off := 27) dX6_combined_1 (by decide) (by decide) (by decide) (by decide) ?_
    refine g_iload_n (pc := 28) dX6_combined_28 rfl ?_
    refine g_iload_n (pc := 29) dX6_combined_29 rfl ?_
    refine g_iand (pc := 30) dX6_combined_30 ?_
    refine g_ireturn (pc := 31) dX6_combined_31 rfl rfl ?_
    exact ⟨rfl, rfl⟩
  · refine g_iload_n (pc := 0) dX6_combined_0 rfl ?_
    refine g_tableIn (pc := 1) (tgt := 32) (off := 31) dX6_combined_1 (by decide) (by decide) (by decide) (by decide) ?_
    refine g_iload_n (pc := 32) dX6_combined_32 rfl ?_
    refine g_iload_n (pc := 33) dX6_combined_33 rfl ?_
    refine g_ior (pc := 34) dX6_combined_34 ?_
    refine g_ireturn (pc := 35) dX6_combined_35 rfl rfl ?_
    exact ⟨rfl, rfl⟩
  · refine g_iload_n (pc := 0) dX6_combined_0 rfl ?_
    refine g_tableIn (pc := 1) (tgt := 36) (off := 35) dX6_combined_1 (by decide) (by decide) (by decide) (by decide) ?_
    refine g_iload_n (pc := 36) dX6_combined_36 rfl ?_
    refine g_iload_n (pc := 37) dX6_combined_37 rfl ?_
    refine g_ixor (pc := 38) dX6_combined_38 ?_
    refine g_ireturn (pc := 39) dX6_combined_39 rfl rfl ?_
    exact ⟨rfl, rfl⟩
  · refine g_iload_n (pc := 0) dX6_combined_0 rfl ?_
    refine g_tableOut (pc := 1) (tgt := 40) dX6_combined_1 (by decide) (by decide) ?_
    refine g_iload_n (pc := 40) dX6_combined_40 rfl ?_
    refine g_iload_n (pc := 41) dX6_combined_41 rfl ?_
    refine g_iconst (pc := 42) (v := (-1)) dX6_combined_42 rfl ?_
    refine g_ixor (pc := 43) dX6_combined_43 ?_
    refine g_iand (pc := 44) dX6_combined_44 ?_
    refine g_ireturn (pc := 45) dX6_combined_45 rfl rfl ?_
    exact ⟨rfl, rfl⟩
def bitI (c : Nat) : Int32 := 1 <<< (nI c &&& 31)
theorem b1_eq (a b : Bool) : (b1 a = b1 b) = (a = b) := by cases a <;> cases b <;> decide
def exch (x : Int32) (a b : Nat) : Int32 := if hb x a = hb x b then x else x ^^^ bitI a ^^^ bitI b
theorem s_exchanged {x : Int32} {a b : Nat} (ha : a < 32) (hb9 : b < 32) : EvR l jX6_exchanged 1 21 0 0 [.int x, .int (nI a), .int (nI b)] M (.inl (some (.int (exch x a b)))) M := by
  refine ev_intro rfl (nb rfl) rfl ?_
  refine g_iload_n (pc := 0) dX6_exchanged_0 rfl ?_
  refine g_iload_n (pc := 1) dX6_exchanged_1 rfl ?_
  refine g_invS_r (pc := 2) (As := [_, _]) dX6_exchanged_2 rfl (s_hasOne ha) rfl rfl lk_X6_116 rfl (nb rfl) ⟨nb rfl, nb rfl⟩ rfl ?_
  refine g_iload_n (pc := 5) dX6_exchanged_5 rfl ?_
  refine g_iload_n (pc := 6) dX6_exchanged_6 rfl ?_
  refine g_invS_r (pc := 7) (As := [_, _]) dX6_exchanged_7 rfl (s_hasOne hb9) rfl rfl lk_X6_116 rfl (nb rfl) ⟨nb rfl, nb rfl⟩ rfl ?_
  refine g_icmp_ne (pc := 10) (tgt := 17) dX6_exchanged_10 rfl (fun h10 => ?_) (fun h10 => ?_)
  · rw [b1_eq] at h10
    refine g_iload_n (pc := 17) dX6_exchanged_17 rfl ?_
    refine g_iconst (pc := 18) (v := 1) dX6_exchanged_18 rfl ?_
    refine g_iload_n (pc := 19) dX6_exchanged_19 rfl ?_
    refine g_ishl (pc := 20) dX6_exchanged_20 ?_
    refine g_ixor (pc := 21) dX6_exchanged_21 ?_
    refine g_iconst (pc := 22) (v := 1) dX6_exchanged_22 rfl ?_
    refine g_iload_n (pc := 23) dX6_exchanged_23 rfl ?_
    refine g_ishl (pc := 24) dX6_exchanged_24 ?_
    refine g_ixor (pc := 25) dX6_exchanged_25 ?_
    refine g_ireturn (pc := 26) dX6_exchanged_26 rfl rfl ?_
    exact ⟨by unfold exch; simp [h10, bitI], rfl⟩
  · rw [b1_eq, Decidable.not_not] at h10
    refine g_iload_n (pc := 13) dX6_exchanged_13 rfl ?_
    refine g_goto (pc := 14) (tgt := 26) dX6_exchanged_14 rfl ?_
    refine g_ireturn (pc := 26) dX6_exchanged_26 rfl rfl ?_
    exact ⟨by unfold exch; simp [h10, bitI], rfl⟩
theorem s_edgeNumber {a b : Int32} : EvR l jX6_edgeNumber 0 0 0 0 [.int a, .int b] M (.inl (some (.int (32 * a + b)))) M := by
  refine ev_intro rfl (nb rfl) rfl ?_
  refine g_bipush (pc := 0) (v := 32) dX6_edgeNumber_0 rfl ?_
  refine g_iload_n (pc := 2) dX6_edgeNumber_2 rfl ?_
  refine g_imul (pc := 3) dX6_edgeNumber_3 ?_
  refine g_iload_n (pc := 4) dX6_edgeNumber_4 rfl ?_
  refine g_iadd (pc := 5) dX6_edgeNumber_5 ?_
  refine g_ireturn (pc := 6) dX6_edgeNumber_6 rfl rfl ?_
  exact ⟨rfl, rfl⟩
theorem s_unsigned {x : Int32} : EvR l jX6_unsigned 0 0 0 0 [.int x] M (.inl (some (.long (x.toInt64 &&& 4294967295)))) M := by
  refine ev_intro rfl (nb rfl) rfl ?_
  refine g_iload_n (pc := 0) dX6_unsigned_0 rfl ?_
  refine g_i2l (pc := 1) dX6_unsigned_1 rfl ?_
  refine g_ldc2 (pc := 2) dX6_unsigned_2 wd_672 ?_
  refine g_land (pc := 5) dX6_unsigned_5 ?_
  refine g_lreturn (pc := 6) dX6_unsigned_6 rfl ?_
  exact ⟨rfl, rfl⟩
/-- the lowest c bits -/
def lowM (c : Nat) : Int32 := if c = 0 then 0 else us (-1) (32 - nI c)
theorem s_lowest {c : Nat} (hc : c ≤ 32) : EvR l jX6_lowest 0 0 0 0 [.int (nI c)] M (.inl (some (.int (lowM c)))) M := by
  refine ev_intro rfl (nb rfl) rfl ?_
  refine g_iload_n (pc := 0) dX6_lowest_0 rfl ?_
  refine g_if_ne (pc := 1) (tgt := 8) dX6_lowest_1 rfl (fun h1 => ?_) (fun h1 => ?_)
  · have h1' : c ≠ 0 := fun h => h1 (by rw [h]; rfl)
    refine g_iconst (pc := 8) (v := (-1)) dX6_lowest_8 rfl ?_
    refine g_bipush (pc := 9) (v := 32) dX6_lowest_9 rfl ?_
    refine g_iload_n (pc := 11) dX6_lowest_11 rfl ?_
    refine g_isub (pc := 12) dX6_lowest_12 ?_
    refine g_iushr (pc := 13) dX6_lowest_13 rfl ?_
    refine g_ireturn (pc := 14) dX6_lowest_14 rfl rfl ?_
    exact ⟨by simp [lowM, h1', us], rfl⟩
  · have h1' : c = 0 := (nI_eq (by omega) (by decide)).mp (Decidable.not_not.mp h1)
    refine g_iconst (pc := 4) (v := 0) dX6_lowest_4 rfl ?_
    refine g_goto (pc := 5) (tgt := 14) dX6_lowest_5 rfl ?_
    refine g_ireturn (pc := 14) dX6_lowest_14 rfl rfl ?_
    exact ⟨by simp [lowM, h1', us], rfl⟩
/-- the number of the lowest one -/
def lowI (x : Int32) : Int32 := bcJ ((x &&& -x) - 1) &&& 31
def lowN (x : Int32) : Nat := (lowI x).toNatClampNeg
theorem and31 (y : Int32) : 0 ≤ (y &&& 31).toInt ∧ (y &&& 31).toInt < 32 := by
  have h : (y &&& 31).toBitVec.toNat < 32 := by
    rw [Int32.toBitVec_and, BitVec.toNat_and]
    exact Nat.lt_of_le_of_lt Nat.and_le_right (by decide)
  have h2 : (y &&& 31).toInt = ((y &&& 31).toBitVec.toNat : Int) := by
    show (y &&& 31).toBitVec.toInt = _
    rw [BitVec.toInt_eq_toNat_of_lt (by omega)]
  omega
theorem lowI_n (x : Int32) : lowI x = nI (lowN x) := by
  have h := and31 (bcJ ((x &&& -x) - 1))
  have h2 : (lowI x).toInt = (lowN x : Int) := by
    unfold lowN Int32.toNatClampNeg
    show _ = (((lowI x).toInt.toNat : Nat) : Int)
    have : 0 ≤ (lowI x).toInt := h.1
    omega
  have h3 : lowN x < 32 := by have : (lowI x).toInt < 32 := h.2; omega
  apply Int32.toInt_inj.mp
  rw [h2, nI_toInt (by omega)]
theorem lowN_lt (x : Int32) : lowN x < 32 := by
  have h := and31 (bcJ ((x &&& -x) - 1))
  have h2 : (lowI x).toInt < 32 := h.2
  unfold lowN Int32.toNatClampNeg
  omega
theorem s_lowestOne {x : Int32} : EvR l jX6_lowestOne 1 20 0 0 [.int x] M (.inl (some (.int (nI (lowN x))))) M := by
  rw [← lowI_n]
  refine ev_intro rfl (nb rfl) rfl ?_
  refine g_iload_n (pc := 0) dX6_lowestOne_0 rfl ?_
  refine g_iload_n (pc := 1) dX6_lowestOne_1 rfl ?_
  refine g_ineg (pc := 2) dX6_lowestOne_2 ?_
  refine g_iand (pc := 3) dX6_lowestOne_3 ?_
  refine g_iconst (pc := 4) (v := 1) dX6_lowestOne_4 rfl ?_
  refine g_isub (pc := 5) dX6_lowestOne_5 ?_
  refine g_invS_r (pc := 6) (As := [_]) dX6_lowestOne_6 rfl (s_bitCount) rfl rfl lk_X6_132 rfl (nb rfl) ⟨nb rfl, nb rfl⟩ rfl ?_
  refine g_bipush (pc := 9) (v := 31) dX6_lowestOne_9 rfl ?_
  refine g_iand (pc := 11) dX6_lowestOne_11 ?_
  refine g_ireturn (pc := 12) dX6_lowestOne_12 rfl rfl ?_
  exact ⟨rfl, rfl⟩
def selG (x idx : Int32) : Nat → Nat → Int32 → Int32
  | 0, _, _ => -1
  | d + 1, c, b => if hb x c = true then (if b = idx then nI c else selG x idx d (c + 1) (b + 1)) else selG x idx d (c + 1) b
theorem s_oneAt {x idx : Int32} : EvR l jX6_oneAt 1 21 0 0 [.int x, .int idx] M (.inl (some (.int (selG x idx 32 0 0)))) M := by
  obtain ⟨S, hS⟩ : ∃ S, S = selG x idx 32 0 0 := ⟨_, rfl⟩
  rw [← hS]
  refine ev_intro rfl (nb rfl) rfl ?_
  refine g_iconst (pc := 0) (v := 0) dX6_oneAt_0 rfl ?_
  refine g_istore_n (pc := 1) (lv' := [(0, _), (1, _), (2, _)]) dX6_oneAt_1 (nl rfl) rfl ?_
  refine g_iconst (pc := 2) (v := 0) dX6_oneAt_2 rfl ?_
  refine g_istore_n (pc := 3) (lv' := [(0, _), (1, _), (2, _), (3, _)]) dX6_oneAt_3 (nl rfl) rfl ?_
  refine go_while (pc := 4) (σ := Nat × Int32) (fun s => s.1 ≤ 32 ∧ selG x idx (32 - s.1) s.1 s.2 = S) (fun s => 32 - s.1) (fun s => [(0, .int x), (1, .int idx), (2, .int s.2), (3, .int (nI s.1))]) (fun _ => M) (0, 0) ⟨rfl, rfl, rfl, rfl, trivial⟩ rfl ⟨by decide, hS.symm⟩ ?_
  rintro ⟨c, b⟩ ⟨h1, h2⟩ ih
  simp only at h1 h2 ih
  by_cases hc : c < 32
  · obtain ⟨d, hd⟩ : ∃ d, 32 - c = d + 1 := ⟨31 - c, by omega⟩
    rw [hd] at h2 ih
    have hd' : 32 - (c + 1) = d := by omega
    rw [selG] at h2
    refine g_iload_n (pc := 4) dX6_oneAt_4 rfl ?_
    refine g_bipush (pc := 5) (v := 32) dX6_oneAt_5 rfl ?_
    refine g_icmp_ge (pc := 7) (tgt := 34) dX6_oneAt_7 rfl (fun h7 => absurd h7 (nI_ge (b := 32) hc (by decide))) (fun _ => ?_)
    refine g_iload_n (pc := 10) dX6_oneAt_10 rfl ?_
    refine g_iload_n (pc := 11) dX6_oneAt_11 rfl ?_
    refine g_invS_r (pc := 12) (As := [_, _]) dX6_oneAt_12 rfl (s_hasOne hc) rfl rfl lk_X6_116 rfl (nb rfl) ⟨nb rfl, nb rfl⟩ rfl ?_
    refine g_if_eq (pc := 15) (tgt := 28) dX6_oneAt_15 rfl (fun h15 => ?_) (fun h15 => ?_)
    · rw [b1_0] at h15
      rw [h15] at h2
      refine g_iinc (pc := 28) (lv' := [(0, _), (1, _), (2, _), (3, _)]) dX6_oneAt_28 rfl (nI_1 _) (nl rfl) rfl ?_
      refine g_goto (pc := 31) (tgt := 4) dX6_oneAt_31 rfl ?_
      exact ih (c + 1, b) ⟨by simp only; omega, by simp only; rw [hd']; exact h2⟩ (by simp only; omega)
    · rw [b1_0, Bool.not_eq_false] at h15
      rw [if_pos h15] at h2
      refine g_iload_n (pc := 18) dX6_oneAt_18 rfl ?_
      refine g_iload_n (pc := 19) dX6_oneAt_19 rfl ?_
      refine g_icmp_ne (pc := 20) (tgt := 25) dX6_oneAt_20 rfl (fun h20 => ?_) (fun h20 => ?_)
      · rw [if_neg h20] at h2
        refine g_iinc (pc := 25) (lv' := [(0, _), (1, _), (2, _), (3, _)]) dX6_oneAt_25 rfl (show _ = b + 1 from rfl) (nl rfl) rfl ?_
        refine g_iinc (pc := 28) (lv' := [(0, _), (1, _), (2, _), (3, _)]) dX6_oneAt_28 rfl (nI_1 _) (nl rfl) rfl ?_
        refine g_goto (pc := 31) (tgt := 4) dX6_oneAt_31 rfl ?_
        exact ih (c + 1, b + 1) ⟨by simp only; omega, by simp only; rw [hd']; exact h2⟩ (by simp only; omega)
      · rw [Decidable.not_not] at h20
        rw [if_pos h20] at h2
        refine g_iload_n (pc := 23) dX6_oneAt_23 rfl ?_
        refine g_ireturn (pc := 24) dX6_oneAt_24 rfl rfl ?_
        exact ⟨by rw [h2], rfl⟩
  · have hc' : c = 32 := by omega
    subst hc'
    refine g_iload_n (pc := 4) dX6_oneAt_4 rfl ?_
    refine g_bipush (pc := 5) (v := 32) dX6_oneAt_5 rfl ?_
    refine g_icmp_ge (pc := 7) (tgt := 34) dX6_oneAt_7 rfl (fun _ => ?_) (fun h7 => absurd (nI_le (Nat.le_refl 32) (by decide)) h7)
    refine g_iconst (pc := 34) (v := (-1)) dX6_oneAt_34 rfl ?_
    refine g_ireturn (pc := 35) dX6_oneAt_35 rfl rfl ?_
    exact ⟨by rw [← h2]; rfl, rfl⟩
/-- what is reached from what is found; d rounds are left -/
def reachL (f : Nat → Int32) : Nat → Int32 → Int32 → Int32
  | 0, fd, _ => fd
  | d + 1, fd, dn => if fd = dn then fd else reachL f d (fd ||| f (lowN (fd &&& (dn ^^^ -1)))) (dn ||| bitI (lowN (fd &&& (dn ^^^ -1))))
theorem s_reachedFrom {r a n : Nat} (hk : (mK M)[r]? = some (kI 32)) (ha : a < 32) (hn : n ≤ 32) : EvR l jX6_reachedFrom 2 40 0 0 [.ref r, .int (nI a), .int (nI n)] M (.inl (some (.int (reachL (mI M r) n (mI M r a) 0)))) M := by
  obtain ⟨S, hS⟩ : ∃ S, S = reachL (mI M r) n (mI M r a) 0 := ⟨_, rfl⟩
  rw [← hS]
  refine ev_intro rfl (nb rfl) rfl ?_
  refine g_aload_n (pc := 0) dX6_reachedFrom_0 rfl trivial ?_
  refine g_iload_n (pc := 1) dX6_reachedFrom_1 rfl ?_
  refine g_iaload (pc := 2) dX6_reachedFrom_2 hk rfl (by omega) (nl rfl) ?_
  refine g_istore_n (pc := 3) (lv' := [(0, _), (1, _), (2, _), (3, _)]) dX6_reachedFrom_3 (nl rfl) rfl ?_
  refine g_iconst (pc := 4) (v := 0) dX6_reachedFrom_4 rfl ?_
  refine g_istore (pc := 5) (lv' := [(0, _), (1, _), (2, _), (3, _), (4, _)]) dX6_reachedFrom_5 (nl rfl) rfl ?_
  refine g_iconst (pc := 7) (v := 0) dX6_reachedFrom_7 rfl ?_
  refine g_istore (pc := 8) (lv' := [(0, _), (1, _), (2, _), (3, _), (4, _), (5, _)]) dX6_reachedFrom_8 (nl rfl) rfl ?_
  refine go_while (pc := 10) (σ := Nat × Int32 × Int32) (fun s => s.1 ≤ n ∧ reachL (mI M r) (n - s.1) s.2.1 s.2.2 = S) (fun s => n - s.1) (fun s => [(0, .ref r), (1, .int (nI a)), (2, .int (nI n)), (3, .int s.2.1), (4, .int s.2.2), (5, .int (nI s.1))]) (fun _ => M) (0, mI M r a, 0) ⟨rfl, rfl, rfl, rfl, rfl, rfl, trivial⟩ rfl ⟨Nat.zero_le _, hS.symm⟩ ?_
  rintro ⟨i, fd, dn⟩ ⟨h1, h2⟩ ih
  simp only at h1 h2 ih
  by_cases hi : i < n
  · obtain ⟨d, hd⟩ : ∃ d, n - i = d + 1 := ⟨n - i - 1, by omega⟩
    have hd' : n - (i + 1) = d := by omega
    rw [hd] at h2 ih
    rw [reachL] at h2
    refine g_iload (pc := 10) dX6_reachedFrom_10 rfl ?_
    refine g_iload_n (pc := 12) dX6_reachedFrom_12 rfl ?_
    refine g_icmp_ge (pc := 13) (tgt := 55) dX6_reachedFrom_13 rfl (fun h13 => absurd h13 (nI_ge hi (by omega))) (fun _ => ?_)
    refine g_iload_n (pc := 16) dX6_reachedFrom_16 rfl ?_
    refine g_iload (pc := 17) dX6_reachedFrom_17 rfl ?_
    refine g_icmp_eq (pc := 19) (tgt := 55) dX6_reachedFrom_19 rfl (fun h19 => ?_) (fun h19 => ?_)
    · rw [if_pos h19] at h2
      refine g_iload_n (pc := 55) dX6_reachedFrom_55 rfl ?_
      refine g_ireturn (pc := 56) dX6_reachedFrom_56 rfl rfl ?_
      exact ⟨by rw [h2], rfl⟩
    · rw [if_neg h19] at h2
      refine g_iload_n (pc := 22) dX6_reachedFrom_22 rfl ?_
      refine g_iload (pc := 23) dX6_reachedFrom_23 rfl ?_
      refine g_iconst (pc := 25) (v := (-1)) dX6_reachedFrom_25 rfl ?_
      refine g_ixor (pc := 26) dX6_reachedFrom_26 ?_
      refine g_iand (pc := 27) dX6_reachedFrom_27 ?_
      refine g_invS_r (pc := 28) (As := [_]) dX6_reachedFrom_28 rfl (s_lowestOne) rfl rfl lk_X6_186 rfl (nb rfl) ⟨nb rfl, nb rfl⟩ rfl ?_
      refine g_istore (pc := 31) (lv' := [(0, _), (1, _), (2, _), (3, _), (4, _), (5, _), (6, _)]) dX6_reachedFrom_31 (nl rfl) rfl ?_
      refine g_iload_n (pc := 33) dX6_reachedFrom_33 rfl ?_
      refine g_aload_n (pc := 34) dX6_reachedFrom_34 rfl trivial ?_
      refine g_iload (pc := 35) dX6_reachedFrom_35 rfl ?_
      refine g_iaload (pc := 37) dX6_reachedFrom_37 hk rfl (lowN_lt _) (nl rfl) ?_
      refine g_ior (pc := 38) dX6_reachedFrom_38 ?_
      refine g_istore_n (pc := 39) (lv' := [(0, _), (1, _), (2, _), (3, _), (4, _), (5, _), (6, _)]) dX6_reachedFrom_39 (nl rfl) rfl ?_
      refine g_iload (pc := 40) dX6_reachedFrom_40 rfl ?_
      refine g_iconst (pc := 42) (v := 1) dX6_reachedFrom_42 rfl ?_
      refine g_iload (pc := 43) dX6_reachedFrom_43 rfl ?_
      refine g_ishl (pc := 45) dX6_reachedFrom_45 ?_
      refine g_ior (pc := 46) dX6_reachedFrom_46 ?_
      refine g_istore (pc := 47) (lv' := [(0, _), (1, _), (2, _), (3, _), (4, _), (5, _), (6, _)]) dX6_reachedFrom_47 (nl rfl) rfl ?_
      refine g_iinc (pc := 49) (lv' := [(0, _), (1, _), (2, _), (3, _), (4, _), (5, _), (6, _)]) dX6_reachedFrom_49 rfl (nI_1 _) (nl rfl) rfl ?_
      refine g_goto (pc := 52) (tgt := 10) dX6_reachedFrom_52 rfl ?_
      exact g_sub (lv' := [(0, .ref r), (1, .int (nI a)), (2, .int (nI n)), (3, _), (4, _), (5, _)]) ⟨rfl, rfl, rfl, rfl, rfl, rfl, trivial⟩ (ih (i + 1, _, _) ⟨by simp only; omega, by simp only; rw [hd']; exact h2⟩ (by simp only; omega))
  · have hi' : i = n := by omega
    subst hi'
    refine g_iload (pc := 10) dX6_reachedFrom_10 rfl ?_
    refine g_iload_n (pc := 12) dX6_reachedFrom_12 rfl ?_
    refine g_icmp_ge (pc := 13) (tgt := 55) dX6_reachedFrom_13 rfl (fun _ => ?_) (fun h13 => absurd (nI_le (Nat.le_refl _) (by omega)) h13)
    refine g_iload_n (pc := 55) dX6_reachedFrom_55 rfl ?_
    refine g_ireturn (pc := 56) dX6_reachedFrom_56 rfl rfl ?_
    exact ⟨by rw [← h2, Nat.sub_self]; rfl, rfl⟩
end
end
-- 11.need
section
/-! what a call asks for; throws -/
section
variable {l : Launch} {M : Mem}
theorem th_sub {ps : List Nat} {w : Cond} (h : w ∈ ps.filterMap (fun i => lw_tbl[i]?)) : w ∈ lw_tbl := by
  obtain ⟨i, -, hi⟩ := List.mem_filterMap.mp h
  exact List.mem_of_getElem? hi
theorem th_io : (∀ w ∈ (vx_atS RX6 323 xIO xNm).filter goodWord, w ∈ WS) ∧ (∀ w ∈ (vx_atS RX6 323 xIO xNm).filter (fun w => !goodWord w), w ∈ xB xIO) ∧ (∀ w ∈ Cond.classLink RX6 319 xIO :: Cond.initialized xIO :: vx_atS RX6 323 xIO xNm, vx_ot w = true) := by
  have h : ∀ w ∈ (vx_atS RX6 323 xIO xNm).filter goodWord, w ∈ [19, 109, 110, 111, 113, 120, 121, 122, 128, 160, 167, 224, 240, 273, 547, 548, 549, 550, 551, 552, 553, 554, 555, 556, 557, 558, 559, 560, 561, 562, 563, 564, 565, 566, 567, 568, 569, 570, 571, 572, 573, 574, 575, 576, 577, 578, 579, 580, 581, 582, 583, 588, 589, 590, 591, 592, 593, 594, 595, 596, 597, 598, 599, 600, 601, 602, 603, 604, 605, 606, 607, 608, 609, 617, 634, 635, 636, 637, 638, 639, 640, 641, 642, 644, 645, 646, 647, 648, 649, 1211, 1785].filterMap (fun i => lw_tbl[i]?) := by decide +kernel
  exact ⟨fun w hw => List.mem_filter.mpr ⟨th_sub (h w hw), (List.mem_filter.mp hw).2⟩, by decide +kernel, by decide +kernel⟩
theorem th_ia : (∀ w ∈ (vx_atS RX6 335 xIA xNm).filter goodWord, w ∈ WS) ∧ (∀ w ∈ (vx_atS RX6 335 xIA xNm).filter (fun w => !goodWord w), w ∈ xB xIA) ∧ (∀ w ∈ Cond.classLink RX6 331 xIA :: Cond.initialized xIA :: vx_atS RX6 335 xIA xNm, vx_ot w = true) := by
  have h : ∀ w ∈ (vx_atS RX6 335 xIA xNm).filter goodWord, w ∈ [19, 109, 110, 111, 112, 120, 121, 122, 128, 160, 167, 224, 240, 273, 535, 544, 545, 546, 547, 548, 549, 550, 551, 552, 553, 554, 555, 556, 557, 558, 559, 560, 561, 562, 563, 564, 565, 566, 567, 568, 569, 570, 571, 572, 573, 574, 575, 576, 577, 578, 579, 580, 581, 582, 583, 585, 586, 587, 588, 589, 590, 591, 592, 593, 594, 595, 596, 597, 598, 599, 600, 601, 602, 603, 604, 605, 606, 607, 608, 609, 637, 638, 639, 640, 641, 642, 647, 648, 649, 1211, 1785].filterMap (fun i => lw_tbl[i]?) := by decide +kernel
  exact ⟨fun w hw => List.mem_filter.mpr ⟨th_sub (h w hw), (List.mem_filter.mp hw).2⟩, by decide +kernel, by decide +kernel⟩
theorem th_slot : TH RX6 319 321 323 11 xIO := ⟨Or.inl rfl, wd_634, wd_113, ⟨_, _, rfl⟩, th_io.1, th_io.2.1, th_io.2.2, by decide +kernel, by decide +kernel⟩
theorem th_node : TH RX6 319 326 323 12 xIO := ⟨Or.inl rfl, wd_634, wd_113, ⟨_, _, rfl⟩, th_io.1, th_io.2.1, th_io.2.2, by decide +kernel, by decide +kernel⟩
theorem th_range : TH RX6 331 333 335 10 xIA := ⟨Or.inr rfl, wd_544, wd_112, ⟨_, _, rfl⟩, th_ia.1, th_ia.2.1, th_ia.2.2, by decide +kernel, by decide +kernel⟩
/-- 0 ≤ v < n -/
def inR (v : Int32) (n : Nat) : Prop := ¬ v < 0 ∧ v < nI n
theorem inR_nI {i n : Nat} (h : i < n) (hn : n < 2147483648) : inR (nI i) n := ⟨nI_pos (by omega), nI_lt h hn⟩
theorem inR_of {v : Int32} {n : Nat} (h : inR v n) (hn : n < 2147483648) : ∃ i, i < n ∧ v = nI i := by
  obtain ⟨i, hi, rfl⟩ := nI_of h.1
  exact ⟨i, (nI_ltI hi hn).mp h.2, rfl⟩
theorem s_needSlot {v : Int32} (h : inR v 6) : EvR l jX6_needSlot 6 82 1 6 [.ref 0, .int v] M (.inl none) M := by
  refine ev_intro rfl (nb rfl) rfl ?_
  refine g_iload_n (pc := 0) dX6_needSlot_0 rfl ?_
  refine g_if_lt (pc := 1) (tgt := 10) dX6_needSlot_1 rfl (fun h1 => absurd h1 (h.1)) (fun _ => ?_)
  refine g_iload_n (pc := 4) dX6_needSlot_4 rfl ?_
  refine g_bipush (pc := 5) (v := 6) dX6_needSlot_5 rfl ?_
  refine g_icmp_lt (pc := 7) (tgt := 21) dX6_needSlot_7 rfl (fun _ => ?_) (fun h7 => absurd (h.2) h7)
  refine g_return (pc := 21) dX6_needSlot_21 rfl ?_
  exact ⟨rfl, rfl⟩
theorem x_needSlot {v : Int32} (hS : Shp M) (h : ¬ inR v 6) : EvR l jX6_needSlot 6 82 1 6 [.ref 0, .int v] M (.inr xIO) M := by
  refine ev_intro rfl (nb rfl) rfl ?_
  refine g_iload_n (pc := 0) dX6_needSlot_0 rfl ?_
  refine g_if_lt (pc := 1) (tgt := 10) dX6_needSlot_1 rfl (fun h1 => ?_) (fun h1 => ?_)
  · exact g_throwW (pc := 10) (k := 0) (n := 0) dX6_needSlot_10 dX6_needSlot_13 dX6_needSlot_14 dX6_needSlot_17 dX6_needSlot_20 th_slot rfl (nb rfl) (nb rfl) hS.2.1 ⟨rfl, rfl⟩
  · refine g_iload_n (pc := 4) dX6_needSlot_4 rfl ?_
    refine g_bipush (pc := 5) (v := 6) dX6_needSlot_5 rfl ?_
    refine g_icmp_lt (pc := 7) (tgt := 21) dX6_needSlot_7 rfl (fun h7 => absurd h7 (fun h7 => h ⟨h1, h7⟩)) (fun _ => ?_)
    exact g_throwW (pc := 10) (k := 0) (n := 0) dX6_needSlot_10 dX6_needSlot_13 dX6_needSlot_14 dX6_needSlot_17 dX6_needSlot_20 th_slot rfl (nb rfl) (nb rfl) hS.2.1 ⟨rfl, rfl⟩
theorem s_needNode {v : Int32} {n : Nat} (hS : Shp M) (hz : mI M 3 1 = nI n) (h : inR v n) : EvR l jX6_needNode 6 82 1 6 [.ref 0, .int v] M (.inl none) M := by
  refine ev_intro rfl (nb rfl) rfl ?_
  refine g_iload_n (pc := 0) dX6_needNode_0 rfl ?_
  refine g_if_lt (pc := 1) (tgt := 15) dX6_needNode_1 rfl (fun h1 => absurd h1 (h.1)) (fun _ => ?_)
  refine g_iload_n (pc := 4) dX6_needNode_4 rfl ?_
  refine g_aload_n (pc := 5) dX6_needNode_5 rfl trivial ?_
  refine g_getf (pc := 6) dX6_needNode_6 fk_X6_19 (shK hS rfl) (fv_obj (shR hS rfl)) ?_
  refine g_getf (pc := 9) (v := .int _) dX6_needNode_9 fk_X6_89 (shK hS rfl) (fun _ => congrArg Value.int (hz)) ?_
  refine g_icmp_lt (pc := 12) (tgt := 26) dX6_needNode_12 rfl (fun _ => ?_) (fun h12 => absurd (h.2) h12)
  refine g_return (pc := 26) dX6_needNode_26 rfl ?_
  exact ⟨rfl, rfl⟩
theorem x_needNode {v : Int32} {n : Nat} (hS : Shp M) (hz : mI M 3 1 = nI n) (h : ¬ inR v n) : EvR l jX6_needNode 6 82 1 6 [.ref 0, .int v] M (.inr xIO) M := by
  refine ev_intro rfl (nb rfl) rfl ?_
  refine g_iload_n (pc := 0) dX6_needNode_0 rfl ?_
  refine g_if_lt (pc := 1) (tgt := 15) dX6_needNode_1 rfl (fun h1 => ?_) (fun h1 => ?_)
  · exact g_throwW (pc := 15) (k := 0) (n := 0) dX6_needNode_15 dX6_needNode_18 dX6_needNode_19 dX6_needNode_22 dX6_needNode_25 th_node rfl (nb rfl) (nb rfl) hS.2.1 ⟨rfl, rfl⟩
  · refine g_iload_n (pc := 4) dX6_needNode_4 rfl ?_
    refine g_aload_n (pc := 5) dX6_needNode_5 rfl trivial ?_
    refine g_getf (pc := 6) dX6_needNode_6 fk_X6_19 (shK hS rfl) (fv_obj (shR hS rfl)) ?_
    refine g_getf (pc := 9) (v := .int _) dX6_needNode_9 fk_X6_89 (shK hS rfl) (fun _ => congrArg Value.int (hz)) ?_
    refine g_icmp_lt (pc := 12) (tgt := 26) dX6_needNode_12 rfl (fun h12 => absurd h12 (fun h7 => h ⟨h1, h7⟩)) (fun _ => ?_)
    exact g_throwW (pc := 15) (k := 0) (n := 0) dX6_needNode_15 dX6_needNode_18 dX6_needNode_19 dX6_needNode_22 dX6_needNode_25 th_node rfl (nb rfl) (nb rfl) hS.2.1 ⟨rfl, rfl⟩
theorem s_needRow {v w : Int32} {n : Nat} (hS : Shp M) (hz : mI M 3 1 = nI n) (h : inR v 6) (h' : inR w n) : EvR l jX6_needRow 7 104 2 12 [.ref 0, .int v, .int w] M (.inl none) M := by
  refine ev_intro rfl (nb rfl) rfl ?_
  refine g_aload_n (pc := 0) dX6_needRow_0 rfl trivial ?_
  refine g_iload_n (pc := 1) dX6_needRow_1 rfl ?_
  refine g_invV_r (pc := 2) (As := [_]) dX6_needRow_2 rfl (s_needSlot h) rfl rfl (shK hS rfl) rfl rfl lk_X6_141 rfl (nb rfl) ⟨nb rfl, nb rfl⟩ rfl ?_
  refine g_aload_n (pc := 5) dX6_needRow_5 rfl trivial ?_
  refine g_iload_n (pc := 6) dX6_needRow_6 rfl ?_
  refine g_invV_r (pc := 7) (As := [_]) dX6_needRow_7 rfl (s_needNode hS hz h') rfl rfl (shK hS rfl) rfl rfl lk_X6_328 rfl (nb rfl) ⟨nb rfl, nb rfl⟩ rfl ?_
  refine g_return (pc := 10) dX6_needRow_10 rfl ?_
  exact ⟨rfl, rfl⟩
theorem x_needRow {v w : Int32} {n : Nat} (hS : Shp M) (hz : mI M 3 1 = nI n) (h : ¬ (inR v 6 ∧ inR w n)) : EvR l jX6_needRow 7 104 2 12 [.ref 0, .int v, .int w] M (.inr xIO) M := by
  refine ev_intro rfl (nb rfl) rfl ?_
  by_cases h1 : inR v 6
  · refine g_aload_n (pc := 0) dX6_needRow_0 rfl trivial ?_
    refine g_iload_n (pc := 1) dX6_needRow_1 rfl ?_
    refine g_invV_r (pc := 2) (As := [_]) dX6_needRow_2 rfl (s_needSlot h1) rfl rfl (shK hS rfl) rfl rfl lk_X6_141 rfl (nb rfl) ⟨nb rfl, nb rfl⟩ rfl ?_
    refine g_aload_n (pc := 5) dX6_needRow_5 rfl trivial ?_
    refine g_iload_n (pc := 6) dX6_needRow_6 rfl ?_
    refine g_invV_x (pc := 7) (As := [_]) dX6_needRow_7 rfl (x_needNode hS hz (fun h2 => h ⟨h1, h2⟩)) rfl rfl (shK hS rfl) rfl rfl lk_X6_328 rfl (nb rfl) ⟨nb rfl, nb rfl⟩ rfl ?_
    exact ⟨rfl, rfl⟩
  · refine g_aload_n (pc := 0) dX6_needRow_0 rfl trivial ?_
    refine g_iload_n (pc := 1) dX6_needRow_1 rfl ?_
    refine g_invV_x (pc := 2) (As := [_]) dX6_needRow_2 rfl (x_needSlot hS h1) rfl rfl (shK hS rfl) rfl rfl lk_X6_141 rfl (nb rfl) ⟨nb rfl, nb rfl⟩ rfl ?_
    exact ⟨rfl, rfl⟩
theorem s_needCell {v w u : Int32} {n : Nat} (hS : Shp M) (hz : mI M 3 1 = nI n) (h : inR v 6) (h' : inR w n) (h2 : inR u n) : EvR l jX6_needCell 8 126 3 18 [.ref 0, .int v, .int w, .int u] M (.inl none) M := by
  refine ev_intro rfl (nb rfl) rfl ?_
  refine g_aload_n (pc := 0) dX6_needCell_0 rfl trivial ?_
  refine g_iload_n (pc := 1) dX6_needCell_1 rfl ?_
  refine g_iload_n (pc := 2) dX6_needCell_2 rfl ?_
  refine g_invV_r (pc := 3) (As := [_, _]) dX6_needCell_3 rfl (s_needRow hS hz h h') rfl rfl (shK hS rfl) rfl rfl lk_X6_120 rfl (nb rfl) ⟨nb rfl, nb rfl⟩ rfl ?_
  refine g_aload_n (pc := 6) dX6_needCell_6 rfl trivial ?_
  refine g_iload_n (pc := 7) dX6_needCell_7 rfl ?_
  refine g_invV_r (pc := 8) (As := [_]) dX6_needCell_8 rfl (s_needNode hS hz h2) rfl rfl (shK hS rfl) rfl rfl lk_X6_328 rfl (nb rfl) ⟨nb rfl, nb rfl⟩ rfl ?_
  refine g_return (pc := 11) dX6_needCell_11 rfl ?_
  exact ⟨rfl, rfl⟩
theorem x_needCell {v w u : Int32} {n : Nat} (hS : Shp M) (hz : mI M 3 1 = nI n) (h : ¬ (inR v 6 ∧ inR w n ∧ inR u n)) : EvR l jX6_needCell 8 126 3 18 [.ref 0, .int v, .int w, .int u] M (.inr xIO) M := by
  refine ev_intro rfl (nb rfl) rfl ?_
  by_cases h1 : inR v 6 ∧ inR w n
  · refine g_aload_n (pc := 0) dX6_needCell_0 rfl trivial ?_
    refine g_iload_n (pc := 1) dX6_needCell_1 rfl ?_
    refine g_iload_n (pc := 2) dX6_needCell_2 rfl ?_
    refine g_invV_r (pc := 3) (As := [_, _]) dX6_needCell_3 rfl (s_needRow hS hz h1.1 h1.2) rfl rfl (shK hS rfl) rfl rfl lk_X6_120 rfl (nb rfl) ⟨nb rfl, nb rfl⟩ rfl ?_
    refine g_aload_n (pc := 6) dX6_needCell_6 rfl trivial ?_
    refine g_iload_n (pc := 7) dX6_needCell_7 rfl ?_
    refine g_invV_x (pc := 8) (As := [_]) dX6_needCell_8 rfl (x_needNode hS hz (fun h2 => h ⟨h1.1, h1.2, h2⟩)) rfl rfl (shK hS rfl) rfl rfl lk_X6_328 rfl (nb rfl) ⟨nb rfl, nb rfl⟩ rfl ?_
    exact ⟨rfl, rfl⟩
  · refine g_aload_n (pc := 0) dX6_needCell_0 rfl trivial ?_
    refine g_iload_n (pc := 1) dX6_needCell_1 rfl ?_
    refine g_iload_n (pc := 2) dX6_needCell_2 rfl ?_
    refine g_invV_x (pc := 3) (As := [_, _]) dX6_needCell_3 rfl (x_needRow hS hz h1) rfl rfl (shK hS rfl) rfl rfl lk_X6_120 rfl (nb rfl) ⟨nb rfl, nb rfl⟩ rfl ?_
    exact ⟨rfl, rfl⟩
theorem s_needRange {v a b : Int32} (h : ¬ v < a) (h' : v ≤ b) : EvR l jX6_needRange 6 82 1 6 [.ref 0, .int v, .int a, .int b] M (.inl none) M := by
  refine ev_intro rfl (nb rfl) rfl ?_
  refine g_iload_n (pc := 0) dX6_needRange_0 rfl ?_
  refine g_iload_n (pc := 1) dX6_needRange_1 rfl ?_
  refine g_icmp_lt (pc := 2) (tgt := 10) dX6_needRange_2 rfl (fun h2 => absurd h2 (h)) (fun _ => ?_)
  refine g_iload_n (pc := 5) dX6_needRange_5 rfl ?_
  refine g_iload_n (pc := 6) dX6_needRange_6 rfl ?_
  refine g_icmp_le (pc := 7) (tgt := 21) dX6_needRange_7 rfl (fun _ => ?_) (fun h7 => absurd (h') h7)
  refine g_return (pc := 21) dX6_needRange_21 rfl ?_
  exact ⟨rfl, rfl⟩
theorem x_needRange {v a b : Int32} (hS : Shp M) (h : ¬ (¬ v < a ∧ v ≤ b)) : EvR l jX6_needRange 6 82 1 6 [.ref 0, .int v, .int a, .int b] M (.inr xIA) M := by
  refine ev_intro rfl (nb rfl) rfl ?_
  refine g_iload_n (pc := 0) dX6_needRange_0 rfl ?_
  refine g_iload_n (pc := 1) dX6_needRange_1 rfl ?_
  refine g_icmp_lt (pc := 2) (tgt := 10) dX6_needRange_2 rfl (fun h2 => ?_) (fun h2 => ?_)
  · exact g_throwW (pc := 10) (k := 0) (n := 0) dX6_needRange_10 dX6_needRange_13 dX6_needRange_14 dX6_needRange_17 dX6_needRange_20 th_range rfl (nb rfl) (nb rfl) hS.2.1 ⟨rfl, rfl⟩
  · refine g_iload_n (pc := 5) dX6_needRange_5 rfl ?_
    refine g_iload_n (pc := 6) dX6_needRange_6 rfl ?_
    refine g_icmp_le (pc := 7) (tgt := 21) dX6_needRange_7 rfl (fun h7 => absurd h7 (fun h7 => h ⟨h2, h7⟩)) (fun _ => ?_)
    exact g_throwW (pc := 10) (k := 0) (n := 0) dX6_needRange_10 dX6_needRange_13 dX6_needRange_14 dX6_needRange_17 dX6_needRange_20 th_range rfl (nb rfl) (nb rfl) hS.2.1 ⟨rfl, rfl⟩
/-- the states' bases -/
def bases : List Nat := [3, 17, 32, 46, 60, 74, 88, 102, 116, 130, 145, 159]
theorem base_ok : ∀ b ∈ bases, (LAY[b]? = some (.inr 5) ∧ LAY[b + 1]? = some (.inl (.object kMx, 6)) ∧ REFT b 0 = some (b + 1)) ∧ ∀ s, s < 6 → LAY[b + 2 + 2 * s]? = some (.inr 2) ∧ LAY[b + 3 + 2 * s]? = some (kI 32) ∧ REFT (b + 1) s = some (b + 2 + 2 * s) ∧ REFT (b + 2 + 2 * s) 0 = some (b + 3 + 2 * s) := by decide +kernel
theorem s_rowsOf {s : Nat} (hS : Shp M) (hs : s < 6) : EvR l jX6_rowsOf 0 0 0 0 [.ref 0, .int (nI s)] M (.inl (some (.ref (6 + 2 * s)))) M := by
  obtain ⟨g1, g2, g3, g4⟩ := (base_ok 3 (by decide)).2 s hs
  rw [show 3 + 3 + 2 * s = 6 + 2 * s by omega] at g4 g2
  refine ev_intro rfl (nb rfl) rfl ?_
  refine g_aload_n (pc := 0) dX6_rowsOf_0 rfl trivial ?_
  refine g_getf (pc := 1) dX6_rowsOf_1 fk_X6_19 (shK hS rfl) (fv_obj (shR hS rfl)) ?_
  refine g_getf (pc := 4) dX6_rowsOf_4 fk_X6_225 (shK hS rfl) (fv_arr (shR hS rfl)) ?_
  refine g_iload_n (pc := 7) dX6_rowsOf_7 rfl ?_
  refine g_aaload_Matrix (pc := 8) dX6_rowsOf_8 (shK hS rfl) rfl hs (by decide) (shR hS g3) ?_
  refine g_getf (pc := 9) dX6_rowsOf_9 fk_X6_229 (shK hS g1) (fv_arr (shR hS g4)) ?_
  refine g_areturn (pc := 12) dX6_rowsOf_12 rfl (Or.inr ⟨_, rfl⟩) ?_
  exact ⟨rfl, rfl⟩
end
end
-- 12.state
section
/-! matrices and states -/
section
variable {l : Launch} {M : Mem}
/-- a matrix's cells -/
def isMx (m : Nat) : Prop := LAY[m]? = some (.inr 2) ∧ LAY[m + 1]? = some (kI 32) ∧ REFT m 0 = some (m + 1)
def isSt (b : Nat) : Prop := (LAY[b]? = some (.inr 5) ∧ LAY[b + 1]? = some (.inl (.object kMx, 6)) ∧ REFT b 0 = some (b + 1)) ∧ ∀ s, s < 6 → isMx (b + 2 + 2 * s) ∧ REFT (b + 1) s = some (b + 2 + 2 * s)
theorem st_of {b : Nat} (h : b ∈ bases) : isSt b := by
  obtain ⟨h1, h2⟩ := base_ok b h
  refine ⟨h1, fun s hs => ?_⟩
  obtain ⟨g1, g2, g3, g4⟩ := h2 s hs
  have e : b + 3 + 2 * s = b + 2 + 2 * s + 1 := by omega
  rw [e] at g2 g4
  exact ⟨⟨g1, g2, g4⟩, g3⟩
def mxLook (M : Mem) (m : Nat) (x : Int32) : Mem := if mI M m 1 = 0 then M else pI (pI M m 2 x) m 3 (mI (pI M m 2 x) m 3 + x)
def mxAnew (M : Mem) (m : Nat) (x : Int32) : Mem := if mI M m 1 = 0 then M else pI (mxLook M m x) m 4 (mI (mxLook M m x) m 4 + 1)
theorem Shp.look {m : Nat} {x : Int32} (hS : Shp M) : Shp (mxLook M m x) := by unfold mxLook; split <;> exact hS
theorem Shp.anew {m : Nat} {x : Int32} (hS : Shp M) : Shp (mxAnew M m x) := by
  unfold mxAnew
  split
  · exact hS
  · exact hS.look (m := m) (x := x)
theorem s_noteLooked {m : Nat} {x : Int32} (hS : Shp M) (hm : isMx m) : EvR l jX2_noteLooked 0 0 0 0 [.ref m, .int x] M (.inl none) (mxLook M m x) := by
  refine ev_intro rfl (nb rfl) rfl ?_
  unfold mxLook
  refine g_aload_n (pc := 0) dX2_noteLooked_0 rfl trivial ?_
  refine g_getf (pc := 1) (v := .int (mI _ _ _)) dX2_noteLooked_1 fk_X2_15 (shK hS hm.1) (fun _ => rfl) ?_
  refine g_if_eq (pc := 4) (tgt := 22) dX2_noteLooked_4 rfl (fun h4 => ?_) (fun h4 => ?_)
  · refine g_return (pc := 22) dX2_noteLooked_22 rfl ?_
    exact ⟨rfl, (if_pos h4).symm⟩
  · refine g_aload_n (pc := 7) dX2_noteLooked_7 rfl trivial ?_
    refine g_iload_n (pc := 8) dX2_noteLooked_8 rfl ?_
    refine g_putI (pc := 9) dX2_noteLooked_9 fp_X2_19 (shK hS hm.1) ⟨rfl, rfl⟩ (fun _ _ _ _ => rfl) ?_
    refine g_aload_n (pc := 12) dX2_noteLooked_12 rfl trivial ?_
    refine g_dup (pc := 13) dX2_noteLooked_13 rfl ?_
    refine g_getf (pc := 14) (v := .int (mI _ _ _)) dX2_noteLooked_14 fk_X2_23 (shK hS hm.1) (fun _ => rfl) ?_
    refine g_iload_n (pc := 17) dX2_noteLooked_17 rfl ?_
    refine g_iadd (pc := 18) dX2_noteLooked_18 ?_
    refine g_putI (pc := 19) dX2_noteLooked_19 fp_X2_23 (shK hS hm.1) ⟨rfl, rfl⟩ (fun _ _ _ _ => rfl) ?_
    refine g_return (pc := 22) dX2_noteLooked_22 rfl ?_
    exact ⟨rfl, (if_neg h4).symm⟩
theorem s_noteMadeAnew {m : Nat} {x : Int32} (hS : Shp M) (hm : isMx m) : EvR l jX2_noteMadeAnew 1 21 0 0 [.ref m, .int x] M (.inl none) (mxAnew M m x) := by
  refine ev_intro rfl (nb rfl) rfl ?_
  unfold mxAnew
  have hS2 : Shp (mxLook M m x) := hS.look
  refine g_aload_n (pc := 0) dX2_noteMadeAnew_0 rfl trivial ?_
  refine g_getf (pc := 1) (v := .int (mI _ _ _)) dX2_noteMadeAnew_1 fk_X2_15 (shK hS hm.1) (fun _ => rfl) ?_
  refine g_if_eq (pc := 4) (tgt := 22) dX2_noteMadeAnew_4 rfl (fun h4 => ?_) (fun h4 => ?_)
  · refine g_return (pc := 22) dX2_noteMadeAnew_22 rfl ?_
    exact ⟨rfl, (if_pos h4).symm⟩
  · refine g_aload_n (pc := 7) dX2_noteMadeAnew_7 rfl trivial ?_
    refine g_iload_n (pc := 8) dX2_noteMadeAnew_8 rfl ?_
    refine g_invV_r (pc := 9) (As := [_]) dX2_noteMadeAnew_9 rfl (s_noteLooked hS hm) rfl rfl (shK hS hm.1) rfl rfl lk_X2_35 rfl (nb rfl) ⟨nb rfl, nb rfl⟩ rfl ?_
    refine g_aload_n (pc := 12) dX2_noteMadeAnew_12 rfl trivial ?_
    refine g_dup (pc := 13) dX2_noteMadeAnew_13 rfl ?_
    refine g_getf (pc := 14) (v := .int (mI _ _ _)) dX2_noteMadeAnew_14 fk_X2_26 (shK hS2 hm.1) (fun _ => rfl) ?_
    refine g_iconst (pc := 17) (v := 1) dX2_noteMadeAnew_17 rfl ?_
    refine g_iadd (pc := 18) dX2_noteMadeAnew_18 ?_
    refine g_putI (pc := 19) dX2_noteMadeAnew_19 fp_X2_26 (shK hS2 hm.1) ⟨rfl, rfl⟩ (fun _ _ _ _ => rfl) ?_
    refine g_return (pc := 22) dX2_noteMadeAnew_22 rfl ?_
    exact ⟨rfl, (if_neg h4).symm⟩
/-- all 0 -/
def mxEmpty (M : Mem) (m : Nat) : Mem := pI (pI (pI (pI (sI M (m + 1) (wr (mI M (m + 1)) (fun _ => 0) 32)) m 1 0) m 2 0) m 3 0) m 4 0
theorem s_mxEmpty {m : Nat} (hS : Shp M) (hm : isMx m) : EvR l jX2_makeEmpty 0 0 0 0 [.ref m] M (.inl none) (mxEmpty M m) := by
  refine ev_intro rfl (nb rfl) rfl ?_
  refine g_iconst (pc := 0) (v := 0) dX2_makeEmpty_0 rfl ?_
  refine g_istore_n (pc := 1) (lv' := [(0, _), (1, _)]) dX2_makeEmpty_1 (nl rfl) rfl ?_
  refine go_loop (pc := 2) 32 (fun i => [(0, .ref m), (1, .int (nI i))]) (fun i => sI M (m + 1) (wr (mI M (m + 1)) (fun _ => 0) i)) ⟨rfl, rfl, trivial⟩ (sI_eq (wr_0 _ _)) ?_ ?_
  · intro i hi ih
    refine g_iload_n (pc := 2) dX2_makeEmpty_2 rfl ?_
    refine g_bipush (pc := 3) (v := 32) dX2_makeEmpty_3 rfl ?_
    refine g_icmp_ge (pc := 5) (tgt := 21) dX2_makeEmpty_5 rfl (fun h5 => absurd h5 (nI_ge (b := 32) hi (by omega))) (fun _ => ?_)
    refine g_aload_n (pc := 8) dX2_makeEmpty_8 rfl trivial ?_
    refine g_getf (pc := 9) dX2_makeEmpty_9 fk_X2_9 (shK hS hm.1) (fv_arr (shR hS hm.2.2)) ?_
    refine g_iload_n (pc := 12) dX2_makeEmpty_12 rfl ?_
    refine g_iconst (pc := 13) (v := 0) dX2_makeEmpty_13 rfl ?_
    refine g_iastore (pc := 14) dX2_makeEmpty_14 (shK hS hm.2.1) rfl (by omega) (nl rfl) ?_
    refine g_iinc (pc := 15) (lv' := [(0, _), (1, _)]) dX2_makeEmpty_15 rfl (nI_1 _) (nl rfl) rfl ?_
    refine g_goto (pc := 18) (tgt := 2) dX2_makeEmpty_18 rfl ?_
    exact go_cast (sI_st (wr_s _ _ i)) ih
  · refine g_iload_n (pc := 2) dX2_makeEmpty_2 rfl ?_
    refine g_bipush (pc := 3) (v := 32) dX2_makeEmpty_3 rfl ?_
    refine g_icmp_ge (pc := 5) (tgt := 21) dX2_makeEmpty_5 rfl (fun _ => ?_) (fun h5 => absurd (nI_le (Nat.le_refl 32) (by omega)) h5)
    refine g_aload_n (pc := 21) dX2_makeEmpty_21 rfl trivial ?_
    refine g_iconst (pc := 22) (v := 0) dX2_makeEmpty_22 rfl ?_
    refine g_putI (pc := 23) dX2_makeEmpty_23 fp_X2_15 (shK hS hm.1) ⟨rfl, rfl⟩ (fun _ _ _ _ => rfl) ?_
    refine g_aload_n (pc := 26) dX2_makeEmpty_26 rfl trivial ?_
    refine g_iconst (pc := 27) (v := 0) dX2_makeEmpty_27 rfl ?_
    refine g_putI (pc := 28) dX2_makeEmpty_28 fp_X2_19 (shK hS hm.1) ⟨rfl, rfl⟩ (fun _ _ _ _ => rfl) ?_
    refine g_aload_n (pc := 31) dX2_makeEmpty_31 rfl trivial ?_
    refine g_iconst (pc := 32) (v := 0) dX2_makeEmpty_32 rfl ?_
    refine g_putI (pc := 33) dX2_makeEmpty_33 fp_X2_23 (shK hS hm.1) ⟨rfl, rfl⟩ (fun _ _ _ _ => rfl) ?_
    refine g_aload_n (pc := 36) dX2_makeEmpty_36 rfl trivial ?_
    refine g_iconst (pc := 37) (v := 0) dX2_makeEmpty_37 rfl ?_
    refine g_putI (pc := 38) dX2_makeEmpty_38 fp_X2_26 (shK hS hm.1) ⟨rfl, rfl⟩ (fun _ _ _ _ => rfl) ?_
    refine g_return (pc := 41) dX2_makeEmpty_41 rfl ?_
    exact ⟨rfl, rfl⟩
/-- m becomes as o -/
def mxTake (M : Mem) (m o : Nat) : Mem := pI (pI (pI (pI (sI M (m + 1) (wr (mI M (m + 1)) (mI M (o + 1)) 32)) m 1 (mI M o 1)) m 2 (mI M o 2)) m 3 (mI M o 3)) m 4 (mI M o 4)
def k01 (x : Int32) : Prop := x = 0 ∨ x = 1
theorem k01_n {x : Int32} (h : k01 x) : narrow .boolean (.int x) = .int x ∧ fits .boolean (.int x) = true := by rcases h with rfl | rfl <;> exact ⟨rfl, rfl⟩
theorem s_mxTake {m o : Nat} (hS : Shp M) (hm : isMx m) (ho : isMx o) (h1 : o ≠ m) (h2 : o ≠ m + 1) (hk : k01 (mI M o 1)) : EvR l jX2_takeFrom 1 60 0 0 [.ref m, .ref o] M (.inl none) (mxTake M m o) := by
  refine ev_intro rfl (nb rfl) rfl ?_
  have e1 : mI (sI M (m + 1) (wr (mI M (m + 1)) (mI M (o + 1)) 32)) o = mI M o := sI_ne h2
  refine g_aload_n (pc := 0) dX2_takeFrom_0 rfl trivial ?_
  refine g_getf (pc := 1) dX2_takeFrom_1 fk_X2_9 (shK hS ho.1) (fv_arr (shR hS ho.2.2)) ?_
  refine g_iconst (pc := 4) (v := 0) dX2_takeFrom_4 rfl ?_
  refine g_aload_n (pc := 5) dX2_takeFrom_5 rfl trivial ?_
  refine g_getf (pc := 6) dX2_takeFrom_6 fk_X2_9 (shK hS hm.1) (fv_arr (shR hS hm.2.2)) ?_
  refine g_iconst (pc := 9) (v := 0) dX2_takeFrom_9 rfl ?_
  refine g_bipush (pc := 10) (v := 32) dX2_takeFrom_10 rfl ?_
  refine g_copyI (pc := 12) dX2_takeFrom_12 wd_508 wd_510 wd_509 wd_108 (shK hS ho.2.1) (shK hS hm.2.1) rfl rfl rfl (by decide) (by decide) ⟨by decide, by decide⟩ hS.2.1 (nb rfl) (nb rfl) ?_
  rw [cpy_wr]
  refine g_aload_n (pc := 15) dX2_takeFrom_15 rfl trivial ?_
  refine g_aload_n (pc := 16) dX2_takeFrom_16 rfl trivial ?_
  refine g_getf (pc := 17) (v := .int _) dX2_takeFrom_17 fk_X2_15 (shK hS ho.1) (fun _ => congrArg Value.int ((congrFun e1 1))) ?_
  refine g_putI (pc := 20) dX2_takeFrom_20 fp_X2_15 (shK hS hm.1) (k01_n hk) (fun _ _ _ _ => rfl) ?_
  refine g_aload_n (pc := 23) dX2_takeFrom_23 rfl trivial ?_
  refine g_aload_n (pc := 24) dX2_takeFrom_24 rfl trivial ?_
  refine g_getf (pc := 25) (v := .int _) dX2_takeFrom_25 fk_X2_19 (shK hS ho.1) (fun _ => congrArg Value.int (((congrFun (pI_i h1) 2).trans (congrFun e1 2)))) ?_
  refine g_putI (pc := 28) dX2_takeFrom_28 fp_X2_19 (shK hS hm.1) ⟨rfl, rfl⟩ (fun _ _ _ _ => rfl) ?_
  refine g_aload_n (pc := 31) dX2_takeFrom_31 rfl trivial ?_
  refine g_aload_n (pc := 32) dX2_takeFrom_32 rfl trivial ?_
  refine g_getf (pc := 33) (v := .int _) dX2_takeFrom_33 fk_X2_23 (shK hS ho.1) (fun _ => congrArg Value.int (((congrFun (pI_i h1) 3).trans ((congrFun (pI_i h1) 3).trans (congrFun e1 3))))) ?_
  refine g_putI (pc := 36) dX2_takeFrom_36 fp_X2_23 (shK hS hm.1) ⟨rfl, rfl⟩ (fun _ _ _ _ => rfl) ?_
  refine g_aload_n (pc := 39) dX2_takeFrom_39 rfl trivial ?_
  refine g_aload_n (pc := 40) dX2_takeFrom_40 rfl trivial ?_
  refine g_getf (pc := 41) (v := .int _) dX2_takeFrom_41 fk_X2_26 (shK hS ho.1) (fun _ => congrArg Value.int (((congrFun (pI_i h1) 4).trans ((congrFun (pI_i h1) 4).trans ((congrFun (pI_i h1) 4).trans (congrFun e1 4)))))) ?_
  refine g_putI (pc := 44) dX2_takeFrom_44 fp_X2_26 (shK hS hm.1) ⟨rfl, rfl⟩ (fun _ _ _ _ => rfl) ?_
  refine g_return (pc := 47) dX2_takeFrom_47 rfl ?_
  exact ⟨rfl, rfl⟩
end
end
-- 13.clos
section
/-! closures -/
section
variable {l : Launch} {M : Mem}
def isCl (c : Nat) : Prop := LAY[c]? = some (.inr 0) ∧ LAY[c + 1]? = some (kI 32) ∧ REFT c 0 = some (c + 1)
theorem cl_ok : ∀ s, s < 6 → (LAY[175 + 2 * s]? = some (.inr 0) ∧ LAY[175 + 2 * s + 1]? = some (kI 32) ∧ REFT (175 + 2 * s) 0 = some (175 + 2 * s + 1)) ∧ REFT 174 s = some (175 + 2 * s) := by decide +kernel
theorem cl_of {s : Nat} (h : s < 6) : isCl (175 + 2 * s) := (cl_ok s h).1
def wIn (g : Nat → Int32) (m : Nat) : Nat → Nat → Int32
  | 0 => g
  | i + 1 => if hb (wIn g m i i) m = true then fun_set (wIn g m i) i (wIn g m i i ||| wIn g m i m) else wIn g m i
def wOut (g : Nat → Int32) (n : Nat) : Nat → Nat → Int32
  | 0 => g
  | m + 1 => wIn (wOut g n m) m n
def clMake (M : Mem) (c r n : Nat) : Mem := pI (sI M (c + 1) (wOut (wr (mI M (c + 1)) (mI M r) n) n n)) c 1 1
theorem s_makeFrom {c r n : Nat} (hS : Shp M) (hc : isCl c) (hk : (mK M)[r]? = some (kI 32)) (hn : n ≤ 32) : EvR l jX0_makeFrom 1 60 0 0 [.ref c, .ref r, .int (nI n)] M (.inl none) (clMake M c r n) := by
  refine ev_intro rfl (nb rfl) rfl ?_
  unfold clMake
  refine g_aload_n (pc := 0) dX0_makeFrom_0 rfl trivial ?_
  refine g_iconst (pc := 1) (v := 0) dX0_makeFrom_1 rfl ?_
  refine g_aload_n (pc := 2) dX0_makeFrom_2 rfl trivial ?_
  refine g_getf (pc := 3) dX0_makeFrom_3 fk_X0_9 (shK hS hc.1) (fv_arr (shR hS hc.2.2)) ?_
  refine g_iconst (pc := 6) (v := 0) dX0_makeFrom_6 rfl ?_
  refine g_iload_n (pc := 7) dX0_makeFrom_7 rfl ?_
  refine g_copyI (pc := 8) (sp := 0) (dp := 0) dX0_makeFrom_8 wd_790 wd_510 wd_509 wd_108 hk (shK hS hc.2.1) rfl rfl rfl (by omega) (by omega) ⟨by decide, by decide⟩ hS.2.1 (nb rfl) (nb rfl) ?_
  rw [cpy_wr]
  generalize wr (mI M (c + 1)) (mI M r) n = g0
  refine g_iconst (pc := 11) (v := 0) dX0_makeFrom_11 rfl ?_
  refine g_istore_n (pc := 12) (lv' := [(0, _), (1, _), (2, _), (3, _)]) dX0_makeFrom_12 (nl rfl) rfl ?_
  refine go_loop (pc := 13) n (fun m => [(0, .ref c), (1, .ref r), (2, .int (nI n)), (3, .int (nI m))]) (fun m => sI M (c + 1) (wOut g0 n m)) ⟨rfl, rfl, rfl, rfl, trivial⟩ rfl ?_ ?_
  · intro m hm ihm
    refine g_iload_n (pc := 13) dX0_makeFrom_13 rfl ?_
    refine g_iload_n (pc := 14) dX0_makeFrom_14 rfl ?_
    refine g_icmp_ge (pc := 15) (tgt := 69) dX0_makeFrom_15 rfl (fun h15 => absurd h15 (nI_ge hm (by omega))) (fun _ => ?_)
    refine g_iconst (pc := 18) (v := 0) dX0_makeFrom_18 rfl ?_
    refine g_istore (pc := 19) (lv' := [(0, _), (1, _), (2, _), (3, _), (4, _)]) dX0_makeFrom_19 (nl rfl) rfl ?_
    refine go_loop (pc := 21) n (fun i => [(0, .ref c), (1, .ref r), (2, .int (nI n)), (3, .int (nI m)), (4, .int (nI i))]) (fun i => sI M (c + 1) (wIn (wOut g0 n m) m i)) ⟨rfl, rfl, rfl, rfl, rfl, trivial⟩ rfl ?_ ?_
    · intro i hi ih
      have hS1 : Shp (sI M (c + 1) (wIn (wOut g0 n m) m i)) := hS
      have e1 := sI_self M (c + 1) (wIn (wOut g0 n m) m i)
      refine g_iload (pc := 21) dX0_makeFrom_21 rfl ?_
      refine g_iload_n (pc := 23) dX0_makeFrom_23 rfl ?_
      refine g_icmp_ge (pc := 24) (tgt := 63) dX0_makeFrom_24 rfl (fun h24 => absurd h24 (nI_ge hi (by omega))) (fun _ => ?_)
      refine g_aload_n (pc := 27) dX0_makeFrom_27 rfl trivial ?_
      refine g_getf (pc := 28) dX0_makeFrom_28 fk_X0_9 (shK hS hc.1) (fv_arr (shR hS hc.2.2)) ?_
      refine g_iload (pc := 31) dX0_makeFrom_31 rfl ?_
      refine g_iaload (pc := 33) dX0_makeFrom_33 (shK hS hc.2.1) rfl (by omega) (nl rfl) ?_
      rw [e1]
      refine g_iload_n (pc := 34) dX0_makeFrom_34 rfl ?_
      refine g_invSN_r (pc := 35) (As := [_, _]) dX0_makeFrom_35 rfl (s_hasOne (by omega)) rfl rfl lk_X0_21 rfl (nb rfl) ⟨nb rfl, nb rfl⟩ rfl ?_
      refine g_if_eq (pc := 38) (tgt := 57) dX0_makeFrom_38 rfl (fun h38 => ?_) (fun h38 => ?_)
      · rw [b1_0] at h38
        refine g_iinc (pc := 57) (lv' := [(0, _), (1, _), (2, _), (3, _), (4, _)]) dX0_makeFrom_57 rfl (nI_1 _) (nl rfl) rfl ?_
        refine g_goto (pc := 60) (tgt := 21) dX0_makeFrom_60 rfl ?_
        exact go_cast (by rw [wIn, if_neg (by rw [h38]; decide)]) ih
      · rw [b1_0, Bool.not_eq_false] at h38
        refine g_aload_n (pc := 41) dX0_makeFrom_41 rfl trivial ?_
        refine g_getf (pc := 42) dX0_makeFrom_42 fk_X0_9 (shK hS hc.1) (fv_arr (shR hS hc.2.2)) ?_
        refine g_iload (pc := 45) dX0_makeFrom_45 rfl ?_
        refine g_dup2_11 (pc := 47) dX0_makeFrom_47 rfl rfl ?_
        refine g_iaload (pc := 48) dX0_makeFrom_48 (shK hS hc.2.1) rfl (by omega) (nl rfl) ?_
        refine g_aload_n (pc := 49) dX0_makeFrom_49 rfl trivial ?_
        refine g_getf (pc := 50) dX0_makeFrom_50 fk_X0_9 (shK hS hc.1) (fv_arr (shR hS hc.2.2)) ?_
        refine g_iload_n (pc := 53) dX0_makeFrom_53 rfl ?_
        refine g_iaload (pc := 54) dX0_makeFrom_54 (shK hS hc.2.1) rfl (by omega) (nl rfl) ?_
        rw [e1]
        refine g_ior (pc := 55) dX0_makeFrom_55 ?_
        refine g_iastore (pc := 56) dX0_makeFrom_56 (shK hS hc.2.1) rfl (by omega) (nl rfl) ?_
        refine g_iinc (pc := 57) (lv' := [(0, _), (1, _), (2, _), (3, _), (4, _)]) dX0_makeFrom_57 rfl (nI_1 _) (nl rfl) rfl ?_
        refine g_goto (pc := 60) (tgt := 21) dX0_makeFrom_60 rfl ?_
        exact go_cast (sI_st (by rw [wIn, if_pos h38])) ih
    · refine g_iload (pc := 21) dX0_makeFrom_21 rfl ?_
      refine g_iload_n (pc := 23) dX0_makeFrom_23 rfl ?_
      refine g_icmp_ge (pc := 24) (tgt := 63) dX0_makeFrom_24 rfl (fun _ => ?_) (fun h24 => absurd (nI_le (Nat.le_refl _) (by omega)) h24)
      refine g_iinc (pc := 63) (lv' := [(0, _), (1, _), (2, _), (3, _), (4, _)]) dX0_makeFrom_63 rfl (nI_1 _) (nl rfl) rfl ?_
      refine g_goto (pc := 66) (tgt := 13) dX0_makeFrom_66 rfl ?_
      exact g_sub (lv' := [(0, _), (1, _), (2, _), (3, _)]) ⟨rfl, rfl, rfl, rfl, trivial⟩ ihm
  · refine g_iload_n (pc := 13) dX0_makeFrom_13 rfl ?_
    refine g_iload_n (pc := 14) dX0_makeFrom_14 rfl ?_
    refine g_icmp_ge (pc := 15) (tgt := 69) dX0_makeFrom_15 rfl (fun _ => ?_) (fun h15 => absurd (nI_le (Nat.le_refl _) (by omega)) h15)
    refine g_aload_n (pc := 69) dX0_makeFrom_69 rfl trivial ?_
    refine g_iconst (pc := 70) (v := 1) dX0_makeFrom_70 rfl ?_
    refine g_putI (pc := 71) dX0_makeFrom_71 fp_X0_25 (shK hS hc.1) ⟨rfl, rfl⟩ (fun _ _ _ _ => rfl) ?_
    refine g_return (pc := 74) dX0_makeFrom_74 rfl ?_
    exact ⟨rfl, rfl⟩
def nodesTo (g : Nat → Int32) (a n : Nat) : Int32 := colOf g a n ||| bitI a
theorem s_nodesTo {c a n : Nat} (hS : Shp M) (hc : isCl c) (ha : a < 32) (hn : n ≤ 32) : EvR l jX0_nodesTo 1 40 0 0 [.ref c, .int (nI a), .int (nI n)] M (.inl (some (.int (nodesTo (mI M (c + 1)) a n)))) M := by
  refine ev_intro rfl (nb rfl) rfl ?_
  refine g_aload_n (pc := 0) dX0_nodesTo_0 rfl trivial ?_
  refine g_getf (pc := 1) dX0_nodesTo_1 fk_X0_9 (shK hS hc.1) (fv_arr (shR hS hc.2.2)) ?_
  refine g_iload_n (pc := 4) dX0_nodesTo_4 rfl ?_
  refine g_iload_n (pc := 5) dX0_nodesTo_5 rfl ?_
  refine g_invSN_r (pc := 6) (As := [_, _, _]) dX0_nodesTo_6 rfl (s_columnOf (shK hS hc.2.1) ha hn) rfl rfl lk_X0_29 rfl (nb rfl) ⟨nb rfl, nb rfl⟩ rfl ?_
  refine g_iconst (pc := 9) (v := 1) dX0_nodesTo_9 rfl ?_
  refine g_iload_n (pc := 10) dX0_nodesTo_10 rfl ?_
  refine g_ishl (pc := 11) dX0_nodesTo_11 ?_
  refine g_ior (pc := 12) dX0_nodesTo_12 ?_
  refine g_ireturn (pc := 13) dX0_nodesTo_13 rfl rfl ?_
  exact ⟨rfl, rfl⟩
def lowMut (g : Nat → Int32) (a n : Nat) : Nat := lowN (g a &&& colOf g a n ||| bitI a)
theorem s_lowestMutual {c a n : Nat} (hS : Shp M) (hc : isCl c) (ha : a < 32) (hn : n ≤ 32) : EvR l jX0_lowestMutual 2 40 0 0 [.ref c, .int (nI a), .int (nI n)] M (.inl (some (.int (nI (lowMut (mI M (c + 1)) a n))))) M := by
  refine ev_intro rfl (nb rfl) rfl ?_
  refine g_aload_n (pc := 0) dX0_lowestMutual_0 rfl trivial ?_
  refine g_getf (pc := 1) dX0_lowestMutual_1 fk_X0_9 (shK hS hc.1) (fv_arr (shR hS hc.2.2)) ?_
  refine g_iload_n (pc := 4) dX0_lowestMutual_4 rfl ?_
  refine g_iaload (pc := 5) dX0_lowestMutual_5 (shK hS hc.2.1) rfl (by omega) (nl rfl) ?_
  refine g_aload_n (pc := 6) dX0_lowestMutual_6 rfl trivial ?_
  refine g_getf (pc := 7) dX0_lowestMutual_7 fk_X0_9 (shK hS hc.1) (fv_arr (shR hS hc.2.2)) ?_
  refine g_iload_n (pc := 10) dX0_lowestMutual_10 rfl ?_
  refine g_iload_n (pc := 11) dX0_lowestMutual_11 rfl ?_
  refine g_invSN_r (pc := 12) (As := [_, _, _]) dX0_lowestMutual_12 rfl (s_columnOf (shK hS hc.2.1) ha hn) rfl rfl lk_X0_29 rfl (nb rfl) ⟨nb rfl, nb rfl⟩ rfl ?_
  refine g_iand (pc := 15) dX0_lowestMutual_15 ?_
  refine g_iconst (pc := 16) (v := 1) dX0_lowestMutual_16 rfl ?_
  refine g_iload_n (pc := 17) dX0_lowestMutual_17 rfl ?_
  refine g_ishl (pc := 18) dX0_lowestMutual_18 ?_
  refine g_ior (pc := 19) dX0_lowestMutual_19 ?_
  refine g_invSN_r (pc := 20) (As := [_]) dX0_lowestMutual_20 rfl (s_lowestOne) rfl rfl lk_X0_33 rfl (nb rfl) ⟨nb rfl, nb rfl⟩ rfl ?_
  refine g_ireturn (pc := 23) dX0_lowestMutual_23 rfl rfl ?_
  exact ⟨rfl, rfl⟩
def gainF (g : Nat → Int32) (nodes tg : Int32) : Nat → Int32
  | 0 => 0
  | i + 1 => if hb nodes i = true then gainF g nodes tg i + bcJ (tg &&& (g i ^^^ -1)) else gainF g nodes tg i
def gainW (g : Nat → Int32) (nodes : Int32) (b n : Nat) : Int32 := gainF g nodes (g b ||| bitI b) n
theorem s_gainWith {c b n : Nat} {nodes : Int32} (hS : Shp M) (hc : isCl c) (hb9 : b < 32) (hn : n ≤ 32) : EvR l jX0_gainWith 1 40 0 0 [.ref c, .int nodes, .int (nI b), .int (nI n)] M (.inl (some (.int (gainW (mI M (c + 1)) nodes b n)))) M := by
  refine ev_intro rfl (nb rfl) rfl ?_
  unfold gainW
  refine g_aload_n (pc := 0) dX0_gainWith_0 rfl trivial ?_
  refine g_getf (pc := 1) dX0_gainWith_1 fk_X0_9 (shK hS hc.1) (fv_arr (shR hS hc.2.2)) ?_
  refine g_iload_n (pc := 4) dX0_gainWith_4 rfl ?_
  refine g_iaload (pc := 5) dX0_gainWith_5 (shK hS hc.2.1) rfl (by omega) (nl rfl) ?_
  refine g_iconst (pc := 6) (v := 1) dX0_gainWith_6 rfl ?_
  refine g_iload_n (pc := 7) dX0_gainWith_7 rfl ?_
  refine g_ishl (pc := 8) dX0_gainWith_8 ?_
  refine g_ior (pc := 9) dX0_gainWith_9 ?_
  refine g_istore (pc := 10) (lv' := [(0, _), (1, _), (2, _), (3, _), (4, _)]) dX0_gainWith_10 (nl rfl) rfl ?_
  refine g_iconst (pc := 12) (v := 0) dX0_gainWith_12 rfl ?_
  refine g_istore (pc := 13) (lv' := [(0, _), (1, _), (2, _), (3, _), (4, _), (5, _)]) dX0_gainWith_13 (nl rfl) rfl ?_
  refine g_iconst (pc := 15) (v := 0) dX0_gainWith_15 rfl ?_
  refine g_istore (pc := 16) (lv' := [(0, _), (1, _), (2, _), (3, _), (4, _), (5, _), (6, _)]) dX0_gainWith_16 (nl rfl) rfl ?_
  refine go_loop (pc := 18) n (fun i => [(0, .ref c), (1, .int nodes), (2, .int (nI b)), (3, .int (nI n)), (4, .int (mI M (c + 1) b ||| bitI b)), (5, .int (gainF (mI M (c + 1)) nodes (mI M (c + 1) b ||| bitI b) i)), (6, .int (nI i))]) (fun _ => M) ⟨rfl, rfl, rfl, rfl, rfl, rfl, rfl, trivial⟩ rfl ?_ ?_
  · intro i hi ih
    refine g_iload (pc := 18) dX0_gainWith_18 rfl ?_
    refine g_iload_n (pc := 20) dX0_gainWith_20 rfl ?_
    refine g_icmp_ge (pc := 21) (tgt := 59) dX0_gainWith_21 rfl (fun h21 => absurd h21 (nI_ge hi (by omega))) (fun _ => ?_)
    refine g_iload_n (pc := 24) dX0_gainWith_24 rfl ?_
    refine g_iload (pc := 25) dX0_gainWith_25 rfl ?_
    refine g_invSN_r (pc := 27) (As := [_, _]) dX0_gainWith_27 rfl (s_hasOne (by omega)) rfl rfl lk_X0_21 rfl (nb rfl) ⟨nb rfl, nb rfl⟩ rfl ?_
    refine g_if_eq (pc := 30) (tgt := 53) dX0_gainWith_30 rfl (fun h30 => ?_) (fun h30 => ?_)
    · rw [b1_0] at h30
      refine g_iinc (pc := 53) (lv' := [(0, _), (1, _), (2, _), (3, _), (4, _), (5, _), (6, _)]) dX0_gainWith_53 rfl (nI_1 _) (nl rfl) rfl ?_
      refine g_goto (pc := 56) (tgt := 18) dX0_gainWith_56 rfl ?_
      rw [gainF, if_neg (by rw [h30]; decide)] at ih
      exact ih
    · rw [b1_0, Bool.not_eq_false] at h30
      refine g_iload (pc := 33) dX0_gainWith_33 rfl ?_
      refine g_iload (pc := 35) dX0_gainWith_35 rfl ?_
      refine g_aload_n (pc := 37) dX0_gainWith_37 rfl trivial ?_
      refine g_getf (pc := 38) dX0_gainWith_38 fk_X0_9 (shK hS hc.1) (fv_arr (shR hS hc.2.2)) ?_
      refine g_iload (pc := 41) dX0_gainWith_41 rfl ?_
      refine g_iaload (pc := 43) dX0_gainWith_43 (shK hS hc.2.1) rfl (by omega) (nl rfl) ?_
      refine g_iconst (pc := 44) (v := (-1)) dX0_gainWith_44 rfl ?_
      refine g_ixor (pc := 45) dX0_gainWith_45 ?_
      refine g_iand (pc := 46) dX0_gainWith_46 ?_
      refine g_invS_r (pc := 47) (As := [_]) dX0_gainWith_47 rfl (s_bitCount) rfl rfl lk_X0_37 rfl (nb rfl) ⟨nb rfl, nb rfl⟩ rfl ?_
      refine g_iadd (pc := 50) dX0_gainWith_50 ?_
      refine g_istore (pc := 51) (lv' := [(0, _), (1, _), (2, _), (3, _), (4, _), (5, _), (6, _)]) dX0_gainWith_51 (nl rfl) rfl ?_
      refine g_iinc (pc := 53) (lv' := [(0, _), (1, _), (2, _), (3, _), (4, _), (5, _), (6, _)]) dX0_gainWith_53 rfl (nI_1 _) (nl rfl) rfl ?_
      refine g_goto (pc := 56) (tgt := 18) dX0_gainWith_56 rfl ?_
      rw [gainF, if_pos h30] at ih
      exact ih
  · refine g_iload (pc := 18) dX0_gainWith_18 rfl ?_
    refine g_iload_n (pc := 20) dX0_gainWith_20 rfl ?_
    refine g_icmp_ge (pc := 21) (tgt := 59) dX0_gainWith_21 rfl (fun _ => ?_) (fun h21 => absurd (nI_le (Nat.le_refl _) (by omega)) h21)
    refine g_iload (pc := 59) dX0_gainWith_59 rfl ?_
    refine g_ireturn (pc := 61) dX0_gainWith_61 rfl rfl ?_
    exact ⟨rfl, rfl⟩
def extF (g : Nat → Int32) (nodes tg : Int32) : Nat → Nat → Int32
  | 0 => g
  | i + 1 => if hb nodes i = true then fun_set (extF g nodes tg i) i (extF g nodes tg i i ||| tg) else extF g nodes tg i
theorem s_extend {c b n : Nat} {nodes : Int32} (hS : Shp M) (hc : isCl c) (hb9 : b < 32) (hn : n ≤ 32) : EvR l jX0_extend 2 70 0 0 [.ref c, .int nodes, .int (nI b), .int (nI n)] M (.inl (some (.int (gainW (mI M (c + 1)) nodes b n)))) (sI M (c + 1) (extF (mI M (c + 1)) nodes (mI M (c + 1) b ||| bitI b) n)) := by
  refine ev_intro rfl (nb rfl) rfl ?_
  refine g_aload_n (pc := 0) dX0_extend_0 rfl trivial ?_
  refine g_iload_n (pc := 1) dX0_extend_1 rfl ?_
  refine g_iload_n (pc := 2) dX0_extend_2 rfl ?_
  refine g_iload_n (pc := 3) dX0_extend_3 rfl ?_
  refine g_invV_r (pc := 4) (As := [_, _, _]) dX0_extend_4 rfl (s_gainWith hS hc hb9 hn) rfl rfl (shK hS hc.1) rfl rfl lk_X0_42 rfl (nb rfl) ⟨nb rfl, nb rfl⟩ rfl ?_
  refine g_istore (pc := 7) (lv' := [(0, _), (1, _), (2, _), (3, _), (4, _)]) dX0_extend_7 (nl rfl) rfl ?_
  refine g_aload_n (pc := 9) dX0_extend_9 rfl trivial ?_
  refine g_getf (pc := 10) dX0_extend_10 fk_X0_9 (shK hS hc.1) (fv_arr (shR hS hc.2.2)) ?_
  refine g_iload_n (pc := 13) dX0_extend_13 rfl ?_
  refine g_iaload (pc := 14) dX0_extend_14 (shK hS hc.2.1) rfl (by omega) (nl rfl) ?_
  refine g_iconst (pc := 15) (v := 1) dX0_extend_15 rfl ?_
  refine g_iload_n (pc := 16) dX0_extend_16 rfl ?_
  refine g_ishl (pc := 17) dX0_extend_17 ?_
  refine g_ior (pc := 18) dX0_extend_18 ?_
  refine g_istore (pc := 19) (lv' := [(0, _), (1, _), (2, _), (3, _), (4, _), (5, _)]) dX0_extend_19 (nl rfl) rfl ?_
  refine g_iconst (pc := 21) (v := 0) dX0_extend_21 rfl ?_
  refine g_istore (pc := 22) (lv' := [(0, _), (1, _), (2, _), (3, _), (4, _), (5, _), (6, _)]) dX0_extend_22 (nl rfl) rfl ?_
  generalize gainW (mI M (c + 1)) nodes b n = S
  refine go_loop (pc := 24) n (fun i => [(0, .ref c), (1, .int nodes), (2, .int (nI b)), (3, .int (nI n)), (4, .int S), (5, .int (mI M (c + 1) b ||| bitI b)), (6, .int (nI i))]) (fun i => sI M (c + 1) (extF (mI M (c + 1)) nodes (mI M (c + 1) b ||| bitI b) i)) ⟨rfl, rfl, rfl, rfl, rfl, rfl, rfl, trivial⟩ (sI_id M (c + 1)).symm ?_ ?_
  · intro i hi ih
    have e1 := sI_self M (c + 1) (extF (mI M (c + 1)) nodes (mI M (c + 1) b ||| bitI b) i)
    refine g_iload (pc := 24) dX0_extend_24 rfl ?_
    refine g_iload_n (pc := 26) dX0_extend_26 rfl ?_
    refine g_icmp_ge (pc := 27) (tgt := 57) dX0_extend_27 rfl (fun h27 => absurd h27 (nI_ge hi (by omega))) (fun _ => ?_)
    refine g_iload_n (pc := 30) dX0_extend_30 rfl ?_
    refine g_iload (pc := 31) dX0_extend_31 rfl ?_
    refine g_invSN_r (pc := 33) (As := [_, _]) dX0_extend_33 rfl (s_hasOne (by omega)) rfl rfl lk_X0_21 rfl (nb rfl) ⟨nb rfl, nb rfl⟩ rfl ?_
    refine g_if_eq (pc := 36) (tgt := 51) dX0_extend_36 rfl (fun h36 => ?_) (fun h36 => ?_)
    · rw [b1_0] at h36
      refine g_iinc (pc := 51) (lv' := [(0, _), (1, _), (2, _), (3, _), (4, _), (5, _), (6, _)]) dX0_extend_51 rfl (nI_1 _) (nl rfl) rfl ?_
      refine g_goto (pc := 54) (tgt := 24) dX0_extend_54 rfl ?_
      exact go_cast (by rw [extF, if_neg (by rw [h36]; decide)]) ih
    · rw [b1_0, Bool.not_eq_false] at h36
      refine g_aload_n (pc := 39) dX0_extend_39 rfl trivial ?_
      refine g_getf (pc := 40) dX0_extend_40 fk_X0_9 (shK hS hc.1) (fv_arr (shR hS hc.2.2)) ?_
      refine g_iload (pc := 43) dX0_extend_43 rfl ?_
      refine g_dup2_11 (pc := 45) dX0_extend_45 rfl rfl ?_
      refine g_iaload (pc := 46) dX0_extend_46 (shK hS hc.2.1) rfl (by omega) (nl rfl) ?_
      rw [e1]
      refine g_iload (pc := 47) dX0_extend_47 rfl ?_
      refine g_ior (pc := 49) dX0_extend_49 ?_
      refine g_iastore (pc := 50) dX0_extend_50 (shK hS hc.2.1) rfl (by omega) (nl rfl) ?_
      refine g_iinc (pc := 51) (lv' := [(0, _), (1, _), (2, _), (3, _), (4, _), (5, _), (6, _)]) dX0_extend_51 rfl (nI_1 _) (nl rfl) rfl ?_
      refine g_goto (pc := 54) (tgt := 24) dX0_extend_54 rfl ?_
      exact go_cast (sI_st (by rw [extF, if_pos h36])) ih
  · refine g_iload (pc := 24) dX0_extend_24 rfl ?_
    refine g_iload_n (pc := 26) dX0_extend_26 rfl ?_
    refine g_icmp_ge (pc := 27) (tgt := 57) dX0_extend_27 rfl (fun _ => ?_) (fun h27 => absurd (nI_le (Nat.le_refl _) (by omega)) h27)
    refine g_iload (pc := 57) dX0_extend_57 rfl ?_
    refine g_ireturn (pc := 59) dX0_extend_59 rfl rfl ?_
    exact ⟨rfl, rfl⟩
def mendG (g f : Nat → Int32) (nodes : Int32) (n : Nat) : Nat → Nat → Int32
  | 0 => g
  | i + 1 => if hb nodes i = true then fun_set (mendG g f nodes n i) i (reachL f n (f i) 0) else mendG g f nodes n i
def mendS (g f : Nat → Int32) (nodes : Int32) (n : Nat) : Nat → Int32
  | 0 => 0
  | i + 1 => if hb nodes i = true then mendS g f nodes n i + bcJ (mendG g f nodes n i i &&& (reachL f n (f i) 0 ^^^ -1)) else mendS g f nodes n i
theorem s_mend {c r n : Nat} {nodes : Int32} (hS : Shp M) (hc : isCl c) (hk : (mK M)[r]? = some (kI 32)) (hr : r ≠ c + 1) (hn : n ≤ 32) : EvR l jX0_mend 3 90 0 0 [.ref c, .int nodes, .ref r, .int (nI n)] M (.inl (some (.int (mendS (mI M (c + 1)) (mI M r) nodes n n)))) (sI M (c + 1) (mendG (mI M (c + 1)) (mI M r) nodes n n)) := by
  refine ev_intro rfl (nb rfl) rfl ?_
  refine g_iconst (pc := 0) (v := 0) dX0_mend_0 rfl ?_
  refine g_istore (pc := 1) (lv' := [(0, _), (1, _), (2, _), (3, _), (4, _)]) dX0_mend_1 (nl rfl) rfl ?_
  refine g_iconst (pc := 3) (v := 0) dX0_mend_3 rfl ?_
  refine g_istore (pc := 4) (lv' := [(0, _), (1, _), (2, _), (3, _), (4, _), (5, _)]) dX0_mend_4 (nl rfl) rfl ?_
  refine go_loop (pc := 6) n (fun i => [(0, .ref c), (1, .int nodes), (2, .ref r), (3, .int (nI n)), (4, .int (mendS (mI M (c + 1)) (mI M r) nodes n i)), (5, .int (nI i))]) (fun i => sI M (c + 1) (mendG (mI M (c + 1)) (mI M r) nodes n i)) ⟨rfl, rfl, rfl, rfl, rfl, rfl, trivial⟩ (sI_id M (c + 1)).symm ?_ ?_
  · intro i hi ih
    have e1 := sI_self M (c + 1) (mendG (mI M (c + 1)) (mI M r) nodes n i)
    have e2 : mI (sI M (c + 1) (mendG (mI M (c + 1)) (mI M r) nodes n i)) r = mI M r := sI_ne hr
    have hk2 : (mK (sI M (c + 1) (mendG (mI M (c + 1)) (mI M r) nodes n i)))[r]? = some (kI 32) := hk
    refine g_iload (pc := 6) dX0_mend_6 rfl ?_
    refine g_iload_n (pc := 8) dX0_mend_8 rfl ?_
    refine g_icmp_ge (pc := 9) (tgt := 65) dX0_mend_9 rfl (fun h9 => absurd h9 (nI_ge hi (by omega))) (fun _ => ?_)
    refine g_iload_n (pc := 12) dX0_mend_12 rfl ?_
    refine g_iload (pc := 13) dX0_mend_13 rfl ?_
    refine g_invSN_r (pc := 15) (As := [_, _]) dX0_mend_15 rfl (s_hasOne (by omega)) rfl rfl lk_X0_21 rfl (nb rfl) ⟨nb rfl, nb rfl⟩ rfl ?_
    refine g_if_eq (pc := 18) (tgt := 59) dX0_mend_18 rfl (fun h18 => ?_) (fun h18 => ?_)
    · rw [b1_0] at h18
      refine g_iinc (pc := 59) (lv' := [(0, _), (1, _), (2, _), (3, _), (4, _), (5, _)]) dX0_mend_59 rfl (nI_1 _) (nl rfl) rfl ?_
      refine g_goto (pc := 62) (tgt := 6) dX0_mend_62 rfl ?_
      rw [mendS, if_neg (by rw [h18]; decide), mendG, if_neg (by rw [h18]; decide)] at ih
      exact ih
    · rw [b1_0, Bool.not_eq_false] at h18
      refine g_aload_n (pc := 21) dX0_mend_21 rfl trivial ?_
      refine g_iload (pc := 22) dX0_mend_22 rfl ?_
      refine g_iload_n (pc := 24) dX0_mend_24 rfl ?_
      refine g_invSN_r (pc := 25) (As := [_, _, _]) dX0_mend_25 rfl (s_reachedFrom hk2 (by omega) hn) rfl rfl lk_X0_46 rfl (nb rfl) ⟨nb rfl, nb rfl⟩ rfl ?_
      rw [e2]
      refine g_istore (pc := 28) (lv' := [(0, _), (1, _), (2, _), (3, _), (4, _), (5, _), (6, _)]) dX0_mend_28 (nl rfl) rfl ?_
      refine g_iload (pc := 30) dX0_mend_30 rfl ?_
      refine g_aload_n (pc := 32) dX0_mend_32 rfl trivial ?_
      refine g_getf (pc := 33) dX0_mend_33 fk_X0_9 (shK hS hc.1) (fv_arr (shR hS hc.2.2)) ?_
      refine g_iload (pc := 36) dX0_mend_36 rfl ?_
      refine g_iaload (pc := 38) dX0_mend_38 (shK hS hc.2.1) rfl (by omega) (nl rfl) ?_
      rw [e1]
      refine g_iload (pc := 39) dX0_mend_39 rfl ?_
      refine g_iconst (pc := 41) (v := (-1)) dX0_mend_41 rfl ?_
      refine g_ixor (pc := 42) dX0_mend_42 ?_
      refine g_iand (pc := 43) dX0_mend_43 ?_
      refine g_invS_r (pc := 44) (As := [_]) dX0_mend_44 rfl (s_bitCount) rfl rfl lk_X0_37 rfl (nb rfl) ⟨nb rfl, nb rfl⟩ rfl ?_
      refine g_iadd (pc := 47) dX0_mend_47 ?_
      refine g_istore (pc := 48) (lv' := [(0, _), (1, _), (2, _), (3, _), (4, _), (5, _), (6, _)]) dX0_mend_48 (nl rfl) rfl ?_
      refine g_aload_n (pc := 50) dX0_mend_50 rfl trivial ?_
      refine g_getf (pc := 51) dX0_mend_51 fk_X0_9 (shK hS hc.1) (fv_arr (shR hS hc.2.2)) ?_
      refine g_iload (pc := 54) dX0_mend_54 rfl ?_
      refine g_iload (pc := 56) dX0_mend_56 rfl ?_
      refine g_iastore (pc := 58) dX0_mend_58 (shK hS hc.2.1) rfl (by omega) (nl rfl) ?_
      refine g_iinc (pc := 59) (lv' := [(0, _), (1, _), (2, _), (3, _), (4, _), (5, _), (6, _)]) dX0_mend_59 rfl (nI_1 _) (nl rfl) rfl ?_
      refine g_goto (pc := 62) (tgt := 6) dX0_mend_62 rfl ?_
      rw [mendS, if_pos h18] at ih
      exact go_cast (sI_st (by rw [mendG, if_pos h18])) (g_sub (lv' := [(0, _), (1, _), (2, _), (3, _), (4, _), (5, _)]) ⟨rfl, rfl, rfl, rfl, rfl, rfl, trivial⟩ ih)
  · refine g_iload (pc := 6) dX0_mend_6 rfl ?_
    refine g_iload_n (pc := 8) dX0_mend_8 rfl ?_
    refine g_icmp_ge (pc := 9) (tgt := 65) dX0_mend_9 rfl (fun _ => ?_) (fun h9 => absurd (nI_le (Nat.le_refl _) (by omega)) h9)
    refine g_iload (pc := 65) dX0_mend_65 rfl ?_
    refine g_ireturn (pc := 67) dX0_mend_67 rfl rfl ?_
    exact ⟨rfl, rfl⟩
def lossF (g f : Nat → Int32) (nodes : Int32) (n : Nat) : Nat → Int32
  | 0 => 0
  | i + 1 => if hb nodes i = true then lossF g f nodes n i + bcJ (g i &&& (reachL f n (f i) 0 ^^^ -1)) else lossF g f nodes n i
def lossB (g f : Nat → Int32) (a b n : Nat) : Int32 := if hb (reachL f n (f a) 0) b = true then 0 else lossF g f (nodesTo g a n) n n
theorem s_lossBy {c r a b n : Nat} (hS : Shp M) (hc : isCl c) (hk : (mK M)[r]? = some (kI 32)) (ha : a < 32) (hb9 : b < 32) (hn : n ≤ 32) : EvR l jX0_lossBy 3 90 0 0 [.ref c, .ref r, .int (nI a), .int (nI b), .int (nI n)] M (.inl (some (.int (lossB (mI M (c + 1)) (mI M r) a b n)))) M := by
  refine ev_intro rfl (nb rfl) rfl ?_
  unfold lossB
  by_cases hx : hb (reachL (mI M r) n (mI M r a) 0) b = true
  · rw [if_pos hx]
    refine g_aload_n (pc := 0) dX0_lossBy_0 rfl trivial ?_
    refine g_iload_n (pc := 1) dX0_lossBy_1 rfl ?_
    refine g_iload (pc := 2) dX0_lossBy_2 rfl ?_
    refine g_invSN_r (pc := 4) (As := [_, _, _]) dX0_lossBy_4 rfl (s_reachedFrom hk ha hn) rfl rfl lk_X0_46 rfl (nb rfl) ⟨nb rfl, nb rfl⟩ rfl ?_
    refine g_iload_n (pc := 7) dX0_lossBy_7 rfl ?_
    refine g_invSN_r (pc := 8) (As := [_, _]) dX0_lossBy_8 rfl (s_hasOne hb9) rfl rfl lk_X0_21 rfl (nb rfl) ⟨nb rfl, nb rfl⟩ rfl ?_
    refine g_if_eq (pc := 11) (tgt := 16) dX0_lossBy_11 rfl (fun h11 => absurd h11 (by rw [b1_0, hx]; decide)) (fun _ => ?_)
    refine g_iconst (pc := 14) (v := 0) dX0_lossBy_14 rfl ?_
    refine g_ireturn (pc := 15) dX0_lossBy_15 rfl rfl ?_
    exact ⟨rfl, rfl⟩
  · rw [if_neg hx]
    refine g_aload_n (pc := 0) dX0_lossBy_0 rfl trivial ?_
    refine g_iload_n (pc := 1) dX0_lossBy_1 rfl ?_
    refine g_iload (pc := 2) dX0_lossBy_2 rfl ?_
    refine g_invSN_r (pc := 4) (As := [_, _, _]) dX0_lossBy_4 rfl (s_reachedFrom hk ha hn) rfl rfl lk_X0_46 rfl (nb rfl) ⟨nb rfl, nb rfl⟩ rfl ?_
    refine g_iload_n (pc := 7) dX0_lossBy_7 rfl ?_
    refine g_invSN_r (pc := 8) (As := [_, _]) dX0_lossBy_8 rfl (s_hasOne hb9) rfl rfl lk_X0_21 rfl (nb rfl) ⟨nb rfl, nb rfl⟩ rfl ?_
    refine g_if_eq (pc := 11) (tgt := 16) dX0_lossBy_11 rfl (fun _ => ?_) (fun h11 => absurd (by rw [b1_0]; exact Bool.eq_false_iff.mpr hx) h11)
    refine g_aload_n (pc := 16) dX0_lossBy_16 rfl trivial ?_
    refine g_iload_n (pc := 17) dX0_lossBy_17 rfl ?_
    refine g_iload (pc := 18) dX0_lossBy_18 rfl ?_
    refine g_invV_r (pc := 20) (As := [_, _]) dX0_lossBy_20 rfl (s_nodesTo hS hc ha hn) rfl rfl (shK hS hc.1) rfl rfl lk_X0_49 rfl (nb rfl) ⟨nb rfl, nb rfl⟩ rfl ?_
    refine g_istore (pc := 23) (lv' := [(0, _), (1, _), (2, _), (3, _), (4, _), (5, _)]) dX0_lossBy_23 (nl rfl) rfl ?_
    refine g_iconst (pc := 25) (v := 0) dX0_lossBy_25 rfl ?_
    refine g_istore (pc := 26) (lv' := [(0, _), (1, _), (2, _), (3, _), (4, _), (5, _), (6, _)]) dX0_lossBy_26 (nl rfl) rfl ?_
    refine g_iconst (pc := 28) (v := 0) dX0_lossBy_28 rfl ?_
    refine g_istore (pc := 29) (lv' := [(0, _), (1, _), (2, _), (3, _), (4, _), (5, _), (6, _), (7, _)]) dX0_lossBy_29 (nl rfl) rfl ?_
    generalize nodesTo (mI M (c + 1)) a n = nodes
    refine go_loop (pc := 31) n (fun i => [(0, .ref c), (1, .ref r), (2, .int (nI a)), (3, .int (nI b)), (4, .int (nI n)), (5, .int nodes), (6, .int (lossF (mI M (c + 1)) (mI M r) nodes n i)), (7, .int (nI i))]) (fun _ => M) ⟨rfl, rfl, rfl, rfl, rfl, rfl, rfl, rfl, trivial⟩ rfl (fun i hi ih => ?_) ?_
    · refine g_iload (pc := 31) dX0_lossBy_31 rfl ?_
      refine g_iload (pc := 33) dX0_lossBy_33 rfl ?_
      refine g_icmp_ge (pc := 35) (tgt := 80) dX0_lossBy_35 rfl (fun h35 => absurd h35 (nI_ge hi (by omega))) (fun _ => ?_)
      refine g_iload (pc := 38) dX0_lossBy_38 rfl ?_
      refine g_iload (pc := 40) dX0_lossBy_40 rfl ?_
      refine g_invSN_r (pc := 42) (As := [_, _]) dX0_lossBy_42 rfl (s_hasOne (by omega)) rfl rfl lk_X0_21 rfl (nb rfl) ⟨nb rfl, nb rfl⟩ rfl ?_
      refine g_if_eq (pc := 45) (tgt := 74) dX0_lossBy_45 rfl (fun h45 => ?_) (fun h45 => ?_)
      · rw [b1_0] at h45
        refine g_iinc (pc := 74) (lv' := [(0, _), (1, _), (2, _), (3, _), (4, _), (5, _), (6, _), (7, _)]) dX0_lossBy_74 rfl (nI_1 _) (nl rfl) rfl ?_
        refine g_goto (pc := 77) (tgt := 31) dX0_lossBy_77 rfl ?_
        rw [lossF, if_neg (by rw [h45]; decide)] at ih
        exact ih
      · rw [b1_0, Bool.not_eq_false] at h45
        refine g_iload (pc := 48) dX0_lossBy_48 rfl ?_
        refine g_aload_n (pc := 50) dX0_lossBy_50 rfl trivial ?_
        refine g_getf (pc := 51) dX0_lossBy_51 fk_X0_9 (shK hS hc.1) (fv_arr (shR hS hc.2.2)) ?_
        refine g_iload (pc := 54) dX0_lossBy_54 rfl ?_
        refine g_iaload (pc := 56) dX0_lossBy_56 (shK hS hc.2.1) rfl (by omega) (nl rfl) ?_
        refine g_aload_n (pc := 57) dX0_lossBy_57 rfl trivial ?_
        refine g_iload (pc := 58) dX0_lossBy_58 rfl ?_
        refine g_iload (pc := 60) dX0_lossBy_60 rfl ?_
        refine g_invSN_r (pc := 62) (As := [_, _, _]) dX0_lossBy_62 rfl (s_reachedFrom hk (by omega) hn) rfl rfl lk_X0_46 rfl (nb rfl) ⟨nb rfl, nb rfl⟩ rfl ?_
        refine g_iconst (pc := 65) (v := (-1)) dX0_lossBy_65 rfl ?_
        refine g_ixor (pc := 66) dX0_lossBy_66 ?_
        refine g_iand (pc := 67) dX0_lossBy_67 ?_
        refine g_invS_r (pc := 68) (As := [_]) dX0_lossBy_68 rfl (s_bitCount) rfl rfl lk_X0_37 rfl (nb rfl) ⟨nb rfl, nb rfl⟩ rfl ?_
        refine g_iadd (pc := 71) dX0_lossBy_71 ?_
        refine g_istore (pc := 72) (lv' := [(0, _), (1, _), (2, _), (3, _), (4, _), (5, _), (6, _), (7, _)]) dX0_lossBy_72 (nl rfl) rfl ?_
        refine g_iinc (pc := 74) (lv' := [(0, _), (1, _), (2, _), (3, _), (4, _), (5, _), (6, _), (7, _)]) dX0_lossBy_74 rfl (nI_1 _) (nl rfl) rfl ?_
        refine g_goto (pc := 77) (tgt := 31) dX0_lossBy_77 rfl ?_
        rw [lossF, if_pos h45] at ih
        exact ih
    · refine g_iload (pc := 31) dX0_lossBy_31 rfl ?_
      refine g_iload (pc := 33) dX0_lossBy_33 rfl ?_
      refine g_icmp_ge (pc := 35) (tgt := 80) dX0_lossBy_35 rfl (fun _ => ?_) (fun h35 => absurd (nI_le (Nat.le_refl _) (by omega)) h35)
      refine g_iload (pc := 80) dX0_lossBy_80 rfl ?_
      refine g_ireturn (pc := 82) dX0_lossBy_82 rfl rfl ?_
      exact ⟨rfl, rfl⟩
end
end
-- 14.mult
section
/-! the multiplier: 187, its table 188, its two matrices 189, 190 -/
section
variable {l : Launch} {M : Mem}
theorem sI_swap {a b : Nat} {f g : Nat → Int32} (h : a ≠ b) : sI (sI M a f) b g = sI (sI M b g) a f := by simp only [sI, fs_comm _ _ _ h]
def jn (f x y : Int32) : Int32 := if f = 0 then x ||| y else x ^^^ y
theorem s_joined {x y : Int32} (hS : Shp M) : EvR l jX3_joined 0 0 0 0 [.ref 187, .int x, .int y] M (.inl (some (.int (jn (mI M 187 5) x y)))) M := by
  refine ev_intro rfl (nb rfl) rfl ?_
  refine g_aload_n (pc := 0) dX3_joined_0 rfl trivial ?_
  refine g_getf (pc := 1) (v := .int (mI _ _ _)) dX3_joined_1 fk_X3_32 (shK hS rfl) (fun _ => rfl) ?_
  refine g_if_eq (pc := 4) (tgt := 13) dX3_joined_4 rfl (fun h4 => ?_) (fun h4 => ?_)
  · refine g_iload_n (pc := 13) dX3_joined_13 rfl ?_
    refine g_iload_n (pc := 14) dX3_joined_14 rfl ?_
    refine g_ior (pc := 15) dX3_joined_15 ?_
    refine g_ireturn (pc := 16) dX3_joined_16 rfl rfl ?_
    exact ⟨by simp [jn, h4], rfl⟩
  · refine g_iload_n (pc := 7) dX3_joined_7 rfl ?_
    refine g_iload_n (pc := 8) dX3_joined_8 rfl ?_
    refine g_ixor (pc := 9) dX3_joined_9 ?_
    refine g_goto (pc := 10) (tgt := 16) dX3_joined_10 rfl ?_
    refine g_ireturn (pc := 16) dX3_joined_16 rfl rfl ?_
    exact ⟨by simp [jn, h4], rfl⟩
theorem pow_sh : ∀ c, c < 9 → (1 : Int32) <<< (nI c &&& 31) = nI (2 ^ c) := by decide +kernel
def ftIn (f : Int32) (tb : Nat → Int32) (v : Int32) (half : Nat) : Nat → Nat → Int32
  | 0 => tb
  | s + 1 => fun_set (ftIn f tb v half s) (half + s) (jn f (ftIn f tb v half s s) v)
def ftOut (f : Int32) (tb b : Nat → Int32) (start : Nat) : Nat → Nat → Int32
  | 0 => tb
  | c + 1 => ftIn f (ftOut f tb b start c) (b (start + c)) (2 ^ c) (2 ^ c)
theorem pow_le {c k : Nat} (h : c < k) : 2 ^ c + 2 ^ c ≤ 2 ^ k := by
  have : 2 ^ (c + 1) ≤ 2 ^ k := Nat.pow_le_pow_right (by decide) h
  rw [Nat.pow_succ] at this
  omega
theorem s_fillTable {r start cols : Nat} (hS : Shp M) (hk : (mK M)[r]? = some (kI 32)) (hr : r ≠ 188) (h1 : start + cols ≤ 32) (h2 : cols ≤ 8) : EvR l jX3_fillTable 1 30 0 0 [.ref 187, .ref r, .int (nI start), .int (nI cols)] M (.inl none) (pI (sI M 188 (ftOut (mI M 187 5) (mI M 188) (mI M r) start cols)) 187 6 (mI M 187 6 + (nI (2 ^ cols) - 1))) := by
  have h8 : 2 ^ cols ≤ 2 ^ 8 := Nat.pow_le_pow_right (by decide) h2
  refine ev_intro rfl (nb rfl) rfl ?_
  refine g_iconst (pc := 0) (v := 0) dX3_fillTable_0 rfl ?_
  refine g_istore (pc := 1) (lv' := [(0, _), (1, _), (2, _), (3, _), (4, _)]) dX3_fillTable_1 (nl rfl) rfl ?_
  refine go_loop (pc := 3) cols (fun c => [(0, .ref 187), (1, .ref r), (2, .int (nI start)), (3, .int (nI cols)), (4, .int (nI c))]) (fun c => sI M 188 (ftOut (mI M 187 5) (mI M 188) (mI M r) start c)) ⟨rfl, rfl, rfl, rfl, rfl, trivial⟩ (sI_id M 188).symm ?_ ?_
  · intro c hc ihc
    have hp := pow_le hc
    refine g_iload (pc := 3) dX3_fillTable_3 rfl ?_
    refine g_iload_n (pc := 5) dX3_fillTable_5 rfl ?_
    refine g_icmp_ge (pc := 6) (tgt := 64) dX3_fillTable_6 rfl (fun h6 => absurd h6 (nI_ge hc (by omega))) (fun _ => ?_)
    refine g_iconst (pc := 9) (v := 1) dX3_fillTable_9 rfl ?_
    refine g_iload (pc := 10) dX3_fillTable_10 rfl ?_
    refine g_ishl (pc := 12) dX3_fillTable_12 ?_
    rw [pow_sh c (by omega)]
    refine g_istore (pc := 13) (lv' := [(0, _), (1, _), (2, _), (3, _), (4, _), (5, _)]) dX3_fillTable_13 (nl rfl) rfl ?_
    refine g_iconst (pc := 15) (v := 0) dX3_fillTable_15 rfl ?_
    refine g_istore (pc := 16) (lv' := [(0, _), (1, _), (2, _), (3, _), (4, _), (5, _), (6, _)]) dX3_fillTable_16 (nl rfl) rfl ?_
    refine go_loop (pc := 18) (2 ^ c) (fun s => [(0, .ref 187), (1, .ref r), (2, .int (nI start)), (3, .int (nI cols)), (4, .int (nI c)), (5, .int (nI (2 ^ c))), (6, .int (nI s))]) (fun s => sI M 188 (ftIn (mI M 187 5) (ftOut (mI M 187 5) (mI M 188) (mI M r) start c) (mI M r (start + c)) (2 ^ c) s)) ⟨rfl, rfl, rfl, rfl, rfl, rfl, rfl, trivial⟩ rfl ?_ ?_
    · intro s hs ih
      have e1 := sI_self M 188 (ftIn (mI M 187 5) (ftOut (mI M 187 5) (mI M 188) (mI M r) start c) (mI M r (start + c)) (2 ^ c) s)
      have e2 : mI (sI M 188 (ftIn (mI M 187 5) (ftOut (mI M 187 5) (mI M 188) (mI M r) start c) (mI M r (start + c)) (2 ^ c) s)) r = mI M r := sI_ne hr
      refine g_iload (pc := 18) dX3_fillTable_18 rfl ?_
      refine g_iload (pc := 20) dX3_fillTable_20 rfl ?_
      refine g_icmp_ge (pc := 22) (tgt := 58) dX3_fillTable_22 rfl (fun h22 => absurd h22 (nI_ge hs (by omega))) (fun _ => ?_)
      refine g_aload_n (pc := 25) dX3_fillTable_25 rfl trivial ?_
      refine g_getf (pc := 26) dX3_fillTable_26 fk_X3_9 (shK hS rfl) (fv_arr (shR hS rfl)) ?_
      refine g_iload (pc := 29) dX3_fillTable_29 rfl ?_
      refine g_iload (pc := 31) dX3_fillTable_31 rfl ?_
      refine g_iadd (pc := 33) dX3_fillTable_33 ?_
      rw [nI_add]
      refine g_aload_n (pc := 34) dX3_fillTable_34 rfl trivial ?_
      refine g_aload_n (pc := 35) dX3_fillTable_35 rfl trivial ?_
      refine g_getf (pc := 36) dX3_fillTable_36 fk_X3_9 (shK hS rfl) (fv_arr (shR hS rfl)) ?_
      refine g_iload (pc := 39) dX3_fillTable_39 rfl ?_
      refine g_iaload (pc := 41) dX3_fillTable_41 (shK hS rfl) rfl (by omega : s < 256) (nl rfl) ?_
      refine g_aload_n (pc := 42) dX3_fillTable_42 rfl trivial ?_
      refine g_iload_n (pc := 43) dX3_fillTable_43 rfl ?_
      refine g_iload (pc := 44) dX3_fillTable_44 rfl ?_
      refine g_iadd (pc := 46) dX3_fillTable_46 ?_
      rw [nI_add]
      refine g_iaload (pc := 47) dX3_fillTable_47 hk rfl (by omega) (nl rfl) ?_
      rw [e1, e2]
      refine g_invV_r (pc := 48) (As := [_, _]) dX3_fillTable_48 rfl (s_joined hS) rfl rfl (shK hS rfl) rfl rfl lk_X3_64 rfl (nb rfl) ⟨nb rfl, nb rfl⟩ rfl ?_
      refine g_iastore (pc := 51) dX3_fillTable_51 (shK hS rfl) rfl (by omega : 2 ^ c + s < 256) (nl rfl) ?_
      refine g_iinc (pc := 52) (lv' := [(0, _), (1, _), (2, _), (3, _), (4, _), (5, _), (6, _)]) dX3_fillTable_52 rfl (nI_1 _) (nl rfl) rfl ?_
      refine g_goto (pc := 55) (tgt := 18) dX3_fillTable_55 rfl ?_
      exact go_cast (sI_st rfl) ih
    · refine g_iload (pc := 18) dX3_fillTable_18 rfl ?_
      refine g_iload (pc := 20) dX3_fillTable_20 rfl ?_
      refine g_icmp_ge (pc := 22) (tgt := 58) dX3_fillTable_22 rfl (fun _ => ?_) (fun h22 => absurd (nI_le (Nat.le_refl _) (by omega)) h22)
      refine g_iinc (pc := 58) (lv' := [(0, _), (1, _), (2, _), (3, _), (4, _), (5, _), (6, _)]) dX3_fillTable_58 rfl (nI_1 _) (nl rfl) rfl ?_
      refine g_goto (pc := 61) (tgt := 3) dX3_fillTable_61 rfl ?_
      exact g_sub (lv' := [(0, _), (1, _), (2, _), (3, _), (4, _)]) ⟨rfl, rfl, rfl, rfl, rfl, trivial⟩ ihc
  · refine g_iload (pc := 3) dX3_fillTable_3 rfl ?_
    refine g_iload_n (pc := 5) dX3_fillTable_5 rfl ?_
    refine g_icmp_ge (pc := 6) (tgt := 64) dX3_fillTable_6 rfl (fun _ => ?_) (fun h6 => absurd (nI_le (Nat.le_refl _) (by omega)) h6)
    refine g_aload_n (pc := 64) dX3_fillTable_64 rfl trivial ?_
    refine g_dup (pc := 65) dX3_fillTable_65 rfl ?_
    refine g_getf (pc := 66) (v := .int (mI _ _ _)) dX3_fillTable_66 fk_X3_36 (shK hS rfl) (fun _ => rfl) ?_
    refine g_iconst (pc := 69) (v := 1) dX3_fillTable_69 rfl ?_
    refine g_iload_n (pc := 70) dX3_fillTable_70 rfl ?_
    refine g_ishl (pc := 71) dX3_fillTable_71 ?_
    rw [pow_sh cols (by omega)]
    refine g_iconst (pc := 72) (v := 1) dX3_fillTable_72 rfl ?_
    refine g_isub (pc := 73) dX3_fillTable_73 ?_
    refine g_iadd (pc := 74) dX3_fillTable_74 ?_
    refine g_putI (pc := 75) dX3_fillTable_75 fp_X3_36 (shK hS rfl) ⟨rfl, rfl⟩ (fun _ _ _ _ => rfl) ?_
    refine g_return (pc := 78) dX3_fillTable_78 rfl ?_
    exact ⟨rfl, rfl⟩
def setI (x : Int32) (st c : Nat) : Int32 := us x (nI st) &&& lowM c
def setN (x : Int32) (st c : Nat) : Nat := (setI x st c).toNatClampNeg
theorem low8 : ∀ c, c < 9 → (lowM c).toBitVec.toNat < 256 := by decide +kernel
theorem setI_n (x : Int32) (st : Nat) {c : Nat} (hc : c ≤ 8) : setI x st c = nI (setN x st c) ∧ setN x st c < 256 := by
  have h : (setI x st c).toBitVec.toNat < 256 := by
    unfold setI
    rw [Int32.toBitVec_and, BitVec.toNat_and]
    exact Nat.lt_of_le_of_lt Nat.and_le_right (low8 c (by omega))
  have h2 : (setI x st c).toInt = ((setI x st c).toBitVec.toNat : Int) := by
    show (setI x st c).toBitVec.toInt = _
    rw [BitVec.toInt_eq_toNat_of_lt (by omega)]
  have h3 : (setI x st c).toInt = (setN x st c : Int) := by
    unfold setN Int32.toNatClampNeg
    show _ = (((setI x st c).toInt.toNat : Nat) : Int)
    omega
  refine ⟨?_, by omega⟩
  apply Int32.toInt_inj.mp
  rw [h3, nI_toInt (by omega)]
def teG (f : Int32) (tb a : Nat → Int32) (st c : Nat) (g : Nat → Int32) : Nat → Nat → Int32
  | 0 => g
  | i + 1 => if setI (a i) st c = 0 then teG f tb a st c g i else fun_set (teG f tb a st c g i) i (jn f (teG f tb a st c g i i) (tb (setN (a i) st c)))
def teC (a : Nat → Int32) (st c : Nat) (t : Int32) : Nat → Int32
  | 0 => t
  | i + 1 => if setI (a i) st c = 0 then teC a st c t i else teC a st c t i + 1
theorem s_takeEntries {ra ri st c n : Nat} (hS : Shp M) (hz : mI M 187 3 = nI n) (hn : n ≤ 32) (ha : (mK M)[ra]? = some (kI 32)) (hi9 : (mK M)[ri]? = some (kI 32)) (h1 : ra ≠ ri) (h2 : ra ≠ 187) (h3 : ri ≠ 187) (h4 : ri ≠ 188) (hc : c ≤ 8) : EvR l jX3_takeEntries 1 40 0 0 [.ref 187, .ref ra, .ref ri, .int (nI st), .int (nI c)] M (.inl none) (pI (sI M ri (teG (mI M 187 5) (mI M 188) (mI M ra) st c (mI M ri) n)) 187 7 (teC (mI M ra) st c (mI M 187 7) n)) := by
  refine ev_intro rfl (nb rfl) rfl ?_
  refine g_iconst (pc := 0) (v := 0) dX3_takeEntries_0 rfl ?_
  refine g_istore (pc := 1) (lv' := [(0, _), (1, _), (2, _), (3, _), (4, _), (5, _)]) dX3_takeEntries_1 (nl rfl) rfl ?_
  refine go_loop (pc := 3) n (fun i => [(0, .ref 187), (1, .ref ra), (2, .ref ri), (3, .int (nI st)), (4, .int (nI c)), (5, .int (nI i))]) (fun i => pI (sI M ri (teG (mI M 187 5) (mI M 188) (mI M ra) st c (mI M ri) i)) 187 7 (teC (mI M ra) st c (mI M 187 7) i)) ⟨rfl, rfl, rfl, rfl, rfl, rfl, trivial⟩ (by simp only [teG, teC, sI_id, pI, fs_same]) ?_ ?_
  · intro i hi ih
    generalize hg : teG (mI M 187 5) (mI M 188) (mI M ra) st c (mI M ri) i = g at ih ⊢
    generalize ht : teC (mI M ra) st c (mI M 187 7) i = t at ih ⊢
    have q1 : mI (pI (sI M ri g) 187 7 t) ra = mI M ra := by rw [pI_i h2, sI_ne h1]
    have q2 : mI (pI (sI M ri g) 187 7 t) ri = g := by rw [pI_i h3, sI_self]
    have q3 : mI (pI (sI M ri g) 187 7 t) 188 = mI M 188 := by rw [pI_i (by decide), sI_ne (Ne.symm h4)]
    have q4 : ∀ j, j ≠ 7 → mI (pI (sI M ri g) 187 7 t) 187 j = mI M 187 j := fun j hj => by rw [pI_k hj, sI_ne (Ne.symm h3)]
    obtain ⟨k1, k2⟩ := setI_n (mI M ra i) st hc
    refine g_iload (pc := 3) dX3_takeEntries_3 rfl ?_
    refine g_aload_n (pc := 5) dX3_takeEntries_5 rfl trivial ?_
    refine g_getf (pc := 6) (v := .int _) dX3_takeEntries_6 fk_X3_27 (shK hS rfl) (fun _ => congrArg Value.int (((q4 3 (by decide)).trans hz))) ?_
    refine g_icmp_ge (pc := 9) (tgt := 66) dX3_takeEntries_9 rfl (fun h9 => absurd h9 (nI_ge hi (by omega))) (fun _ => ?_)
    refine g_aload_n (pc := 12) dX3_takeEntries_12 rfl trivial ?_
    refine g_iload (pc := 13) dX3_takeEntries_13 rfl ?_
    refine g_iaload (pc := 15) dX3_takeEntries_15 ha rfl (by omega) (nl rfl) ?_
    rw [q1]
    refine g_iload_n (pc := 16) dX3_takeEntries_16 rfl ?_
    refine g_iushr (pc := 17) dX3_takeEntries_17 rfl ?_
    refine g_iload (pc := 18) dX3_takeEntries_18 rfl ?_
    refine g_invSN_r (pc := 20) (As := [_]) dX3_takeEntries_20 rfl (s_lowest (by omega)) rfl rfl lk_X3_67 rfl (nb rfl) ⟨nb rfl, nb rfl⟩ rfl ?_
    refine g_iand (pc := 23) dX3_takeEntries_23 ?_
    refine g_istore (pc := 24) (lv' := [(0, _), (1, _), (2, _), (3, _), (4, _), (5, _), (6, _)]) dX3_takeEntries_24 (nl rfl) rfl ?_
    refine g_iload (pc := 26) dX3_takeEntries_26 rfl ?_
    refine g_if_eq (pc := 28) (tgt := 60) dX3_takeEntries_28 rfl (fun h28 => ?_) (fun h28 => ?_)
    · refine g_iinc (pc := 60) (lv' := [(0, _), (1, _), (2, _), (3, _), (4, _), (5, _), (6, _)]) dX3_takeEntries_60 rfl (nI_1 _) (nl rfl) rfl ?_
      refine g_goto (pc := 63) (tgt := 3) dX3_takeEntries_63 rfl ?_
      have h28' : setI (mI M ra i) st c = 0 := h28
      rw [teG, if_pos h28', teC, if_pos h28', hg, ht] at ih
      exact g_sub (lv' := [(0, _), (1, _), (2, _), (3, _), (4, _), (5, _)]) ⟨rfl, rfl, rfl, rfl, rfl, rfl, trivial⟩ ih
    · refine g_aload_n (pc := 31) dX3_takeEntries_31 rfl trivial ?_
      refine g_iload (pc := 32) dX3_takeEntries_32 rfl ?_
      refine g_aload_n (pc := 34) dX3_takeEntries_34 rfl trivial ?_
      refine g_aload_n (pc := 35) dX3_takeEntries_35 rfl trivial ?_
      refine g_iload (pc := 36) dX3_takeEntries_36 rfl ?_
      refine g_iaload (pc := 38) dX3_takeEntries_38 hi9 rfl (by omega) (nl rfl) ?_
      rw [q2]
      refine g_aload_n (pc := 39) dX3_takeEntries_39 rfl trivial ?_
      refine g_getf (pc := 40) dX3_takeEntries_40 fk_X3_9 (shK hS rfl) (fv_arr (shR hS rfl)) ?_
      refine g_iload (pc := 43) dX3_takeEntries_43 rfl ?_
      refine g_iaload (pc := 45) dX3_takeEntries_45 (shK hS rfl) k1 k2 (nl rfl) ?_
      rw [q3]
      refine g_invV_r (pc := 46) (As := [_, _]) dX3_takeEntries_46 rfl (s_joined hS) rfl rfl (shK hS rfl) rfl rfl lk_X3_64 rfl (nb rfl) ⟨nb rfl, nb rfl⟩ rfl ?_
      refine g_iastore (pc := 49) dX3_takeEntries_49 hi9 rfl (by omega) (nl rfl) ?_
      refine g_aload_n (pc := 50) dX3_takeEntries_50 rfl trivial ?_
      refine g_dup (pc := 51) dX3_takeEntries_51 rfl ?_
      refine g_getf (pc := 52) (v := .int (mI _ _ _)) dX3_takeEntries_52 fk_X3_39 (shK hS rfl) (fun _ => rfl) ?_
      refine g_iconst (pc := 55) (v := 1) dX3_takeEntries_55 rfl ?_
      refine g_iadd (pc := 56) dX3_takeEntries_56 ?_
      refine g_putI (pc := 57) dX3_takeEntries_57 fp_X3_39 (shK hS rfl) ⟨rfl, rfl⟩ (fun _ _ _ _ => rfl) ?_
      refine g_iinc (pc := 60) (lv' := [(0, _), (1, _), (2, _), (3, _), (4, _), (5, _), (6, _)]) dX3_takeEntries_60 rfl (nI_1 _) (nl rfl) rfl ?_
      refine g_goto (pc := 63) (tgt := 3) dX3_takeEntries_63 rfl ?_
      have h28' : ¬ setI (mI M ra i) st c = 0 := h28
      rw [teG, if_neg h28', teC, if_neg h28', hg, ht] at ih
      refine go_cast ?_ (g_sub (lv' := [(0, _), (1, _), (2, _), (3, _), (4, _), (5, _)]) ⟨rfl, rfl, rfl, rfl, rfl, rfl, trivial⟩ ih)
      rw [q4 5 (by decide)]
      simp only [pI, sI, mI, fs_self, fs_twice, fs_comm _ _ _ h3, fs_ne _ _ h3, fs_ne _ _ (Ne.symm h3)]
  · have q5 : mI (pI (sI M ri (teG (mI M 187 5) (mI M 188) (mI M ra) st c (mI M ri) n)) 187 7 (teC (mI M ra) st c (mI M 187 7) n)) 187 3 = nI n := by rw [pI_k (by decide), sI_ne (Ne.symm h3)]; exact hz
    refine g_iload (pc := 3) dX3_takeEntries_3 rfl ?_
    refine g_aload_n (pc := 5) dX3_takeEntries_5 rfl trivial ?_
    refine g_getf (pc := 6) (v := .int _) dX3_takeEntries_6 fk_X3_27 (shK hS rfl) (fun _ => congrArg Value.int (q5)) ?_
    refine g_icmp_ge (pc := 9) (tgt := 66) dX3_takeEntries_9 rfl (fun _ => ?_) (fun h9 => absurd (nI_le (Nat.le_refl _) (by omega)) h9)
    refine g_return (pc := 66) dX3_takeEntries_66 rfl ?_
    exact ⟨rfl, rfl⟩
/-- what a product holds: the table, the rows, entries made, entries taken -/
abbrev PS : Type := (Nat → Int32) × (Nat → Int32) × Int32 × Int32
def mulStep (f : Int32) (n bl : Nat) (a b : Nat → Int32) (start : Nat) (s : PS) : PS :=
  (ftOut f s.1 b start (min bl (n - start)), teG f (ftOut f s.1 b start (min bl (n - start))) a start (min bl (n - start)) s.2.1 n, s.2.2.1 + (nI (2 ^ (min bl (n - start))) - 1), teC a start (min bl (n - start)) s.2.2.2 n)
def mulIt (f : Int32) (n bl : Nat) (a b tb g : Nat → Int32) : Nat → PS
  | 0 => (tb, wr g (fun _ => 0) n, 0, 0)
  | k + 1 => mulStep f n bl a b (k * bl) (mulIt f n bl a b tb g k)
def blocks (n bl : Nat) : Nat := (n + bl - 1) / bl
def mulMem (M : Mem) (ri : Nat) (s : PS) : Mem := sI (sI (sI M 188 s.1) ri s.2.1) 187 (fun_set (fun_set (mI M 187) 6 s.2.2.1) 7 s.2.2.2)
def mulEnd (M : Mem) (n bl ra rb ri : Nat) : PS := mulIt (mI M 187 5) n bl (mI M ra) (mI M rb) (mI M 188) (mI M ri) (blocks n bl)
theorem blocks_lt {n bl k : Nat} (hb9 : 0 < bl) (h : k < blocks n bl) : k * bl < n := by
  unfold blocks at h
  have h2 : k + 1 ≤ (n + bl - 1) / bl := h
  rw [Nat.le_div_iff_mul_le hb9, Nat.add_mul] at h2
  omega
theorem blocks_ge {n bl : Nat} (hb9 : 0 < bl) : n ≤ blocks n bl * bl ∧ blocks n bl * bl < n + bl := by
  unfold blocks
  have h1 := Nat.div_add_mod (n + bl - 1) bl
  have h2 := Nat.mod_lt (n + bl - 1) hb9
  rw [Nat.mul_comm] at h1
  omega
theorem s_multiply {n bl ra rb ri : Nat} (hS : Shp M) (hz : mI M 187 3 = nI n) (hbl : mI M 187 4 = nI bl) (hn : n ≤ 32) (hb1 : 1 ≤ bl) (hb8 : bl ≤ 8) (ha : (mK M)[ra]? = some (kI 32)) (hb9 : (mK M)[rb]? = some (kI 32)) (hi9 : (mK M)[ri]? = some (kI 32)) (h1 : ra ≠ ri) (h1' : rb ≠ ri) (h2 : ra ≠ 187) (h2' : rb ≠ 187) (h3 : ri ≠ 187) (h4 : ri ≠ 188) (h5 : ra ≠ 188) (h5' : rb ≠ 188) : EvR l jX3_multiply 2 70 0 0 [.ref 187, .ref ra, .ref rb, .ref ri] M (.inl none) (mulMem M ri (mulEnd M n bl ra rb ri)) := by
  refine ev_intro rfl (nb rfl) rfl ?_
  refine g_aload_n (pc := 0) dX3_multiply_0 rfl trivial ?_
  refine g_iconst (pc := 1) (v := 0) dX3_multiply_1 rfl ?_
  refine g_putI (pc := 2) dX3_multiply_2 fp_X3_36 (shK hS rfl) ⟨rfl, rfl⟩ (fun _ _ _ _ => rfl) ?_
  refine g_aload_n (pc := 5) dX3_multiply_5 rfl trivial ?_
  refine g_iconst (pc := 6) (v := 0) dX3_multiply_6 rfl ?_
  refine g_putI (pc := 7) dX3_multiply_7 fp_X3_39 (shK hS rfl) ⟨rfl, rfl⟩ (fun _ _ _ _ => rfl) ?_
  refine g_iconst (pc := 10) (v := 0) dX3_multiply_10 rfl ?_
  refine g_istore (pc := 11) (lv' := [(0, _), (1, _), (2, _), (3, _), (4, _)]) dX3_multiply_11 (nl rfl) rfl ?_
  refine go_loop (pc := 13) n (fun i => [(0, .ref 187), (1, .ref ra), (2, .ref rb), (3, .ref ri), (4, .int (nI i))]) (fun i => sI (pI (pI M 187 6 0) 187 7 0) ri (wr (mI M ri) (fun _ => 0) i)) ⟨rfl, rfl, rfl, rfl, rfl, trivial⟩ (sI_eq (by rw [wr_0, pI_i h3, pI_i h3])) ?_ ?_
  · intro i hi ih
    have e : mI (sI (pI (pI M 187 6 0) 187 7 0) ri (wr (mI M ri) (fun _ => 0) i)) 187 3 = nI n := by rw [sI_ne (Ne.symm h3), pI_k (by decide), pI_k (by decide)]; exact hz
    refine g_iload (pc := 13) dX3_multiply_13 rfl ?_
    refine g_aload_n (pc := 15) dX3_multiply_15 rfl trivial ?_
    refine g_getf (pc := 16) (v := .int _) dX3_multiply_16 fk_X3_27 (shK hS rfl) (fun _ => congrArg Value.int (e)) ?_
    refine g_icmp_ge (pc := 19) (tgt := 33) dX3_multiply_19 rfl (fun h19 => absurd h19 (nI_ge hi (by omega))) (fun _ => ?_)
    refine g_aload_n (pc := 22) dX3_multiply_22 rfl trivial ?_
    refine g_iload (pc := 23) dX3_multiply_23 rfl ?_
    refine g_iconst (pc := 25) (v := 0) dX3_multiply_25 rfl ?_
    refine g_iastore (pc := 26) dX3_multiply_26 hi9 rfl (by omega) (nl rfl) ?_
    refine g_iinc (pc := 27) (lv' := [(0, _), (1, _), (2, _), (3, _), (4, _)]) dX3_multiply_27 rfl (nI_1 _) (nl rfl) rfl ?_
    refine g_goto (pc := 30) (tgt := 13) dX3_multiply_30 rfl ?_
    exact go_cast (sI_st (wr_s _ _ i)) ih
  · have e : mI (sI (pI (pI M 187 6 0) 187 7 0) ri (wr (mI M ri) (fun _ => 0) n)) 187 3 = nI n := by rw [sI_ne (Ne.symm h3), pI_k (by decide), pI_k (by decide)]; exact hz
    refine g_iload (pc := 13) dX3_multiply_13 rfl ?_
    refine g_aload_n (pc := 15) dX3_multiply_15 rfl trivial ?_
    refine g_getf (pc := 16) (v := .int _) dX3_multiply_16 fk_X3_27 (shK hS rfl) (fun _ => congrArg Value.int (e)) ?_
    refine g_icmp_ge (pc := 19) (tgt := 33) dX3_multiply_19 rfl (fun _ => ?_) (fun h19 => absurd (nI_le (Nat.le_refl _) (by omega)) h19)
    refine g_iconst (pc := 33) (v := 0) dX3_multiply_33 rfl ?_
    refine g_istore (pc := 34) (lv' := [(0, _), (1, _), (2, _), (3, _), (4, _)]) dX3_multiply_34 (nl rfl) rfl ?_
    refine go_loop (pc := 36) (blocks n bl) (fun k => [(0, .ref 187), (1, .ref ra), (2, .ref rb), (3, .ref ri), (4, .int (nI (k * bl)))]) (fun k => mulMem M ri (mulIt (mI M 187 5) n bl (mI M ra) (mI M rb) (mI M 188) (mI M ri) k)) ⟨rfl, rfl, rfl, rfl, by rw [Nat.zero_mul]; rfl, trivial⟩ ?_ ?_ ?_
    · simp only [mulMem, mulIt]
      simp only [pI, sI, mI, fs_same, fs_self, fs_twice, fs_comm _ _ _ h3]
    · intro k hk9 ih
      have hlt := blocks_lt hb1 hk9
      rw [mulIt] at ih
      generalize mulIt (mI M 187 5) n bl (mI M ra) (mI M rb) (mI M 188) (mI M ri) k = s at ih ⊢
      obtain ⟨tb, g, e, t⟩ := s
      have z3 : mI (mulMem M ri (tb, g, e, t)) 187 3 = nI n := by simp only [mulMem, sI, mI, fs_self]; rw [fs_ne _ _ (by decide), fs_ne _ _ (by decide)]; exact hz
      have z4 : mI (mulMem M ri (tb, g, e, t)) 187 4 = nI bl := by simp only [mulMem, sI, mI, fs_self]; rw [fs_ne _ _ (by decide), fs_ne _ _ (by decide)]; exact hbl
      have z5 : mI (mulMem M ri (tb, g, e, t)) 187 5 = mI M 187 5 := by simp only [mulMem, sI, mI, fs_self]; rw [fs_ne _ _ (by decide), fs_ne _ _ (by decide)]
      have z6 : mI (mulMem M ri (tb, g, e, t)) 187 6 = e := by simp only [mulMem, sI, mI, fs_self]; rw [fs_ne _ _ (by decide), fs_self]
      have z7 : mI (mulMem M ri (tb, g, e, t)) 187 7 = t := by simp only [mulMem, sI, mI, fs_self]
      have za : mI (mulMem M ri (tb, g, e, t)) ra = mI M ra := by simp only [mulMem]; rw [sI_ne h2, sI_ne h1, sI_ne h5]
      have zb : mI (mulMem M ri (tb, g, e, t)) rb = mI M rb := by simp only [mulMem]; rw [sI_ne h2', sI_ne h1', sI_ne h5']
      have zi : mI (mulMem M ri (tb, g, e, t)) ri = g := by simp only [mulMem]; rw [sI_ne h3, sI_self]
      have zt : mI (mulMem M ri (tb, g, e, t)) 188 = tb := by simp only [mulMem]; rw [sI_ne (by decide), sI_ne (Ne.symm h4), sI_self]
      have hS1 : Shp (mulMem M ri (tb, g, e, t)) := hS
      have hmin : (if nI n - nI (k * bl) < nI bl then nI n - nI (k * bl) else nI bl) = nI (min bl (n - k * bl)) := by
        have e9 : nI n - nI (k * bl) = nI (n - k * bl) := by
          have h9 := nI_add (n - k * bl) (k * bl)
          rw [Nat.sub_add_cancel (by omega)] at h9
          rw [← h9, Int32.add_sub_cancel]
        rw [e9]
        by_cases h9 : n - k * bl < bl
        · rw [if_pos ((nI_ltI (by omega) (by omega)).mpr h9), Nat.min_eq_right (by omega)]
        · rw [if_neg (fun q => h9 ((nI_ltI (by omega) (by omega)).mp q)), Nat.min_eq_left (by omega)]
      generalize hmm : mulMem M ri (tb, g, e, t) = M0 at *
      have hc1 : k * bl + min bl (n - k * bl) ≤ 32 := by omega
      have hc2 : min bl (n - k * bl) ≤ 8 := by omega
      have hka : (mK M0)[ra]? = some (kI 32) := by rw [← hmm]; exact ha
      have hkb : (mK M0)[rb]? = some (kI 32) := by rw [← hmm]; exact hb9
      have hki : (mK M0)[ri]? = some (kI 32) := by rw [← hmm]; exact hi9
      refine g_iload (pc := 36) dX3_multiply_36 rfl ?_
      refine g_aload_n (pc := 38) dX3_multiply_38 rfl trivial ?_
      refine g_getf (pc := 39) (v := .int _) dX3_multiply_39 fk_X3_27 (shK hS1 rfl) (fun _ => congrArg Value.int (z3)) ?_
      refine g_icmp_ge (pc := 42) (tgt := 92) dX3_multiply_42 rfl (fun h42 => absurd h42 (nI_ge hlt (by omega))) (fun _ => ?_)
      refine g_aload_n (pc := 45) dX3_multiply_45 rfl trivial ?_
      refine g_getf (pc := 46) (v := .int _) dX3_multiply_46 fk_X3_31 (shK hS1 rfl) (fun _ => congrArg Value.int (z4)) ?_
      refine g_aload_n (pc := 49) dX3_multiply_49 rfl trivial ?_
      refine g_getf (pc := 50) (v := .int _) dX3_multiply_50 fk_X3_27 (shK hS1 rfl) (fun _ => congrArg Value.int (z3)) ?_
      refine g_iload (pc := 53) dX3_multiply_53 rfl ?_
      refine g_isub (pc := 55) dX3_multiply_55 ?_
      refine g_mmin (pc := 56) dX3_multiply_56 wd_1085 wd_430 wd_107 wd_431 (nb rfl) (nb rfl) ?_
      rw [hmin]
      refine g_istore (pc := 59) (lv' := [(0, _), (1, _), (2, _), (3, _), (4, _), (5, _)]) dX3_multiply_59 (nl rfl) rfl ?_
      refine g_aload_n (pc := 61) dX3_multiply_61 rfl trivial ?_
      refine g_aload_n (pc := 62) dX3_multiply_62 rfl trivial ?_
      refine g_iload (pc := 63) dX3_multiply_63 rfl ?_
      refine g_iload (pc := 65) dX3_multiply_65 rfl ?_
      refine g_invV_r (pc := 67) (As := [_, _, _]) dX3_multiply_67 rfl (s_fillTable hS1 hkb h5' hc1 hc2) rfl rfl (shK hS1 rfl) rfl rfl lk_X3_48 rfl (nb rfl) ⟨nb rfl, nb rfl⟩ rfl ?_
      refine g_aload_n (pc := 70) dX3_multiply_70 rfl trivial ?_
      refine g_aload_n (pc := 71) dX3_multiply_71 rfl trivial ?_
      refine g_aload_n (pc := 72) dX3_multiply_72 rfl trivial ?_
      refine g_iload (pc := 73) dX3_multiply_73 rfl ?_
      refine g_iload (pc := 75) dX3_multiply_75 rfl ?_
      refine g_invV_r (pc := 77) (As := [_, _, _, _]) dX3_multiply_77 rfl (s_takeEntries hS1 (by rw [pI_k (by decide), sI_ne (by decide)]; exact z3) hn hka hki h1 h2 h3 h4 hc2) rfl rfl (shK hS1 rfl) rfl rfl lk_X3_52 rfl (nb rfl) ⟨nb rfl, nb rfl⟩ rfl ?_
      refine g_iload (pc := 80) dX3_multiply_80 rfl ?_
      refine g_aload_n (pc := 82) dX3_multiply_82 rfl trivial ?_
      refine g_getf (pc := 83) (v := .int _) dX3_multiply_83 fk_X3_31 (shK hS1 rfl) (fun _ => congrArg Value.int ((show _ = nI bl by rw [pI_k (by decide), sI_ne (Ne.symm h3), pI_k (by decide), sI_ne (by decide)]; exact z4))) ?_
      refine g_iadd (pc := 86) dX3_multiply_86 ?_
      rw [nI_add, show k * bl + bl = (k + 1) * bl by rw [Nat.add_mul, Nat.one_mul]]
      refine g_istore (pc := 87) (lv' := [(0, _), (1, _), (2, _), (3, _), (4, _), (5, _)]) dX3_multiply_87 (nl rfl) rfl ?_
      refine g_goto (pc := 89) (tgt := 36) dX3_multiply_89 rfl ?_
      refine go_cast ?_ (g_sub (lv' := [(0, _), (1, _), (2, _), (3, _), (4, _)]) ⟨rfl, rfl, rfl, rfl, rfl, trivial⟩ ih)
      have y5 : mI (pI (sI M0 188 (ftOut (mI M0 187 5) (mI M0 188) (mI M0 rb) (k * bl) (min bl (n - k * bl)))) 187 6 (mI M0 187 6 + (nI (2 ^ min bl (n - k * bl)) - 1))) 187 5 = mI M 187 5 := by rw [pI_k (by decide), sI_ne (by decide)]; exact z5
      have y8 : mI (pI (sI M0 188 (ftOut (mI M0 187 5) (mI M0 188) (mI M0 rb) (k * bl) (min bl (n - k * bl)))) 187 6 (mI M0 187 6 + (nI (2 ^ min bl (n - k * bl)) - 1))) 188 = ftOut (mI M0 187 5) (mI M0 188) (mI M0 rb) (k * bl) (min bl (n - k * bl)) := by rw [pI_i (by decide), sI_self]
      have ya : mI (pI (sI M0 188 (ftOut (mI M0 187 5) (mI M0 188) (mI M0 rb) (k * bl) (min bl (n - k * bl)))) 187 6 (mI M0 187 6 + (nI (2 ^ min bl (n - k * bl)) - 1))) ra = mI M ra := by rw [pI_i h2, sI_ne h5]; exact za
      have yi : mI (pI (sI M0 188 (ftOut (mI M0 187 5) (mI M0 188) (mI M0 rb) (k * bl) (min bl (n - k * bl)))) 187 6 (mI M0 187 6 + (nI (2 ^ min bl (n - k * bl)) - 1))) ri = g := by rw [pI_i h3, sI_ne h4]; exact zi
      have y7 : mI (pI (sI M0 188 (ftOut (mI M0 187 5) (mI M0 188) (mI M0 rb) (k * bl) (min bl (n - k * bl)))) 187 6 (mI M0 187 6 + (nI (2 ^ min bl (n - k * bl)) - 1))) 187 7 = t := by rw [pI_k (by decide), sI_ne (by decide)]; exact z7
      rw [y5, y8, ya, yi, y7, z5, z6, zb, zt, ← hmm]
      refine mem_extI rfl rfl rfl rfl rfl rfl (fun i => ?_)
      simp only [mulMem, mulStep, pI, sI, mI]
      by_cases i1 : i = 187
      · subst i1
        funext j
        by_cases j7 : j = 7
        · subst j7; simp [fun_set, Ne.symm h3]
        · by_cases j6 : j = 6
          · subst j6; simp [fun_set, Ne.symm h3]
          · simp [fun_set, j7, j6, Ne.symm h3]
      · by_cases i2 : i = 188
        · subst i2; simp [fun_set, Ne.symm h4]
        · by_cases i3 : i = ri
          · subst i3; simp [fun_set, h3, h4]
          · simp [fun_set, i1, i2, i3]
    · have hge := blocks_ge (n := n) (bl := bl) hb1
      have z3 : mI (mulMem M ri (mulIt (mI M 187 5) n bl (mI M ra) (mI M rb) (mI M 188) (mI M ri) (blocks n bl))) 187 3 = nI n := by simp only [mulMem, sI, mI, fs_self]; rw [fs_ne _ _ (by decide), fs_ne _ _ (by decide)]; exact hz
      have hS1 : Shp (mulMem M ri (mulIt (mI M 187 5) n bl (mI M ra) (mI M rb) (mI M 188) (mI M ri) (blocks n bl))) := hS
      refine g_iload (pc := 36) dX3_multiply_36 rfl ?_
      refine g_aload_n (pc := 38) dX3_multiply_38 rfl trivial ?_
      refine g_getf (pc := 39) (v := .int _) dX3_multiply_39 fk_X3_27 (shK hS1 rfl) (fun _ => congrArg Value.int (z3)) ?_
      refine g_icmp_ge (pc := 42) (tgt := 92) dX3_multiply_42 rfl (fun _ => ?_) (fun h42 => absurd (nI_le hge.1 (by omega)) h42)
      refine g_return (pc := 92) dX3_multiply_92 rfl ?_
      exact ⟨rfl, rfl⟩
end
end
-- 15.raise
section
/-! powers -/
section
variable {l : Launch} {M : Mem}
def begMem (M : Mem) (f : Int32) : Mem := pI (pI (pI M 187 3 (mI M 3 1)) 187 4 (mI M 3 2)) 187 5 f
theorem s_begin {f : Int32} (hS : Shp M) (hf : k01 f) : EvR l jX3_begin 0 0 0 0 [.ref 187, .ref 3, .int f] M (.inl none) (begMem M f) := by
  refine ev_intro rfl (nb rfl) rfl ?_
  refine g_aload_n (pc := 0) dX3_begin_0 rfl trivial ?_
  refine g_aload_n (pc := 1) dX3_begin_1 rfl trivial ?_
  refine g_getf (pc := 2) (v := .int (mI _ _ _)) dX3_begin_2 fk_X3_21 (shK hS rfl) (fun _ => rfl) ?_
  refine g_putI (pc := 5) dX3_begin_5 fp_X3_27 (shK hS rfl) ⟨rfl, rfl⟩ (fun _ _ _ _ => rfl) ?_
  refine g_aload_n (pc := 8) dX3_begin_8 rfl trivial ?_
  refine g_aload_n (pc := 9) dX3_begin_9 rfl trivial ?_
  refine g_getf (pc := 10) (v := .int _) dX3_begin_10 fk_X3_28 (shK hS rfl) (fun _ => congrArg Value.int ((congrFun (pI_i (by decide)) 2))) ?_
  refine g_putI (pc := 13) dX3_begin_13 fp_X3_31 (shK hS rfl) ⟨rfl, rfl⟩ (fun _ _ _ _ => rfl) ?_
  refine g_aload_n (pc := 16) dX3_begin_16 rfl trivial ?_
  refine g_iload_n (pc := 17) dX3_begin_17 rfl ?_
  refine g_putI (pc := 18) dX3_begin_18 fp_X3_32 (shK hS rfl) (k01_n hf) (fun _ _ _ _ => rfl) ?_
  refine g_return (pc := 21) dX3_begin_21 rfl ?_
  exact ⟨rfl, rfl⟩
/-- a power under way: whether 190 holds it (else 189), the table, 189, 190, entries made, entries taken -/
abbrev RS : Type := Bool × (Nat → Int32) × (Nat → Int32) × (Nat → Int32) × Int32 × Int32
def rsMem (M : Mem) (s : RS) : Mem := sI (sI (sI (sI M 188 s.2.1) 189 s.2.2.1) 190 s.2.2.2.1) 187 (fun_set (fun_set (mI M 187) 6 s.2.2.2.2.1) 7 s.2.2.2.2.2)
def rsP (s : RS) : Nat := match s.1 with
  | true => 190
  | false => 189
def rsN (s : RS) : Nat := match s.1 with
  | true => 189
  | false => 190
/-- the power so far times itself, or a matrix -/
def rsMul (f : Int32) (n bl : Nat) (base : Option (Nat → Int32)) (s : RS) : RS := match s.1 with
  | false => let m := mulIt f n bl s.2.2.1 (base.getD s.2.2.1) s.2.1 s.2.2.2.1 (blocks n bl); (true, m.1, s.2.2.1, m.2.1, m.2.2.1, m.2.2.2)
  | true => let m := mulIt f n bl s.2.2.2.1 (base.getD s.2.2.2.1) s.2.1 s.2.2.1 (blocks n bl); (false, m.1, m.2.1, s.2.2.2.1, m.2.2.1, m.2.2.2)
def rsA (f : Int32) (n bl : Nat) (x : Int32) (b : Nat) (s : RS) : RS := if x >>> (nI b &&& 31) = 0 then s else rsMul f n bl none s
def rsB (f : Int32) (n bl : Nat) (base : Nat → Int32) (x : Int32) (b : Nat) (s : RS) : RS := if hb x b = true then rsMul f n bl (some base) s else s
def rsIt (f : Int32) (n bl : Nat) (base : Nat → Int32) (x : Int32) (s0 : RS) : Nat → RS
  | 0 => s0
  | i + 1 => rsB f n bl base x (19 - i) (rsA f n bl x (19 - i) (rsIt f n bl base x s0 i))
def rs0 (M : Mem) (n : Nat) : RS := (false, mI M 188, wr (mI M 189) bitI n, mI M 190, mI M 187 6, mI M 187 7)
theorem rs_mul {n bl rb : Nat} (s : RS) (base : Option (Nat → Int32)) (h2 : rb ≠ 187) (h3 : rb ≠ 188) (hrb : (base = none ∧ rb = rsP s) ∨ (base = some (mI M rb) ∧ rb ≠ 189 ∧ rb ≠ 190)) :
    mulMem (rsMem M s) (rsN s) (mulEnd (rsMem M s) n bl (rsP s) rb (rsN s)) = rsMem M (rsMul (mI M 187 5) n bl base s) := by
  obtain ⟨sw, tb, f1, f2, e, t⟩ := s
  have z5 : mI (rsMem M (sw, tb, f1, f2, e, t)) 187 5 = mI M 187 5 := by simp [rsMem, sI, mI, fun_set]
  have z1 : mI (rsMem M (sw, tb, f1, f2, e, t)) 189 = f1 := by simp [rsMem, sI, mI, fun_set]
  have z2 : mI (rsMem M (sw, tb, f1, f2, e, t)) 190 = f2 := by simp [rsMem, sI, mI, fun_set]
  have zt : mI (rsMem M (sw, tb, f1, f2, e, t)) 188 = tb := by simp [rsMem, sI, mI, fun_set]
  have zb : rb ≠ 189 → rb ≠ 190 → mI (rsMem M (sw, tb, f1, f2, e, t)) rb = mI M rb := fun a b => by simp [rsMem, sI, mI, fun_set, h2, h3, a, b]
  have fin : ∀ (sw' : Bool) (m : PS), (sw = false → mulMem (rsMem M (sw, tb, f1, f2, e, t)) 190 m = rsMem M (true, m.1, f1, m.2.1, m.2.2.1, m.2.2.2)) ∧ (sw = true → mulMem (rsMem M (sw, tb, f1, f2, e, t)) 189 m = rsMem M (false, m.1, m.2.1, f2, m.2.2.1, m.2.2.2)) := by
    intro sw' m
    constructor <;> intro _ <;> refine mem_extI rfl rfl rfl rfl rfl rfl (fun i => ?_) <;> simp only [mulMem, rsMem, sI, mI] <;> (
      by_cases i1 : i = 187
      · subst i1
        funext j
        by_cases j7 : j = 7
        · subst j7; simp [fun_set]
        · by_cases j6 : j = 6
          · subst j6; simp [fun_set]
          · simp [fun_set, j7, j6]
      · by_cases i2 : i = 188
        · subst i2; simp [fun_set]
        · by_cases i3 : i = 189
          · subst i3; simp [fun_set]
          · by_cases i4 : i = 190
            · subst i4; simp [fun_set]
            · simp [fun_set, i1, i2, i3, i4])
  rcases hrb with ⟨rfl, hr⟩ | ⟨rfl, hr1, hr2⟩
  · cases sw with
    | false =>
      simp only [rsP] at hr
      subst hr
      simp only [rsN, rsP, rsMul, mulEnd, z5, z1, z2, zt, Option.getD]
      exact (fin false _).1 rfl
    | true =>
      simp only [rsP] at hr
      subst hr
      simp only [rsN, rsP, rsMul, mulEnd, z5, z1, z2, zt, Option.getD]
      exact (fin false _).2 rfl
  · cases sw with
    | false =>
      simp only [rsN, rsP, rsMul, mulEnd, z5, z1, z2, zt, zb hr1 hr2, Option.getD]
      exact (fin false _).1 rfl
    | true =>
      simp only [rsN, rsP, rsMul, mulEnd, z5, z1, z2, zt, zb hr1 hr2, Option.getD]
      exact (fin false _).2 rfl
theorem rsMul_P (f : Int32) (n bl : Nat) (base : Option (Nat → Int32)) (s : RS) : rsP (rsMul f n bl base s) = rsN s ∧ rsN (rsMul f n bl base s) = rsP s := by
  obtain ⟨sw, tb, f1, f2, e, t⟩ := s
  cases sw <;> exact ⟨rfl, rfl⟩
theorem rs_get (s : RS) (j : Nat) (h : j ≠ 6) (h' : j ≠ 7) : mI (rsMem M s) 187 j = mI M 187 j := by simp [rsMem, sI, mI, fun_set, h, h']
theorem rs_ids (s : RS) : (rsP s = 189 ∨ rsP s = 190) ∧ (rsN s = 189 ∨ rsN s = 190) ∧ rsP s ≠ rsN s := by
  obtain ⟨sw, tb, f1, f2, e, t⟩ := s
  cases sw <;> simp [rsP, rsN]
theorem rs_lay (hS : Shp M) (s : RS) {i : Nat} (h : i = 189 ∨ i = 190) : (mK (rsMem M s))[i]? = some (kI 32) := by
  have hS' : Shp (rsMem M s) := hS
  rcases h with rfl | rfl
  · exact shK hS' rfl
  · exact shK hS' rfl
def raiseEnd (M : Mem) (n bl rb : Nat) (x : Int32) : RS := rsIt (mI M 187 5) n bl (mI M rb) x (rs0 M n) 20
theorem s_raise {n bl rb : Nat} {x : Int32} (hS : Shp M) (hz : mI M 187 3 = nI n) (hbl : mI M 187 4 = nI bl) (hn : n ≤ 32) (hb1 : 1 ≤ bl) (hb8 : bl ≤ 8) (hk9 : (mK M)[rb]? = some (kI 32)) (h2 : rb ≠ 187) (h3 : rb ≠ 188) (h4 : rb ≠ 189) (h5 : rb ≠ 190) : EvR l jX3_raise 3 100 0 0 [.ref 187, .ref rb, .int x] M (.inl (some (.ref (rsP (raiseEnd M n bl rb x))))) (rsMem M (raiseEnd M n bl rb x)) := by
  refine ev_intro rfl (nb rfl) rfl ?_
  refine g_aload_n (pc := 0) dX3_raise_0 rfl trivial ?_
  refine g_getf (pc := 1) dX3_raise_1 fk_X3_15 (shK hS rfl) (fv_arr (shR hS rfl)) ?_
  refine g_astore_n (pc := 4) (lv' := [(0, _), (1, _), (2, _), (3, _)]) dX3_raise_4 trivial (nl rfl) rfl ?_
  refine g_aload_n (pc := 5) dX3_raise_5 rfl trivial ?_
  refine g_getf (pc := 6) dX3_raise_6 fk_X3_18 (shK hS rfl) (fv_arr (shR hS rfl)) ?_
  refine g_astore (pc := 9) (lv' := [(0, _), (1, _), (2, _), (3, _), (4, _)]) dX3_raise_9 trivial (nl rfl) rfl ?_
  refine g_iconst (pc := 11) (v := 0) dX3_raise_11 rfl ?_
  refine g_istore (pc := 12) (lv' := [(0, _), (1, _), (2, _), (3, _), (4, _), (5, _)]) dX3_raise_12 (nl rfl) rfl ?_
  refine go_loop (pc := 14) n (fun i => [(0, .ref 187), (1, .ref rb), (2, .int x), (3, .ref 189), (4, .ref 190), (5, .int (nI i))]) (fun i => sI M 189 (wr (mI M 189) bitI i)) ⟨rfl, rfl, rfl, rfl, rfl, rfl, trivial⟩ (sI_eq (wr_0 _ _)) ?_ ?_
  · intro i hi ih
    have e : mI (sI M 189 (wr (mI M 189) bitI i)) 187 3 = nI n := by rw [sI_ne (by decide)]; exact hz
    refine g_iload (pc := 14) dX3_raise_14 rfl ?_
    refine g_aload_n (pc := 16) dX3_raise_16 rfl trivial ?_
    refine g_getf (pc := 17) (v := .int _) dX3_raise_17 fk_X3_27 (shK hS rfl) (fun _ => congrArg Value.int (e)) ?_
    refine g_icmp_ge (pc := 20) (tgt := 37) dX3_raise_20 rfl (fun h20 => absurd h20 (nI_ge hi (by omega))) (fun _ => ?_)
    refine g_aload_n (pc := 23) dX3_raise_23 rfl trivial ?_
    refine g_iload (pc := 24) dX3_raise_24 rfl ?_
    refine g_iconst (pc := 26) (v := 1) dX3_raise_26 rfl ?_
    refine g_iload (pc := 27) dX3_raise_27 rfl ?_
    refine g_ishl (pc := 29) dX3_raise_29 ?_
    refine g_iastore (pc := 30) dX3_raise_30 (shK hS rfl) rfl (by omega) (nl rfl) ?_
    refine g_iinc (pc := 31) (lv' := [(0, _), (1, _), (2, _), (3, _), (4, _), (5, _)]) dX3_raise_31 rfl (nI_1 _) (nl rfl) rfl ?_
    refine g_goto (pc := 34) (tgt := 14) dX3_raise_34 rfl ?_
    exact go_cast (sI_st (wr_s _ _ i)) ih
  · have e : mI (sI M 189 (wr (mI M 189) bitI n)) 187 3 = nI n := by rw [sI_ne (by decide)]; exact hz
    refine g_iload (pc := 14) dX3_raise_14 rfl ?_
    refine g_aload_n (pc := 16) dX3_raise_16 rfl trivial ?_
    refine g_getf (pc := 17) (v := .int _) dX3_raise_17 fk_X3_27 (shK hS rfl) (fun _ => congrArg Value.int (e)) ?_
    refine g_icmp_ge (pc := 20) (tgt := 37) dX3_raise_20 rfl (fun _ => ?_) (fun h20 => absurd (nI_le (Nat.le_refl _) (by omega)) h20)
    refine g_bipush (pc := 37) (v := 19) dX3_raise_37 rfl ?_
    refine g_istore (pc := 39) (lv' := [(0, _), (1, _), (2, _), (3, _), (4, _), (5, _)]) dX3_raise_39 (nl rfl) rfl ?_
    refine go_loop (pc := 41) 20 (fun i => [(0, .ref 187), (1, .ref rb), (2, .int x), (3, .ref (rsP (rsIt (mI M 187 5) n bl (mI M rb) x (rs0 M n) i))), (4, .ref (rsN (rsIt (mI M 187 5) n bl (mI M rb) x (rs0 M n) i))), (5, .int (nI (20 - i) - 1))]) (fun i => rsMem M (rsIt (mI M 187 5) n bl (mI M rb) x (rs0 M n) i)) ⟨rfl, rfl, rfl, rfl, rfl, rfl, trivial⟩ ?_ ?_ ?_
    · refine mem_extI rfl rfl rfl rfl rfl rfl (fun i => ?_)
      simp only [rsIt, rs0, rsMem, sI, mI]
      by_cases i1 : i = 187
      · subst i1
        funext j
        by_cases j7 : j = 7
        · subst j7; simp [fun_set]
        · by_cases j6 : j = 6
          · subst j6; simp [fun_set]
          · simp [fun_set, j7, j6]
      · by_cases i2 : i = 188
        · subst i2; simp [fun_set]
        · by_cases i3 : i = 189
          · subst i3; simp [fun_set]
          · by_cases i4 : i = 190
            · subst i4; simp [fun_set]
            · simp [fun_set, i1, i2, i3, i4]
    · intro i hi ih
      have hbit : nI (20 - i) - 1 = nI (19 - i) := by rw [show 20 - i = 19 - i + 1 by omega]; exact nI_pred _
      have hdec : nI (19 - i) + Int32.ofInt (-1) = nI (20 - (i + 1)) - 1 := by
        rw [show 20 - (i + 1) = 19 - i by omega]
        rw [show Int32.ofInt (-1) = -1 by decide +kernel]
        exact (Int32.sub_eq_add_neg _ _).symm
      rw [hbit]
      rw [rsIt] at ih
      generalize rsIt (mI M 187 5) n bl (mI M rb) x (rs0 M n) i = s at ih ⊢
      have p2 : ∀ s1 : RS, rsB (mI M 187 5) n bl (mI M rb) x (19 - i) s1 = rsB (mI M 187 5) n bl (mI M rb) x (19 - i) (rsA (mI M 187 5) n bl x (19 - i) s) → Go l jX3_raise 3 100 0 0 (fun r' M9 => r' = .inl (some (.ref (rsP (raiseEnd M n bl rb x)))) ∧ M9 = rsMem M (raiseEnd M n bl rb x)) 71 [(0, .ref 187), (1, .ref rb), (2, .int x), (3, .ref (rsP s1)), (4, .ref (rsN s1)), (5, .int (nI (19 - i)))] [] 0 0 (rsMem M s1) := by
        intro s1 hs1
        rw [← hs1] at ih
        have hS1 : Shp (rsMem M s1) := hS
        obtain ⟨i1, i2, i3⟩ := rs_ids s1
        by_cases hB : hb x (19 - i) = true
        · rw [rsB, if_pos hB] at ih
          refine g_iload_n (pc := 71) dX3_raise_71 rfl ?_
          refine g_iload (pc := 72) dX3_raise_72 rfl ?_
          refine g_invSN_r (pc := 74) (As := [_, _]) dX3_raise_74 rfl (s_hasOne (by omega)) rfl rfl lk_X3_60 rfl (nb rfl) ⟨nb rfl, nb rfl⟩ rfl ?_
          refine g_if_eq (pc := 77) (tgt := 98) dX3_raise_77 rfl (fun h77 => absurd h77 (by rw [b1_0, hB]; decide)) (fun _ => ?_)
          refine g_aload_n (pc := 80) dX3_raise_80 rfl trivial ?_
          refine g_aload_n (pc := 81) dX3_raise_81 rfl trivial ?_
          refine g_aload_n (pc := 82) dX3_raise_82 rfl trivial ?_
          refine g_aload (pc := 83) dX3_raise_83 rfl trivial ?_
          refine g_invV_r (pc := 85) (As := [_, _, _]) dX3_raise_85 rfl (s_multiply hS1 (by rw [rs_get _ _ (by decide) (by decide)]; exact hz) (by rw [rs_get _ _ (by decide) (by decide)]; exact hbl) hn hb1 hb8 (rs_lay hS _ i1) hk9 (rs_lay hS _ i2) i3 (by omega) (by omega) h2 (by omega) (by omega) (by omega) h3) rfl rfl (shK hS1 rfl) rfl rfl lk_X3_56 rfl (nb rfl) ⟨nb rfl, nb rfl⟩ rfl ?_
          rw [rs_mul s1 (some (mI M rb)) h2 h3 (Or.inr ⟨rfl, h4, h5⟩)]
          refine g_aload (pc := 88) dX3_raise_88 rfl trivial ?_
          refine g_astore (pc := 90) (lv' := [(0, _), (1, _), (2, _), (3, _), (4, _), (5, _), (6, _)]) dX3_raise_90 trivial (nl rfl) rfl ?_
          refine g_aload_n (pc := 92) dX3_raise_92 rfl trivial ?_
          refine g_astore (pc := 93) (lv' := [(0, _), (1, _), (2, _), (3, _), (4, _), (5, _), (6, _)]) dX3_raise_93 trivial (nl rfl) rfl ?_
          refine g_aload (pc := 95) dX3_raise_95 rfl trivial ?_
          refine g_astore_n (pc := 97) (lv' := [(0, _), (1, _), (2, _), (3, _), (4, _), (5, _), (6, _)]) dX3_raise_97 trivial (nl rfl) rfl ?_
          refine g_iinc (pc := 98) (lv' := [(0, _), (1, _), (2, _), (3, _), (4, _), (5, _), (6, _)]) dX3_raise_98 rfl hdec (nl rfl) rfl ?_
          refine g_goto (pc := 101) (tgt := 41) dX3_raise_101 rfl ?_
          obtain ⟨u1, u2⟩ := rsMul_P (mI M 187 5) n bl (some (mI M rb)) s1
          rw [u1, u2] at ih
          exact g_sub (lv' := [(0, _), (1, _), (2, _), (3, _), (4, _), (5, _)]) ⟨rfl, rfl, rfl, rfl, rfl, rfl, trivial⟩ ih
        · rw [rsB, if_neg hB] at ih
          refine g_iload_n (pc := 71) dX3_raise_71 rfl ?_
          refine g_iload (pc := 72) dX3_raise_72 rfl ?_
          refine g_invSN_r (pc := 74) (As := [_, _]) dX3_raise_74 rfl (s_hasOne (by omega)) rfl rfl lk_X3_60 rfl (nb rfl) ⟨nb rfl, nb rfl⟩ rfl ?_
          refine g_if_eq (pc := 77) (tgt := 98) dX3_raise_77 rfl (fun _ => ?_) (fun h77 => absurd (by rw [b1_0]; exact Bool.eq_false_iff.mpr hB) h77)
          refine g_iinc (pc := 98) (lv' := [(0, _), (1, _), (2, _), (3, _), (4, _), (5, _)]) dX3_raise_98 rfl hdec (nl rfl) rfl ?_
          refine g_goto (pc := 101) (tgt := 41) dX3_raise_101 rfl ?_
          exact ih
      have hS1 : Shp (rsMem M s) := hS
      obtain ⟨i1, i2, i3⟩ := rs_ids s
      by_cases hA : x >>> (nI (19 - i) &&& 31) = 0
      · refine g_iload (pc := 41) dX3_raise_41 rfl ?_
        refine g_if_lt (pc := 43) (tgt := 104) dX3_raise_43 rfl (fun h43 => absurd h43 (nI_pos (by omega))) (fun _ => ?_)
        refine g_iload_n (pc := 46) dX3_raise_46 rfl ?_
        refine g_iload (pc := 47) dX3_raise_47 rfl ?_
        refine g_ishr (pc := 49) dX3_raise_49 ?_
        refine g_if_eq (pc := 50) (tgt := 71) dX3_raise_50 rfl (fun _ => ?_) (fun h50 => absurd (hA) h50)
        exact p2 s (by rw [rsA, if_pos hA])
      · refine g_iload (pc := 41) dX3_raise_41 rfl ?_
        refine g_if_lt (pc := 43) (tgt := 104) dX3_raise_43 rfl (fun h43 => absurd h43 (nI_pos (by omega))) (fun _ => ?_)
        refine g_iload_n (pc := 46) dX3_raise_46 rfl ?_
        refine g_iload (pc := 47) dX3_raise_47 rfl ?_
        refine g_ishr (pc := 49) dX3_raise_49 ?_
        refine g_if_eq (pc := 50) (tgt := 71) dX3_raise_50 rfl (fun h50 => absurd h50 (hA)) (fun _ => ?_)
        refine g_aload_n (pc := 53) dX3_raise_53 rfl trivial ?_
        refine g_aload_n (pc := 54) dX3_raise_54 rfl trivial ?_
        refine g_aload_n (pc := 55) dX3_raise_55 rfl trivial ?_
        refine g_aload (pc := 56) dX3_raise_56 rfl trivial ?_
        refine g_invV_r (pc := 58) (As := [_, _, _]) dX3_raise_58 rfl (s_multiply hS1 (by rw [rs_get _ _ (by decide) (by decide)]; exact hz) (by rw [rs_get _ _ (by decide) (by decide)]; exact hbl) hn hb1 hb8 (rs_lay hS _ i1) (rs_lay hS _ i1) (rs_lay hS _ i2) i3 i3 (by omega) (by omega) (by omega) (by omega) (by omega) (by omega)) rfl rfl (shK hS1 rfl) rfl rfl lk_X3_56 rfl (nb rfl) ⟨nb rfl, nb rfl⟩ rfl ?_
        rw [rs_mul s none (by omega) (by omega) (Or.inl ⟨rfl, rfl⟩)]
        refine g_aload (pc := 61) dX3_raise_61 rfl trivial ?_
        refine g_astore (pc := 63) (lv' := [(0, _), (1, _), (2, _), (3, _), (4, _), (5, _), (6, _)]) dX3_raise_63 trivial (nl rfl) rfl ?_
        refine g_aload_n (pc := 65) dX3_raise_65 rfl trivial ?_
        refine g_astore (pc := 66) (lv' := [(0, _), (1, _), (2, _), (3, _), (4, _), (5, _), (6, _)]) dX3_raise_66 trivial (nl rfl) rfl ?_
        refine g_aload (pc := 68) dX3_raise_68 rfl trivial ?_
        refine g_astore_n (pc := 70) (lv' := [(0, _), (1, _), (2, _), (3, _), (4, _), (5, _), (6, _)]) dX3_raise_70 trivial (nl rfl) rfl ?_
        have h9 := p2 (rsMul (mI M 187 5) n bl none s) (by rw [rsA, if_neg hA])
        obtain ⟨u1, u2⟩ := rsMul_P (mI M 187 5) n bl none s
        rw [u1, u2] at h9
        exact g_sub (lv' := [(0, _), (1, _), (2, _), (3, _), (4, _), (5, _)]) ⟨rfl, rfl, rfl, rfl, rfl, rfl, trivial⟩ h9
    · refine g_iload (pc := 41) dX3_raise_41 rfl ?_
      refine g_if_lt (pc := 43) (tgt := 104) dX3_raise_43 rfl (fun _ => ?_) (fun h43 => absurd (by decide) h43)
      refine g_aload_n (pc := 104) dX3_raise_104 rfl trivial ?_
      refine g_areturn (pc := 105) dX3_raise_105 rfl (Or.inr ⟨_, rfl⟩) ?_
      exact ⟨rfl, rfl⟩
end
end
-- 16.elim
section
/-! elimination: 191, left 192, right 193, pivots 194 -/
section
variable {l : Launch} {M : Mem}
/-- left, right, pivots, how many -/
abbrev ES : Type := (Nat → Int32) × (Nat → Int32) × (Nat → Int32) × Nat
def elMem (M : Mem) (s : ES) : Mem := sI (sI (sI (sI M 192 s.1) 193 s.2.1) 194 s.2.2.1) 191 (fun_set (mI M 191) 3 (nI s.2.2.2))
theorem el_l (s : ES) : mI (elMem M s) 192 = s.1 := by simp [elMem, sI, mI, fun_set]
theorem el_r (s : ES) : mI (elMem M s) 193 = s.2.1 := by simp [elMem, sI, mI, fun_set]
theorem el_p (s : ES) : mI (elMem M s) 194 = s.2.2.1 := by simp [elMem, sI, mI, fun_set]
theorem el_c (s : ES) : mI (elMem M s) 191 3 = nI s.2.2.2 := by simp [elMem, sI, mI, fun_set]
theorem el_ne (s : ES) {i : Nat} (h : i < 191 ∨ 194 < i) : mI (elMem M s) i = mI M i := by
  have h1 : i ≠ 191 := by omega
  have h2 : i ≠ 192 := by omega
  have h3 : i ≠ 193 := by omega
  have h4 : i ≠ 194 := by omega
  simp [elMem, sI, mI, fun_set, h1, h2, h3, h4]
theorem el_S (hS : Shp M) (s : ES) : Shp (elMem M s) := hS
theorem el_setL (s : ES) (f : Nat → Int32) : sI (elMem M s) 192 f = elMem M (f, s.2) := by
  refine mem_extI rfl rfl rfl rfl rfl rfl (fun i => ?_)
  simp only [elMem, sI, mI]
  by_cases h : i = 192
  · subst h; simp [fun_set]
  · simp [fun_set, h]
theorem el_setR (s : ES) (f : Nat → Int32) : sI (elMem M s) 193 f = elMem M (s.1, f, s.2.2) := by
  refine mem_extI rfl rfl rfl rfl rfl rfl (fun i => ?_)
  simp only [elMem, sI, mI]
  by_cases h : i = 193
  · subst h; simp [fun_set]
  · simp [fun_set, h]
theorem el_setP (s : ES) (f : Nat → Int32) : sI (elMem M s) 194 f = elMem M (s.1, s.2.1, f, s.2.2.2) := by
  refine mem_extI rfl rfl rfl rfl rfl rfl (fun i => ?_)
  simp only [elMem, sI, mI]
  by_cases h : i = 194
  · subst h; simp [fun_set]
  · simp [fun_set, h]
theorem el_setC (s : ES) (c : Nat) : sI (elMem M s) 191 (fun_set (mI (elMem M s) 191) 3 (nI c)) = elMem M (s.1, s.2.1, s.2.2.1, c) := by
  refine mem_extI rfl rfl rfl rfl rfl rfl (fun i => ?_)
  simp only [elMem, pI, sI, mI]
  by_cases h : i = 191
  · subst h
    funext j
    by_cases h3 : j = 3 <;> simp [fun_set, h3]
  · simp [fun_set, h]
def rnt (lf : Nat → Int32) (c : Nat) : Nat → Nat → Option Nat
  | 0, _ => none
  | d + 1, r => if hb (lf r) c = true then some r else rnt lf c d (r + 1)
def oI (o : Option Nat) : Int32 := match o with
  | some r => nI r
  | none => -1
theorem rnt_lt (lf : Nat → Int32) (c : Nat) : ∀ (d r q : Nat), rnt lf c d r = some q → r ≤ q ∧ q < r + d
  | 0, r, q, h => by cases h
  | d + 1, r, q, h => by
    unfold rnt at h
    split at h
    · cases h; omega
    · have := rnt_lt lf c d (r + 1) q h; omega
theorem s_rowNotTaken {s : ES} {c n : Nat} (hS : Shp M) (hc : c < 32) (hn : n ≤ 32) (hp : s.2.2.2 ≤ n) : EvR l jX1_rowNotTaken 1 30 0 0 [.ref 191, .int (nI c), .int (nI n)] (elMem M s) (.inl (some (.int (oI (rnt s.1 c (n - s.2.2.2) s.2.2.2))))) (elMem M s) := by
  have hS1 : Shp (elMem M s) := hS
  obtain ⟨S, hs⟩ : ∃ S, S = rnt s.1 c (n - s.2.2.2) s.2.2.2 := ⟨_, rfl⟩
  rw [← hs]
  refine ev_intro rfl (nb rfl) rfl ?_
  refine g_aload_n (pc := 0) dX1_rowNotTaken_0 rfl trivial ?_
  refine g_getf (pc := 1) (v := .int _) dX1_rowNotTaken_1 fk_X1_25 (shK hS1 rfl) (fun _ => congrArg Value.int ((el_c s))) ?_
  refine g_istore_n (pc := 4) (lv' := [(0, _), (1, _), (2, _), (3, _)]) dX1_rowNotTaken_4 (nl rfl) rfl ?_
  refine go_while (pc := 5) (σ := Nat) (fun r => r ≤ n ∧ rnt s.1 c (n - r) r = S) (fun r => n - r) (fun r => [(0, .ref 191), (1, .int (nI c)), (2, .int (nI n)), (3, .int (nI r))]) (fun _ => elMem M s) s.2.2.2 ⟨rfl, rfl, rfl, rfl, trivial⟩ rfl ⟨hp, hs.symm⟩ ?_
  rintro r ⟨h1, h2⟩ ih
  by_cases hr : r < n
  · rw [show n - r = (n - (r + 1)) + 1 by omega, rnt] at h2
    refine g_iload_n (pc := 5) dX1_rowNotTaken_5 rfl ?_
    refine g_iload_n (pc := 6) dX1_rowNotTaken_6 rfl ?_
    refine g_icmp_ge (pc := 7) (tgt := 31) dX1_rowNotTaken_7 rfl (fun h7 => absurd h7 (nI_ge hr (by omega))) (fun _ => ?_)
    refine g_aload_n (pc := 10) dX1_rowNotTaken_10 rfl trivial ?_
    refine g_getf (pc := 11) dX1_rowNotTaken_11 fk_X1_9 (shK hS1 rfl) (fv_arr (shR hS1 rfl)) ?_
    refine g_iload_n (pc := 14) dX1_rowNotTaken_14 rfl ?_
    refine g_iaload (pc := 15) dX1_rowNotTaken_15 (shK hS1 rfl) rfl (by omega) (nl rfl) ?_
    rw [el_l]
    refine g_iload_n (pc := 16) dX1_rowNotTaken_16 rfl ?_
    refine g_invSN_r (pc := 17) (As := [_, _]) dX1_rowNotTaken_17 rfl (s_hasOne hc) rfl rfl lk_X1_47 rfl (nb rfl) ⟨nb rfl, nb rfl⟩ rfl ?_
    refine g_if_eq (pc := 20) (tgt := 25) dX1_rowNotTaken_20 rfl (fun h20 => ?_) (fun h20 => ?_)
    · rw [b1_0] at h20
      rw [if_neg (by rw [h20]; decide)] at h2
      refine g_iinc (pc := 25) (lv' := [(0, _), (1, _), (2, _), (3, _)]) dX1_rowNotTaken_25 rfl (nI_1 _) (nl rfl) rfl ?_
      refine g_goto (pc := 28) (tgt := 5) dX1_rowNotTaken_28 rfl ?_
      exact ih (r + 1) ⟨by omega, h2⟩ (by omega)
    · rw [b1_0, Bool.not_eq_false] at h20
      rw [if_pos h20] at h2
      refine g_iload_n (pc := 23) dX1_rowNotTaken_23 rfl ?_
      refine g_ireturn (pc := 24) dX1_rowNotTaken_24 rfl rfl ?_
      exact ⟨by rw [← h2]; rfl, rfl⟩
  · have hr' : r = n := by omega
    subst hr'
    refine g_iload_n (pc := 5) dX1_rowNotTaken_5 rfl ?_
    refine g_iload_n (pc := 6) dX1_rowNotTaken_6 rfl ?_
    refine g_icmp_ge (pc := 7) (tgt := 31) dX1_rowNotTaken_7 rfl (fun _ => ?_) (fun h7 => absurd (nI_le (Nat.le_refl _) (by omega)) h7)
    refine g_iconst (pc := 31) (v := (-1)) dX1_rowNotTaken_31 rfl ?_
    refine g_ireturn (pc := 32) dX1_rowNotTaken_32 rfl rfl ?_
    exact ⟨by rw [← h2, Nat.sub_self]; rfl, rfl⟩
def swp (f : Nat → Int32) (a b : Nat) : Nat → Int32 := fun_set (fun_set f a (f b)) b (f a)
theorem s_swapRows {s : ES} {a b : Nat} (hS : Shp M) (ha : a < 32) (hb9 : b < 32) : EvR l jX1_swapRows 0 0 0 0 [.ref 191, .int (nI a), .int (nI b)] (elMem M s) (.inl none) (elMem M (swp s.1 a b, swp s.2.1 a b, s.2.2)) := by
  have hS1 : Shp (elMem M s) := hS
  refine ev_intro rfl (nb rfl) rfl ?_
  refine g_aload_n (pc := 0) dX1_swapRows_0 rfl trivial ?_
  refine g_getf (pc := 1) dX1_swapRows_1 fk_X1_9 (shK hS1 rfl) (fv_arr (shR hS1 rfl)) ?_
  refine g_iload_n (pc := 4) dX1_swapRows_4 rfl ?_
  refine g_iaload (pc := 5) dX1_swapRows_5 (shK hS1 rfl) rfl (by omega) (nl rfl) ?_
  rw [el_l]
  refine g_istore_n (pc := 6) (lv' := [(0, _), (1, _), (2, _), (3, _)]) dX1_swapRows_6 (nl rfl) rfl ?_
  refine g_aload_n (pc := 7) dX1_swapRows_7 rfl trivial ?_
  refine g_getf (pc := 8) dX1_swapRows_8 fk_X1_9 (shK hS1 rfl) (fv_arr (shR hS1 rfl)) ?_
  refine g_iload_n (pc := 11) dX1_swapRows_11 rfl ?_
  refine g_aload_n (pc := 12) dX1_swapRows_12 rfl trivial ?_
  refine g_getf (pc := 13) dX1_swapRows_13 fk_X1_9 (shK hS1 rfl) (fv_arr (shR hS1 rfl)) ?_
  refine g_iload_n (pc := 16) dX1_swapRows_16 rfl ?_
  refine g_iaload (pc := 17) dX1_swapRows_17 (shK hS1 rfl) rfl (by omega) (nl rfl) ?_
  rw [el_l]
  refine g_iastore (pc := 18) dX1_swapRows_18 (shK hS1 rfl) rfl (by omega) (nl rfl) ?_
  rw [el_l, el_setL]
  refine g_aload_n (pc := 19) dX1_swapRows_19 rfl trivial ?_
  refine g_getf (pc := 20) dX1_swapRows_20 fk_X1_9 (shK hS1 rfl) (fv_arr (shR hS1 rfl)) ?_
  refine g_iload_n (pc := 23) dX1_swapRows_23 rfl ?_
  refine g_iload_n (pc := 24) dX1_swapRows_24 rfl ?_
  refine g_iastore (pc := 25) dX1_swapRows_25 (shK hS1 rfl) rfl (by omega) (nl rfl) ?_
  rw [el_l, el_setL]
  refine g_aload_n (pc := 26) dX1_swapRows_26 rfl trivial ?_
  refine g_getf (pc := 27) dX1_swapRows_27 fk_X1_15 (shK hS1 rfl) (fv_arr (shR hS1 rfl)) ?_
  refine g_iload_n (pc := 30) dX1_swapRows_30 rfl ?_
  refine g_iaload (pc := 31) dX1_swapRows_31 (shK hS1 rfl) rfl (by omega) (nl rfl) ?_
  rw [el_r]
  refine g_istore (pc := 32) (lv' := [(0, _), (1, _), (2, _), (3, _), (4, _)]) dX1_swapRows_32 (nl rfl) rfl ?_
  refine g_aload_n (pc := 34) dX1_swapRows_34 rfl trivial ?_
  refine g_getf (pc := 35) dX1_swapRows_35 fk_X1_15 (shK hS1 rfl) (fv_arr (shR hS1 rfl)) ?_
  refine g_iload_n (pc := 38) dX1_swapRows_38 rfl ?_
  refine g_aload_n (pc := 39) dX1_swapRows_39 rfl trivial ?_
  refine g_getf (pc := 40) dX1_swapRows_40 fk_X1_15 (shK hS1 rfl) (fv_arr (shR hS1 rfl)) ?_
  refine g_iload_n (pc := 43) dX1_swapRows_43 rfl ?_
  refine g_iaload (pc := 44) dX1_swapRows_44 (shK hS1 rfl) rfl (by omega) (nl rfl) ?_
  rw [el_r]
  refine g_iastore (pc := 45) dX1_swapRows_45 (shK hS1 rfl) rfl (by omega) (nl rfl) ?_
  rw [el_r, el_setR]
  refine g_aload_n (pc := 46) dX1_swapRows_46 rfl trivial ?_
  refine g_getf (pc := 47) dX1_swapRows_47 fk_X1_15 (shK hS1 rfl) (fv_arr (shR hS1 rfl)) ?_
  refine g_iload_n (pc := 50) dX1_swapRows_50 rfl ?_
  refine g_iload (pc := 51) dX1_swapRows_51 rfl ?_
  refine g_iastore (pc := 53) dX1_swapRows_53 (shK hS1 rfl) rfl (by omega) (nl rfl) ?_
  rw [el_r, el_setR]
  refine g_return (pc := 54) dX1_swapRows_54 rfl ?_
  exact ⟨rfl, rfl⟩
def clG (t c : Nat) (lf rt : Nat → Int32) : Nat → (Nat → Int32) × (Nat → Int32)
  | 0 => (lf, rt)
  | i + 1 => if i ≠ t ∧ hb ((clG t c lf rt i).1 i) c = true then (fun_set (clG t c lf rt i).1 i ((clG t c lf rt i).1 i ^^^ (clG t c lf rt i).1 t), fun_set (clG t c lf rt i).2 i ((clG t c lf rt i).2 i ^^^ (clG t c lf rt i).2 t)) else clG t c lf rt i
theorem s_clearOthers {s : ES} {t c n : Nat} (hS : Shp M) (ht : t < 32) (hc : c < 32) (hn : n ≤ 32) : EvR l jX1_clearOthers 1 30 0 0 [.ref 191, .int (nI t), .int (nI c), .int (nI n)] (elMem M s) (.inl none) (elMem M ((clG t c s.1 s.2.1 n).1, (clG t c s.1 s.2.1 n).2, s.2.2)) := by
  refine ev_intro rfl (nb rfl) rfl ?_
  refine g_iconst (pc := 0) (v := 0) dX1_clearOthers_0 rfl ?_
  refine g_istore (pc := 1) (lv' := [(0, _), (1, _), (2, _), (3, _), (4, _)]) dX1_clearOthers_1 (nl rfl) rfl ?_
  refine go_loop (pc := 3) n (fun i => [(0, .ref 191), (1, .int (nI t)), (2, .int (nI c)), (3, .int (nI n)), (4, .int (nI i))]) (fun i => elMem M ((clG t c s.1 s.2.1 i).1, (clG t c s.1 s.2.1 i).2, s.2.2)) ⟨rfl, rfl, rfl, rfl, rfl, trivial⟩ rfl ?_ ?_
  · intro i hi ih
    have hS1 : Shp (elMem M ((clG t c s.1 s.2.1 i).1, (clG t c s.1 s.2.1 i).2, s.2.2)) := hS
    rw [clG] at ih
    refine g_iload (pc := 3) dX1_clearOthers_3 rfl ?_
    refine g_iload_n (pc := 5) dX1_clearOthers_5 rfl ?_
    refine g_icmp_ge (pc := 6) (tgt := 67) dX1_clearOthers_6 rfl (fun h6 => absurd h6 (nI_ge hi (by omega))) (fun _ => ?_)
    refine g_iload (pc := 9) dX1_clearOthers_9 rfl ?_
    refine g_iload_n (pc := 11) dX1_clearOthers_11 rfl ?_
    refine g_icmp_eq (pc := 12) (tgt := 61) dX1_clearOthers_12 rfl (fun h12 => ?_) (fun h12 => ?_)
    · rw [if_neg (fun h => h.1 ((nI_eq (by omega) (by omega)).mp h12))] at ih
      refine g_iinc (pc := 61) (lv' := [(0, _), (1, _), (2, _), (3, _), (4, _)]) dX1_clearOthers_61 rfl (nI_1 _) (nl rfl) rfl ?_
      refine g_goto (pc := 64) (tgt := 3) dX1_clearOthers_64 rfl ?_
      exact ih
    · have h12' : i ≠ t := fun h => h12 (by rw [h])
      refine g_aload_n (pc := 15) dX1_clearOthers_15 rfl trivial ?_
      refine g_getf (pc := 16) dX1_clearOthers_16 fk_X1_9 (shK hS1 rfl) (fv_arr (shR hS1 rfl)) ?_
      refine g_iload (pc := 19) dX1_clearOthers_19 rfl ?_
      refine g_iaload (pc := 21) dX1_clearOthers_21 (shK hS1 rfl) rfl (by omega) (nl rfl) ?_
      rw [el_l]
      refine g_iload_n (pc := 22) dX1_clearOthers_22 rfl ?_
      refine g_invSN_r (pc := 23) (As := [_, _]) dX1_clearOthers_23 rfl (s_hasOne hc) rfl rfl lk_X1_47 rfl (nb rfl) ⟨nb rfl, nb rfl⟩ rfl ?_
      refine g_if_eq (pc := 26) (tgt := 61) dX1_clearOthers_26 rfl (fun h26 => ?_) (fun h26 => ?_)
      · rw [b1_0] at h26
        rw [if_neg (fun h => absurd (h26.symm.trans h.2) (by decide))] at ih
        refine g_iinc (pc := 61) (lv' := [(0, _), (1, _), (2, _), (3, _), (4, _)]) dX1_clearOthers_61 rfl (nI_1 _) (nl rfl) rfl ?_
        refine g_goto (pc := 64) (tgt := 3) dX1_clearOthers_64 rfl ?_
        exact ih
      · rw [b1_0, Bool.not_eq_false] at h26
        rw [if_pos ⟨h12', h26⟩] at ih
        refine g_aload_n (pc := 29) dX1_clearOthers_29 rfl trivial ?_
        refine g_getf (pc := 30) dX1_clearOthers_30 fk_X1_9 (shK hS1 rfl) (fv_arr (shR hS1 rfl)) ?_
        refine g_iload (pc := 33) dX1_clearOthers_33 rfl ?_
        refine g_dup2_11 (pc := 35) dX1_clearOthers_35 rfl rfl ?_
        refine g_iaload (pc := 36) dX1_clearOthers_36 (shK hS1 rfl) rfl (by omega) (nl rfl) ?_
        rw [el_l]
        refine g_aload_n (pc := 37) dX1_clearOthers_37 rfl trivial ?_
        refine g_getf (pc := 38) dX1_clearOthers_38 fk_X1_9 (shK hS1 rfl) (fv_arr (shR hS1 rfl)) ?_
        refine g_iload_n (pc := 41) dX1_clearOthers_41 rfl ?_
        refine g_iaload (pc := 42) dX1_clearOthers_42 (shK hS1 rfl) rfl (by omega) (nl rfl) ?_
        rw [el_l]
        refine g_ixor (pc := 43) dX1_clearOthers_43 ?_
        refine g_iastore (pc := 44) dX1_clearOthers_44 (shK hS1 rfl) rfl (by omega) (nl rfl) ?_
        rw [el_l, el_setL]
        refine g_aload_n (pc := 45) dX1_clearOthers_45 rfl trivial ?_
        refine g_getf (pc := 46) dX1_clearOthers_46 fk_X1_15 (shK hS1 rfl) (fv_arr (shR hS1 rfl)) ?_
        refine g_iload (pc := 49) dX1_clearOthers_49 rfl ?_
        refine g_dup2_11 (pc := 51) dX1_clearOthers_51 rfl rfl ?_
        refine g_iaload (pc := 52) dX1_clearOthers_52 (shK hS1 rfl) rfl (by omega) (nl rfl) ?_
        rw [el_r]
        refine g_aload_n (pc := 53) dX1_clearOthers_53 rfl trivial ?_
        refine g_getf (pc := 54) dX1_clearOthers_54 fk_X1_15 (shK hS1 rfl) (fv_arr (shR hS1 rfl)) ?_
        refine g_iload_n (pc := 57) dX1_clearOthers_57 rfl ?_
        refine g_iaload (pc := 58) dX1_clearOthers_58 (shK hS1 rfl) rfl (by omega) (nl rfl) ?_
        rw [el_r]
        refine g_ixor (pc := 59) dX1_clearOthers_59 ?_
        refine g_iastore (pc := 60) dX1_clearOthers_60 (shK hS1 rfl) rfl (by omega) (nl rfl) ?_
        rw [el_r, el_setR]
        refine g_iinc (pc := 61) (lv' := [(0, _), (1, _), (2, _), (3, _), (4, _)]) dX1_clearOthers_61 rfl (nI_1 _) (nl rfl) rfl ?_
        refine g_goto (pc := 64) (tgt := 3) dX1_clearOthers_64 rfl ?_
        exact ih
  · have hS1 : Shp (elMem M ((clG t c s.1 s.2.1 n).1, (clG t c s.1 s.2.1 n).2, s.2.2)) := hS
    refine g_iload (pc := 3) dX1_clearOthers_3 rfl ?_
    refine g_iload_n (pc := 5) dX1_clearOthers_5 rfl ?_
    refine g_icmp_ge (pc := 6) (tgt := 67) dX1_clearOthers_6 rfl (fun _ => ?_) (fun h6 => absurd (nI_le (Nat.le_refl _) (by omega)) h6)
    refine g_return (pc := 67) dX1_clearOthers_67 rfl ?_
    exact ⟨rfl, rfl⟩
def elStep (n c : Nat) (s : ES) : ES := match rnt s.1 c (n - s.2.2.2) s.2.2.2 with
  | none => s
  | some r => ((clG s.2.2.2 c (swp s.1 r s.2.2.2) (swp s.2.1 r s.2.2.2) n).1, (clG s.2.2.2 c (swp s.1 r s.2.2.2) (swp s.2.1 r s.2.2.2) n).2, fun_set s.2.2.1 s.2.2.2 (nI c), s.2.2.2 + 1)
def elIt (n : Nat) (s : ES) : Nat → ES
  | 0 => s
  | c + 1 => elStep n c (elIt n s c)
theorem elIt_c (n : Nat) (s : ES) : ∀ c, (elIt n s c).2.2.2 ≤ s.2.2.2 + c
  | 0 => Nat.le_refl _
  | c + 1 => by
    have h := elIt_c n s c
    unfold elIt elStep
    split
    · omega
    · simp only; omega
/-- all of it, from rows and a right side -/
def elAll (M : Mem) (n : Nat) (rows rt : Nat → Int32) : ES := elIt n (wr (mI M 192) rows n, rt, mI M 194, 0) n
theorem s_eliminateAll {r n : Nat} {rt : Nat → Int32} (hS : Shp M) (hk : (mK M)[r]? = some (kI 32)) (hr : r < 191 ∨ 194 < r) (hn : n ≤ 32) : EvR l jX1_eliminateAll 2 60 0 0 [.ref 191, .ref r, .int (nI n)] (sI M 193 rt) (.inl none) (elMem M (elAll M n (mI M r) rt)) := by
  have hSr : Shp (sI M 193 rt) := hS
  have hk2 : (mK (sI M 193 rt))[r]? = some (kI 32) := hk
  refine ev_intro rfl (nb rfl) rfl ?_
  refine g_aload_n (pc := 0) dX1_eliminateAll_0 rfl trivial ?_
  refine g_iconst (pc := 1) (v := 0) dX1_eliminateAll_1 rfl ?_
  refine g_aload_n (pc := 2) dX1_eliminateAll_2 rfl trivial ?_
  refine g_getf (pc := 3) dX1_eliminateAll_3 fk_X1_9 (shK hSr rfl) (fv_arr (shR hSr rfl)) ?_
  refine g_iconst (pc := 6) (v := 0) dX1_eliminateAll_6 rfl ?_
  refine g_iload_n (pc := 7) dX1_eliminateAll_7 rfl ?_
  refine g_copyI (pc := 8) (sp := 0) (dp := 0) dX1_eliminateAll_8 wd_960 wd_510 wd_509 wd_108 hk2 (shK hSr rfl) rfl rfl rfl (by omega) (by omega) ⟨by decide, by decide⟩ hSr.2.1 (nb rfl) (nb rfl) ?_
  rw [cpy_wr, sI_ne (show r ≠ 193 by omega), sI_ne (show 192 ≠ 193 by decide)]
  refine g_aload_n (pc := 11) dX1_eliminateAll_11 rfl trivial ?_
  refine g_iconst (pc := 12) (v := 0) dX1_eliminateAll_12 rfl ?_
  refine g_putI (pc := 13) dX1_eliminateAll_13 fp_X1_25 (shK hSr rfl) ⟨rfl, rfl⟩ (fun _ _ _ _ => rfl) ?_
  refine g_iconst (pc := 16) (v := 0) dX1_eliminateAll_16 rfl ?_
  refine g_istore_n (pc := 17) (lv' := [(0, _), (1, _), (2, _), (3, _)]) dX1_eliminateAll_17 (nl rfl) rfl ?_
  refine go_loop (pc := 18) n (fun i => [(0, .ref 191), (1, .ref r), (2, .int (nI n)), (3, .int (nI i))]) (fun i => elMem M (elIt n (wr (mI M 192) (mI M r) n, rt, mI M 194, 0) i)) ⟨rfl, rfl, rfl, rfl, trivial⟩ ?_ ?_ ?_
  · refine mem_extI rfl rfl rfl rfl rfl rfl (fun i => ?_)
    simp only [elIt, elMem, pI, sI, mI]
    by_cases h1 : i = 191
    · subst h1
      funext j
      by_cases h3 : j = 3
      · subst h3; simp [fun_set, nI_0]
      · simp [fun_set, h3]
    · by_cases h2 : i = 192
      · subst h2; simp [fun_set]
      · by_cases h3 : i = 193
        · subst h3; simp [fun_set]
        · by_cases h4 : i = 194
          · subst h4; simp [fun_set]
          · simp [fun_set, h1, h2, h3, h4]
  · intro i hi ih
    have hc := elIt_c n (wr (mI M 192) (mI M r) n, rt, mI M 194, 0) i
    rw [elIt] at ih
    generalize elIt n (wr (mI M 192) (mI M r) n, rt, mI M 194, 0) i = s at ih hc ⊢
    simp only [Nat.zero_add] at hc
    have hS1 : Shp (elMem M s) := hS
    unfold elStep at ih
    have hq := rnt_lt s.1 i (n - s.2.2.2) s.2.2.2
    cases hr9 : rnt s.1 i (n - s.2.2.2) s.2.2.2 with
    | none =>
      rw [hr9] at ih
      refine g_iload_n (pc := 18) dX1_eliminateAll_18 rfl ?_
      refine g_iload_n (pc := 19) dX1_eliminateAll_19 rfl ?_
      refine g_icmp_ge (pc := 20) (tgt := 83) dX1_eliminateAll_20 rfl (fun h20 => absurd h20 (nI_ge hi (by omega))) (fun _ => ?_)
      refine g_aload_n (pc := 23) dX1_eliminateAll_23 rfl trivial ?_
      refine g_iload_n (pc := 24) dX1_eliminateAll_24 rfl ?_
      refine g_iload_n (pc := 25) dX1_eliminateAll_25 rfl ?_
      refine g_invV_r (pc := 26) (As := [_, _]) dX1_eliminateAll_26 rfl ((by have h8 := s_rowNotTaken (l := l) (M := M) (s := s) (c := i) (n := n) hS (by omega) hn (by omega); rw [hr9] at h8; exact h8 : EvR l jX1_rowNotTaken 1 30 0 0 [.ref 191, .int (nI i), .int (nI n)] (elMem M s) (.inl (some (.int (-1)))) (elMem M s))) rfl rfl (shK hS1 rfl) rfl rfl lk_X1_35 rfl (nb rfl) ⟨nb rfl, nb rfl⟩ rfl ?_
      refine g_istore (pc := 29) (lv' := [(0, _), (1, _), (2, _), (3, _), (4, _)]) dX1_eliminateAll_29 (nl rfl) rfl ?_
      refine g_iload (pc := 31) dX1_eliminateAll_31 rfl ?_
      refine g_iconst (pc := 33) (v := (-1)) dX1_eliminateAll_33 rfl ?_
      refine g_icmp_eq (pc := 34) (tgt := 77) dX1_eliminateAll_34 rfl (fun _ => ?_) (fun h34 => absurd (rfl) h34)
      refine g_iinc (pc := 77) (lv' := [(0, _), (1, _), (2, _), (3, _), (4, _)]) dX1_eliminateAll_77 rfl (nI_1 _) (nl rfl) rfl ?_
      refine g_goto (pc := 80) (tgt := 18) dX1_eliminateAll_80 rfl ?_
      exact g_sub (lv' := [(0, _), (1, _), (2, _), (3, _)]) ⟨rfl, rfl, rfl, rfl, trivial⟩ ih
    | some q =>
      rw [hr9] at ih
      have hq' := hq q hr9
      refine g_iload_n (pc := 18) dX1_eliminateAll_18 rfl ?_
      refine g_iload_n (pc := 19) dX1_eliminateAll_19 rfl ?_
      refine g_icmp_ge (pc := 20) (tgt := 83) dX1_eliminateAll_20 rfl (fun h20 => absurd h20 (nI_ge hi (by omega))) (fun _ => ?_)
      refine g_aload_n (pc := 23) dX1_eliminateAll_23 rfl trivial ?_
      refine g_iload_n (pc := 24) dX1_eliminateAll_24 rfl ?_
      refine g_iload_n (pc := 25) dX1_eliminateAll_25 rfl ?_
      refine g_invV_r (pc := 26) (As := [_, _]) dX1_eliminateAll_26 rfl ((by have h8 := s_rowNotTaken (l := l) (M := M) (s := s) (c := i) (n := n) hS (by omega) hn (by omega); rw [hr9] at h8; exact h8 : EvR l jX1_rowNotTaken 1 30 0 0 [.ref 191, .int (nI i), .int (nI n)] (elMem M s) (.inl (some (.int (nI q)))) (elMem M s))) rfl rfl (shK hS1 rfl) rfl rfl lk_X1_35 rfl (nb rfl) ⟨nb rfl, nb rfl⟩ rfl ?_
      refine g_istore (pc := 29) (lv' := [(0, _), (1, _), (2, _), (3, _), (4, _)]) dX1_eliminateAll_29 (nl rfl) rfl ?_
      refine g_iload (pc := 31) dX1_eliminateAll_31 rfl ?_
      refine g_iconst (pc := 33) (v := (-1)) dX1_eliminateAll_33 rfl ?_
      refine g_icmp_eq (pc := 34) (tgt := 77) dX1_eliminateAll_34 rfl (fun h34 => absurd h34 (fun h => nI_pos (n := q) (by omega) (by rw [h]; decide))) (fun _ => ?_)
      refine g_aload_n (pc := 37) dX1_eliminateAll_37 rfl trivial ?_
      refine g_iload (pc := 38) dX1_eliminateAll_38 rfl ?_
      refine g_aload_n (pc := 40) dX1_eliminateAll_40 rfl trivial ?_
      refine g_getf (pc := 41) (v := .int _) dX1_eliminateAll_41 fk_X1_25 (shK hS1 rfl) (fun _ => congrArg Value.int ((el_c s))) ?_
      refine g_invV_r (pc := 44) (As := [_, _]) dX1_eliminateAll_44 rfl (s_swapRows hS (by omega) (by omega)) rfl rfl (shK hS1 rfl) rfl rfl lk_X1_39 rfl (nb rfl) ⟨nb rfl, nb rfl⟩ rfl ?_
      refine g_aload_n (pc := 47) dX1_eliminateAll_47 rfl trivial ?_
      refine g_aload_n (pc := 48) dX1_eliminateAll_48 rfl trivial ?_
      refine g_getf (pc := 49) (v := .int _) dX1_eliminateAll_49 fk_X1_25 (shK hS1 rfl) (fun _ => congrArg Value.int ((el_c _))) ?_
      refine g_iload_n (pc := 52) dX1_eliminateAll_52 rfl ?_
      refine g_iload_n (pc := 53) dX1_eliminateAll_53 rfl ?_
      refine g_invV_r (pc := 54) (As := [_, _, _]) dX1_eliminateAll_54 rfl (s_clearOthers hS (show s.2.2.2 < 32 by omega) (by omega) hn) rfl rfl (shK hS1 rfl) rfl rfl lk_X1_43 rfl (nb rfl) ⟨nb rfl, nb rfl⟩ rfl ?_
      refine g_aload_n (pc := 57) dX1_eliminateAll_57 rfl trivial ?_
      refine g_getf (pc := 58) dX1_eliminateAll_58 fk_X1_18 (shK hS1 rfl) (fv_arr (shR hS1 rfl)) ?_
      refine g_aload_n (pc := 61) dX1_eliminateAll_61 rfl trivial ?_
      refine g_getf (pc := 62) (v := .int _) dX1_eliminateAll_62 fk_X1_25 (shK hS1 rfl) (fun _ => congrArg Value.int ((el_c _))) ?_
      refine g_iload_n (pc := 65) dX1_eliminateAll_65 rfl ?_
      refine g_iastore (pc := 66) dX1_eliminateAll_66 (shK hS1 rfl) rfl (by omega : s.2.2.2 < 32) (nl rfl) ?_
      rw [el_p, el_setP]
      refine g_aload_n (pc := 67) dX1_eliminateAll_67 rfl trivial ?_
      refine g_dup (pc := 68) dX1_eliminateAll_68 rfl ?_
      refine g_getf (pc := 69) (v := .int _) dX1_eliminateAll_69 fk_X1_25 (shK hS1 rfl) (fun _ => congrArg Value.int ((el_c _))) ?_
      refine g_iconst (pc := 72) (v := 1) dX1_eliminateAll_72 rfl ?_
      refine g_iadd (pc := 73) dX1_eliminateAll_73 ?_
      rw [nI_1]
      refine g_putI (pc := 74) dX1_eliminateAll_74 fp_X1_25 (shK hS1 rfl) ⟨rfl, rfl⟩ (fun _ _ _ _ => rfl) ?_
      rw [el_setC]
      refine g_iinc (pc := 77) (lv' := [(0, _), (1, _), (2, _), (3, _), (4, _)]) dX1_eliminateAll_77 rfl (nI_1 _) (nl rfl) rfl ?_
      refine g_goto (pc := 80) (tgt := 18) dX1_eliminateAll_80 rfl ?_
      exact g_sub (lv' := [(0, _), (1, _), (2, _), (3, _)]) ⟨rfl, rfl, rfl, rfl, trivial⟩ ih
  · refine g_iload_n (pc := 18) dX1_eliminateAll_18 rfl ?_
    refine g_iload_n (pc := 19) dX1_eliminateAll_19 rfl ?_
    refine g_icmp_ge (pc := 20) (tgt := 83) dX1_eliminateAll_20 rfl (fun _ => ?_) (fun h20 => absurd (nI_le (Nat.le_refl _) (by omega)) h20)
    refine g_return (pc := 83) dX1_eliminateAll_83 rfl ?_
    exact ⟨rfl, rfl⟩
theorem s_eliminate {r n : Nat} {x : Int32} (hS : Shp M) (hk : (mK M)[r]? = some (kI 32)) (hr : r < 191 ∨ 194 < r) (hn : n ≤ 32) : EvR l jX1_eliminate 3 90 0 0 [.ref 191, .ref r, .int (nI n), .int x] M (.inl none) (elMem M (elAll M n (mI M r) (wr (mI M 193) (fun i => us x (nI i) &&& 1) n))) := by
  refine ev_intro rfl (nb rfl) rfl ?_
  refine g_iconst (pc := 0) (v := 0) dX1_eliminate_0 rfl ?_
  refine g_istore (pc := 1) (lv' := [(0, _), (1, _), (2, _), (3, _), (4, _)]) dX1_eliminate_1 (nl rfl) rfl ?_
  refine go_loop (pc := 3) n (fun i => [(0, .ref 191), (1, .ref r), (2, .int (nI n)), (3, .int x), (4, .int (nI i))]) (fun i => sI M 193 (wr (mI M 193) (fun i => us x (nI i) &&& 1) i)) ⟨rfl, rfl, rfl, rfl, rfl, trivial⟩ (sI_eq (wr_0 _ _)) ?_ ?_
  · intro i hi ih
    refine g_iload (pc := 3) dX1_eliminate_3 rfl ?_
    refine g_iload_n (pc := 5) dX1_eliminate_5 rfl ?_
    refine g_icmp_ge (pc := 6) (tgt := 28) dX1_eliminate_6 rfl (fun h6 => absurd h6 (nI_ge hi (by omega))) (fun _ => ?_)
    refine g_aload_n (pc := 9) dX1_eliminate_9 rfl trivial ?_
    refine g_getf (pc := 10) dX1_eliminate_10 fk_X1_15 (shK hS rfl) (fv_arr (shR hS rfl)) ?_
    refine g_iload (pc := 13) dX1_eliminate_13 rfl ?_
    refine g_iload_n (pc := 15) dX1_eliminate_15 rfl ?_
    refine g_iload (pc := 16) dX1_eliminate_16 rfl ?_
    refine g_iushr (pc := 18) dX1_eliminate_18 rfl ?_
    refine g_iconst (pc := 19) (v := 1) dX1_eliminate_19 rfl ?_
    refine g_iand (pc := 20) dX1_eliminate_20 ?_
    refine g_iastore (pc := 21) dX1_eliminate_21 (shK hS rfl) rfl (by omega) (nl rfl) ?_
    refine g_iinc (pc := 22) (lv' := [(0, _), (1, _), (2, _), (3, _), (4, _)]) dX1_eliminate_22 rfl (nI_1 _) (nl rfl) rfl ?_
    refine g_goto (pc := 25) (tgt := 3) dX1_eliminate_25 rfl ?_
    exact go_cast (sI_st (wr_s _ (fun i => us x (nI i) &&& 1) i)) ih
  · refine g_iload (pc := 3) dX1_eliminate_3 rfl ?_
    refine g_iload_n (pc := 5) dX1_eliminate_5 rfl ?_
    refine g_icmp_ge (pc := 6) (tgt := 28) dX1_eliminate_6 rfl (fun _ => ?_) (fun h6 => absurd (nI_le (Nat.le_refl _) (by omega)) h6)
    refine g_aload_n (pc := 28) dX1_eliminate_28 rfl trivial ?_
    refine g_aload_n (pc := 29) dX1_eliminate_29 rfl trivial ?_
    refine g_iload_n (pc := 30) dX1_eliminate_30 rfl ?_
    refine g_invV_r (pc := 31) (As := [_, _]) dX1_eliminate_31 rfl (s_eliminateAll hS hk hr hn) rfl rfl (shK hS rfl) rfl rfl lk_X1_21 rfl (nb rfl) ⟨nb rfl, nb rfl⟩ rfl ?_
    refine g_return (pc := 34) dX1_eliminate_34 rfl ?_
    exact ⟨rfl, rfl⟩
theorem s_eliminateBesideUnit {r n : Nat} (hS : Shp M) (hk : (mK M)[r]? = some (kI 32)) (hr : r < 191 ∨ 194 < r) (hn : n ≤ 32) : EvR l jX1_eliminateBesideUnit 3 90 0 0 [.ref 191, .ref r, .int (nI n)] M (.inl none) (elMem M (elAll M n (mI M r) (wr (mI M 193) bitI n))) := by
  refine ev_intro rfl (nb rfl) rfl ?_
  refine g_iconst (pc := 0) (v := 0) dX1_eliminateBesideUnit_0 rfl ?_
  refine g_istore_n (pc := 1) (lv' := [(0, _), (1, _), (2, _), (3, _)]) dX1_eliminateBesideUnit_1 (nl rfl) rfl ?_
  refine go_loop (pc := 2) n (fun i => [(0, .ref 191), (1, .ref r), (2, .int (nI n)), (3, .int (nI i))]) (fun i => sI M 193 (wr (mI M 193) bitI i)) ⟨rfl, rfl, rfl, rfl, trivial⟩ (sI_eq (wr_0 _ _)) ?_ ?_
  · intro i hi ih
    refine g_iload_n (pc := 2) dX1_eliminateBesideUnit_2 rfl ?_
    refine g_iload_n (pc := 3) dX1_eliminateBesideUnit_3 rfl ?_
    refine g_icmp_ge (pc := 4) (tgt := 22) dX1_eliminateBesideUnit_4 rfl (fun h4 => absurd h4 (nI_ge hi (by omega))) (fun _ => ?_)
    refine g_aload_n (pc := 7) dX1_eliminateBesideUnit_7 rfl trivial ?_
    refine g_getf (pc := 8) dX1_eliminateBesideUnit_8 fk_X1_15 (shK hS rfl) (fv_arr (shR hS rfl)) ?_
    refine g_iload_n (pc := 11) dX1_eliminateBesideUnit_11 rfl ?_
    refine g_iconst (pc := 12) (v := 1) dX1_eliminateBesideUnit_12 rfl ?_
    refine g_iload_n (pc := 13) dX1_eliminateBesideUnit_13 rfl ?_
    refine g_ishl (pc := 14) dX1_eliminateBesideUnit_14 ?_
    refine g_iastore (pc := 15) dX1_eliminateBesideUnit_15 (shK hS rfl) rfl (by omega) (nl rfl) ?_
    refine g_iinc (pc := 16) (lv' := [(0, _), (1, _), (2, _), (3, _)]) dX1_eliminateBesideUnit_16 rfl (nI_1 _) (nl rfl) rfl ?_
    refine g_goto (pc := 19) (tgt := 2) dX1_eliminateBesideUnit_19 rfl ?_
    exact go_cast (sI_st (wr_s _ bitI i)) ih
  · refine g_iload_n (pc := 2) dX1_eliminateBesideUnit_2 rfl ?_
    refine g_iload_n (pc := 3) dX1_eliminateBesideUnit_3 rfl ?_
    refine g_icmp_ge (pc := 4) (tgt := 22) dX1_eliminateBesideUnit_4 rfl (fun _ => ?_) (fun h4 => absurd (nI_le (Nat.le_refl _) (by omega)) h4)
    refine g_aload_n (pc := 22) dX1_eliminateBesideUnit_22 rfl trivial ?_
    refine g_aload_n (pc := 23) dX1_eliminateBesideUnit_23 rfl trivial ?_
    refine g_iload_n (pc := 24) dX1_eliminateBesideUnit_24 rfl ?_
    refine g_invV_r (pc := 25) (As := [_, _]) dX1_eliminateBesideUnit_25 rfl (s_eliminateAll hS hk hr hn) rfl rfl (shK hS rfl) rfl rfl lk_X1_21 rfl (nb rfl) ⟨nb rfl, nb rfl⟩ rfl ?_
    refine g_return (pc := 28) dX1_eliminateBesideUnit_28 rfl ?_
    exact ⟨rfl, rfl⟩
def solvB (s : ES) : Nat → Nat → Bool
  | 0, _ => true
  | d + 1, r => if s.2.1 r = 0 then solvB s d (r + 1) else false
theorem s_isSolvable {s : ES} {n : Nat} (hS : Shp M) (hn : n ≤ 32) (hp : s.2.2.2 ≤ n) : EvR l jX1_isSolvable 0 0 0 0 [.ref 191, .int (nI n)] (elMem M s) (.inl (some (.int (b1 (solvB s (n - s.2.2.2) s.2.2.2))))) (elMem M s) := by
  have hS1 : Shp (elMem M s) := hS
  obtain ⟨S, hs⟩ : ∃ S, S = solvB s (n - s.2.2.2) s.2.2.2 := ⟨_, rfl⟩
  rw [← hs]
  refine ev_intro rfl (nb rfl) rfl ?_
  refine g_aload_n (pc := 0) dX1_isSolvable_0 rfl trivial ?_
  refine g_getf (pc := 1) (v := .int _) dX1_isSolvable_1 fk_X1_25 (shK hS1 rfl) (fun _ => congrArg Value.int ((el_c s))) ?_
  refine g_istore_n (pc := 4) (lv' := [(0, _), (1, _), (2, _)]) dX1_isSolvable_4 (nl rfl) rfl ?_
  refine go_while (pc := 5) (σ := Nat) (fun r => r ≤ n ∧ solvB s (n - r) r = S) (fun r => n - r) (fun r => [(0, .ref 191), (1, .int (nI n)), (2, .int (nI r))]) (fun _ => elMem M s) s.2.2.2 ⟨rfl, rfl, rfl, trivial⟩ rfl ⟨hp, hs.symm⟩ ?_
  rintro r ⟨h1, h2⟩ ih
  by_cases hr : r < n
  · rw [show n - r = (n - (r + 1)) + 1 by omega, solvB] at h2
    refine g_iload_n (pc := 5) dX1_isSolvable_5 rfl ?_
    refine g_iload_n (pc := 6) dX1_isSolvable_6 rfl ?_
    refine g_icmp_ge (pc := 7) (tgt := 27) dX1_isSolvable_7 rfl (fun h7 => absurd h7 (nI_ge hr (by omega))) (fun _ => ?_)
    refine g_aload_n (pc := 10) dX1_isSolvable_10 rfl trivial ?_
    refine g_getf (pc := 11) dX1_isSolvable_11 fk_X1_15 (shK hS1 rfl) (fv_arr (shR hS1 rfl)) ?_
    refine g_iload_n (pc := 14) dX1_isSolvable_14 rfl ?_
    refine g_iaload (pc := 15) dX1_isSolvable_15 (shK hS1 rfl) rfl (by omega) (nl rfl) ?_
    rw [el_r]
    refine g_if_eq (pc := 16) (tgt := 21) dX1_isSolvable_16 rfl (fun h16 => ?_) (fun h16 => ?_)
    · rw [if_pos h16] at h2
      refine g_iinc (pc := 21) (lv' := [(0, _), (1, _), (2, _)]) dX1_isSolvable_21 rfl (nI_1 _) (nl rfl) rfl ?_
      refine g_goto (pc := 24) (tgt := 5) dX1_isSolvable_24 rfl ?_
      exact ih (r + 1) ⟨by omega, h2⟩ (by omega)
    · rw [if_neg h16] at h2
      refine g_iconst (pc := 19) (v := 0) dX1_isSolvable_19 rfl ?_
      refine g_ireturn (pc := 20) dX1_isSolvable_20 rfl rfl ?_
      exact ⟨by rw [← h2]; rfl, rfl⟩
  · have hr' : r = n := by omega
    subst hr'
    refine g_iload_n (pc := 5) dX1_isSolvable_5 rfl ?_
    refine g_iload_n (pc := 6) dX1_isSolvable_6 rfl ?_
    refine g_icmp_ge (pc := 7) (tgt := 27) dX1_isSolvable_7 rfl (fun _ => ?_) (fun h7 => absurd (nI_le (Nat.le_refl _) (by omega)) h7)
    refine g_iconst (pc := 27) (v := 1) dX1_isSolvable_27 rfl ?_
    refine g_ireturn (pc := 28) dX1_isSolvable_28 rfl rfl ?_
    exact ⟨by rw [← h2, Nat.sub_self]; rfl, rfl⟩
def solF (s : ES) : Nat → Int32
  | 0 => 0
  | i + 1 => solF s i ||| s.2.1 i <<< (s.2.2.1 i &&& 31)
theorem s_solution {s : ES} (hS : Shp M) (hp : s.2.2.2 ≤ 32) : EvR l jX1_solution 0 0 0 0 [.ref 191] (elMem M s) (.inl (some (.int (solF s s.2.2.2)))) (elMem M s) := by
  have hS1 : Shp (elMem M s) := hS
  refine ev_intro rfl (nb rfl) rfl ?_
  refine g_iconst (pc := 0) (v := 0) dX1_solution_0 rfl ?_
  refine g_istore_n (pc := 1) (lv' := [(0, _), (1, _)]) dX1_solution_1 (nl rfl) rfl ?_
  refine g_iconst (pc := 2) (v := 0) dX1_solution_2 rfl ?_
  refine g_istore_n (pc := 3) (lv' := [(0, _), (1, _), (2, _)]) dX1_solution_3 (nl rfl) rfl ?_
  refine go_loop (pc := 4) s.2.2.2 (fun i => [(0, .ref 191), (1, .int (solF s i)), (2, .int (nI i))]) (fun i => elMem M s) ⟨rfl, rfl, rfl, trivial⟩ rfl ?_ ?_
  · intro i hi ih
    refine g_iload_n (pc := 4) dX1_solution_4 rfl ?_
    refine g_aload_n (pc := 5) dX1_solution_5 rfl trivial ?_
    refine g_getf (pc := 6) (v := .int _) dX1_solution_6 fk_X1_25 (shK hS1 rfl) (fun _ => congrArg Value.int ((el_c s))) ?_
    refine g_icmp_ge (pc := 9) (tgt := 34) dX1_solution_9 rfl (fun h9 => absurd h9 (nI_ge hi (by omega))) (fun _ => ?_)
    refine g_iload_n (pc := 12) dX1_solution_12 rfl ?_
    refine g_aload_n (pc := 13) dX1_solution_13 rfl trivial ?_
    refine g_getf (pc := 14) dX1_solution_14 fk_X1_15 (shK hS1 rfl) (fv_arr (shR hS1 rfl)) ?_
    refine g_iload_n (pc := 17) dX1_solution_17 rfl ?_
    refine g_iaload (pc := 18) dX1_solution_18 (shK hS1 rfl) rfl (by omega) (nl rfl) ?_
    rw [el_r]
    refine g_aload_n (pc := 19) dX1_solution_19 rfl trivial ?_
    refine g_getf (pc := 20) dX1_solution_20 fk_X1_18 (shK hS1 rfl) (fv_arr (shR hS1 rfl)) ?_
    refine g_iload_n (pc := 23) dX1_solution_23 rfl ?_
    refine g_iaload (pc := 24) dX1_solution_24 (shK hS1 rfl) rfl (by omega) (nl rfl) ?_
    rw [el_p]
    refine g_ishl (pc := 25) dX1_solution_25 ?_
    refine g_ior (pc := 26) dX1_solution_26 ?_
    refine g_istore_n (pc := 27) (lv' := [(0, _), (1, _), (2, _)]) dX1_solution_27 (nl rfl) rfl ?_
    refine g_iinc (pc := 28) (lv' := [(0, _), (1, _), (2, _)]) dX1_solution_28 rfl (nI_1 _) (nl rfl) rfl ?_
    refine g_goto (pc := 31) (tgt := 4) dX1_solution_31 rfl ?_
    exact ih
  · refine g_iload_n (pc := 4) dX1_solution_4 rfl ?_
    refine g_aload_n (pc := 5) dX1_solution_5 rfl trivial ?_
    refine g_getf (pc := 6) (v := .int _) dX1_solution_6 fk_X1_25 (shK hS1 rfl) (fun _ => congrArg Value.int ((el_c s))) ?_
    refine g_icmp_ge (pc := 9) (tgt := 34) dX1_solution_9 rfl (fun _ => ?_) (fun h9 => absurd (nI_le (Nat.le_refl _) (by omega)) h9)
    refine g_iload_n (pc := 34) dX1_solution_34 rfl ?_
    refine g_ireturn (pc := 35) dX1_solution_35 rfl rfl ?_
    exact ⟨rfl, rfl⟩
theorem s_pivotAt {s : ES} {x : Int32} (hS : Shp M) (hp : s.2.2.2 ≤ 32) : EvR l jX1_pivotAt 0 0 0 0 [.ref 191, .int x] (elMem M s) (.inl (some (.int (if ¬ x < 0 ∧ x < nI s.2.2.2 then s.2.2.1 x.toNatClampNeg else -1)))) (elMem M s) := by
  have hS1 : Shp (elMem M s) := hS
  refine ev_intro rfl (nb rfl) rfl ?_
  refine g_iload_n (pc := 0) dX1_pivotAt_0 rfl ?_
  refine g_if_lt (pc := 1) (tgt := 21) dX1_pivotAt_1 rfl (fun h1 => ?_) (fun h1 => ?_)
  · rw [if_neg (fun h => h.1 h1)]
    refine g_iconst (pc := 21) (v := (-1)) dX1_pivotAt_21 rfl ?_
    refine g_ireturn (pc := 22) dX1_pivotAt_22 rfl rfl ?_
    exact ⟨rfl, rfl⟩
  · refine g_iload_n (pc := 4) dX1_pivotAt_4 rfl ?_
    refine g_aload_n (pc := 5) dX1_pivotAt_5 rfl trivial ?_
    refine g_getf (pc := 6) (v := .int _) dX1_pivotAt_6 fk_X1_25 (shK hS1 rfl) (fun _ => congrArg Value.int ((el_c s))) ?_
    refine g_icmp_ge (pc := 9) (tgt := 21) dX1_pivotAt_9 rfl (fun h9 => ?_) (fun h9 => ?_)
    · rw [if_neg (fun h => absurd h.2 (Int32.not_lt.mpr h9))]
      refine g_iconst (pc := 21) (v := (-1)) dX1_pivotAt_21 rfl ?_
      refine g_ireturn (pc := 22) dX1_pivotAt_22 rfl rfl ?_
      exact ⟨rfl, rfl⟩
    · have h9' := Int32.not_le.mp h9
      obtain ⟨j, hj, hx⟩ := inR_of ⟨h1, h9'⟩ (by omega)
      rw [if_pos ⟨h1, h9'⟩, hx, nI_clamp (by omega)]
      refine g_aload_n (pc := 12) dX1_pivotAt_12 rfl trivial ?_
      refine g_getf (pc := 13) dX1_pivotAt_13 fk_X1_18 (shK hS1 rfl) (fv_arr (shR hS1 rfl)) ?_
      refine g_iload_n (pc := 16) dX1_pivotAt_16 rfl ?_
      refine g_iaload (pc := 17) dX1_pivotAt_17 (shK hS1 rfl) rfl (by omega) (nl rfl) ?_
      rw [el_p]
      refine g_goto (pc := 18) (tgt := 22) dX1_pivotAt_18 rfl ?_
      refine g_ireturn (pc := 22) dX1_pivotAt_22 rfl rfl ?_
      exact ⟨rfl, rfl⟩
end
end
-- 17.priv
section
/-! states as wholes; what the class's object does within -/
section
variable {l : Launch} {M : Mem}
theorem shp_pI {b i : Nat} {x : Int32} (hS : Shp M) : Shp (pI M b i x) := hS
theorem shp_sI {b : Nat} {x : Nat → Int32} (hS : Shp M) : Shp (sI M b x) := hS
def stTakeL (M : Mem) (b o : Nat) : Nat → Mem
  | 0 => M
  | s + 1 => mxTake (stTakeL M b o s) (b + 2 + 2 * s) (o + 2 + 2 * s)
termination_by s => s
theorem mxTake_ne {m o i : Nat} (h1 : i ≠ m) (h2 : i ≠ m + 1) : mI (mxTake M m o) i = mI M i := by
  simp only [mxTake]; rw [pI_i h1, pI_i h1, pI_i h1, pI_i h1, sI_ne h2]
theorem mxTake_S (hS : Shp M) (m o : Nat) : Shp (mxTake M m o) := hS
theorem stTakeL_S (hS : Shp M) (b o : Nat) : ∀ s, Shp (stTakeL M b o s)
  | 0 => by rw [stTakeL]; exact hS
  | s + 1 => by rw [stTakeL]; exact mxTake_S (stTakeL_S hS b o s) _ _
theorem stTakeL_ne {b o i : Nat} : ∀ (s : Nat), s ≤ 6 → (i < b + 2 ∨ b + 14 ≤ i) → mI (stTakeL M b o s) i = mI M i
  | 0, _, _ => by rw [stTakeL]
  | s + 1, h, h2 => by
    rw [stTakeL, mxTake_ne (by omega) (by omega)]
    exact stTakeL_ne s (by omega) h2
/-- state b becomes as state o -/
def stTake (M : Mem) (b o : Nat) : Mem := pI (pI (pI (pI (stTakeL M b o 6) b 1 (mI M o 1)) b 2 (mI M o 2)) b 3 (mI M o 3)) b 4 (mI M o 4)
theorem stTake_S (hS : Shp M) (b o : Nat) : Shp (stTake M b o) := by rw [stTake]; exact stTakeL_S hS b o 6
theorem stTake_ne {b o i : Nat} (h : i < b ∨ b + 14 ≤ i) : mI (stTake M b o) i = mI M i := by
  simp only [stTake]; rw [pI_i (by omega), pI_i (by omega), pI_i (by omega), pI_i (by omega), stTakeL_ne 6 (by omega) (by omega)]
def keptOk (M : Mem) (b : Nat) : Prop := ∀ s, s < 6 → k01 (mI M (b + 2 + 2 * s) 1)
theorem s_stTake {b o : Nat} (hS : Shp M) (hb9 : isSt b) (ho : isSt o) (hd : b + 14 ≤ o ∨ o + 14 ≤ b) (hk : keptOk M o) : EvR l jX5_takeFrom 2 90 0 0 [.ref b, .ref o] M (.inl none) (stTake M b o) := by
  refine ev_intro rfl (nb rfl) rfl ?_
  refine g_iconst (pc := 0) (v := 0) dX5_takeFrom_0 rfl ?_
  refine g_istore_n (pc := 1) (lv' := [(0, _), (1, _), (2, _)]) dX5_takeFrom_1 (nl rfl) rfl ?_
  refine go_loop (pc := 2) 6 (fun i => [(0, .ref b), (1, .ref o), (2, .int (nI i))]) (fun i => stTakeL M b o i) ⟨rfl, rfl, rfl, trivial⟩ (by rw [stTakeL]) ?_ ?_
  · intro i hi ih
    have hS1 := stTakeL_S hS b o i
    rw [stTakeL.eq_2 M b o i] at ih
    obtain ⟨m1, m2⟩ := hb9.2 i hi
    obtain ⟨o1, o2⟩ := ho.2 i hi
    have hk1 : k01 (mI (stTakeL M b o i) (o + 2 + 2 * i) 1) := by rw [stTakeL_ne i (by omega) (by omega)]; exact hk i hi
    refine g_iload_n (pc := 2) dX5_takeFrom_2 rfl ?_
    refine g_bipush (pc := 3) (v := 6) dX5_takeFrom_3 rfl ?_
    refine g_icmp_ge (pc := 5) (tgt := 29) dX5_takeFrom_5 rfl (fun h5 => absurd h5 (nI_ge (b := 6) hi (by omega))) (fun _ => ?_)
    refine g_aload_n (pc := 8) dX5_takeFrom_8 rfl trivial ?_
    refine g_getf (pc := 9) dX5_takeFrom_9 fk_X5_11 (shK hS1 hb9.1.1) (fv_arr (shR hS1 hb9.1.2.2)) ?_
    refine g_iload_n (pc := 12) dX5_takeFrom_12 rfl ?_
    refine g_aaload_Matrix (pc := 13) dX5_takeFrom_13 (shK hS1 hb9.1.2.1) rfl hi (by decide) (shR hS1 m2) ?_
    refine g_aload_n (pc := 14) dX5_takeFrom_14 rfl trivial ?_
    refine g_getf (pc := 15) dX5_takeFrom_15 fk_X5_11 (shK hS1 ho.1.1) (fv_arr (shR hS1 ho.1.2.2)) ?_
    refine g_iload_n (pc := 18) dX5_takeFrom_18 rfl ?_
    refine g_aaload_Matrix (pc := 19) dX5_takeFrom_19 (shK hS1 ho.1.2.1) rfl hi (by decide) (shR hS1 o2) ?_
    refine g_invV_r (pc := 20) (As := [_]) dX5_takeFrom_20 rfl (s_mxTake hS1 m1 o1 (by omega) (by omega) hk1) rfl rfl (shK hS1 m1.1) rfl rfl lk_X5_34 rfl (nb rfl) ⟨nb rfl, nb rfl⟩ rfl ?_
    refine g_iinc (pc := 23) (lv' := [(0, _), (1, _), (2, _)]) dX5_takeFrom_23 rfl (nI_1 _) (nl rfl) rfl ?_
    refine g_goto (pc := 26) (tgt := 2) dX5_takeFrom_26 rfl ?_
    exact ih
  · have hS1 := stTakeL_S hS b o 6
    have e1 : mI (stTakeL M b o 6) o = mI M o := stTakeL_ne 6 (by omega) (by omega)
    have hob : o ≠ b := by omega
    unfold stTake
    generalize stTakeL M b o 6 = X at hS1 e1 ⊢
    refine g_iload_n (pc := 2) dX5_takeFrom_2 rfl ?_
    refine g_bipush (pc := 3) (v := 6) dX5_takeFrom_3 rfl ?_
    refine g_icmp_ge (pc := 5) (tgt := 29) dX5_takeFrom_5 rfl (fun _ => ?_) (fun h5 => absurd (nI_le (Nat.le_refl 6) (by omega)) h5)
    refine g_aload_n (pc := 29) dX5_takeFrom_29 rfl trivial ?_
    refine g_aload_n (pc := 30) dX5_takeFrom_30 rfl trivial ?_
    refine g_getf (pc := 31) (v := .int _) dX5_takeFrom_31 fk_X5_18 (shK hS1 ho.1.1) (fun _ => congrArg Value.int (congrFun e1 1)) ?_
    refine g_putI (pc := 34) dX5_takeFrom_34 fp_X5_18 (shK hS1 hb9.1.1) ⟨rfl, rfl⟩ (fun _ _ _ _ => rfl) ?_
    have hS2 : Shp (pI X b 1 (mI M o 1)) := shp_pI hS1
    have e2 : mI (pI X b 1 (mI M o 1)) o = mI M o := (pI_i hob).trans e1
    show Go _ _ _ _ _ _ _ _ _ _ _ _ (pI X b 1 (mI M o 1))
    generalize pI X b 1 (mI M o 1) = X2 at hS2 e2 ⊢
    refine g_aload_n (pc := 37) dX5_takeFrom_37 rfl trivial ?_
    refine g_aload_n (pc := 38) dX5_takeFrom_38 rfl trivial ?_
    refine g_getf (pc := 39) (v := .int _) dX5_takeFrom_39 fk_X5_22 (shK hS2 ho.1.1) (fun _ => congrArg Value.int (congrFun e2 2)) ?_
    refine g_putI (pc := 42) dX5_takeFrom_42 fp_X5_22 (shK hS2 hb9.1.1) ⟨rfl, rfl⟩ (fun _ _ _ _ => rfl) ?_
    have hS3 : Shp (pI X2 b 2 (mI M o 2)) := shp_pI hS2
    have e3 : mI (pI X2 b 2 (mI M o 2)) o = mI M o := (pI_i hob).trans e2
    show Go _ _ _ _ _ _ _ _ _ _ _ _ (pI X2 b 2 (mI M o 2))
    generalize pI X2 b 2 (mI M o 2) = X3 at hS3 e3 ⊢
    refine g_aload_n (pc := 45) dX5_takeFrom_45 rfl trivial ?_
    refine g_aload_n (pc := 46) dX5_takeFrom_46 rfl trivial ?_
    refine g_getf (pc := 47) (v := .int _) dX5_takeFrom_47 fk_X5_28 (shK hS3 ho.1.1) (fun _ => congrArg Value.int (congrFun e3 3)) ?_
    refine g_putI (pc := 50) dX5_takeFrom_50 fp_X5_28 (shK hS3 hb9.1.1) ⟨rfl, rfl⟩ (fun _ _ _ _ => rfl) ?_
    have hS4 : Shp (pI X3 b 3 (mI M o 3)) := shp_pI hS3
    have e4 : mI (pI X3 b 3 (mI M o 3)) o = mI M o := (pI_i hob).trans e3
    show Go _ _ _ _ _ _ _ _ _ _ _ _ (pI X3 b 3 (mI M o 3))
    generalize pI X3 b 3 (mI M o 3) = X4 at hS4 e4 ⊢
    refine g_aload_n (pc := 53) dX5_takeFrom_53 rfl trivial ?_
    refine g_aload_n (pc := 54) dX5_takeFrom_54 rfl trivial ?_
    refine g_getf (pc := 55) (v := .int _) dX5_takeFrom_55 fk_X5_31 (shK hS4 ho.1.1) (fun _ => congrArg Value.int (congrFun e4 4)) ?_
    refine g_putI (pc := 58) dX5_takeFrom_58 fp_X5_31 (shK hS4 hb9.1.1) ⟨rfl, rfl⟩ (fun _ _ _ _ => rfl) ?_
    refine g_return (pc := 61) dX5_takeFrom_61 rfl ?_
    exact ⟨rfl, rfl⟩
def stEmptyL (M : Mem) (b : Nat) : Nat → Mem
  | 0 => M
  | s + 1 => mxEmpty (stEmptyL M b s) (b + 2 + 2 * s)
termination_by s => s
theorem stEmptyL_S (hS : Shp M) (b : Nat) : ∀ s, Shp (stEmptyL M b s)
  | 0 => by rw [stEmptyL]; exact hS
  | s + 1 => by rw [stEmptyL]; exact stEmptyL_S hS b s
def stEmpty (M : Mem) (b : Nat) (n : Int32) : Mem := pI (pI (pI (pI (stEmptyL M b 6) b 1 n) b 2 4) b 3 0) b 4 0
theorem stEmpty_S (hS : Shp M) (b : Nat) (n : Int32) : Shp (stEmpty M b n) := by rw [stEmpty]; exact stEmptyL_S hS b 6
theorem s_stEmpty {b : Nat} {n : Int32} (hS : Shp M) (hb9 : isSt b) : EvR l jX5_makeEmpty 1 40 0 0 [.ref b, .int n] M (.inl none) (stEmpty M b n) := by
  refine ev_intro rfl (nb rfl) rfl ?_
  refine g_iconst (pc := 0) (v := 0) dX5_makeEmpty_0 rfl ?_
  refine g_istore_n (pc := 1) (lv' := [(0, _), (1, _), (2, _)]) dX5_makeEmpty_1 (nl rfl) rfl ?_
  refine go_loop (pc := 2) 6 (fun i => [(0, .ref b), (1, .int n), (2, .int (nI i))]) (fun i => stEmptyL M b i) ⟨rfl, rfl, rfl, trivial⟩ (by rw [stEmptyL]) ?_ ?_
  · intro i hi ih
    have hS1 := stEmptyL_S hS b i
    rw [stEmptyL.eq_2 M b i] at ih
    obtain ⟨m1, m2⟩ := hb9.2 i hi
    refine g_iload_n (pc := 2) dX5_makeEmpty_2 rfl ?_
    refine g_bipush (pc := 3) (v := 6) dX5_makeEmpty_3 rfl ?_
    refine g_icmp_ge (pc := 5) (tgt := 23) dX5_makeEmpty_5 rfl (fun h5 => absurd h5 (nI_ge (b := 6) hi (by omega))) (fun _ => ?_)
    refine g_aload_n (pc := 8) dX5_makeEmpty_8 rfl trivial ?_
    refine g_getf (pc := 9) dX5_makeEmpty_9 fk_X5_11 (shK hS1 hb9.1.1) (fv_arr (shR hS1 hb9.1.2.2)) ?_
    refine g_iload_n (pc := 12) dX5_makeEmpty_12 rfl ?_
    refine g_aaload_Matrix (pc := 13) dX5_makeEmpty_13 (shK hS1 hb9.1.2.1) rfl hi (by decide) (shR hS1 m2) ?_
    refine g_invV_r (pc := 14) (As := []) dX5_makeEmpty_14 rfl (s_mxEmpty hS1 m1) rfl rfl (shK hS1 m1.1) rfl rfl lk_X5_25 rfl (nb rfl) ⟨nb rfl, nb rfl⟩ rfl ?_
    refine g_iinc (pc := 17) (lv' := [(0, _), (1, _), (2, _)]) dX5_makeEmpty_17 rfl (nI_1 _) (nl rfl) rfl ?_
    refine g_goto (pc := 20) (tgt := 2) dX5_makeEmpty_20 rfl ?_
    exact ih
  · have hS1 := stEmptyL_S hS b 6
    unfold stEmpty
    generalize stEmptyL M b 6 = X at hS1 ⊢
    refine g_iload_n (pc := 2) dX5_makeEmpty_2 rfl ?_
    refine g_bipush (pc := 3) (v := 6) dX5_makeEmpty_3 rfl ?_
    refine g_icmp_ge (pc := 5) (tgt := 23) dX5_makeEmpty_5 rfl (fun _ => ?_) (fun h5 => absurd (nI_le (Nat.le_refl 6) (by omega)) h5)
    refine g_aload_n (pc := 23) dX5_makeEmpty_23 rfl trivial ?_
    refine g_iload_n (pc := 24) dX5_makeEmpty_24 rfl ?_
    refine g_putI (pc := 25) dX5_makeEmpty_25 fp_X5_18 (shK hS1 hb9.1.1) ⟨rfl, rfl⟩ (fun _ _ _ _ => rfl) ?_
    have hS2 : Shp (pI X b 1 n) := shp_pI hS1
    show Go _ _ _ _ _ _ _ _ _ _ _ _ (pI X b 1 n)
    generalize pI X b 1 n = X2 at hS2 ⊢
    refine g_aload_n (pc := 28) dX5_makeEmpty_28 rfl trivial ?_
    refine g_iconst (pc := 29) (v := 4) dX5_makeEmpty_29 rfl ?_
    refine g_putI (pc := 30) dX5_makeEmpty_30 fp_X5_22 (shK hS2 hb9.1.1) ⟨rfl, rfl⟩ (fun _ _ _ _ => rfl) ?_
    have hS3 : Shp (pI X2 b 2 4) := shp_pI hS2
    show Go _ _ _ _ _ _ _ _ _ _ _ _ (pI X2 b 2 4)
    generalize pI X2 b 2 4 = X3 at hS3 ⊢
    refine g_aload_n (pc := 33) dX5_makeEmpty_33 rfl trivial ?_
    refine g_iconst (pc := 34) (v := 0) dX5_makeEmpty_34 rfl ?_
    refine g_putI (pc := 35) dX5_makeEmpty_35 fp_X5_28 (shK hS3 hb9.1.1) ⟨rfl, rfl⟩ (fun _ _ _ _ => rfl) ?_
    have hS4 : Shp (pI X3 b 3 0) := shp_pI hS3
    show Go _ _ _ _ _ _ _ _ _ _ _ _ (pI X3 b 3 0)
    generalize pI X3 b 3 0 = X4 at hS4 ⊢
    refine g_aload_n (pc := 38) dX5_makeEmpty_38 rfl trivial ?_
    refine g_iconst (pc := 39) (v := 0) dX5_makeEmpty_39 rfl ?_
    refine g_putI (pc := 40) dX5_makeEmpty_40 fp_X5_31 (shK hS4 hb9.1.1) ⟨rfl, rfl⟩ (fun _ _ _ _ => rfl) ?_
    refine g_return (pc := 43) dX5_makeEmpty_43 rfl ?_
    exact ⟨rfl, rfl⟩
/-- no closure is current -/
def dropC (M : Mem) : Nat → Mem
  | 0 => M
  | s + 1 => pI (dropC M s) (175 + 2 * s) 1 0
termination_by s => s
theorem dropC_S (hS : Shp M) : ∀ s, Shp (dropC M s)
  | 0 => by rw [dropC]; exact hS
  | s + 1 => by rw [dropC]; exact dropC_S hS s
theorem s_dropClosures (hS : Shp M) : EvR l jX6_dropClosures 0 0 0 0 [.ref 0] M (.inl none) (dropC M 6) := by
  refine ev_intro rfl (nb rfl) rfl ?_
  refine g_iconst (pc := 0) (v := 0) dX6_dropClosures_0 rfl ?_
  refine g_istore_n (pc := 1) (lv' := [(0, _), (1, _)]) dX6_dropClosures_1 (nl rfl) rfl ?_
  refine go_loop (pc := 2) 6 (fun i => [(0, .ref 0), (1, .int (nI i))]) (fun i => dropC M i) ⟨rfl, rfl, trivial⟩ (by rw [dropC]) ?_ ?_
  · intro i hi ih
    have hS1 := dropC_S hS i
    rw [dropC.eq_2 M i] at ih
    obtain ⟨c1, c2⟩ := cl_ok i hi
    refine g_iload_n (pc := 2) dX6_dropClosures_2 rfl ?_
    refine g_bipush (pc := 3) (v := 6) dX6_dropClosures_3 rfl ?_
    refine g_icmp_ge (pc := 5) (tgt := 24) dX6_dropClosures_5 rfl (fun h5 => absurd h5 (nI_ge (b := 6) hi (by omega))) (fun _ => ?_)
    refine g_aload_n (pc := 8) dX6_dropClosures_8 rfl trivial ?_
    refine g_getf (pc := 9) dX6_dropClosures_9 fk_X6_39 (shK hS1 rfl) (fv_arr (shR hS1 rfl)) ?_
    refine g_iload_n (pc := 12) dX6_dropClosures_12 rfl ?_
    refine g_aaload_Closure (pc := 13) dX6_dropClosures_13 (shK hS1 rfl) rfl hi (by decide) (shR hS1 c2) ?_
    refine g_iconst (pc := 14) (v := 0) dX6_dropClosures_14 rfl ?_
    refine g_putI (pc := 15) dX6_dropClosures_15 fp_X6_341 (shK hS1 c1.1) ⟨rfl, rfl⟩ (fun _ _ _ _ => rfl) ?_
    refine g_iinc (pc := 18) (lv' := [(0, _), (1, _)]) dX6_dropClosures_18 rfl (nI_1 _) (nl rfl) rfl ?_
    refine g_goto (pc := 21) (tgt := 2) dX6_dropClosures_21 rfl ?_
    exact ih
  · generalize dropC M 6 = X
    refine g_iload_n (pc := 2) dX6_dropClosures_2 rfl ?_
    refine g_bipush (pc := 3) (v := 6) dX6_dropClosures_3 rfl ?_
    refine g_icmp_ge (pc := 5) (tgt := 24) dX6_dropClosures_5 rfl (fun _ => ?_) (fun h5 => absurd (nI_le (Nat.le_refl 6) (by omega)) h5)
    refine g_return (pc := 24) dX6_dropClosures_24 rfl ?_
    exact ⟨rfl, rfl⟩
theorem st3 : isSt 3 := st_of (by decide)
/-- the state is replaced: nothing can be taken back, no closure is current -/
def replM (M : Mem) (o : Nat) : Mem := dropC (pI (stTake M 3 o) 0 5 0) 6
theorem s_replaceState {o : Nat} (hS : Shp M) (ho : isSt o) (hd : 17 ≤ o) (hk : keptOk M o) : EvR l jX6_replaceState 3 120 0 0 [.ref 0, .ref o] M (.inl none) (replM M o) := by
  have hS1 := stTake_S hS 3 o
  have hS2 : Shp (pI (stTake M 3 o) 0 5 0) := shp_pI hS1
  refine ev_intro rfl (nb rfl) rfl ?_
  refine g_aload_n (pc := 0) dX6_replaceState_0 rfl trivial ?_
  refine g_getf (pc := 1) dX6_replaceState_1 fk_X6_19 (shK hS rfl) (fv_obj (shR hS rfl)) ?_
  refine g_aload_n (pc := 4) dX6_replaceState_4 rfl trivial ?_
  refine g_invV_r (pc := 5) (As := [_]) dX6_replaceState_5 rfl (s_stTake hS st3 ho (by omega) hk) rfl rfl (shK hS rfl) rfl rfl lk_X6_313 rfl (nb rfl) ⟨nb rfl, nb rfl⟩ rfl ?_
  refine g_aload_n (pc := 8) dX6_replaceState_8 rfl trivial ?_
  refine g_iconst (pc := 9) (v := 0) dX6_replaceState_9 rfl ?_
  refine g_putI (pc := 10) dX6_replaceState_10 fp_X6_106 (shK hS1 rfl) ⟨rfl, rfl⟩ (fun _ _ _ _ => rfl) ?_
  refine g_aload_n (pc := 13) dX6_replaceState_13 rfl trivial ?_
  refine g_invV_r (pc := 14) (As := []) dX6_replaceState_14 rfl (s_dropClosures hS2) rfl rfl (shK hS2 rfl) rfl rfl lk_X6_316 rfl (nb rfl) ⟨nb rfl, nb rfl⟩ rfl ?_
  refine g_return (pc := 17) dX6_replaceState_17 rfl ?_
  exact ⟨rfl, rfl⟩
def keptC (M : Mem) : Nat → Nat
  | 0 => 0
  | s + 1 => if mI M (5 + 2 * s) 1 = 0 then keptC M s else keptC M s + 1
termination_by s => s
theorem s_keptSlots (hS : Shp M) : EvR l jX6_keptSlots 0 0 0 0 [.ref 0] M (.inl (some (.int (nI (keptC M 6))))) M := by
  refine ev_intro rfl (nb rfl) rfl ?_
  refine g_iconst (pc := 0) (v := 0) dX6_keptSlots_0 rfl ?_
  refine g_istore_n (pc := 1) (lv' := [(0, _), (1, _)]) dX6_keptSlots_1 (nl rfl) rfl ?_
  refine g_iconst (pc := 2) (v := 0) dX6_keptSlots_2 rfl ?_
  refine g_istore_n (pc := 3) (lv' := [(0, _), (1, _), (2, _)]) dX6_keptSlots_3 (nl rfl) rfl ?_
  refine go_loop (pc := 4) 6 (fun i => [(0, .ref 0), (1, .int (nI (keptC M i))), (2, .int (nI i))]) (fun i => M) ⟨rfl, by rw [keptC]; rfl, rfl, trivial⟩ rfl ?_ ?_
  · intro i hi ih
    obtain ⟨m1, m2⟩ := st3.2 i hi
    rw [show 3 + 2 + 2 * i = 5 + 2 * i by omega] at m1 m2
    generalize keptC M 6 = X at ih ⊢
    rw [keptC] at ih
    refine g_iload_n (pc := 4) dX6_keptSlots_4 rfl ?_
    refine g_bipush (pc := 5) (v := 6) dX6_keptSlots_5 rfl ?_
    refine g_icmp_ge (pc := 7) (tgt := 34) dX6_keptSlots_7 rfl (fun h7 => absurd h7 (nI_ge (b := 6) hi (by omega))) (fun _ => ?_)
    refine g_aload_n (pc := 10) dX6_keptSlots_10 rfl trivial ?_
    refine g_getf (pc := 11) dX6_keptSlots_11 fk_X6_19 (shK hS rfl) (fv_obj (shR hS rfl)) ?_
    refine g_getf (pc := 14) dX6_keptSlots_14 fk_X6_225 (shK hS rfl) (fv_arr (shR hS rfl)) ?_
    refine g_iload_n (pc := 17) dX6_keptSlots_17 rfl ?_
    refine g_aaload_Matrix (pc := 18) dX6_keptSlots_18 (shK hS rfl) rfl hi (by decide) (shR hS m2) ?_
    refine g_getf (pc := 19) (v := .int (mI _ _ _)) dX6_keptSlots_19 fk_X6_288 (shK hS m1.1) (fun _ => rfl) ?_
    refine g_if_eq (pc := 22) (tgt := 28) dX6_keptSlots_22 rfl (fun h22 => ?_) (fun h22 => ?_)
    · rw [if_pos h22] at ih
      refine g_iinc (pc := 28) (lv' := [(0, _), (1, _), (2, _)]) dX6_keptSlots_28 rfl (nI_1 _) (nl rfl) rfl ?_
      refine g_goto (pc := 31) (tgt := 4) dX6_keptSlots_31 rfl ?_
      exact ih
    · rw [if_neg h22] at ih
      refine g_iinc (pc := 25) (lv' := [(0, _), (1, _), (2, _)]) dX6_keptSlots_25 rfl (nI_1 _) (nl rfl) rfl ?_
      refine g_iinc (pc := 28) (lv' := [(0, _), (1, _), (2, _)]) dX6_keptSlots_28 rfl (nI_1 _) (nl rfl) rfl ?_
      refine g_goto (pc := 31) (tgt := 4) dX6_keptSlots_31 rfl ?_
      exact ih
  · generalize keptC M 6 = X
    refine g_iload_n (pc := 4) dX6_keptSlots_4 rfl ?_
    refine g_bipush (pc := 5) (v := 6) dX6_keptSlots_5 rfl ?_
    refine g_icmp_ge (pc := 7) (tgt := 34) dX6_keptSlots_7 rfl (fun _ => ?_) (fun h7 => absurd (nI_le (Nat.le_refl 6) (by omega)) h7)
    refine g_iload_n (pc := 34) dX6_keptSlots_34 rfl ?_
    refine g_ireturn (pc := 35) dX6_keptSlots_35 rfl rfl ?_
    exact ⟨rfl, rfl⟩
/-- the state is remembered: p the place of the next, c how many are remembered -/
def remM (M : Mem) (p c : Nat) : Mem := pI (pI (stTake M (32 + 14 * p) 3) 0 4 (nI (if p = 7 then 0 else p + 1))) 0 5 (nI (if c = 8 then 8 else c + 1))
theorem past_ok : ∀ p, p < 8 → 32 + 14 * p ∈ bases ∧ REFT 31 p = some (32 + 14 * p) := by decide +kernel
theorem remM_S (hS : Shp M) (p c : Nat) : Shp (remM M p c) := by
  unfold remM
  exact shp_pI (shp_pI (stTake_S hS _ _))
theorem s_remember {p c : Nat} (hS : Shp M) (hp : p < 8) (hc : c ≤ 8) (h4 : mI M 0 4 = nI p) (h5 : mI M 0 5 = nI c) (hk : keptOk M 3) : EvR l jX6_remember 3 120 0 0 [.ref 0] M (.inl none) (remM M p c) := by
  obtain ⟨b1, b2⟩ := past_ok p hp
  have hb9 := st_of b1
  have hS1 := stTake_S hS (32 + 14 * p) 3
  have e0 : mI (stTake M (32 + 14 * p) 3) 0 = mI M 0 := stTake_ne (by omega)
  have hmin : (if 8 < nI c + 1 then 8 else nI c + 1) = nI (if c = 8 then 8 else c + 1) := by
    rw [nI_1]
    by_cases h : c = 8
    · subst h; decide
    · rw [if_neg h, if_neg (fun q => h (by have := (nI_ltI (a := 8) (b := c + 1) (by omega) (by omega)).mp q; omega))]
  refine ev_intro rfl (nb rfl) rfl ?_
  unfold remM
  by_cases h7 : p = 7
  · rw [if_pos h7]
    refine g_aload_n (pc := 0) dX6_remember_0 rfl trivial ?_
    refine g_getf (pc := 1) dX6_remember_1 fk_X6_26 (shK hS rfl) (fv_arr (shR hS rfl)) ?_
    refine g_aload_n (pc := 4) dX6_remember_4 rfl trivial ?_
    refine g_getf (pc := 5) (v := .int _) dX6_remember_5 fk_X6_310 (shK hS rfl) (fun _ => congrArg Value.int (h4)) ?_
    refine g_aaload_State (pc := 8) dX6_remember_8 (shK hS rfl) rfl hp (by decide) (shR hS b2) ?_
    refine g_aload_n (pc := 9) dX6_remember_9 rfl trivial ?_
    refine g_getf (pc := 10) dX6_remember_10 fk_X6_19 (shK hS rfl) (fv_obj (shR hS rfl)) ?_
    refine g_invV_r (pc := 13) (As := [_]) dX6_remember_13 rfl (s_stTake hS hb9 st3 (by omega) hk) rfl rfl (shK hS hb9.1.1) rfl rfl lk_X6_313 rfl (nb rfl) ⟨nb rfl, nb rfl⟩ rfl ?_
    generalize stTake M (32 + 14 * p) 3 = X at hS1 e0 ⊢
    refine g_aload_n (pc := 16) dX6_remember_16 rfl trivial ?_
    refine g_aload_n (pc := 17) dX6_remember_17 rfl trivial ?_
    refine g_getf (pc := 18) (v := .int _) dX6_remember_18 fk_X6_310 (shK hS1 rfl) (fun _ => congrArg Value.int (((congrFun e0 4).trans h4))) ?_
    refine g_bipush (pc := 21) (v := 7) dX6_remember_21 rfl ?_
    refine g_icmp_ne (pc := 23) (tgt := 30) dX6_remember_23 rfl (fun h23 => absurd h23 (fun h => h (by rw [h7]; rfl))) (fun _ => ?_)
    refine g_iconst (pc := 26) (v := 0) dX6_remember_26 rfl ?_
    refine g_goto (pc := 27) (tgt := 36) dX6_remember_27 rfl ?_
    refine g_putI (pc := 36) dX6_remember_36 fp_X6_310 (shK hS1 rfl) ⟨rfl, rfl⟩ (fun _ _ _ _ => rfl) ?_
    refine g_aload_n (pc := 39) dX6_remember_39 rfl trivial ?_
    refine g_aload_n (pc := 40) dX6_remember_40 rfl trivial ?_
    refine g_getf (pc := 41) (v := .int _) dX6_remember_41 fk_X6_106 (shK hS1 rfl) (fun _ => congrArg Value.int (((pI_k (by decide)).trans ((congrFun e0 5).trans h5)))) ?_
    refine g_iconst (pc := 44) (v := 1) dX6_remember_44 rfl ?_
    refine g_iadd (pc := 45) dX6_remember_45 ?_
    refine g_bipush (pc := 46) (v := 8) dX6_remember_46 rfl ?_
    refine g_mmin (pc := 48) dX6_remember_48 wd_1019 wd_430 wd_107 wd_431 (nb rfl) (nb rfl) ?_
    rw [hmin]
    refine g_putI (pc := 51) dX6_remember_51 fp_X6_106 (shK hS1 rfl) ⟨rfl, rfl⟩ (fun _ _ _ _ => rfl) ?_
    refine g_return (pc := 54) dX6_remember_54 rfl ?_
    exact ⟨rfl, rfl⟩
  · rw [if_neg h7]
    refine g_aload_n (pc := 0) dX6_remember_0 rfl trivial ?_
    refine g_getf (pc := 1) dX6_remember_1 fk_X6_26 (shK hS rfl) (fv_arr (shR hS rfl)) ?_
    refine g_aload_n (pc := 4) dX6_remember_4 rfl trivial ?_
    refine g_getf (pc := 5) (v := .int _) dX6_remember_5 fk_X6_310 (shK hS rfl) (fun _ => congrArg Value.int (h4)) ?_
    refine g_aaload_State (pc := 8) dX6_remember_8 (shK hS rfl) rfl hp (by decide) (shR hS b2) ?_
    refine g_aload_n (pc := 9) dX6_remember_9 rfl trivial ?_
    refine g_getf (pc := 10) dX6_remember_10 fk_X6_19 (shK hS rfl) (fv_obj (shR hS rfl)) ?_
    refine g_invV_r (pc := 13) (As := [_]) dX6_remember_13 rfl (s_stTake hS hb9 st3 (by omega) hk) rfl rfl (shK hS hb9.1.1) rfl rfl lk_X6_313 rfl (nb rfl) ⟨nb rfl, nb rfl⟩ rfl ?_
    generalize stTake M (32 + 14 * p) 3 = X at hS1 e0 ⊢
    refine g_aload_n (pc := 16) dX6_remember_16 rfl trivial ?_
    refine g_aload_n (pc := 17) dX6_remember_17 rfl trivial ?_
    refine g_getf (pc := 18) (v := .int _) dX6_remember_18 fk_X6_310 (shK hS1 rfl) (fun _ => congrArg Value.int (((congrFun e0 4).trans h4))) ?_
    refine g_bipush (pc := 21) (v := 7) dX6_remember_21 rfl ?_
    refine g_icmp_ne (pc := 23) (tgt := 30) dX6_remember_23 rfl (fun _ => ?_) (fun h23 => absurd (fun h => h7 ((nI_eq (by omega) (by decide)).mp h)) h23)
    refine g_aload_n (pc := 30) dX6_remember_30 rfl trivial ?_
    refine g_getf (pc := 31) (v := .int _) dX6_remember_31 fk_X6_310 (shK hS1 rfl) (fun _ => congrArg Value.int (((congrFun e0 4).trans h4))) ?_
    refine g_iconst (pc := 34) (v := 1) dX6_remember_34 rfl ?_
    refine g_iadd (pc := 35) dX6_remember_35 ?_
    rw [nI_1]
    refine g_putI (pc := 36) dX6_remember_36 fp_X6_310 (shK hS1 rfl) ⟨rfl, rfl⟩ (fun _ _ _ _ => rfl) ?_
    refine g_aload_n (pc := 39) dX6_remember_39 rfl trivial ?_
    refine g_aload_n (pc := 40) dX6_remember_40 rfl trivial ?_
    refine g_getf (pc := 41) (v := .int _) dX6_remember_41 fk_X6_106 (shK hS1 rfl) (fun _ => congrArg Value.int (((pI_k (by decide)).trans ((congrFun e0 5).trans h5)))) ?_
    refine g_iconst (pc := 44) (v := 1) dX6_remember_44 rfl ?_
    refine g_iadd (pc := 45) dX6_remember_45 ?_
    refine g_bipush (pc := 46) (v := 8) dX6_remember_46 rfl ?_
    refine g_mmin (pc := 48) dX6_remember_48 wd_1019 wd_430 wd_107 wd_431 (nb rfl) (nb rfl) ?_
    rw [hmin]
    refine g_putI (pc := 51) dX6_remember_51 fp_X6_106 (shK hS1 rfl) ⟨rfl, rfl⟩ (fun _ _ _ _ => rfl) ?_
    refine g_return (pc := 54) dX6_remember_54 rfl ?_
    exact ⟨rfl, rfl⟩
/-- the closure of a slot, made if it isn't current -/
def clOf (M : Mem) (s n : Nat) : Mem := if mI M (175 + 2 * s) 1 = 0 then clMake M (175 + 2 * s) (6 + 2 * s) n else M
theorem clOf_S (hS : Shp M) (s n : Nat) : Shp (clOf M s n) := by unfold clOf; split <;> exact hS
theorem rows_lay {s : Nat} (hs : s < 6) : LAY[6 + 2 * s]? = some (kI 32) := by
  have := ((base_ok 3 (by decide)).2 s hs).2.1
  rw [show 3 + 3 + 2 * s = 6 + 2 * s by omega] at this
  exact this
theorem s_closureOf {s n : Nat} (hS : Shp M) (hs : s < 6) (hz : mI M 3 1 = nI n) (hn : n ≤ 32) : EvR l jX6_closureOf 2 90 0 0 [.ref 0, .int (nI s)] M (.inl (some (.ref (175 + 2 * s)))) (clOf M s n) := by
  obtain ⟨c1, c2⟩ := cl_ok s hs
  refine ev_intro rfl (nb rfl) rfl ?_
  unfold clOf
  refine g_aload_n (pc := 0) dX6_closureOf_0 rfl trivial ?_
  refine g_getf (pc := 1) dX6_closureOf_1 fk_X6_39 (shK hS rfl) (fv_arr (shR hS rfl)) ?_
  refine g_iload_n (pc := 4) dX6_closureOf_4 rfl ?_
  refine g_aaload_Closure (pc := 5) dX6_closureOf_5 (shK hS rfl) rfl hs (by decide) (shR hS c2) ?_
  refine g_astore_n (pc := 6) (lv' := [(0, _), (1, _), (2, _)]) dX6_closureOf_6 trivial (nl rfl) rfl ?_
  refine g_aload_n (pc := 7) dX6_closureOf_7 rfl trivial ?_
  refine g_getf (pc := 8) (v := .int (mI _ _ _)) dX6_closureOf_8 fk_X6_341 (shK hS c1.1) (fun _ => rfl) ?_
  refine g_if_ne (pc := 11) (tgt := 30) dX6_closureOf_11 rfl (fun h11 => ?_) (fun h11 => ?_)
  · refine g_aload_n (pc := 30) dX6_closureOf_30 rfl trivial ?_
    refine g_areturn (pc := 31) dX6_closureOf_31 rfl (Or.inl ⟨_, rfl⟩) ?_
    exact ⟨rfl, (if_neg h11).symm⟩
  · refine g_aload_n (pc := 14) dX6_closureOf_14 rfl trivial ?_
    refine g_aload_n (pc := 15) dX6_closureOf_15 rfl trivial ?_
    refine g_iload_n (pc := 16) dX6_closureOf_16 rfl ?_
    refine g_invV_r (pc := 17) (As := [_]) dX6_closureOf_17 rfl (s_rowsOf hS hs) rfl rfl (shK hS rfl) rfl rfl lk_X6_112 rfl (nb rfl) ⟨nb rfl, nb rfl⟩ rfl ?_
    refine g_aload_n (pc := 20) dX6_closureOf_20 rfl trivial ?_
    refine g_getf (pc := 21) dX6_closureOf_21 fk_X6_19 (shK hS rfl) (fv_obj (shR hS rfl)) ?_
    refine g_getf (pc := 24) (v := .int _) dX6_closureOf_24 fk_X6_89 (shK hS rfl) (fun _ => congrArg Value.int (hz)) ?_
    refine g_invV_r (pc := 27) (As := [_, _]) dX6_closureOf_27 rfl (s_makeFrom hS c1 (shK hS (rows_lay hs)) hn) rfl rfl (shK hS c1.1) rfl rfl lk_X6_344 rfl (nb rfl) ⟨nb rfl, nb rfl⟩ rfl ?_
    refine g_aload_n (pc := 30) dX6_closureOf_30 rfl trivial ?_
    refine g_areturn (pc := 31) dX6_closureOf_31 rfl (Or.inl ⟨_, rfl⟩) ?_
    exact ⟨rfl, (if_pos (Decidable.not_not.mp h11)).symm⟩
def noteM (M : Mem) (s : Nat) (x : Int32) : Mem := mxAnew (pI M (175 + 2 * s) 1 0) (5 + 2 * s) x
theorem noteM_S (hS : Shp M) (s : Nat) (x : Int32) : Shp (noteM M s x) := Shp.anew (M := pI M (175 + 2 * s) 1 0) hS
theorem mx5 {s : Nat} (hs : s < 6) : isMx (5 + 2 * s) ∧ REFT 4 s = some (5 + 2 * s) := by
  have h := st3.2 s hs
  rw [show 3 + 2 + 2 * s = 5 + 2 * s by omega] at h
  exact h
theorem s_noteChange {s : Nat} {x : Int32} (hS : Shp M) (hs : s < 6) (hz : mI M 3 1 = x) : EvR l jX6_noteChange 2 50 0 0 [.ref 0, .int (nI s)] M (.inl none) (noteM M s x) := by
  obtain ⟨c1, c2⟩ := cl_ok s hs
  obtain ⟨m1, m2⟩ := mx5 hs
  have hS1 : Shp (pI M (175 + 2 * s) 1 0) := hS
  refine ev_intro rfl (nb rfl) rfl ?_
  refine g_aload_n (pc := 0) dX6_noteChange_0 rfl trivial ?_
  refine g_getf (pc := 1) dX6_noteChange_1 fk_X6_39 (shK hS rfl) (fv_arr (shR hS rfl)) ?_
  refine g_iload_n (pc := 4) dX6_noteChange_4 rfl ?_
  refine g_aaload_Closure (pc := 5) dX6_noteChange_5 (shK hS rfl) rfl hs (by decide) (shR hS c2) ?_
  refine g_iconst (pc := 6) (v := 0) dX6_noteChange_6 rfl ?_
  refine g_putI (pc := 7) dX6_noteChange_7 fp_X6_341 (shK hS c1.1) ⟨rfl, rfl⟩ (fun _ _ _ _ => rfl) ?_
  refine g_aload_n (pc := 10) dX6_noteChange_10 rfl trivial ?_
  refine g_getf (pc := 11) dX6_noteChange_11 fk_X6_19 (shK hS rfl) (fv_obj (shR hS rfl)) ?_
  refine g_getf (pc := 14) dX6_noteChange_14 fk_X6_225 (shK hS rfl) (fv_arr (shR hS rfl)) ?_
  refine g_iload_n (pc := 17) dX6_noteChange_17 rfl ?_
  refine g_aaload_Matrix (pc := 18) dX6_noteChange_18 (shK hS rfl) rfl hs (by decide) (shR hS m2) ?_
  refine g_aload_n (pc := 19) dX6_noteChange_19 rfl trivial ?_
  refine g_getf (pc := 20) dX6_noteChange_20 fk_X6_19 (shK hS rfl) (fv_obj (shR hS rfl)) ?_
  refine g_getf (pc := 23) (v := .int _) dX6_noteChange_23 fk_X6_89 (shK hS rfl) (fun _ => congrArg Value.int (((congrFun (pI_i (by omega)) 1).trans hz))) ?_
  refine g_invV_r (pc := 26) (As := [_]) dX6_noteChange_26 rfl (s_noteMadeAnew hS1 m1) rfl rfl (shK hS m1.1) rfl rfl lk_X6_292 rfl (nb rfl) ⟨nb rfl, nb rfl⟩ rfl ?_
  refine g_return (pc := 29) dX6_noteChange_29 rfl ?_
  exact ⟨rfl, rfl⟩
theorem mxAnew_ne {m i : Nat} {x : Int32} (h : i ≠ m) : mI (mxAnew M m x) i = mI M i := by
  unfold mxAnew mxLook
  split
  · rfl
  · rw [pI_i h, pI_i h, pI_i h]
theorem noteM_ne {s i : Nat} {x : Int32} (h : i ≠ 175 + 2 * s) (h2 : i ≠ 5 + 2 * s) : mI (noteM M s x) i = mI M i := by
  unfold noteM; rw [mxAnew_ne h2, pI_i h]
/-- rows are stored in a slot -/
def storeM (M : Mem) (r t n : Nat) : Mem := noteM (sI M (6 + 2 * t) (wr (mI M (6 + 2 * t)) (mI M r) n)) t (nI n)
theorem s_store {r t n : Nat} (hS : Shp M) (ht : t < 6) (hz : mI M 3 1 = nI n) (hn : n ≤ 32) (hk : (mK M)[r]? = some (kI 32)) : EvR l jX6_store 3 80 0 0 [.ref 0, .ref r, .int (nI t)] M (.inl (some (.int (onesF (mI (storeM M r t n) (6 + 2 * t)) n)))) (storeM M r t n) := by
  have hS1 : Shp (sI M (6 + 2 * t) (wr (mI M (6 + 2 * t)) (mI M r) n)) := hS
  have hS2 : Shp (storeM M r t n) := noteM_S hS1 t (nI n)
  have z2 : mI (sI M (6 + 2 * t) (wr (mI M (6 + 2 * t)) (mI M r) n)) 3 1 = nI n := (congrFun (sI_ne (by omega)) 1).trans hz
  have z3 : mI (storeM M r t n) 3 1 = nI n := (congrFun (noteM_ne (by omega) (by omega)) 1).trans z2
  refine ev_intro rfl (nb rfl) rfl ?_
  refine g_aload_n (pc := 0) dX6_store_0 rfl trivial ?_
  refine g_iconst (pc := 1) (v := 0) dX6_store_1 rfl ?_
  refine g_aload_n (pc := 2) dX6_store_2 rfl trivial ?_
  refine g_iload_n (pc := 3) dX6_store_3 rfl ?_
  refine g_invV_r (pc := 4) (As := [_]) dX6_store_4 rfl (s_rowsOf hS ht) rfl rfl (shK hS rfl) rfl rfl lk_X6_112 rfl (nb rfl) ⟨nb rfl, nb rfl⟩ rfl ?_
  refine g_iconst (pc := 7) (v := 0) dX6_store_7 rfl ?_
  refine g_aload_n (pc := 8) dX6_store_8 rfl trivial ?_
  refine g_getf (pc := 9) dX6_store_9 fk_X6_19 (shK hS rfl) (fv_obj (shR hS rfl)) ?_
  refine g_getf (pc := 12) (v := .int _) dX6_store_12 fk_X6_89 (shK hS rfl) (fun _ => congrArg Value.int (hz)) ?_
  refine g_copyI (pc := 15) (sp := 0) (dp := 0) dX6_store_15 wd_912 wd_510 wd_509 wd_108 hk (shK hS (rows_lay ht)) rfl rfl rfl (by omega) (by omega) ⟨by decide, by decide⟩ hS.2.1 (nb rfl) (nb rfl) ?_
  rw [cpy_wr]
  refine g_aload_n (pc := 18) dX6_store_18 rfl trivial ?_
  refine g_iload_n (pc := 19) dX6_store_19 rfl ?_
  refine g_invV_r (pc := 20) (As := [_]) dX6_store_20 rfl (s_noteChange hS1 ht z2) rfl rfl (shK hS rfl) rfl rfl lk_X6_244 rfl (nb rfl) ⟨nb rfl, nb rfl⟩ rfl ?_
  refine g_aload_n (pc := 23) dX6_store_23 rfl trivial ?_
  refine g_iload_n (pc := 24) dX6_store_24 rfl ?_
  refine g_invV_r (pc := 25) (As := [_]) dX6_store_25 rfl (s_rowsOf hS2 ht) rfl rfl (shK hS2 rfl) rfl rfl lk_X6_112 rfl (nb rfl) ⟨nb rfl, nb rfl⟩ rfl ?_
  refine g_aload_n (pc := 28) dX6_store_28 rfl trivial ?_
  refine g_getf (pc := 29) dX6_store_29 fk_X6_19 (shK hS2 rfl) (fv_obj (shR hS2 rfl)) ?_
  refine g_getf (pc := 32) (v := .int _) dX6_store_32 fk_X6_89 (shK hS2 rfl) (fun _ => congrArg Value.int (z3)) ?_
  refine g_invS_r (pc := 35) (As := [_, _]) dX6_store_35 rfl (s_onesOf (shK hS2 (rows_lay ht)) hn) rfl rfl lk_X6_145 rfl (nb rfl) ⟨nb rfl, nb rfl⟩ rfl ?_
  refine g_ireturn (pc := 38) dX6_store_38 rfl rfl ?_
  exact ⟨rfl, rfl⟩
def workM (M : Mem) : Mem := pI (pI M 3 3 (mI M 187 6)) 3 4 (mI M 187 7)
theorem s_noteWork (hS : Shp M) : EvR l jX6_noteWork 0 0 0 0 [.ref 0] M (.inl none) (workM M) := by
  refine ev_intro rfl (nb rfl) rfl ?_
  refine g_aload_n (pc := 0) dX6_noteWork_0 rfl trivial ?_
  refine g_getf (pc := 1) dX6_noteWork_1 fk_X6_19 (shK hS rfl) (fv_obj (shR hS rfl)) ?_
  refine g_aload_n (pc := 4) dX6_noteWork_4 rfl trivial ?_
  refine g_getf (pc := 5) dX6_noteWork_5 fk_X6_47 (shK hS rfl) (fv_obj (shR hS rfl)) ?_
  refine g_getf (pc := 8) (v := .int (mI _ _ _)) dX6_noteWork_8 fk_X6_347 (shK hS rfl) (fun _ => rfl) ?_
  refine g_putI (pc := 11) dX6_noteWork_11 fp_X6_304 (shK hS rfl) ⟨rfl, rfl⟩ (fun _ _ _ _ => rfl) ?_
  refine g_aload_n (pc := 14) dX6_noteWork_14 rfl trivial ?_
  refine g_getf (pc := 15) dX6_noteWork_15 fk_X6_19 (shK hS rfl) (fv_obj (shR hS rfl)) ?_
  refine g_aload_n (pc := 18) dX6_noteWork_18 rfl trivial ?_
  refine g_getf (pc := 19) dX6_noteWork_19 fk_X6_47 (shK hS rfl) (fv_obj (shR hS rfl)) ?_
  refine g_getf (pc := 22) (v := .int _) dX6_noteWork_22 fk_X6_348 (shK hS rfl) (fun _ => congrArg Value.int ((congrFun (pI_i (by decide)) 7))) ?_
  refine g_putI (pc := 25) dX6_noteWork_25 fp_X6_307 (shK hS rfl) ⟨rfl, rfl⟩ (fun _ _ _ _ => rfl) ?_
  refine g_return (pc := 28) dX6_noteWork_28 rfl ?_
  exact ⟨rfl, rfl⟩
end
end
-- 18.deskpriv
section
/-! what the class's object computes over rows -/
section
variable {l : Launch} {M : Mem}
def firstEq (f : Nat → Int32) (x : Int32) : Nat → Nat → Int32
  | 0, _ => -1
  | d + 1, i => if f i = x then nI i else firstEq f x d (i + 1)
theorem s_firstEqual {r n : Nat} {x : Int32} (hS : Shp M) (hk : (mK M)[r]? = some (kI 32)) (hz : mI M 3 1 = nI n) (hn : n ≤ 32) : EvR l jX6_firstEqual 0 0 0 0 [.ref 0, .ref r, .int x] M (.inl (some (.int (firstEq (mI M r) x n 0)))) M := by
  obtain ⟨S, hs⟩ : ∃ S, S = firstEq (mI M r) x n 0 := ⟨_, rfl⟩
  rw [← hs]
  refine ev_intro rfl (nb rfl) rfl ?_
  refine g_iconst (pc := 0) (v := 0) dX6_firstEqual_0 rfl ?_
  refine g_istore_n (pc := 1) (lv' := [(0, _), (1, _), (2, _), (3, _)]) dX6_firstEqual_1 (nl rfl) rfl ?_
  refine go_while (pc := 2) (σ := Nat) (fun i => i ≤ n ∧ firstEq (mI M r) x (n - i) i = S) (fun i => n - i) (fun i => [(0, .ref 0), (1, .ref r), (2, .int x), (3, .int (nI i))]) (fun _ => M) 0 ⟨rfl, rfl, rfl, rfl, trivial⟩ rfl ⟨Nat.zero_le _, hs.symm⟩ ?_
  rintro i ⟨h1, h2⟩ ih
  by_cases hi : i < n
  · rw [show n - i = (n - (i + 1)) + 1 by omega, firstEq] at h2
    refine g_iload_n (pc := 2) dX6_firstEqual_2 rfl ?_
    refine g_aload_n (pc := 3) dX6_firstEqual_3 rfl trivial ?_
    refine g_getf (pc := 4) dX6_firstEqual_4 fk_X6_19 (shK hS rfl) (fv_obj (shR hS rfl)) ?_
    refine g_getf (pc := 7) (v := .int _) dX6_firstEqual_7 fk_X6_89 (shK hS rfl) (fun _ => congrArg Value.int (hz)) ?_
    refine g_icmp_ge (pc := 10) (tgt := 28) dX6_firstEqual_10 rfl (fun h10 => absurd h10 (nI_ge hi (by omega))) (fun _ => ?_)
    refine g_aload_n (pc := 13) dX6_firstEqual_13 rfl trivial ?_
    refine g_iload_n (pc := 14) dX6_firstEqual_14 rfl ?_
    refine g_iaload (pc := 15) dX6_firstEqual_15 hk rfl (by omega) (nl rfl) ?_
    refine g_iload_n (pc := 16) dX6_firstEqual_16 rfl ?_
    refine g_icmp_ne (pc := 17) (tgt := 22) dX6_firstEqual_17 rfl (fun h17 => ?_) (fun h17 => ?_)
    · rw [if_neg h17] at h2
      refine g_iinc (pc := 22) (lv' := [(0, _), (1, _), (2, _), (3, _)]) dX6_firstEqual_22 rfl (nI_1 _) (nl rfl) rfl ?_
      refine g_goto (pc := 25) (tgt := 2) dX6_firstEqual_25 rfl ?_
      exact ih (i + 1) ⟨by omega, h2⟩ (by omega)
    · rw [if_pos (Decidable.not_not.mp h17)] at h2
      refine g_iload_n (pc := 20) dX6_firstEqual_20 rfl ?_
      refine g_ireturn (pc := 21) dX6_firstEqual_21 rfl rfl ?_
      exact ⟨by rw [← h2], rfl⟩
  · have hi' : i = n := by omega
    subst hi'
    refine g_iload_n (pc := 2) dX6_firstEqual_2 rfl ?_
    refine g_aload_n (pc := 3) dX6_firstEqual_3 rfl trivial ?_
    refine g_getf (pc := 4) dX6_firstEqual_4 fk_X6_19 (shK hS rfl) (fv_obj (shR hS rfl)) ?_
    refine g_getf (pc := 7) (v := .int _) dX6_firstEqual_7 fk_X6_89 (shK hS rfl) (fun _ => congrArg Value.int (hz)) ?_
    refine g_icmp_ge (pc := 10) (tgt := 28) dX6_firstEqual_10 rfl (fun _ => ?_) (fun h10 => absurd (nI_le (Nat.le_refl _) (by omega)) h10)
    refine g_iconst (pc := 28) (v := (-1)) dX6_firstEqual_28 rfl ?_
    refine g_ireturn (pc := 29) dX6_firstEqual_29 rfl rfl ?_
    exact ⟨by rw [← h2, Nat.sub_self]; rfl, rfl⟩
def frN (f : Nat → Int32) (n : Nat) : Nat → Int32
  | 0 => 0
  | k + 1 => if firstEq f (f k) n 0 = nI k then frN f n k + 1 else frN f n k
theorem s_firstRows {r n m : Nat} (hS : Shp M) (hk : (mK M)[r]? = some (kI 32)) (hz : mI M 3 1 = nI n) (hn : n ≤ 32) (hm : m ≤ 32) : EvR l jX6_firstRows 1 30 0 0 [.ref 0, .ref r, .int (nI m)] M (.inl (some (.int (frN (mI M r) n m)))) M := by
  refine ev_intro rfl (nb rfl) rfl ?_
  refine g_iconst (pc := 0) (v := 0) dX6_firstRows_0 rfl ?_
  refine g_istore_n (pc := 1) (lv' := [(0, _), (1, _), (2, _), (3, _)]) dX6_firstRows_1 (nl rfl) rfl ?_
  refine g_iconst (pc := 2) (v := 0) dX6_firstRows_2 rfl ?_
  refine g_istore (pc := 3) (lv' := [(0, _), (1, _), (2, _), (3, _), (4, _)]) dX6_firstRows_3 (nl rfl) rfl ?_
  refine go_loop (pc := 5) m (fun i => [(0, .ref 0), (1, .ref r), (2, .int (nI m)), (3, .int (frN (mI M r) n i)), (4, .int (nI i))]) (fun i => M) ⟨rfl, rfl, rfl, rfl, rfl, trivial⟩ rfl ?_ ?_
  · intro i hi ih
    generalize hX : frN (mI M r) n m = X
    rw [hX, frN] at ih
    refine g_iload (pc := 5) dX6_firstRows_5 rfl ?_
    refine g_iload_n (pc := 7) dX6_firstRows_7 rfl ?_
    refine g_icmp_ge (pc := 8) (tgt := 34) dX6_firstRows_8 rfl (fun h8 => absurd h8 (nI_ge hi (by omega))) (fun _ => ?_)
    refine g_aload_n (pc := 11) dX6_firstRows_11 rfl trivial ?_
    refine g_aload_n (pc := 12) dX6_firstRows_12 rfl trivial ?_
    refine g_aload_n (pc := 13) dX6_firstRows_13 rfl trivial ?_
    refine g_iload (pc := 14) dX6_firstRows_14 rfl ?_
    refine g_iaload (pc := 16) dX6_firstRows_16 hk rfl (by omega) (nl rfl) ?_
    refine g_invV_r (pc := 17) (As := [_, _]) dX6_firstRows_17 rfl (s_firstEqual hS hk hz hn) rfl rfl (shK hS rfl) rfl rfl lk_X6_153 rfl (nb rfl) ⟨nb rfl, nb rfl⟩ rfl ?_
    refine g_iload (pc := 20) dX6_firstRows_20 rfl ?_
    refine g_icmp_ne (pc := 22) (tgt := 28) dX6_firstRows_22 rfl (fun h22 => ?_) (fun h22 => ?_)
    · rw [if_neg h22] at ih
      refine g_iinc (pc := 28) (lv' := [(0, _), (1, _), (2, _), (3, _), (4, _)]) dX6_firstRows_28 rfl (nI_1 _) (nl rfl) rfl ?_
      refine g_goto (pc := 31) (tgt := 5) dX6_firstRows_31 rfl ?_
      exact ih
    · rw [if_pos (Decidable.not_not.mp h22)] at ih
      refine g_iinc (pc := 25) (lv' := [(0, _), (1, _), (2, _), (3, _), (4, _)]) dX6_firstRows_25 rfl rfl (nl rfl) rfl ?_
      refine g_iinc (pc := 28) (lv' := [(0, _), (1, _), (2, _), (3, _), (4, _)]) dX6_firstRows_28 rfl (nI_1 _) (nl rfl) rfl ?_
      refine g_goto (pc := 31) (tgt := 5) dX6_firstRows_31 rfl ?_
      exact ih
  · refine g_iload (pc := 5) dX6_firstRows_5 rfl ?_
    refine g_iload_n (pc := 7) dX6_firstRows_7 rfl ?_
    refine g_icmp_ge (pc := 8) (tgt := 34) dX6_firstRows_8 rfl (fun _ => ?_) (fun h8 => absurd (nI_le (Nat.le_refl _) (by omega)) h8)
    refine g_iload_n (pc := 34) dX6_firstRows_34 rfl ?_
    refine g_ireturn (pc := 35) dX6_firstRows_35 rfl rfl ?_
    exact ⟨rfl, rfl⟩
def jrF (f : Nat → Int32) (x : Int32) : Nat → Int32
  | 0 => 0
  | k + 1 => if hb x k = true then jrF f x k ||| f k else jrF f x k
theorem s_joinedRows {r n : Nat} {x : Int32} (hS : Shp M) (hk : (mK M)[r]? = some (kI 32)) (hz : mI M 3 1 = nI n) (hn : n ≤ 32) : EvR l jX6_joinedRows 1 30 0 0 [.ref 0, .ref r, .int x] M (.inl (some (.int (jrF (mI M r) x n)))) M := by
  refine ev_intro rfl (nb rfl) rfl ?_
  refine g_iconst (pc := 0) (v := 0) dX6_joinedRows_0 rfl ?_
  refine g_istore_n (pc := 1) (lv' := [(0, _), (1, _), (2, _), (3, _)]) dX6_joinedRows_1 (nl rfl) rfl ?_
  refine g_iconst (pc := 2) (v := 0) dX6_joinedRows_2 rfl ?_
  refine g_istore (pc := 3) (lv' := [(0, _), (1, _), (2, _), (3, _), (4, _)]) dX6_joinedRows_3 (nl rfl) rfl ?_
  refine go_loop (pc := 5) n (fun i => [(0, .ref 0), (1, .ref r), (2, .int x), (3, .int (jrF (mI M r) x i)), (4, .int (nI i))]) (fun i => M) ⟨rfl, rfl, rfl, rfl, rfl, trivial⟩ rfl ?_ ?_
  · intro i hi ih
    generalize hX : jrF (mI M r) x n = X
    rw [hX, jrF] at ih
    refine g_iload (pc := 5) dX6_joinedRows_5 rfl ?_
    refine g_aload_n (pc := 7) dX6_joinedRows_7 rfl trivial ?_
    refine g_getf (pc := 8) dX6_joinedRows_8 fk_X6_19 (shK hS rfl) (fv_obj (shR hS rfl)) ?_
    refine g_getf (pc := 11) (v := .int _) dX6_joinedRows_11 fk_X6_89 (shK hS rfl) (fun _ => congrArg Value.int (hz)) ?_
    refine g_icmp_ge (pc := 14) (tgt := 39) dX6_joinedRows_14 rfl (fun h14 => absurd h14 (nI_ge hi (by omega))) (fun _ => ?_)
    refine g_iload_n (pc := 17) dX6_joinedRows_17 rfl ?_
    refine g_iload (pc := 18) dX6_joinedRows_18 rfl ?_
    refine g_invS_r (pc := 20) (As := [_, _]) dX6_joinedRows_20 rfl (s_hasOne (by omega)) rfl rfl lk_X6_116 rfl (nb rfl) ⟨nb rfl, nb rfl⟩ rfl ?_
    refine g_if_eq (pc := 23) (tgt := 33) dX6_joinedRows_23 rfl (fun h23 => ?_) (fun h23 => ?_)
    · rw [b1_0] at h23
      rw [if_neg (by rw [h23]; decide)] at ih
      refine g_iinc (pc := 33) (lv' := [(0, _), (1, _), (2, _), (3, _), (4, _)]) dX6_joinedRows_33 rfl (nI_1 _) (nl rfl) rfl ?_
      refine g_goto (pc := 36) (tgt := 5) dX6_joinedRows_36 rfl ?_
      exact ih
    · rw [b1_0, Bool.not_eq_false] at h23
      rw [if_pos h23] at ih
      refine g_iload_n (pc := 26) dX6_joinedRows_26 rfl ?_
      refine g_aload_n (pc := 27) dX6_joinedRows_27 rfl trivial ?_
      refine g_iload (pc := 28) dX6_joinedRows_28 rfl ?_
      refine g_iaload (pc := 30) dX6_joinedRows_30 hk rfl (by omega) (nl rfl) ?_
      refine g_ior (pc := 31) dX6_joinedRows_31 ?_
      refine g_istore_n (pc := 32) (lv' := [(0, _), (1, _), (2, _), (3, _), (4, _)]) dX6_joinedRows_32 (nl rfl) rfl ?_
      refine g_iinc (pc := 33) (lv' := [(0, _), (1, _), (2, _), (3, _), (4, _)]) dX6_joinedRows_33 rfl (nI_1 _) (nl rfl) rfl ?_
      refine g_goto (pc := 36) (tgt := 5) dX6_joinedRows_36 rfl ?_
      exact ih
  · refine g_iload (pc := 5) dX6_joinedRows_5 rfl ?_
    refine g_aload_n (pc := 7) dX6_joinedRows_7 rfl trivial ?_
    refine g_getf (pc := 8) dX6_joinedRows_8 fk_X6_19 (shK hS rfl) (fv_obj (shR hS rfl)) ?_
    refine g_getf (pc := 11) (v := .int _) dX6_joinedRows_11 fk_X6_89 (shK hS rfl) (fun _ => congrArg Value.int (hz)) ?_
    refine g_icmp_ge (pc := 14) (tgt := 39) dX6_joinedRows_14 rfl (fun _ => ?_) (fun h14 => absurd (nI_le (Nat.le_refl _) (by omega)) h14)
    refine g_iload_n (pc := 39) dX6_joinedRows_39 rfl ?_
    refine g_ireturn (pc := 40) dX6_joinedRows_40 rfl rfl ?_
    exact ⟨rfl, rfl⟩
def feF (f : Nat → Int32) (b n : Nat) : Nat → Nat → Int32 → Int32
  | 0, _, _ => -1
  | d + 1, e, x => if hb x b = true then nI e else feF f b n d (e + 1) (jrF f x n)
theorem nI_gt {a b : Nat} (h : b < a) (hb : a < 2147483648) : nI b < nI a := (nI_ltI (by omega) hb).mpr h
theorem nI_ngt {a b : Nat} (h : a ≤ b) (hb : b < 2147483648) : ¬ nI b < nI a := fun q => by have := (nI_ltI (a := b) (b := a) hb (by omega)).mp q; omega
theorem s_fewestEdges {r n a b : Nat} (hS : Shp M) (hk : (mK M)[r]? = some (kI 32)) (hz : mI M 3 1 = nI n) (hn : n ≤ 32) (ha : a < 32) (hb9 : b < 32) : EvR l jX6_fewestEdges 2 60 0 0 [.ref 0, .ref r, .int (nI a), .int (nI b)] M (.inl (some (.int (feF (mI M r) b n n 1 (mI M r a))))) M := by
  obtain ⟨S, hs⟩ : ∃ S, S = feF (mI M r) b n n 1 (mI M r a) := ⟨_, rfl⟩
  rw [← hs]
  refine ev_intro rfl (nb rfl) rfl ?_
  refine g_aload_n (pc := 0) dX6_fewestEdges_0 rfl trivial ?_
  refine g_iload_n (pc := 1) dX6_fewestEdges_1 rfl ?_
  refine g_iaload (pc := 2) dX6_fewestEdges_2 hk rfl ha (nl rfl) ?_
  refine g_istore (pc := 3) (lv' := [(0, _), (1, _), (2, _), (3, _), (4, _)]) dX6_fewestEdges_3 (nl rfl) rfl ?_
  refine g_iconst (pc := 5) (v := 1) dX6_fewestEdges_5 rfl ?_
  refine g_istore (pc := 6) (lv' := [(0, _), (1, _), (2, _), (3, _), (4, _), (5, _)]) dX6_fewestEdges_6 (nl rfl) rfl ?_
  refine go_while (pc := 8) (σ := Nat × Int32) (fun s => 1 ≤ s.1 ∧ s.1 ≤ n + 1 ∧ feF (mI M r) b n (n + 1 - s.1) s.1 s.2 = S) (fun s => n + 1 - s.1) (fun s => [(0, .ref 0), (1, .ref r), (2, .int (nI a)), (3, .int (nI b)), (4, .int s.2), (5, .int (nI s.1))]) (fun _ => M) (1, mI M r a) ⟨rfl, rfl, rfl, rfl, rfl, rfl, trivial⟩ rfl ⟨Nat.le_refl _, by simp only; omega, hs.symm⟩ ?_
  rintro ⟨e, x⟩ ⟨h0, h1, h2⟩ ih
  simp only at h0 h1 h2 ih
  by_cases hi : e ≤ n
  · rw [show n + 1 - e = (n + 1 - (e + 1)) + 1 by omega, feF] at h2
    refine g_iload (pc := 8) dX6_fewestEdges_8 rfl ?_
    refine g_aload_n (pc := 10) dX6_fewestEdges_10 rfl trivial ?_
    refine g_getf (pc := 11) dX6_fewestEdges_11 fk_X6_19 (shK hS rfl) (fv_obj (shR hS rfl)) ?_
    refine g_getf (pc := 14) (v := .int _) dX6_fewestEdges_14 fk_X6_89 (shK hS rfl) (fun _ => congrArg Value.int (hz)) ?_
    refine g_icmp_gt (pc := 17) (tgt := 47) dX6_fewestEdges_17 rfl (fun h17 => absurd h17 (nI_ngt hi (by omega))) (fun _ => ?_)
    refine g_iload (pc := 20) dX6_fewestEdges_20 rfl ?_
    refine g_iload_n (pc := 22) dX6_fewestEdges_22 rfl ?_
    refine g_invS_r (pc := 23) (As := [_, _]) dX6_fewestEdges_23 rfl (s_hasOne hb9) rfl rfl lk_X6_116 rfl (nb rfl) ⟨nb rfl, nb rfl⟩ rfl ?_
    refine g_if_eq (pc := 26) (tgt := 32) dX6_fewestEdges_26 rfl (fun h26 => ?_) (fun h26 => ?_)
    · rw [b1_0] at h26
      rw [if_neg (by rw [h26]; decide)] at h2
      refine g_aload_n (pc := 32) dX6_fewestEdges_32 rfl trivial ?_
      refine g_aload_n (pc := 33) dX6_fewestEdges_33 rfl trivial ?_
      refine g_iload (pc := 34) dX6_fewestEdges_34 rfl ?_
      refine g_invV_r (pc := 36) (As := [_, _]) dX6_fewestEdges_36 rfl (s_joinedRows hS hk hz hn) rfl rfl (shK hS rfl) rfl rfl lk_X6_189 rfl (nb rfl) ⟨nb rfl, nb rfl⟩ rfl ?_
      refine g_istore (pc := 39) (lv' := [(0, _), (1, _), (2, _), (3, _), (4, _), (5, _)]) dX6_fewestEdges_39 (nl rfl) rfl ?_
      refine g_iinc (pc := 41) (lv' := [(0, _), (1, _), (2, _), (3, _), (4, _), (5, _)]) dX6_fewestEdges_41 rfl (nI_1 _) (nl rfl) rfl ?_
      refine g_goto (pc := 44) (tgt := 8) dX6_fewestEdges_44 rfl ?_
      exact ih (e + 1, _) ⟨by simp only; omega, by simp only; omega, h2⟩ (by simp only; omega)
    · rw [b1_0, Bool.not_eq_false] at h26
      rw [if_pos h26] at h2
      refine g_iload (pc := 29) dX6_fewestEdges_29 rfl ?_
      refine g_ireturn (pc := 31) dX6_fewestEdges_31 rfl rfl ?_
      exact ⟨by rw [← h2], rfl⟩
  · have hi' : e = n + 1 := by omega
    subst hi'
    refine g_iload (pc := 8) dX6_fewestEdges_8 rfl ?_
    refine g_aload_n (pc := 10) dX6_fewestEdges_10 rfl trivial ?_
    refine g_getf (pc := 11) dX6_fewestEdges_11 fk_X6_19 (shK hS rfl) (fv_obj (shR hS rfl)) ?_
    refine g_getf (pc := 14) (v := .int _) dX6_fewestEdges_14 fk_X6_89 (shK hS rfl) (fun _ => congrArg Value.int (hz)) ?_
    refine g_icmp_gt (pc := 17) (tgt := 47) dX6_fewestEdges_17 rfl (fun _ => ?_) (fun h17 => absurd (nI_gt (Nat.lt_succ_self _) (by omega)) h17)
    refine g_iconst (pc := 47) (v := (-1)) dX6_fewestEdges_47 rfl ?_
    refine g_ireturn (pc := 48) dX6_fewestEdges_48 rfl rfl ?_
    exact ⟨by rw [← h2, Nat.sub_self]; rfl, rfl⟩
def rwlI (f : Nat → Int32) (x : Int32) : Nat → Int32
  | 0 => 0
  | k + 1 => if f k &&& x = 0 then rwlI f x k else rwlI f x k ||| bitI k
def rwlF (f : Nat → Int32) (e n : Nat) : Nat → Int32
  | 0 => bitI e
  | k + 1 => rwlI f (rwlF f e n k) n
theorem lay_196 (hS : Shp M) : (mK M)[196]? = some (kI 32) := shK hS rfl
theorem nI_m1 {e : Nat} (h : 1 ≤ e) : nI e - 1 = nI (e - 1) := by
  obtain ⟨d, rfl⟩ : ∃ d, e = d + 1 := ⟨e - 1, by omega⟩
  rw [← nI_1]; simp
theorem s_fillLevels {r n b e : Nat} (hS : Shp M) (hk : (mK M)[r]? = some (kI 32)) (hr : r ≠ 196) (hz : mI M 3 1 = nI n) (hn : n ≤ 32) (he : 1 ≤ e) (he9 : e ≤ 32) : EvR l jX6_fillLevels 0 0 0 0 [.ref 0, .ref r, .int (nI b), .int (nI e)] M (.inl none) (sI M 196 (wr (mI M 196) (rwlF (mI M r) b n) e)) := by
  refine ev_intro rfl (nb rfl) rfl ?_
  refine g_aload_n (pc := 0) dX6_fillLevels_0 rfl trivial ?_
  refine g_getf (pc := 1) dX6_fillLevels_1 fk_X6_62 (shK hS rfl) (fv_arr (shR hS rfl)) ?_
  refine g_iconst (pc := 4) (v := 0) dX6_fillLevels_4 rfl ?_
  refine g_iconst (pc := 5) (v := 1) dX6_fillLevels_5 rfl ?_
  refine g_iload_n (pc := 6) dX6_fillLevels_6 rfl ?_
  refine g_ishl (pc := 7) dX6_fillLevels_7 ?_
  refine g_iastore (pc := 8) dX6_fillLevels_8 (shK hS rfl) rfl (by decide) (nl rfl) ?_
  refine g_iconst (pc := 9) (v := 1) dX6_fillLevels_9 rfl ?_
  refine g_istore (pc := 10) (lv' := [(0, _), (1, _), (2, _), (3, _), (4, _)]) dX6_fillLevels_10 (nl rfl) rfl ?_
  refine go_while (pc := 12) (σ := Nat) (fun s => 1 ≤ s ∧ s ≤ e) (fun s => e - s) (fun s => [(0, .ref 0), (1, .ref r), (2, .int (nI b)), (3, .int (nI e)), (4, .int (nI s))]) (fun s => sI M 196 (wr (mI M 196) (rwlF (mI M r) b n) s)) 1 ⟨rfl, rfl, rfl, rfl, rfl, trivial⟩ ?_ ⟨Nat.le_refl _, he⟩ ?_
  · rw [← wr_s, wr_0]; rfl
  rintro s ⟨h1, h2⟩ ih
  have hz1 : mI (sI M 196 (wr (mI M 196) (rwlF (mI M r) b n) s)) 3 1 = nI n := (congrFun (sI_ne (by decide)) 1).trans hz
  have er : mI (sI M 196 (wr (mI M 196) (rwlF (mI M r) b n) s)) r = mI M r := sI_ne hr
  have hl : mI (sI M 196 (wr (mI M 196) (rwlF (mI M r) b n) s)) 196 (s - 1) = rwlF (mI M r) b n (s - 1) := by rw [sI_self, wr_lt (by omega)]
  have e2 : sI (sI M 196 (wr (mI M 196) (rwlF (mI M r) b n) s)) 196 (fun_set (mI (sI M 196 (wr (mI M 196) (rwlF (mI M r) b n) s)) 196) s (rwlF (mI M r) b n s)) = sI M 196 (wr (mI M 196) (rwlF (mI M r) b n) (s + 1)) := by rw [sI_self, wr_s, sI_2]
  have hS0 : Shp (sI M 196 (wr (mI M 196) (rwlF (mI M r) b n) s)) := shp_sI hS
  have hk0 : (mK (sI M 196 (wr (mI M 196) (rwlF (mI M r) b n) s)))[r]? = some (kI 32) := hk
  by_cases hi : s < e
  · obtain ⟨d, hd⟩ : ∃ d, s = d + 1 := ⟨s - 1, by omega⟩
    have eq1 : rwlF (mI M r) b n s = rwlI (mI M r) (rwlF (mI M r) b n (s - 1)) n := by rw [hd]; rfl
    rw [eq1] at e2
    have ih := ih (s + 1) ⟨by omega, by omega⟩ (by omega)
    rw [← e2] at ih
    generalize sI M 196 (wr (mI M 196) (rwlF (mI M r) b n) s) = M1 at *
    generalize rwlF (mI M r) b n (s - 1) = x at *
    generalize mI M r = f at *
    refine g_iload (pc := 12) dX6_fillLevels_12 rfl ?_
    refine g_iload_n (pc := 14) dX6_fillLevels_14 rfl ?_
    refine g_icmp_ge (pc := 15) (tgt := 83) dX6_fillLevels_15 rfl (fun h15 => absurd h15 (nI_ge hi (by omega))) (fun _ => ?_)
    refine g_iconst (pc := 18) (v := 0) dX6_fillLevels_18 rfl ?_
    refine g_istore (pc := 19) (lv' := [(0, _), (1, _), (2, _), (3, _), (4, _), (5, _)]) dX6_fillLevels_19 (nl rfl) rfl ?_
    refine g_iconst (pc := 21) (v := 0) dX6_fillLevels_21 rfl ?_
    refine g_istore (pc := 22) (lv' := [(0, _), (1, _), (2, _), (3, _), (4, _), (5, _), (6, _)]) dX6_fillLevels_22 (nl rfl) rfl ?_
    refine go_loop (pc := 24) n (fun i => [(0, .ref 0), (1, .ref r), (2, .int (nI b)), (3, .int (nI e)), (4, .int (nI s)), (5, .int (rwlI f x i)), (6, .int (nI i))]) (fun i => M1) ⟨rfl, rfl, rfl, rfl, rfl, rfl, rfl, trivial⟩ rfl ?_ ?_
    · intro i hi2 ih2
      generalize hX : rwlI f x n = X at ih ⊢
      rw [rwlI] at ih2
      refine g_iload (pc := 24) dX6_fillLevels_24 rfl ?_
      refine g_aload_n (pc := 26) dX6_fillLevels_26 rfl trivial ?_
      refine g_getf (pc := 27) dX6_fillLevels_27 fk_X6_19 (shK hS0 rfl) (fv_obj (shR hS0 rfl)) ?_
      refine g_getf (pc := 30) (v := .int _) dX6_fillLevels_30 fk_X6_89 (shK hS0 rfl) (fun _ => congrArg Value.int (hz1)) ?_
      refine g_icmp_ge (pc := 33) (tgt := 68) dX6_fillLevels_33 rfl (fun h33 => absurd h33 (nI_ge hi2 (by omega))) (fun _ => ?_)
      refine g_aload_n (pc := 36) dX6_fillLevels_36 rfl trivial ?_
      refine g_iload (pc := 37) dX6_fillLevels_37 rfl ?_
      refine g_iaload (pc := 39) dX6_fillLevels_39 hk0 rfl (by omega) (nl rfl) ?_
      refine g_aload_n (pc := 40) dX6_fillLevels_40 rfl trivial ?_
      refine g_getf (pc := 41) dX6_fillLevels_41 fk_X6_62 (shK hS0 rfl) (fv_arr (shR hS0 rfl)) ?_
      refine g_iload (pc := 44) dX6_fillLevels_44 rfl ?_
      refine g_iconst (pc := 46) (v := 1) dX6_fillLevels_46 rfl ?_
      refine g_isub (pc := 47) dX6_fillLevels_47 ?_
      rw [nI_m1 h1]
      refine g_iaload (pc := 48) dX6_fillLevels_48 (lay_196 hS0) rfl (by omega) (nl rfl) ?_
      rw [hl, er]
      refine g_iand (pc := 49) dX6_fillLevels_49 ?_
      refine g_if_eq (pc := 50) (tgt := 62) dX6_fillLevels_50 rfl (fun h50 => ?_) (fun h50 => ?_)
      · rw [if_pos h50] at ih2
        refine g_iinc (pc := 62) (lv' := [(0, _), (1, _), (2, _), (3, _), (4, _), (5, _), (6, _)]) dX6_fillLevels_62 rfl (nI_1 _) (nl rfl) rfl ?_
        refine g_goto (pc := 65) (tgt := 24) dX6_fillLevels_65 rfl ?_
        exact ih2
      · rw [if_neg h50] at ih2
        refine g_iload (pc := 53) dX6_fillLevels_53 rfl ?_
        refine g_iconst (pc := 55) (v := 1) dX6_fillLevels_55 rfl ?_
        refine g_iload (pc := 56) dX6_fillLevels_56 rfl ?_
        refine g_ishl (pc := 58) dX6_fillLevels_58 ?_
        refine g_ior (pc := 59) dX6_fillLevels_59 ?_
        refine g_istore (pc := 60) (lv' := [(0, _), (1, _), (2, _), (3, _), (4, _), (5, _), (6, _)]) dX6_fillLevels_60 (nl rfl) rfl ?_
        refine g_iinc (pc := 62) (lv' := [(0, _), (1, _), (2, _), (3, _), (4, _), (5, _), (6, _)]) dX6_fillLevels_62 rfl (nI_1 _) (nl rfl) rfl ?_
        refine g_goto (pc := 65) (tgt := 24) dX6_fillLevels_65 rfl ?_
        exact ih2
    · refine g_iload (pc := 24) dX6_fillLevels_24 rfl ?_
      refine g_aload_n (pc := 26) dX6_fillLevels_26 rfl trivial ?_
      refine g_getf (pc := 27) dX6_fillLevels_27 fk_X6_19 (shK hS0 rfl) (fv_obj (shR hS0 rfl)) ?_
      refine g_getf (pc := 30) (v := .int _) dX6_fillLevels_30 fk_X6_89 (shK hS0 rfl) (fun _ => congrArg Value.int (hz1)) ?_
      refine g_icmp_ge (pc := 33) (tgt := 68) dX6_fillLevels_33 rfl (fun _ => ?_) (fun h33 => absurd (nI_le (Nat.le_refl _) (by omega)) h33)
      refine g_aload_n (pc := 68) dX6_fillLevels_68 rfl trivial ?_
      refine g_getf (pc := 69) dX6_fillLevels_69 fk_X6_62 (shK hS0 rfl) (fv_arr (shR hS0 rfl)) ?_
      refine g_iload (pc := 72) dX6_fillLevels_72 rfl ?_
      refine g_iload (pc := 74) dX6_fillLevels_74 rfl ?_
      refine g_iastore (pc := 76) dX6_fillLevels_76 (lay_196 hS0) rfl (by omega) (nl rfl) ?_
      refine g_iinc (pc := 77) (lv' := [(0, _), (1, _), (2, _), (3, _), (4, _), (5, _), (6, _)]) dX6_fillLevels_77 rfl (nI_1 _) (nl rfl) rfl ?_
      refine g_goto (pc := 80) (tgt := 12) dX6_fillLevels_80 rfl ?_
      exact g_sub (lv' := [(0, .ref 0), (1, .ref r), (2, .int (nI b)), (3, .int (nI e)), (4, .int (nI (s + 1)))]) ⟨rfl, rfl, rfl, rfl, rfl, trivial⟩ ih
  · have hi' : s = e := by omega
    subst hi'
    refine g_iload (pc := 12) dX6_fillLevels_12 rfl ?_
    refine g_iload_n (pc := 14) dX6_fillLevels_14 rfl ?_
    refine g_icmp_ge (pc := 15) (tgt := 83) dX6_fillLevels_15 rfl (fun _ => ?_) (fun h15 => absurd (nI_le (Nat.le_refl _) (by omega)) h15)
    refine g_return (pc := 83) dX6_fillLevels_83 rfl ?_
    exact ⟨rfl, rfl⟩
/-- a slot's rows without an edge, beside them -/
def lwMem (M : Mem) (s a b n : Nat) : Mem := sI M 195 (fun_set (wr (mI M 195) (mI M (6 + 2 * s)) n) a (mI M (6 + 2 * s) a &&& (bitI b ^^^ -1)))
theorem clMake_ne {c r n i : Nat} (h : i ≠ c) (h2 : i ≠ c + 1) : mI (clMake M c r n) i = mI M i := by
  unfold clMake; rw [pI_i h, sI_ne h2]
theorem clOf_ne {s n i : Nat} (h : i < 175 ∨ 187 ≤ i) (hs : s < 6) : mI (clOf M s n) i = mI M i := by
  unfold clOf; split
  · rw [clMake_ne (by omega) (by omega)]
  · rfl
theorem cl_ok' : ∀ s, s < 6 → isCl (175 + 2 * s) := fun s h => (cl_ok s h).1
theorem s_lossWithout {s a b n : Nat} (hS : Shp M) (hs : s < 6) (hz : mI M 3 1 = nI n) (hn : n ≤ 32) (ha : a < n) (hb9 : b < n) : EvR l jX6_lossWithout 4 150 0 0 [.ref 0, .int (nI s), .int (nI a), .int (nI b)] M (.inl (some (.int (lossB (mI (clOf (lwMem M s a b n) s n) (176 + 2 * s)) (mI (lwMem M s a b n) 195) a b n)))) (clOf (lwMem M s a b n) s n) := by
  have hS1 : Shp (sI M 195 (wr (mI M 195) (mI M (6 + 2 * s)) n)) := shp_sI hS
  have hS2 : Shp (lwMem M s a b n) := shp_sI hS
  have hS3 := clOf_S hS2 s n
  have hz2 : mI (lwMem M s a b n) 3 1 = nI n := by unfold lwMem; rw [sI_ne (by decide)]; exact hz
  have hz3 : mI (clOf (lwMem M s a b n) s n) 3 1 = nI n := by rw [clOf_ne (by omega) hs]; exact hz2
  have e3 : mI (clOf (lwMem M s a b n) s n) 195 = mI (lwMem M s a b n) 195 := clOf_ne (by omega) hs
  rw [← e3]
  have hc := cl_ok' s hs
  rw [show 176 + 2 * s = 175 + 2 * s + 1 by omega]
  have e9 : ∀ x, x = mI M (6 + 2 * s) a &&& (bitI b ^^^ -1) → sI (sI M 195 (wr (mI M 195) (mI M (6 + 2 * s)) n)) 195 (fun_set (mI (sI M 195 (wr (mI M 195) (mI M (6 + 2 * s)) n)) 195) a x) = lwMem M s a b n := by
    intro x hx; rw [hx, sI_2, sI_self]; rfl
  have e8 : mI (sI M 195 (wr (mI M 195) (mI M (6 + 2 * s)) n)) 195 a = mI M (6 + 2 * s) a := by rw [sI_self, wr_lt ha]
  refine ev_intro rfl (nb rfl) rfl ?_
  refine g_aload_n (pc := 0) dX6_lossWithout_0 rfl trivial ?_
  refine g_iload_n (pc := 1) dX6_lossWithout_1 rfl ?_
  refine g_invV_r (pc := 2) (As := [_]) dX6_lossWithout_2 rfl (s_rowsOf hS hs) rfl rfl (shK hS rfl) rfl rfl lk_X6_112 rfl (nb rfl) ⟨nb rfl, nb rfl⟩ rfl ?_
  refine g_iconst (pc := 5) (v := 0) dX6_lossWithout_5 rfl ?_
  refine g_aload_n (pc := 6) dX6_lossWithout_6 rfl trivial ?_
  refine g_getf (pc := 7) dX6_lossWithout_7 fk_X6_58 (shK hS rfl) (fv_arr (shR hS rfl)) ?_
  refine g_iconst (pc := 10) (v := 0) dX6_lossWithout_10 rfl ?_
  refine g_aload_n (pc := 11) dX6_lossWithout_11 rfl trivial ?_
  refine g_getf (pc := 12) dX6_lossWithout_12 fk_X6_19 (shK hS rfl) (fv_obj (shR hS rfl)) ?_
  refine g_getf (pc := 15) (v := .int _) dX6_lossWithout_15 fk_X6_89 (shK hS rfl) (fun _ => congrArg Value.int (hz)) ?_
  refine g_copyI (pc := 18) (sp := 0) (dp := 0) dX6_lossWithout_18 wd_912 wd_510 wd_509 wd_108 (shK hS (rows_lay hs)) (shK hS rfl) rfl rfl rfl (by omega) (by omega) ⟨by decide, by decide⟩ hS.2.1 (nb rfl) (nb rfl) ?_
  rw [cpy_wr]
  refine g_aload_n (pc := 21) dX6_lossWithout_21 rfl trivial ?_
  refine g_getf (pc := 22) dX6_lossWithout_22 fk_X6_58 (shK hS1 rfl) (fv_arr (shR hS1 rfl)) ?_
  refine g_iload_n (pc := 25) dX6_lossWithout_25 rfl ?_
  refine g_dup2_11 (pc := 26) dX6_lossWithout_26 rfl rfl ?_
  refine g_iaload (pc := 27) dX6_lossWithout_27 (shK hS1 rfl) rfl (by omega) (nl rfl) ?_
  refine g_iconst (pc := 28) (v := 1) dX6_lossWithout_28 rfl ?_
  refine g_iload_n (pc := 29) dX6_lossWithout_29 rfl ?_
  refine g_ishl (pc := 30) dX6_lossWithout_30 ?_
  refine g_iconst (pc := 31) (v := (-1)) dX6_lossWithout_31 rfl ?_
  refine g_ixor (pc := 32) dX6_lossWithout_32 ?_
  refine g_iand (pc := 33) dX6_lossWithout_33 ?_
  refine g_iastore (pc := 34) dX6_lossWithout_34 (shK hS1 rfl) rfl (by omega) (nl rfl) ?_
  rw [e9 _ (by rw [e8]; rfl)]
  refine g_aload_n (pc := 35) dX6_lossWithout_35 rfl trivial ?_
  refine g_iload_n (pc := 36) dX6_lossWithout_36 rfl ?_
  refine g_invV_r (pc := 37) (As := [_]) dX6_lossWithout_37 rfl (s_closureOf hS2 hs hz2 hn) rfl rfl (shK hS2 rfl) rfl rfl lk_X6_162 rfl (nb rfl) ⟨nb rfl, nb rfl⟩ rfl ?_
  refine g_aload_n (pc := 40) dX6_lossWithout_40 rfl trivial ?_
  refine g_getf (pc := 41) dX6_lossWithout_41 fk_X6_58 (shK hS3 rfl) (fv_arr (shR hS3 rfl)) ?_
  refine g_iload_n (pc := 44) dX6_lossWithout_44 rfl ?_
  refine g_iload_n (pc := 45) dX6_lossWithout_45 rfl ?_
  refine g_aload_n (pc := 46) dX6_lossWithout_46 rfl trivial ?_
  refine g_getf (pc := 47) dX6_lossWithout_47 fk_X6_19 (shK hS3 rfl) (fv_obj (shR hS3 rfl)) ?_
  refine g_getf (pc := 50) (v := .int _) dX6_lossWithout_50 fk_X6_89 (shK hS3 rfl) (fun _ => congrArg Value.int (hz3)) ?_
  refine g_invV_r (pc := 53) (As := [_, _, _, _]) dX6_lossWithout_53 rfl (s_lossBy hS3 hc (shK hS3 rfl) (by omega) (by omega) hn) rfl rfl (shK hS3 hc.1) rfl rfl lk_X6_349 rfl (nb rfl) ⟨nb rfl, nb rfl⟩ rfl ?_
  refine g_ireturn (pc := 56) dX6_lossWithout_56 rfl rfl ?_
  exact ⟨rfl, rfl⟩
def dnF (f : Nat → Int32) (a n : Nat) : Nat → Nat → Int32
  | 0 => f
  | k + 1 => if hb (dnF f a n k a) k = true then (if hb (reachL (fun_set (dnF f a n k) a (dnF f a n k a &&& (bitI k ^^^ -1))) n (dnF f a n k a &&& (bitI k ^^^ -1)) 0) k = true then fun_set (dnF f a n k) a (dnF f a n k a &&& (bitI k ^^^ -1)) else dnF f a n k) else dnF f a n k
theorem s_dropNeedless {r a n : Nat} (hS : Shp M) (hk : (mK M)[r]? = some (kI 32)) (hr : r ≠ 3) (hz : mI M 3 1 = nI n) (hn : n ≤ 32) (ha : a < n) : EvR l jX6_dropNeedless 3 80 0 0 [.ref 0, .ref r, .int (nI a)] M (.inl none) (sI M r (dnF (mI M r) a n n)) := by
  obtain ⟨S, hs⟩ : ∃ S, S = sI M r (dnF (mI M r) a n n) := ⟨_, rfl⟩
  rw [← hs]
  refine ev_intro rfl (nb rfl) rfl ?_
  refine g_iconst (pc := 0) (v := 0) dX6_dropNeedless_0 rfl ?_
  refine g_istore_n (pc := 1) (lv' := [(0, _), (1, _), (2, _), (3, _)]) dX6_dropNeedless_1 (nl rfl) rfl ?_
  refine go_loop (pc := 2) n (fun i => [(0, .ref 0), (1, .ref r), (2, .int (nI a)), (3, .int (nI i))]) (fun i => sI M r (dnF (mI M r) a n i)) ⟨rfl, rfl, rfl, rfl, trivial⟩ (sI_id M r).symm ?_ ?_
  · intro i hi ih
    rw [dnF] at ih
    have hz1 : ∀ f, mI (sI M r f) 3 1 = nI n := fun f => (congrFun (sI_ne (Ne.symm hr)) 1).trans hz
    have hS0 : ∀ f, Shp (sI M r f) := fun f => shp_sI hS
    have hk0 : ∀ f, (mK (sI M r f))[r]? = some (kI 32) := fun f => hk
    have e0 : ∀ f, mI (sI M r f) r = f := fun f => sI_self M r f
    have e2 : ∀ f g, sI (sI M r f) r g = sI M r g := fun f g => sI_2 M r f g
    generalize dnF (mI M r) a n i = g at *
    refine g_iload_n (pc := 2) dX6_dropNeedless_2 rfl ?_
    refine g_aload_n (pc := 3) dX6_dropNeedless_3 rfl trivial ?_
    refine g_getf (pc := 4) dX6_dropNeedless_4 fk_X6_19 (shK (hS0 _) rfl) (fv_obj (shR (hS0 _) rfl)) ?_
    refine g_getf (pc := 7) (v := .int _) dX6_dropNeedless_7 fk_X6_89 (shK (hS0 _) rfl) (fun _ => congrArg Value.int ((hz1 _))) ?_
    refine g_icmp_ge (pc := 10) (tgt := 68) dX6_dropNeedless_10 rfl (fun h10 => absurd h10 (nI_ge hi (by omega))) (fun _ => ?_)
    refine g_aload_n (pc := 13) dX6_dropNeedless_13 rfl trivial ?_
    refine g_iload_n (pc := 14) dX6_dropNeedless_14 rfl ?_
    refine g_iaload (pc := 15) dX6_dropNeedless_15 (hk0 _) rfl (by omega) (nl rfl) ?_
    rw [e0]
    refine g_istore (pc := 16) (lv' := [(0, _), (1, _), (2, _), (3, _), (4, _)]) dX6_dropNeedless_16 (nl rfl) rfl ?_
    refine g_iload (pc := 18) dX6_dropNeedless_18 rfl ?_
    refine g_iload_n (pc := 20) dX6_dropNeedless_20 rfl ?_
    refine g_invS_r (pc := 21) (As := [_, _]) dX6_dropNeedless_21 rfl (s_hasOne (by omega)) rfl rfl lk_X6_116 rfl (nb rfl) ⟨nb rfl, nb rfl⟩ rfl ?_
    refine g_if_eq (pc := 24) (tgt := 62) dX6_dropNeedless_24 rfl (fun h24 => ?_) (fun h24 => ?_)
    · rw [b1_0] at h24
      rw [if_neg (by rw [h24]; decide)] at ih
      refine g_iinc (pc := 62) (lv' := [(0, _), (1, _), (2, _), (3, _), (4, _)]) dX6_dropNeedless_62 rfl (nI_1 _) (nl rfl) rfl ?_
      refine g_goto (pc := 65) (tgt := 2) dX6_dropNeedless_65 rfl ?_
      exact g_sub (lv' := [(0, _), (1, _), (2, _), (3, _)]) ⟨rfl, rfl, rfl, rfl, trivial⟩ ih
    · rw [b1_0, Bool.not_eq_false] at h24
      rw [if_pos h24] at ih
      refine g_aload_n (pc := 27) dX6_dropNeedless_27 rfl trivial ?_
      refine g_iload_n (pc := 28) dX6_dropNeedless_28 rfl ?_
      refine g_iload (pc := 29) dX6_dropNeedless_29 rfl ?_
      refine g_iconst (pc := 31) (v := 1) dX6_dropNeedless_31 rfl ?_
      refine g_iload_n (pc := 32) dX6_dropNeedless_32 rfl ?_
      refine g_ishl (pc := 33) dX6_dropNeedless_33 ?_
      refine g_iconst (pc := 34) (v := (-1)) dX6_dropNeedless_34 rfl ?_
      refine g_ixor (pc := 35) dX6_dropNeedless_35 ?_
      refine g_iand (pc := 36) dX6_dropNeedless_36 ?_
      refine g_iastore (pc := 37) dX6_dropNeedless_37 (hk0 _) rfl (by omega) (nl rfl) ?_
      rw [e0, e2]
      refine g_aload_n (pc := 38) dX6_dropNeedless_38 rfl trivial ?_
      refine g_iload_n (pc := 39) dX6_dropNeedless_39 rfl ?_
      refine g_aload_n (pc := 40) dX6_dropNeedless_40 rfl trivial ?_
      refine g_getf (pc := 41) dX6_dropNeedless_41 fk_X6_19 (shK (hS0 _) rfl) (fv_obj (shR (hS0 _) rfl)) ?_
      refine g_getf (pc := 44) (v := .int _) dX6_dropNeedless_44 fk_X6_89 (shK (hS0 _) rfl) (fun _ => congrArg Value.int ((hz1 _))) ?_
      refine g_invS_r (pc := 47) (As := [_, _, _]) dX6_dropNeedless_47 rfl (s_reachedFrom (hk0 _) (by omega) hn) rfl rfl lk_X6_353 rfl (nb rfl) ⟨nb rfl, nb rfl⟩ rfl ?_
      refine g_iload_n (pc := 50) dX6_dropNeedless_50 rfl ?_
      refine g_invS_r (pc := 51) (As := [_, _]) dX6_dropNeedless_51 rfl (s_hasOne (by omega)) rfl rfl lk_X6_116 rfl (nb rfl) ⟨nb rfl, nb rfl⟩ rfl ?_
      rw [e0, fs_self]
      refine g_if_ne (pc := 54) (tgt := 62) dX6_dropNeedless_54 rfl (fun h54 => ?_) (fun h54 => ?_)
      · rw [if_pos (by rw [b1_0] at h54; exact Bool.not_eq_false _ ▸ h54)] at ih
        refine g_iinc (pc := 62) (lv' := [(0, _), (1, _), (2, _), (3, _), (4, _)]) dX6_dropNeedless_62 rfl (nI_1 _) (nl rfl) rfl ?_
        refine g_goto (pc := 65) (tgt := 2) dX6_dropNeedless_65 rfl ?_
        exact g_sub (lv' := [(0, _), (1, _), (2, _), (3, _)]) ⟨rfl, rfl, rfl, rfl, trivial⟩ ih
      · rw [if_neg (by rw [b1_0] at h54; exact Bool.eq_false_iff.mp (Decidable.not_not.mp h54))] at ih
        refine g_aload_n (pc := 57) dX6_dropNeedless_57 rfl trivial ?_
        refine g_iload_n (pc := 58) dX6_dropNeedless_58 rfl ?_
        refine g_iload (pc := 59) dX6_dropNeedless_59 rfl ?_
        refine g_iastore (pc := 61) dX6_dropNeedless_61 (hk0 _) rfl (by omega) (nl rfl) ?_
        rw [e0, e2, fs_twice, fs_same]
        refine g_iinc (pc := 62) (lv' := [(0, _), (1, _), (2, _), (3, _), (4, _)]) dX6_dropNeedless_62 rfl (nI_1 _) (nl rfl) rfl ?_
        refine g_goto (pc := 65) (tgt := 2) dX6_dropNeedless_65 rfl ?_
        exact g_sub (lv' := [(0, _), (1, _), (2, _), (3, _)]) ⟨rfl, rfl, rfl, rfl, trivial⟩ ih
  · refine g_iload_n (pc := 2) dX6_dropNeedless_2 rfl ?_
    refine g_aload_n (pc := 3) dX6_dropNeedless_3 rfl trivial ?_
    refine g_getf (pc := 4) dX6_dropNeedless_4 fk_X6_19 (shK (shp_sI hS) rfl) (fv_obj (shR (shp_sI hS) rfl)) ?_
    refine g_getf (pc := 7) (v := .int _) dX6_dropNeedless_7 fk_X6_89 (shK (shp_sI hS) rfl) (fun _ => congrArg Value.int (((congrFun (sI_ne (Ne.symm hr)) 1).trans hz))) ?_
    refine g_icmp_ge (pc := 10) (tgt := 68) dX6_dropNeedless_10 rfl (fun _ => ?_) (fun h10 => absurd (nI_le (Nat.le_refl _) (by omega)) h10)
    refine g_return (pc := 68) dX6_dropNeedless_68 rfl ?_
    exact ⟨rfl, hs.symm⟩
end
end
-- 185.str
section
/-! String constants: a call on one -/
section
variable {l : Launch} {J : Jm} {F L MC MS : Nat} {Q : Res → Mem → Prop} {pc : Nat} {lv : List (Nat × Value)} {st : List Value} {k n : Nat} {M : Mem}
theorem g_invVT {ix nA F' L' mc' ms' : Nat} {J' : Jm} {As rest : List Value} {Q' : Res → Mem → Prop} {kS : Nat} {q0 : String × Nat × String × List Int32} (hd : decode J.2.1 pc = .ok (.invokevirtual ix, 3)) (hlk : LkV J.1.cls ix J' nA) (hn : As.length = nA) (hcat : (rest.map fun v => v.category).sum ≤ 8) (hF : F' + 1 ≤ F ∧ 8 + (J'.2.2.1 + 11) + L' ≤ L) (hE : Ev l J' F' L' mc' ms' (.retAddr (2 * kS + 2) :: As) M Q') (hst : st = As.reverse ++ .retAddr (2 * kS + 2) :: rest) (hk : strT[kS]? = some q0) (hq0 : "java/lang/String" = J'.1.cls) (hh : J.2.2.2.2 = [])
    (kk : ∀ v M', Q' (.inl v) M' → Go l J F L MC MS Q (pc + 3) lv (v.toList ++ rest) k n M') (kx : ∀ E M', Q' (.inr E) M' → Q (.inr E) M') : Go l J F L MC MS Q pc lv st (k + mc') (n + ms') M := by
  subst hst
  intro p e s m args below meth c G H locs cells slots ls hX hC hR hS hl hc hs
  have hts := hX.1.2.2.2.2
  have eS : cv G (.retAddr (2 * kS + 2)) = .ref (gSK G kS) := by show (if 2 * kS % 2 = 0 then _ else _) = _; rw [if_pos (by omega), show 2 * kS / 2 = kS by omega]
  have hrun := vx_runV (As := As.map (cv G)) (rest := rest.map (cv G)) (e := e) (below := below) (meth := meth) (g := F0 m pc ls ((As.reverse ++ .retAddr (2 * kS + 2) :: rest).map (cv G))) (locs := locs) (cells := cells) (slots := slots) (H := H) (b := gSK G kS) hX.1 (hE G) ⟨lk_B hlk.1 hts hF, hts _ hlk.2.1, hts _ hlk.2.2⟩
    ⟨blind G _ l M, by have := vk_recv (i := 0) (hC.2.2.2.2.2.1 kS _ hk).2 (by decide) hS; rw [hq0] at this; exact this, fun U hU hW => ⟨by rw [List.map_cons, eS], ctx_call hC hS hU hW, by rw [hU]; exact hR⟩⟩
    rfl (by rw [List.length_map]; exact hn) hl.1 (by show (List.map (cv G) _) = _; rw [List.map_append, List.map_reverse, List.map_cons, eS]) (by show 2 * 0 + _ ≤ 8; rw [cv_cats]; omega) hd ⟨by show cells + mc' ≤ MC; omega, by show slots + ms' ≤ MS; omega⟩
  refine vx_go (hrun) hS (fun v M' H1 locs1 hq hR1 hS1 => ?_) (fun E ce q9 M' H1 locs1 hq hR1 hS1 h5 h6 h7 => ?_)
  · have h1 := kk v M' hq p e s m args below meth c G H1 locs1 (cells + mc') (slots + ms') ls hX hC hR1 hS1 hl (by omega) (by omega)
    rw [List.map_append] at h1
    cases v <;> exact h1
  · exact vx_out (by rw [hX.2.2.2.1, hh]; intro x hx; cases hx) hX.2.2.1 h5 h6 h7 (fun t ht _ => ⟨⟨M', kx E M' hq, by rw [ht]; exact hR1⟩, hS1.F ht⟩) hS1.2.2 (by omega) (by omega)
theorem g_invVT_r {ix nA F' L' mc' ms' : Nat} {J' : Jm} {As rest : List Value} {kS : Nat} {q0 : String × Nat × String × List Int32} {k0 n0 : Nat} {v : Option Value} {M' : Mem} (hd : decode J.2.1 pc = .ok (.invokevirtual ix, 3)) (hst : st = As.reverse ++ .retAddr (2 * kS + 2) :: rest) (hE : EvR l J' F' L' mc' ms' (.retAddr (2 * kS + 2) :: As) M (.inl v) M') (hk9 : k0 = k + mc') (hn9 : n0 = n + ms') (hk : strT[kS]? = some q0) (hlk : LkV J.1.cls ix J' nA) (hn : As.length = nA) (hcat : (rest.map fun v => v.category).sum ≤ 8) (hF : F' + 1 ≤ F ∧ 8 + (J'.2.2.1 + 11) + L' ≤ L) (hh : J.2.2.2.2 = []) (kk : Go l J F L MC MS Q (pc + 3) lv (v.toList ++ rest) k n M') (hq0 : "java/lang/String" = J'.1.cls := by rfl) : Go l J F L MC MS Q pc lv st k0 n0 M := by
  subst hk9; subst hn9
  exact g_invVT hd hlk hn hcat hF hE hst hk hq0 hh (fun v1 M1 h => by obtain ⟨h1, h2⟩ := h; cases h1; subst h2; exact kk) (fun E M1 h => by cases h.1)
end
theorem i_shr0 (x : Int32) : x >>> (0 : Int32) = x := by
  apply Int32.toBitVec_inj.mp
  simp
theorem getD_mem {xs : List Int32} {i : Nat} (h : i < xs.length) : xs.getD i 0 ∈ xs := by
  rw [List.getD_eq_getElem?_getD, List.getElem?_eq_getElem h]; exact List.getElem_mem h
theorem str_ok : ∀ q ∈ strT, q.2.2.2.length < 256 ∧ ∀ x ∈ q.2.2.2, ((x &&& 255).toUInt32 % 65536).toInt32 = x ∧ narrow FieldType.char (.int x) = .int x := by decide +kernel
theorem str_len {kS : Nat} {q0 : String × Nat × String × List Int32} (hq9 : strT[kS]? = some q0) : q0.2.2.2.length < 256 := (str_ok q0 (List.mem_of_getElem? hq9)).1
theorem str_chr {kS i : Nat} {q0 : String × Nat × String × List Int32} (hq9 : strT[kS]? = some q0) (hi : i < q0.2.2.2.length) : ((q0.2.2.2.getD i 0 &&& 255).toUInt32 % 65536).toInt32 = q0.2.2.2.getD i 0 ∧ narrow FieldType.char (.int (q0.2.2.2.getD i 0)) = .int (q0.2.2.2.getD i 0) := (str_ok q0 (List.mem_of_getElem? hq9)).2 _ (getD_mem hi)
theorem isA_s (k : Nat) : isA (.retAddr (2 * k + 2)) := by show _ ≠ 1; omega
theorem isA_v (k : Nat) : isA (.retAddr (2 * k + 3)) := by show _ ≠ 1; omega
section
variable {l : Launch} {M : Mem} {kS : Nat} {q0 : String × Nat × String × List Int32}
theorem t_coder (hq9 : strT[kS]? = some q0) : EvR l jJ0_coder_7d493 0 0 0 0 [.retAddr (2 * kS + 2)] M (.inl (some (.int 0))) M := by
  refine ev_intro rfl (nb rfl) rfl ?_
  refine g_compact (pc := 0) dJ0_coder_7d493_0 wd_377 ?_
  refine g_if_eq (pc := 3) (tgt := 13) dJ0_coder_7d493_3 rfl (fun h3 => absurd h3 ((by decide))) (fun _ => ?_)
  refine g_aload_n (pc := 6) dJ0_coder_7d493_6 rfl (isA_s _) ?_
  refine g_strCoder (pc := 7) dJ0_coder_7d493_7 hq9 wd_1787 ?_
  refine g_goto (pc := 10) (tgt := 14) dJ0_coder_7d493_10 rfl ?_
  refine g_ireturn (pc := 14) dJ0_coder_7d493_14 rfl rfl ?_
  exact ⟨rfl, rfl⟩
theorem t_length (hq9 : strT[kS]? = some q0) : EvR l jJ0_length_8abf5 1 20 0 0 [.retAddr (2 * kS + 2)] M (.inl (some (.int (nI q0.2.2.2.length)))) M := by
  refine ev_intro rfl (nb rfl) rfl ?_
  refine g_aload_n (pc := 0) dJ0_length_8abf5_0 rfl (isA_s _) ?_
  refine g_strValue (pc := 1) dJ0_length_8abf5_1 hq9 wd_1786 ?_
  refine g_strLen (pc := 4) dJ0_length_8abf5_4 (hq9) ?_
  refine g_aload_n (pc := 5) dJ0_length_8abf5_5 rfl (isA_s _) ?_
  refine g_invVT_r (pc := 6) (As := []) dJ0_length_8abf5_6 rfl (t_coder hq9) rfl rfl (hq9) lk_J0_335 rfl (nb rfl) ⟨nb rfl, nb rfl⟩ rfl ?_
  refine g_ishr (pc := 9) dJ0_length_8abf5_9 ?_
  refine g_ireturn (pc := 10) dJ0_length_8abf5_10 rfl rfl ?_
  exact ⟨by rw [show (0 : Int32) &&& 31 = 0 by decide, i_shr0], rfl⟩
theorem t_isLatin1 (hq9 : strT[kS]? = some q0) : EvR l jJ0_isLatin1_aae02 0 0 0 0 [.retAddr (2 * kS + 2)] M (.inl (some (.int 1))) M := by
  refine ev_intro rfl (nb rfl) rfl ?_
  refine g_compact (pc := 0) dJ0_isLatin1_aae02_0 wd_377 ?_
  refine g_if_eq (pc := 3) (tgt := 17) dJ0_isLatin1_aae02_3 rfl (fun h3 => absurd h3 ((by decide))) (fun _ => ?_)
  refine g_aload_n (pc := 6) dJ0_isLatin1_aae02_6 rfl (isA_s _) ?_
  refine g_strCoder (pc := 7) dJ0_isLatin1_aae02_7 hq9 wd_1787 ?_
  refine g_if_ne (pc := 10) (tgt := 17) dJ0_isLatin1_aae02_10 rfl (fun h10 => absurd h10 ((by decide))) (fun _ => ?_)
  refine g_iconst (pc := 13) (v := 1) dJ0_isLatin1_aae02_13 rfl ?_
  refine g_goto (pc := 14) (tgt := 18) dJ0_isLatin1_aae02_14 rfl ?_
  refine g_ireturn (pc := 18) dJ0_isLatin1_aae02_18 rfl rfl ?_
  exact ⟨rfl, rfl⟩
theorem t_check3 {i len : Nat} (h : i < len) (hL : len < 2147483648) : EvR l jJ3_checkIndex_8e157 0 0 0 0 [.int (nI i), .int (nI len), .retAddr 1] M (.inl (some (.int (nI i)))) M := by
  refine ev_intro rfl (nb rfl) rfl ?_
  refine g_iload_n (pc := 0) dJ3_checkIndex_8e157_0 rfl ?_
  refine g_if_lt (pc := 1) (tgt := 9) dJ3_checkIndex_8e157_1 rfl (fun h1 => absurd h1 (nI_pos (by omega))) (fun _ => ?_)
  refine g_iload_n (pc := 4) dJ3_checkIndex_8e157_4 rfl ?_
  refine g_iload_n (pc := 5) dJ3_checkIndex_8e157_5 rfl ?_
  refine g_icmp_lt (pc := 6) (tgt := 16) dJ3_checkIndex_8e157_6 rfl (fun _ => ?_) (fun h6 => absurd (nI_gt h hL) h6)
  refine g_iload_n (pc := 16) dJ3_checkIndex_8e157_16 rfl ?_
  refine g_ireturn (pc := 17) dJ3_checkIndex_8e157_17 rfl rfl ?_
  exact ⟨rfl, rfl⟩
theorem t_check0 {i len : Nat} (h : i < len) (hL : len < 2147483648) : EvR l jJ0_checkIndex_df160 1 22 0 0 [.int (nI i), .int (nI len)] M (.inl none) M := by
  refine ev_intro rfl (nb rfl) rfl ?_
  refine g_iload_n (pc := 0) dJ0_checkIndex_df160_0 rfl ?_
  refine g_iload_n (pc := 1) dJ0_checkIndex_df160_1 rfl ?_
  refine g_formatter (pc := 2) dJ0_checkIndex_df160_2 wd_393 ?_
  refine g_invS_r (pc := 5) (As := [_, _, _]) dJ0_checkIndex_df160_5 rfl (t_check3 h hL) rfl rfl lk_J0_1059 rfl (nb rfl) ⟨nb rfl, nb rfl⟩ rfl ?_
  refine g_pop (pc := 8) dJ0_checkIndex_df160_8 rfl ?_
  refine g_return (pc := 9) dJ0_checkIndex_df160_9 rfl ?_
  exact ⟨rfl, rfl⟩
theorem t_charAt1 {i : Nat} (hq9 : strT[kS]? = some q0) (hi : i < q0.2.2.2.length) : EvR l jJ1_charAt_3b067 2 43 0 0 [.retAddr (2 * kS + 3), .int (nI i)] M (.inl (some (.int (q0.2.2.2.getD i 0)))) M := by
  have hL := str_len hq9
  obtain ⟨c1, c2⟩ := str_chr hq9 hi
  refine ev_intro rfl (nb rfl) rfl ?_
  refine g_iload_n (pc := 0) dJ1_charAt_3b067_0 rfl ?_
  refine g_aload_n (pc := 1) dJ1_charAt_3b067_1 rfl (isA_v _) ?_
  refine g_strLen (pc := 2) dJ1_charAt_3b067_2 (hq9) ?_
  refine g_invS_r (pc := 3) (As := [_, _]) dJ1_charAt_3b067_3 rfl (t_check0 hi (by omega)) rfl rfl lk_J1_9 rfl (nb rfl) ⟨nb rfl, nb rfl⟩ rfl ?_
  refine g_aload_n (pc := 6) dJ1_charAt_3b067_6 rfl (isA_v _) ?_
  refine g_iload_n (pc := 7) dJ1_charAt_3b067_7 rfl ?_
  refine g_strByte (pc := 8) dJ1_charAt_3b067_8 hq9 rfl hi (by omega) ?_
  generalize q0.2.2.2.getD i 0 = x at *
  refine g_sipush (pc := 9) (v := 255) dJ1_charAt_3b067_9 rfl ?_
  refine g_iand (pc := 12) dJ1_charAt_3b067_12 ?_
  refine g_i2c (pc := 13) dJ1_charAt_3b067_13 c1 ?_
  refine g_ireturn (pc := 14) dJ1_charAt_3b067_14 rfl c2 ?_
  exact ⟨rfl, rfl⟩
theorem t_charAt {i : Nat} (hq9 : strT[kS]? = some q0) (hi : i < q0.2.2.2.length) : EvR l jJ0_charAt_5068e 3 70 0 0 [.retAddr (2 * kS + 2), .int (nI i)] M (.inl (some (.int (q0.2.2.2.getD i 0)))) M := by
  obtain ⟨c1, c2⟩ := str_chr hq9 hi
  refine ev_intro rfl (nb rfl) rfl ?_
  refine g_aload_n (pc := 0) dJ0_charAt_5068e_0 rfl (isA_s _) ?_
  refine g_invVT_r (pc := 1) (As := []) dJ0_charAt_5068e_1 rfl (t_isLatin1 hq9) rfl rfl (hq9) lk_J0_492 rfl (nb rfl) ⟨nb rfl, nb rfl⟩ rfl ?_
  refine g_if_eq (pc := 4) (tgt := 16) dJ0_charAt_5068e_4 rfl (fun h4 => absurd h4 ((by decide))) (fun _ => ?_)
  refine g_aload_n (pc := 7) dJ0_charAt_5068e_7 rfl (isA_s _) ?_
  refine g_strValue (pc := 8) dJ0_charAt_5068e_8 hq9 wd_1786 ?_
  refine g_iload_n (pc := 11) dJ0_charAt_5068e_11 rfl ?_
  refine g_invS_r (pc := 12) (As := [_, _]) dJ0_charAt_5068e_12 rfl (t_charAt1 hq9 hi) rfl rfl lk_J0_495 rfl (nb rfl) ⟨nb rfl, nb rfl⟩ rfl ?_
  refine g_ireturn (pc := 15) dJ0_charAt_5068e_15 rfl c2 ?_
  exact ⟨rfl, rfl⟩
end
end
-- 19.reader
section
/-! the reader of a text -/
/-- position, start, statement, error, its position -/
abbrev RP : Type := Nat × Int32 × Int32 × Int32 × Int32
def rdF (g : Nat → Int32) (s : RP) : Nat → Int32 := fun j => if j = 2 then nI s.1 else if j = 3 then s.2.1 else if j = 4 then s.2.2.1 else if j = 5 then s.2.2.2.1 else if j = 6 then s.2.2.2.2 else g j
def rdM (M : Mem) (s : RP) : Mem := sI M 1 (rdF (mI M 1) s)
section
variable {M : Mem} {s : RP}
theorem rd_S (hS : Shp M) : Shp (rdM M s) := hS
theorem rd_1 : mI (rdM M s) 1 1 = mI M 1 1 := by simp [rdM, rdF, sI, mI, fun_set]
theorem rd_2 : mI (rdM M s) 1 2 = nI s.1 := by simp [rdM, rdF, sI, mI, fun_set]
theorem rd_3 : mI (rdM M s) 1 3 = s.2.1 := by simp [rdM, rdF, sI, mI, fun_set]
theorem rd_4 : mI (rdM M s) 1 4 = s.2.2.1 := by simp [rdM, rdF, sI, mI, fun_set]
theorem rd_5 : mI (rdM M s) 1 5 = s.2.2.2.1 := by simp [rdM, rdF, sI, mI, fun_set]
theorem rd_6 : mI (rdM M s) 1 6 = s.2.2.2.2 := by simp [rdM, rdF, sI, mI, fun_set]
theorem rd_ne {i : Nat} (h : i ≠ 1) : mI (rdM M s) i = mI M i := sI_ne h
theorem rd_p2 {v : Int32} {p : Nat} (h : v = nI p) : pI (rdM M s) 1 2 v = rdM M (p, s.2) := by
  subst h
  refine mem_extI rfl rfl rfl rfl rfl rfl (fun i => ?_)
  by_cases i1 : i = 1
  · subst i1; funext j; simp only [rdM, rdF, sI, mI, pI, fun_set, if_true]; split <;> simp [*]
  · simp [rdM, sI, mI, pI, fun_set, i1]
theorem rd_p3 {v : Int32} : pI (rdM M s) 1 3 v = rdM M (s.1, v, s.2.2) := by
  refine mem_extI rfl rfl rfl rfl rfl rfl (fun i => ?_)
  by_cases i1 : i = 1
  · subst i1; funext j; simp only [rdM, rdF, sI, mI, pI, fun_set, if_true]
    by_cases j3 : j = 3
    · subst j3; simp
    · simp [j3]
  · simp [rdM, sI, mI, pI, fun_set, i1]
theorem rd_p4 {v : Int32} : pI (rdM M s) 1 4 v = rdM M (s.1, s.2.1, v, s.2.2.2) := by
  refine mem_extI rfl rfl rfl rfl rfl rfl (fun i => ?_)
  by_cases i1 : i = 1
  · subst i1; funext j; simp only [rdM, rdF, sI, mI, pI, fun_set, if_true]
    by_cases j3 : j = 4
    · subst j3; simp
    · simp [j3]
  · simp [rdM, sI, mI, pI, fun_set, i1]
theorem rd_p56 {v w : Int32} : pI (pI (rdM M s) 1 5 v) 1 6 w = rdM M (s.1, s.2.1, s.2.2.1, v, w) := by
  refine mem_extI rfl rfl rfl rfl rfl rfl (fun i => ?_)
  by_cases i1 : i = 1
  · subst i1; funext j; simp only [rdM, rdF, sI, mI, pI, fun_set, if_true]
    by_cases j3 : j = 5
    · subst j3; simp
    · by_cases j4 : j = 6
      · subst j4; simp
      · simp [j3, j4]
  · simp [rdM, sI, mI, pI, fun_set, i1]
theorem rd_sI {i : Nat} {f : Nat → Int32} (h : i ≠ 1) : sI (rdM M s) i f = rdM (sI M i f) s := by
  unfold rdM
  rw [sI_swap (Ne.symm h), sI_ne (Ne.symm h)]
theorem rd_pI {i j : Nat} {v : Int32} (h : i ≠ 1) : pI (rdM M s) i j v = rdM (pI M i j v) s := by
  show sI (rdM M s) i (fun_set (mI (rdM M s) i) j v) = _
  rw [rd_sI h, rd_ne h]
end
section
variable {l : Launch} {M : Mem} {s : RP} {len : Nat}
def scan (c : Int32 → Bool) (T : Nat → Int32) : Nat → Nat → Nat
  | 0, p => p
  | d + 1, p => if c (T p) = true then scan c T d (p + 1) else p
theorem scan_le (c : Int32 → Bool) (T : Nat → Int32) : ∀ d p, p ≤ scan c T d p ∧ scan c T d p ≤ p + d
  | 0, p => ⟨Nat.le_refl _, Nat.le_refl _⟩
  | d + 1, p => by
    unfold scan
    split
    · have := scan_le c T d (p + 1); omega
    · omega
def isSp (v : Int32) : Bool := decide (v = 32)
def isLo (v : Int32) : Bool := !decide (v < 97) && !decide (122 < v)
def isDi (v : Int32) : Bool := !decide (v < 48) && !decide (57 < v)
def skipP (T : Nat → Int32) (len p : Nat) : Nat := scan isSp T (len - p) p
theorem skipP_le {T : Nat → Int32} {p : Nat} (h : p ≤ len) : p ≤ skipP T len p ∧ skipP T len p ≤ len := by have := scan_le isSp T (len - p) p; unfold skipP; omega
def skp (T : Nat → Int32) (len : Nat) (s : RP) : RP := (skipP T len s.1, s.2)
theorem r_skipSpaces (hS : Shp M) (hl : mI M 1 1 = nI len) (hL : len ≤ 600) (hp : s.1 ≤ len) : EvR l jX4_skipSpaces 0 0 0 0 [.ref 1] (rdM M s) (.inl none) (rdM M (skp (mI M 2) len s)) := by
  obtain ⟨S, hs⟩ : ∃ S, S = skp (mI M 2) len s := ⟨_, rfl⟩
  rw [← hs]
  refine ev_intro rfl (nb rfl) rfl ?_
  refine go_while (pc := 0) (σ := Nat) (fun p => p ≤ len ∧ (scan isSp (mI M 2) (len - p) p, s.2) = S) (fun p => len - p) (fun _ => [(0, .ref 1)]) (fun p => rdM M (p, s.2)) s.1 ⟨rfl, trivial⟩ rfl ⟨hp, hs.symm⟩ ?_
  rintro p ⟨h1, h2⟩ ih
  have hS1 : Shp (rdM M (p, s.2)) := rd_S hS
  have hr2 : mI (rdM M (p, s.2)) 1 2 = nI p := rd_2
  have hr1 : mI (rdM M (p, s.2)) 1 1 = nI len := rd_1.trans hl
  by_cases hi : p < len
  · rw [show len - p = (len - (p + 1)) + 1 by omega, scan] at h2
    refine g_aload_n (pc := 0) dX4_skipSpaces_0 rfl trivial ?_
    refine g_getf (pc := 1) (v := .int _) dX4_skipSpaces_1 fk_X4_21 (shK hS1 rfl) (fun _ => congrArg Value.int (hr2)) ?_
    refine g_aload_n (pc := 4) dX4_skipSpaces_4 rfl trivial ?_
    refine g_getf (pc := 5) (v := .int _) dX4_skipSpaces_5 fk_X4_17 (shK hS1 rfl) (fun _ => congrArg Value.int (hr1)) ?_
    refine g_icmp_ge (pc := 8) (tgt := 38) dX4_skipSpaces_8 rfl (fun h8 => absurd h8 (nI_ge hi (by omega))) (fun _ => ?_)
    refine g_aload_n (pc := 11) dX4_skipSpaces_11 rfl trivial ?_
    refine g_getf (pc := 12) dX4_skipSpaces_12 fk_X4_9 (shK hS1 rfl) (fv_arr (shR hS1 rfl)) ?_
    refine g_aload_n (pc := 15) dX4_skipSpaces_15 rfl trivial ?_
    refine g_getf (pc := 16) (v := .int _) dX4_skipSpaces_16 fk_X4_21 (shK hS1 rfl) (fun _ => congrArg Value.int (hr2)) ?_
    refine g_iaload (pc := 19) dX4_skipSpaces_19 (shK hS1 rfl) rfl (show p < 600 by omega) (nl rfl) ?_
    rw [rd_ne (by decide)]
    refine g_bipush (pc := 20) (v := 32) dX4_skipSpaces_20 rfl ?_
    refine g_icmp_ne (pc := 22) (tgt := 38) dX4_skipSpaces_22 rfl (fun h22 => ?_) (fun h22 => ?_)
    · rw [if_neg (by unfold isSp; simp [h22])] at h2
      refine g_return (pc := 38) dX4_skipSpaces_38 rfl ?_
      exact ⟨rfl, by rw [← h2]⟩
    · rw [if_pos (by unfold isSp; simpa using h22)] at h2
      refine g_aload_n (pc := 25) dX4_skipSpaces_25 rfl trivial ?_
      refine g_dup (pc := 26) dX4_skipSpaces_26 rfl ?_
      refine g_getf (pc := 27) (v := .int _) dX4_skipSpaces_27 fk_X4_21 (shK hS1 rfl) (fun _ => congrArg Value.int (hr2)) ?_
      refine g_iconst (pc := 30) (v := 1) dX4_skipSpaces_30 rfl ?_
      refine g_iadd (pc := 31) dX4_skipSpaces_31 ?_
      refine g_putI (pc := 32) dX4_skipSpaces_32 fp_X4_21 (shK hS1 rfl) ⟨rfl, rfl⟩ (fun _ _ _ _ => rfl) ?_
      refine go_cast (rd_p2 (nI_1 p)) ?_
      refine g_goto (pc := 35) (tgt := 0) dX4_skipSpaces_35 rfl ?_
      exact ih (p + 1) ⟨by omega, h2⟩ (by omega)
  · have hi' : p = len := by omega
    subst hi'
    refine g_aload_n (pc := 0) dX4_skipSpaces_0 rfl trivial ?_
    refine g_getf (pc := 1) (v := .int _) dX4_skipSpaces_1 fk_X4_21 (shK hS1 rfl) (fun _ => congrArg Value.int (hr2)) ?_
    refine g_aload_n (pc := 4) dX4_skipSpaces_4 rfl trivial ?_
    refine g_getf (pc := 5) (v := .int _) dX4_skipSpaces_5 fk_X4_17 (shK hS1 rfl) (fun _ => congrArg Value.int (hr1)) ?_
    refine g_icmp_ge (pc := 8) (tgt := 38) dX4_skipSpaces_8 rfl (fun _ => ?_) (fun h8 => absurd (nI_le (Nat.le_refl _) (by omega)) h8)
    refine g_return (pc := 38) dX4_skipSpaces_38 rfl ?_
    exact ⟨rfl, by rw [← h2, Nat.sub_self]; rfl⟩
def wordP (T : Nat → Int32) (len p : Nat) : Nat := scan isLo T (len - p) p
def twd (T : Nat → Int32) (len : Nat) (s : RP) : RP := (wordP T len (skipP T len s.1), nI (skipP T len s.1), s.2.2)
theorem wordP_le {T : Nat → Int32} {p : Nat} (h : p ≤ len) : p ≤ wordP T len p ∧ wordP T len p ≤ len := by have := scan_le isLo T (len - p) p; unfold wordP; omega
theorem r_takeWord (hS : Shp M) (hl : mI M 1 1 = nI len) (hL : len ≤ 600) (hp : s.1 ≤ len) : EvR l jX4_takeWord 1 20 0 0 [.ref 1] (rdM M s) (.inl none) (rdM M (twd (mI M 2) len s)) := by
  obtain ⟨S, hs⟩ : ∃ S, S = twd (mI M 2) len s := ⟨_, rfl⟩
  rw [← hs]
  have hsk := skipP_le (T := mI M 2) hp
  have hS0 : Shp (rdM M (skp (mI M 2) len s)) := rd_S hS
  have hr0 : mI (rdM M (skp (mI M 2) len s)) 1 2 = nI (skipP (mI M 2) len s.1) := rd_2
  have hS9 : Shp (rdM M s) := rd_S hS
  refine ev_intro rfl (nb rfl) rfl ?_
  refine g_aload_n (pc := 0) dX4_takeWord_0 rfl trivial ?_
  refine g_invV_r (pc := 1) (As := []) dX4_takeWord_1 rfl (r_skipSpaces hS hl hL hp) rfl rfl (shK hS9 rfl) rfl rfl lk_X4_133 rfl (nb rfl) ⟨nb rfl, nb rfl⟩ rfl ?_
  refine g_aload_n (pc := 4) dX4_takeWord_4 rfl trivial ?_
  refine g_aload_n (pc := 5) dX4_takeWord_5 rfl trivial ?_
  refine g_getf (pc := 6) (v := .int _) dX4_takeWord_6 fk_X4_21 (shK hS0 rfl) (fun _ => congrArg Value.int (hr0)) ?_
  refine g_putI (pc := 9) dX4_takeWord_9 fp_X4_70 (shK hS0 rfl) ⟨rfl, rfl⟩ (fun _ _ _ _ => rfl) ?_
  refine go_cast rd_p3 ?_
  refine go_while (pc := 12) (σ := Nat) (fun p => p ≤ len ∧ (scan isLo (mI M 2) (len - p) p, nI (skipP (mI M 2) len s.1), s.2.2) = S) (fun p => len - p) (fun _ => [(0, .ref 1)]) (fun p => rdM M (p, nI (skipP (mI M 2) len s.1), s.2.2)) (skipP (mI M 2) len s.1) ⟨rfl, trivial⟩ rfl ⟨hsk.2, hs.symm⟩ ?_
  generalize skipP (mI M 2) len s.1 = q at *
  rintro p ⟨h1, h2⟩ ih
  have hS1 : Shp (rdM M (p, nI q, s.2.2)) := rd_S hS
  have hr2 : mI (rdM M (p, nI q, s.2.2)) 1 2 = nI p := rd_2
  have hr1 : mI (rdM M (p, nI q, s.2.2)) 1 1 = nI len := rd_1.trans hl
  by_cases hi : p < len
  · rw [show len - p = (len - (p + 1)) + 1 by omega, scan] at h2
    refine g_aload_n (pc := 12) dX4_takeWord_12 rfl trivial ?_
    refine g_getf (pc := 13) (v := .int _) dX4_takeWord_13 fk_X4_21 (shK hS1 rfl) (fun _ => congrArg Value.int (hr2)) ?_
    refine g_aload_n (pc := 16) dX4_takeWord_16 rfl trivial ?_
    refine g_getf (pc := 17) (v := .int _) dX4_takeWord_17 fk_X4_17 (shK hS1 rfl) (fun _ => congrArg Value.int (hr1)) ?_
    refine g_icmp_ge (pc := 20) (tgt := 64) dX4_takeWord_20 rfl (fun h20 => absurd h20 (nI_ge hi (by omega))) (fun _ => ?_)
    refine g_aload_n (pc := 23) dX4_takeWord_23 rfl trivial ?_
    refine g_getf (pc := 24) dX4_takeWord_24 fk_X4_9 (shK hS1 rfl) (fv_arr (shR hS1 rfl)) ?_
    refine g_aload_n (pc := 27) dX4_takeWord_27 rfl trivial ?_
    refine g_getf (pc := 28) (v := .int _) dX4_takeWord_28 fk_X4_21 (shK hS1 rfl) (fun _ => congrArg Value.int (hr2)) ?_
    refine g_iaload (pc := 31) dX4_takeWord_31 (shK hS1 rfl) rfl (show p < 600 by omega) (nl rfl) ?_
    rw [rd_ne (by decide)]
    refine g_bipush (pc := 32) (v := 97) dX4_takeWord_32 rfl ?_
    refine g_icmp_lt (pc := 34) (tgt := 64) dX4_takeWord_34 rfl (fun h34 => ?_) (fun h34 => ?_)
    · rw [if_neg (by unfold isLo; simp [h34])] at h2
      refine g_return (pc := 64) dX4_takeWord_64 rfl ?_
      exact ⟨rfl, by rw [← h2]⟩
    · refine g_aload_n (pc := 37) dX4_takeWord_37 rfl trivial ?_
      refine g_getf (pc := 38) dX4_takeWord_38 fk_X4_9 (shK hS1 rfl) (fv_arr (shR hS1 rfl)) ?_
      refine g_aload_n (pc := 41) dX4_takeWord_41 rfl trivial ?_
      refine g_getf (pc := 42) (v := .int _) dX4_takeWord_42 fk_X4_21 (shK hS1 rfl) (fun _ => congrArg Value.int (hr2)) ?_
      refine g_iaload (pc := 45) dX4_takeWord_45 (shK hS1 rfl) rfl (show p < 600 by omega) (nl rfl) ?_
      rw [rd_ne (by decide)]
      refine g_bipush (pc := 46) (v := 122) dX4_takeWord_46 rfl ?_
      refine g_icmp_gt (pc := 48) (tgt := 64) dX4_takeWord_48 rfl (fun h48 => ?_) (fun h48 => ?_)
      · rw [if_neg (by unfold isLo; simp [h48])] at h2
        refine g_return (pc := 64) dX4_takeWord_64 rfl ?_
        exact ⟨rfl, by rw [← h2]⟩
      · rw [if_pos (by unfold isLo; simp [h34, h48])] at h2
        refine g_aload_n (pc := 51) dX4_takeWord_51 rfl trivial ?_
        refine g_dup (pc := 52) dX4_takeWord_52 rfl ?_
        refine g_getf (pc := 53) (v := .int _) dX4_takeWord_53 fk_X4_21 (shK hS1 rfl) (fun _ => congrArg Value.int (hr2)) ?_
        refine g_iconst (pc := 56) (v := 1) dX4_takeWord_56 rfl ?_
        refine g_iadd (pc := 57) dX4_takeWord_57 ?_
        refine g_putI (pc := 58) dX4_takeWord_58 fp_X4_21 (shK hS1 rfl) ⟨rfl, rfl⟩ (fun _ _ _ _ => rfl) ?_
        refine go_cast (rd_p2 (nI_1 p)) ?_
        refine g_goto (pc := 61) (tgt := 12) dX4_takeWord_61 rfl ?_
        exact ih (p + 1) ⟨by omega, h2⟩ (by omega)
  · have hi' : p = len := by omega
    subst hi'
    refine g_aload_n (pc := 12) dX4_takeWord_12 rfl trivial ?_
    refine g_getf (pc := 13) (v := .int _) dX4_takeWord_13 fk_X4_21 (shK hS1 rfl) (fun _ => congrArg Value.int (hr2)) ?_
    refine g_aload_n (pc := 16) dX4_takeWord_16 rfl trivial ?_
    refine g_getf (pc := 17) (v := .int _) dX4_takeWord_17 fk_X4_17 (shK hS1 rfl) (fun _ => congrArg Value.int (hr1)) ?_
    refine g_icmp_ge (pc := 20) (tgt := 64) dX4_takeWord_20 rfl (fun _ => ?_) (fun h20 => absurd (nI_le (Nat.le_refl _) (by omega)) h20)
    refine g_return (pc := 64) dX4_takeWord_64 rfl ?_
    exact ⟨rfl, by rw [← h2, Nat.sub_self]; rfl⟩
end
end
-- 191.reader
section
section
variable {l : Launch} {M : Mem} {s : RP} {len : Nat}
def rFail (k a : Int32) (s : RP) : RP := if s.2.2.2.1 = 0 then (s.1, s.2.1, s.2.2.1, k, a) else s
theorem rFail_1 (k a : Int32) (s : RP) : (rFail k a s).1 = s.1 ∧ (rFail k a s).2.1 = s.2.1 := by unfold rFail; split <;> exact ⟨rfl, rfl⟩
theorem r_fail {k a : Int32} (hS : Shp M) : EvR l jX4_fail 0 0 0 0 [.ref 1, .int k, .int a] (rdM M s) (.inl none) (rdM M (rFail k a s)) := by
  have hS1 : Shp (rdM M s) := rd_S hS
  have h5 : mI (rdM M s) 1 5 = s.2.2.2.1 := rd_5
  refine ev_intro rfl (nb rfl) rfl ?_
  unfold rFail
  refine g_aload_n (pc := 0) dX4_fail_0 rfl trivial ?_
  refine g_getf (pc := 1) (v := .int _) dX4_fail_1 fk_X4_27 (shK hS1 rfl) (fun _ => congrArg Value.int (h5)) ?_
  refine g_if_ne (pc := 4) (tgt := 17) dX4_fail_4 rfl (fun h4 => ?_) (fun h4 => ?_)
  · rw [if_neg h4]
    refine g_return (pc := 17) dX4_fail_17 rfl ?_
    exact ⟨rfl, rfl⟩
  · rw [if_pos (Decidable.not_not.mp h4)]
    refine g_aload_n (pc := 7) dX4_fail_7 rfl trivial ?_
    refine g_iload_n (pc := 8) dX4_fail_8 rfl ?_
    refine g_putI (pc := 9) dX4_fail_9 fp_X4_27 (shK hS1 rfl) ⟨rfl, rfl⟩ (fun _ _ _ _ => rfl) ?_
    refine g_aload_n (pc := 12) dX4_fail_12 rfl trivial ?_
    refine g_iload_n (pc := 13) dX4_fail_13 rfl ?_
    refine g_putI (pc := 14) dX4_fail_14 fp_X4_30 (shK hS1 rfl) ⟨rfl, rfl⟩ (fun _ _ _ _ => rfl) ?_
    refine go_cast rd_p56 ?_
    refine g_return (pc := 17) dX4_fail_17 rfl ?_
    exact ⟨rfl, rfl⟩
def digP (T : Nat → Int32) (len p : Nat) : Nat := scan isDi T (len - p) p
theorem digP_le {T : Nat → Int32} {p : Nat} (h : p ≤ len) : p ≤ digP T len p ∧ digP T len p ≤ len := by have := scan_le isDi T (len - p) p; unfold digP; omega
def tdg0 (T : Nat → Int32) (len : Nat) (s : RP) : RP := (digP T len (skipP T len s.1), nI (skipP T len s.1), s.2.2)
def tdg (T : Nat → Int32) (len : Nat) (s : RP) : RP := if skipP T len s.1 = digP T len (skipP T len s.1) then rFail 1 (nI (skipP T len s.1)) (tdg0 T len s) else tdg0 T len s
theorem tdg_1 (T : Nat → Int32) (len : Nat) (s : RP) : (tdg T len s).1 = digP T len (skipP T len s.1) ∧ (tdg T len s).2.1 = nI (skipP T len s.1) := by
  unfold tdg; split
  · exact rFail_1 _ _ _
  · exact ⟨rfl, rfl⟩
theorem r_takeDigits (hS : Shp M) (hl : mI M 1 1 = nI len) (hL : len ≤ 600) (hp : s.1 ≤ len) : EvR l jX4_takeDigits 1 30 0 0 [.ref 1] (rdM M s) (.inl none) (rdM M (tdg (mI M 2) len s)) := by
  obtain ⟨S, hs⟩ : ∃ S, S = tdg (mI M 2) len s := ⟨_, rfl⟩
  obtain ⟨S0, hs0⟩ : ∃ S0, S0 = digP (mI M 2) len (skipP (mI M 2) len s.1) := ⟨_, rfl⟩
  rw [← hs]
  unfold tdg tdg0 at hs
  rw [← hs0] at hs
  unfold digP at hs0
  have hsk := skipP_le (T := mI M 2) hp
  have hS0 : Shp (rdM M (skp (mI M 2) len s)) := rd_S hS
  have hr0 : mI (rdM M (skp (mI M 2) len s)) 1 2 = nI (skipP (mI M 2) len s.1) := rd_2
  have hS9 : Shp (rdM M s) := rd_S hS
  refine ev_intro rfl (nb rfl) rfl ?_
  refine g_aload_n (pc := 0) dX4_takeDigits_0 rfl trivial ?_
  refine g_invV_r (pc := 1) (As := []) dX4_takeDigits_1 rfl (r_skipSpaces hS hl hL hp) rfl rfl (shK hS9 rfl) rfl rfl lk_X4_133 rfl (nb rfl) ⟨nb rfl, nb rfl⟩ rfl ?_
  refine g_aload_n (pc := 4) dX4_takeDigits_4 rfl trivial ?_
  refine g_aload_n (pc := 5) dX4_takeDigits_5 rfl trivial ?_
  refine g_getf (pc := 6) (v := .int _) dX4_takeDigits_6 fk_X4_21 (shK hS0 rfl) (fun _ => congrArg Value.int (hr0)) ?_
  refine g_putI (pc := 9) dX4_takeDigits_9 fp_X4_70 (shK hS0 rfl) ⟨rfl, rfl⟩ (fun _ _ _ _ => rfl) ?_
  refine go_cast rd_p3 ?_
  refine go_while (pc := 12) (σ := Nat) (fun p => p ≤ len ∧ scan isDi (mI M 2) (len - p) p = S0) (fun p => len - p) (fun _ => [(0, .ref 1)]) (fun p => rdM M (p, nI (skipP (mI M 2) len s.1), s.2.2)) (skipP (mI M 2) len s.1) ⟨rfl, trivial⟩ rfl ⟨hsk.2, hs0.symm⟩ ?_
  generalize skipP (mI M 2) len s.1 = q at *
  have hdone : ∀ p, p = S0 → p ≤ len → Go l jX4_takeDigits 1 30 0 0 (fun r' M9 => r' = .inl none ∧ M9 = rdM M S) 64 [(0, .ref 1)] [] 0 0 (rdM M (p, nI q, s.2.2)) := by
    intro p hp1 hp2
    subst hp1
    have hS1 : Shp (rdM M (p, nI q, s.2.2)) := rd_S hS
    have hr2 : mI (rdM M (p, nI q, s.2.2)) 1 2 = nI p := rd_2
    have hr3 : mI (rdM M (p, nI q, s.2.2)) 1 3 = nI q := rd_3
    rw [hs]
    refine g_aload_n (pc := 64) dX4_takeDigits_64 rfl trivial ?_
    refine g_getf (pc := 65) (v := .int _) dX4_takeDigits_65 fk_X4_70 (shK hS1 rfl) (fun _ => congrArg Value.int (hr3)) ?_
    refine g_aload_n (pc := 68) dX4_takeDigits_68 rfl trivial ?_
    refine g_getf (pc := 69) (v := .int _) dX4_takeDigits_69 fk_X4_21 (shK hS1 rfl) (fun _ => congrArg Value.int (hr2)) ?_
    refine g_icmp_ne (pc := 72) (tgt := 84) dX4_takeDigits_72 rfl (fun h72 => ?_) (fun h72 => ?_)
    · rw [if_neg (fun h => h72 (by rw [h]))]
      refine g_return (pc := 84) dX4_takeDigits_84 rfl ?_
      exact ⟨rfl, rfl⟩
    · rw [if_pos ((nI_eq (by omega) (by omega)).mp (Decidable.not_not.mp h72))]
      refine g_aload_n (pc := 75) dX4_takeDigits_75 rfl trivial ?_
      refine g_iconst (pc := 76) (v := 1) dX4_takeDigits_76 rfl ?_
      refine g_aload_n (pc := 77) dX4_takeDigits_77 rfl trivial ?_
      refine g_getf (pc := 78) (v := .int _) dX4_takeDigits_78 fk_X4_70 (shK hS1 rfl) (fun _ => congrArg Value.int (hr3)) ?_
      refine g_invV_r (pc := 81) (As := [_, _]) dX4_takeDigits_81 rfl (r_fail hS) rfl rfl (shK hS1 rfl) rfl rfl lk_X4_73 rfl (nb rfl) ⟨nb rfl, nb rfl⟩ rfl ?_
      refine g_return (pc := 84) dX4_takeDigits_84 rfl ?_
      exact ⟨rfl, rfl⟩
  rintro p ⟨h1, h2⟩ ih
  have hS1 : Shp (rdM M (p, nI q, s.2.2)) := rd_S hS
  have hr2 : mI (rdM M (p, nI q, s.2.2)) 1 2 = nI p := rd_2
  have hr1 : mI (rdM M (p, nI q, s.2.2)) 1 1 = nI len := rd_1.trans hl
  by_cases hi : p < len
  · rw [show len - p = (len - (p + 1)) + 1 by omega, scan] at h2
    refine g_aload_n (pc := 12) dX4_takeDigits_12 rfl trivial ?_
    refine g_getf (pc := 13) (v := .int _) dX4_takeDigits_13 fk_X4_21 (shK hS1 rfl) (fun _ => congrArg Value.int (hr2)) ?_
    refine g_aload_n (pc := 16) dX4_takeDigits_16 rfl trivial ?_
    refine g_getf (pc := 17) (v := .int _) dX4_takeDigits_17 fk_X4_17 (shK hS1 rfl) (fun _ => congrArg Value.int (hr1)) ?_
    refine g_icmp_ge (pc := 20) (tgt := 64) dX4_takeDigits_20 rfl (fun h20 => absurd h20 (nI_ge hi (by omega))) (fun _ => ?_)
    refine g_aload_n (pc := 23) dX4_takeDigits_23 rfl trivial ?_
    refine g_getf (pc := 24) dX4_takeDigits_24 fk_X4_9 (shK hS1 rfl) (fv_arr (shR hS1 rfl)) ?_
    refine g_aload_n (pc := 27) dX4_takeDigits_27 rfl trivial ?_
    refine g_getf (pc := 28) (v := .int _) dX4_takeDigits_28 fk_X4_21 (shK hS1 rfl) (fun _ => congrArg Value.int (hr2)) ?_
    refine g_iaload (pc := 31) dX4_takeDigits_31 (shK hS1 rfl) rfl (show p < 600 by omega) (nl rfl) ?_
    rw [rd_ne (by decide)]
    refine g_bipush (pc := 32) (v := 48) dX4_takeDigits_32 rfl ?_
    refine g_icmp_lt (pc := 34) (tgt := 64) dX4_takeDigits_34 rfl (fun h34 => ?_) (fun h34 => ?_)
    · rw [if_neg (by unfold isDi; simp [h34])] at h2
      exact hdone p h2 h1
    · refine g_aload_n (pc := 37) dX4_takeDigits_37 rfl trivial ?_
      refine g_getf (pc := 38) dX4_takeDigits_38 fk_X4_9 (shK hS1 rfl) (fv_arr (shR hS1 rfl)) ?_
      refine g_aload_n (pc := 41) dX4_takeDigits_41 rfl trivial ?_
      refine g_getf (pc := 42) (v := .int _) dX4_takeDigits_42 fk_X4_21 (shK hS1 rfl) (fun _ => congrArg Value.int (hr2)) ?_
      refine g_iaload (pc := 45) dX4_takeDigits_45 (shK hS1 rfl) rfl (show p < 600 by omega) (nl rfl) ?_
      rw [rd_ne (by decide)]
      refine g_bipush (pc := 46) (v := 57) dX4_takeDigits_46 rfl ?_
      refine g_icmp_gt (pc := 48) (tgt := 64) dX4_takeDigits_48 rfl (fun h48 => ?_) (fun h48 => ?_)
      · rw [if_neg (by unfold isDi; simp [h48])] at h2
        exact hdone p h2 h1
      · rw [if_pos (by unfold isDi; simp [h34, h48])] at h2
        refine g_aload_n (pc := 51) dX4_takeDigits_51 rfl trivial ?_
        refine g_dup (pc := 52) dX4_takeDigits_52 rfl ?_
        refine g_getf (pc := 53) (v := .int _) dX4_takeDigits_53 fk_X4_21 (shK hS1 rfl) (fun _ => congrArg Value.int (hr2)) ?_
        refine g_iconst (pc := 56) (v := 1) dX4_takeDigits_56 rfl ?_
        refine g_iadd (pc := 57) dX4_takeDigits_57 ?_
        refine g_putI (pc := 58) dX4_takeDigits_58 fp_X4_21 (shK hS1 rfl) ⟨rfl, rfl⟩ (fun _ _ _ _ => rfl) ?_
        refine go_cast (rd_p2 (nI_1 p)) ?_
        refine g_goto (pc := 61) (tgt := 12) dX4_takeDigits_61 rfl ?_
        exact ih (p + 1) ⟨by omega, h2⟩ (by omega)
  · have hi' : p = len := by omega
    subst hi'
    refine g_aload_n (pc := 12) dX4_takeDigits_12 rfl trivial ?_
    refine g_getf (pc := 13) (v := .int _) dX4_takeDigits_13 fk_X4_21 (shK hS1 rfl) (fun _ => congrArg Value.int (hr2)) ?_
    refine g_aload_n (pc := 16) dX4_takeDigits_16 rfl trivial ?_
    refine g_getf (pc := 17) (v := .int _) dX4_takeDigits_17 fk_X4_17 (shK hS1 rfl) (fun _ => congrArg Value.int (hr1)) ?_
    refine g_icmp_ge (pc := 20) (tgt := 64) dX4_takeDigits_20 rfl (fun _ => ?_) (fun h20 => absurd (nI_le (Nat.le_refl _) (by omega)) h20)
    exact hdone p (by rw [← h2, Nat.sub_self]; rfl) h1
def least9 (x y : Int32) : Int32 := if y < x then y else x
def valF (T : Nat → Int32) (q : Nat) : Nat → Int32
  | 0 => 0
  | k + 1 => least9 (10 * valF T q k + T (q + k) - 48) 1000
def numV (T : Nat → Int32) (len p : Nat) : Int32 := valF T (skipP T len p) (digP T len (skipP T len p) - skipP T len p)
def tnm (T : Nat → Int32) (len : Nat) (lo hi : Int32) (s : RP) : RP := if numV T len s.1 < lo ∨ hi < numV T len s.1 then rFail 2 (nI (skipP T len s.1)) (tdg T len s) else tdg T len s
def tnv (T : Nat → Int32) (len : Nat) (lo hi : Int32) (s : RP) : Int32 := if (tnm T len lo hi s).2.2.2.1 = 0 then numV T len s.1 else lo
theorem tnm_1 (T : Nat → Int32) (len : Nat) (lo hi : Int32) (s : RP) : (tnm T len lo hi s).1 = digP T len (skipP T len s.1) ∧ (tnm T len lo hi s).2.1 = nI (skipP T len s.1) := by
  unfold tnm; split
  · rw [(rFail_1 _ _ _).1, (rFail_1 _ _ _).2]; exact tdg_1 T len s
  · exact tdg_1 T len s
theorem tnv_in (T : Nat → Int32) (len : Nat) (lo hi : Int32) (s : RP) (h : ¬ hi < lo) : ¬ tnv T len lo hi s < lo ∧ ¬ hi < tnv T len lo hi s := by
  unfold tnv
  split
  · rename_i h0
    unfold tnm at h0
    split at h0
    · unfold rFail at h0
      split at h0
      · exact absurd h0 (show ¬ (2 : Int32) = 0 by decide)
      · contradiction
    · rename_i h1
      exact ⟨fun h2 => h1 (Or.inl h2), fun h2 => h1 (Or.inr h2)⟩
  · exact ⟨Int32.lt_irrefl, h⟩
theorem r_takeNumber {lo hi : Int32} (hS : Shp M) (hl : mI M 1 1 = nI len) (hL : len ≤ 600) (hp : s.1 ≤ len) : EvR l jX4_takeNumber 2 60 0 0 [.ref 1, .int lo, .int hi] (rdM M s) (.inl (some (.int (tnv (mI M 2) len lo hi s)))) (rdM M (tnm (mI M 2) len lo hi s)) := by
  have hsk := skipP_le (T := mI M 2) hp
  have hdg := digP_le (T := mI M 2) hsk.2
  have hS9 : Shp (rdM M s) := rd_S hS
  have hS1 : Shp (rdM M (tdg (mI M 2) len s)) := rd_S hS
  have hr2 : mI (rdM M (tdg (mI M 2) len s)) 1 2 = nI (digP (mI M 2) len (skipP (mI M 2) len s.1)) := by rw [rd_2, (tdg_1 _ _ _).1]
  have hr3 : mI (rdM M (tdg (mI M 2) len s)) 1 3 = nI (skipP (mI M 2) len s.1) := by rw [rd_3, (tdg_1 _ _ _).2]
  have er : mI (rdM M (tdg (mI M 2) len s)) 2 = mI M 2 := rd_ne (by decide)
  have hfin : ∀ s1 v, s1 = tnm (mI M 2) len lo hi s → (if s1.2.2.2.1 = 0 then v else lo) = tnv (mI M 2) len lo hi s → Go l jX4_takeNumber 2 60 0 0 (fun r' M9 => r' = .inl (some (.int (tnv (mI M 2) len lo hi s))) ∧ M9 = rdM M (tnm (mI M 2) len lo hi s)) 68 [(0, .ref 1), (1, .int lo), (2, .int hi), (3, .int v)] [] 0 0 (rdM M s1) := by
    intro s1 v e1 e2
    have hS2 : Shp (rdM M s1) := rd_S hS
    have hr5 : mI (rdM M s1) 1 5 = s1.2.2.2.1 := rd_5
    rw [← e1, ← e2]
    refine g_aload_n (pc := 68) dX4_takeNumber_68 rfl trivial ?_
    refine g_getf (pc := 69) (v := .int _) dX4_takeNumber_69 fk_X4_27 (shK hS2 rfl) (fun _ => congrArg Value.int (hr5)) ?_
    refine g_if_ne (pc := 72) (tgt := 79) dX4_takeNumber_72 rfl (fun h72 => ?_) (fun h72 => ?_)
    · rw [if_neg h72]
      refine g_iload_n (pc := 79) dX4_takeNumber_79 rfl ?_
      refine g_ireturn (pc := 80) dX4_takeNumber_80 rfl rfl ?_
      exact ⟨rfl, rfl⟩
    · rw [if_pos (Decidable.not_not.mp h72)]
      refine g_iload_n (pc := 75) dX4_takeNumber_75 rfl ?_
      refine g_goto (pc := 76) (tgt := 80) dX4_takeNumber_76 rfl ?_
      refine g_ireturn (pc := 80) dX4_takeNumber_80 rfl rfl ?_
      exact ⟨rfl, rfl⟩
  have ev : valF (mI M 2) (skipP (mI M 2) len s.1) (digP (mI M 2) len (skipP (mI M 2) len s.1) - skipP (mI M 2) len s.1) = numV (mI M 2) len s.1 := rfl
  have e1 : tnm (mI M 2) len lo hi s = if numV (mI M 2) len s.1 < lo ∨ hi < numV (mI M 2) len s.1 then rFail 2 (nI (skipP (mI M 2) len s.1)) (tdg (mI M 2) len s) else tdg (mI M 2) len s := rfl
  have e2 : tnv (mI M 2) len lo hi s = if (tnm (mI M 2) len lo hi s).2.2.2.1 = 0 then numV (mI M 2) len s.1 else lo := rfl
  refine ev_intro rfl (nb rfl) rfl ?_
  generalize numV (mI M 2) len s.1 = V at *
  generalize tnv (mI M 2) len lo hi s = V9 at *
  generalize tnm (mI M 2) len lo hi s = s9 at *
  refine g_aload_n (pc := 0) dX4_takeNumber_0 rfl trivial ?_
  refine g_invV_r (pc := 1) (As := []) dX4_takeNumber_1 rfl (r_takeDigits hS hl hL hp) rfl rfl (shK hS9 rfl) rfl rfl lk_X4_136 rfl (nb rfl) ⟨nb rfl, nb rfl⟩ rfl ?_
  refine g_iconst (pc := 4) (v := 0) dX4_takeNumber_4 rfl ?_
  refine g_istore_n (pc := 5) (lv' := [(0, _), (1, _), (2, _), (3, _)]) dX4_takeNumber_5 (nl rfl) rfl ?_
  refine g_aload_n (pc := 6) dX4_takeNumber_6 rfl trivial ?_
  refine g_getf (pc := 7) (v := .int _) dX4_takeNumber_7 fk_X4_70 (shK hS1 rfl) (fun _ => congrArg Value.int (hr3)) ?_
  refine g_istore (pc := 10) (lv' := [(0, _), (1, _), (2, _), (3, _), (4, _)]) dX4_takeNumber_10 (nl rfl) rfl ?_
  refine go_while (pc := 12) (σ := Nat) (fun k => k ≤ digP (mI M 2) len (skipP (mI M 2) len s.1) - skipP (mI M 2) len s.1) (fun k => digP (mI M 2) len (skipP (mI M 2) len s.1) - skipP (mI M 2) len s.1 - k) (fun k => [(0, .ref 1), (1, .int lo), (2, .int hi), (3, .int (valF (mI M 2) (skipP (mI M 2) len s.1) k)), (4, .int (nI (skipP (mI M 2) len s.1 + k)))]) (fun _ => rdM M (tdg (mI M 2) len s)) 0 ⟨rfl, rfl, rfl, rfl, rfl, trivial⟩ rfl (Nat.zero_le _) ?_
  generalize digP (mI M 2) len (skipP (mI M 2) len s.1) = p at *
  generalize skipP (mI M 2) len s.1 = q at *
  generalize tdg (mI M 2) len s = s1 at *
  intro k h1 ih
  by_cases hi : q + k < p
  · have ih := ih (k + 1) (by omega) (by omega)
    rw [valF] at ih
    refine g_iload (pc := 12) dX4_takeNumber_12 rfl ?_
    refine g_aload_n (pc := 14) dX4_takeNumber_14 rfl trivial ?_
    refine g_getf (pc := 15) (v := .int _) dX4_takeNumber_15 fk_X4_21 (shK hS1 rfl) (fun _ => congrArg Value.int (hr2)) ?_
    refine g_icmp_ge (pc := 18) (tgt := 49) dX4_takeNumber_18 rfl (fun h18 => absurd h18 (nI_ge hi (by omega))) (fun _ => ?_)
    refine g_bipush (pc := 21) (v := 10) dX4_takeNumber_21 rfl ?_
    refine g_iload_n (pc := 23) dX4_takeNumber_23 rfl ?_
    refine g_imul (pc := 24) dX4_takeNumber_24 ?_
    refine g_aload_n (pc := 25) dX4_takeNumber_25 rfl trivial ?_
    refine g_getf (pc := 26) dX4_takeNumber_26 fk_X4_9 (shK hS1 rfl) (fv_arr (shR hS1 rfl)) ?_
    refine g_iload (pc := 29) dX4_takeNumber_29 rfl ?_
    refine g_iaload (pc := 31) dX4_takeNumber_31 (shK hS1 rfl) rfl (show q + k < 600 by omega) (nl rfl) ?_
    rw [er]
    refine g_iadd (pc := 32) dX4_takeNumber_32 ?_
    refine g_bipush (pc := 33) (v := 48) dX4_takeNumber_33 rfl ?_
    refine g_isub (pc := 35) dX4_takeNumber_35 ?_
    refine g_sipush (pc := 36) (v := 1000) dX4_takeNumber_36 rfl ?_
    refine g_mmin (pc := 39) dX4_takeNumber_39 wd_429 wd_430 wd_107 wd_431 (nb rfl) (nb rfl) ?_
    refine g_istore_n (pc := 42) (lv' := [(0, _), (1, _), (2, _), (3, _), (4, _)]) dX4_takeNumber_42 (nl rfl) rfl ?_
    refine g_iinc (pc := 43) (lv' := [(0, _), (1, _), (2, _), (3, _), (4, _)]) dX4_takeNumber_43 rfl (nI_1 _) (nl rfl) rfl ?_
    refine g_goto (pc := 46) (tgt := 12) dX4_takeNumber_46 rfl ?_
    exact ih
  · have hk : k = p - q := by omega
    subst hk
    rw [ev]
    refine g_iload (pc := 12) dX4_takeNumber_12 rfl ?_
    refine g_aload_n (pc := 14) dX4_takeNumber_14 rfl trivial ?_
    refine g_getf (pc := 15) (v := .int _) dX4_takeNumber_15 fk_X4_21 (shK hS1 rfl) (fun _ => congrArg Value.int (hr2)) ?_
    refine g_icmp_ge (pc := 18) (tgt := 49) dX4_takeNumber_18 rfl (fun _ => ?_) (fun h18 => absurd (nI_le (by omega) (by omega)) h18)
    refine g_iload_n (pc := 49) dX4_takeNumber_49 rfl ?_
    refine g_iload_n (pc := 50) dX4_takeNumber_50 rfl ?_
    refine g_icmp_lt (pc := 51) (tgt := 59) dX4_takeNumber_51 rfl (fun h51 => ?_) (fun h51 => ?_)
    · rw [if_pos (Or.inl h51)] at e1
      refine g_aload_n (pc := 59) dX4_takeNumber_59 rfl trivial ?_
      refine g_iconst (pc := 60) (v := 2) dX4_takeNumber_60 rfl ?_
      refine g_aload_n (pc := 61) dX4_takeNumber_61 rfl trivial ?_
      refine g_getf (pc := 62) (v := .int _) dX4_takeNumber_62 fk_X4_70 (shK hS1 rfl) (fun _ => congrArg Value.int (hr3)) ?_
      refine g_invV_r (pc := 65) (As := [_, _]) dX4_takeNumber_65 rfl (r_fail hS) rfl rfl (shK hS1 rfl) rfl rfl lk_X4_73 rfl (nb rfl) ⟨nb rfl, nb rfl⟩ rfl ?_
      exact g_sub (lv' := [(0, _), (1, _), (2, _), (3, _)]) ⟨rfl, rfl, rfl, rfl, trivial⟩ (hfin _ _ e1.symm (by rw [e2, e1]))
    · refine g_iload_n (pc := 54) dX4_takeNumber_54 rfl ?_
      refine g_iload_n (pc := 55) dX4_takeNumber_55 rfl ?_
      refine g_icmp_le (pc := 56) (tgt := 68) dX4_takeNumber_56 rfl (fun h56 => ?_) (fun h56 => ?_)
      · rw [if_neg (not_or.mpr ⟨h51, Int32.not_lt.mpr h56⟩)] at e1
        exact g_sub (lv' := [(0, _), (1, _), (2, _), (3, _)]) ⟨rfl, rfl, rfl, rfl, trivial⟩ (hfin _ _ e1.symm (by rw [e2, e1]))
      · rw [if_pos (Or.inr (Int32.not_le.mp h56))] at e1
        refine g_aload_n (pc := 59) dX4_takeNumber_59 rfl trivial ?_
        refine g_iconst (pc := 60) (v := 2) dX4_takeNumber_60 rfl ?_
        refine g_aload_n (pc := 61) dX4_takeNumber_61 rfl trivial ?_
        refine g_getf (pc := 62) (v := .int _) dX4_takeNumber_62 fk_X4_70 (shK hS1 rfl) (fun _ => congrArg Value.int (hr3)) ?_
        refine g_invV_r (pc := 65) (As := [_, _]) dX4_takeNumber_65 rfl (r_fail hS) rfl rfl (shK hS1 rfl) rfl rfl lk_X4_73 rfl (nb rfl) ⟨nb rfl, nb rfl⟩ rfl ?_
        exact g_sub (lv' := [(0, _), (1, _), (2, _), (3, _)]) ⟨rfl, rfl, rfl, rfl, trivial⟩ (hfin _ _ e1.symm (by rw [e2, e1]))
end
end
-- 192.reader
section
section
variable {l : Launch} {M : Mem} {s : RP} {len : Nat}
theorem nI_sub' {a b : Nat} (h : b ≤ a) : nI a - nI b = nI (a - b) := by
  obtain ⟨d, rfl⟩ : ∃ d, a = d + b := ⟨a - b, by omega⟩
  rw [← nI_add, Nat.add_sub_cancel]; simp
def wdL (T : Nat → Int32) (b : Nat) (w : List Int32) : Nat → Nat → Bool
  | 0, _ => true
  | d + 1, i => if T (b + i) = w.getD i 0 then wdL T b w d (i + 1) else false
/-- from b to p the text is the word -/
def wdQ (T : Nat → Int32) (b p : Nat) (w : List Int32) : Bool := if p - b = w.length then wdL T b w w.length 0 else false
theorem r_isWord {kS b : Nat} {q0 : String × Nat × String × List Int32} (hS : Shp M) (hL : s.1 ≤ 600) (hb9 : s.2.1 = nI b) (hb : b ≤ s.1) (hq9 : strT[kS]? = some q0) : EvR l jX4_isWord 4 100 0 0 [.ref 1, .retAddr (2 * kS + 2)] (rdM M s) (.inl (some (.int (b1 (wdQ (mI M 2) b s.1 q0.2.2.2))))) (rdM M s) := by
  have hS1 : Shp (rdM M s) := rd_S hS
  have hr2 : mI (rdM M s) 1 2 = nI s.1 := rd_2
  have hr3 : mI (rdM M s) 1 3 = nI b := rd_3.trans hb9
  have er : mI (rdM M s) 2 = mI M 2 := rd_ne (by decide)
  have hlen := str_len hq9
  unfold wdQ
  generalize rdM M s = M1 at *
  generalize s.1 = p at *
  refine ev_intro rfl (nb rfl) rfl ?_
  by_cases h9 : p - b = q0.2.2.2.length
  · rw [if_pos h9]
    obtain ⟨S, hs⟩ : ∃ S, S = wdL (mI M 2) b q0.2.2.2 q0.2.2.2.length 0 := ⟨_, rfl⟩
    rw [← hs]
    refine g_aload_n (pc := 0) dX4_isWord_0 rfl trivial ?_
    refine g_getf (pc := 1) (v := .int _) dX4_isWord_1 fk_X4_21 (shK hS1 rfl) (fun _ => congrArg Value.int (hr2)) ?_
    refine g_aload_n (pc := 4) dX4_isWord_4 rfl trivial ?_
    refine g_getf (pc := 5) (v := .int _) dX4_isWord_5 fk_X4_70 (shK hS1 rfl) (fun _ => congrArg Value.int (hr3)) ?_
    refine g_isub (pc := 8) dX4_isWord_8 ?_
    rw [nI_sub' hb, h9]
    refine g_aload_n (pc := 9) dX4_isWord_9 rfl (isA_s _) ?_
    refine g_invVT_r (pc := 10) (As := []) dX4_isWord_10 rfl (t_length hq9) rfl rfl (hq9) lk_X4_144 rfl (nb rfl) ⟨nb rfl, nb rfl⟩ rfl ?_
    refine g_icmp_eq (pc := 13) (tgt := 18) dX4_isWord_13 rfl (fun _ => ?_) (fun h13 => absurd (rfl) h13)
    refine g_iconst (pc := 18) (v := 0) dX4_isWord_18 rfl ?_
    refine g_istore_n (pc := 19) (lv' := [(0, _), (1, _), (2, _)]) dX4_isWord_19 (nl rfl) rfl ?_
    refine go_while (pc := 20) (σ := Nat) (fun i => i ≤ q0.2.2.2.length ∧ wdL (mI M 2) b q0.2.2.2 (q0.2.2.2.length - i) i = S) (fun i => q0.2.2.2.length - i) (fun i => [(0, .ref 1), (1, .retAddr (2 * kS + 2)), (2, .int (nI i))]) (fun _ => M1) 0 ⟨rfl, rfl, rfl, trivial⟩ rfl ⟨Nat.zero_le _, hs.symm⟩ ?_
    rintro i ⟨h1, h2⟩ ih
    by_cases hi : i < q0.2.2.2.length
    · rw [show q0.2.2.2.length - i = (q0.2.2.2.length - (i + 1)) + 1 by omega, wdL] at h2
      refine g_iload_n (pc := 20) dX4_isWord_20 rfl ?_
      refine g_aload_n (pc := 21) dX4_isWord_21 rfl (isA_s _) ?_
      refine g_invVT_r (pc := 22) (As := []) dX4_isWord_22 rfl (t_length hq9) rfl rfl (hq9) lk_X4_144 rfl (nb rfl) ⟨nb rfl, nb rfl⟩ rfl ?_
      refine g_icmp_ge (pc := 25) (tgt := 55) dX4_isWord_25 rfl (fun h25 => absurd h25 (nI_ge hi (by omega))) (fun _ => ?_)
      refine g_aload_n (pc := 28) dX4_isWord_28 rfl trivial ?_
      refine g_getf (pc := 29) dX4_isWord_29 fk_X4_9 (shK hS1 rfl) (fv_arr (shR hS1 rfl)) ?_
      refine g_aload_n (pc := 32) dX4_isWord_32 rfl trivial ?_
      refine g_getf (pc := 33) (v := .int _) dX4_isWord_33 fk_X4_70 (shK hS1 rfl) (fun _ => congrArg Value.int (hr3)) ?_
      refine g_iload_n (pc := 36) dX4_isWord_36 rfl ?_
      refine g_iadd (pc := 37) dX4_isWord_37 ?_
      rw [nI_add]
      refine g_iaload (pc := 38) dX4_isWord_38 (shK hS1 rfl) rfl (show b + i < 600 by omega) (nl rfl) ?_
      rw [er]
      refine g_aload_n (pc := 39) dX4_isWord_39 rfl (isA_s _) ?_
      refine g_iload_n (pc := 40) dX4_isWord_40 rfl ?_
      refine g_invVT_r (pc := 41) (As := [_]) dX4_isWord_41 rfl (t_charAt hq9 hi) rfl rfl (hq9) lk_X4_149 rfl (nb rfl) ⟨nb rfl, nb rfl⟩ rfl ?_
      refine g_icmp_eq (pc := 44) (tgt := 49) dX4_isWord_44 rfl (fun h44 => ?_) (fun h44 => ?_)
      · rw [if_pos h44] at h2
        refine g_iinc (pc := 49) (lv' := [(0, _), (1, _), (2, _)]) dX4_isWord_49 rfl (nI_1 _) (nl rfl) rfl ?_
        refine g_goto (pc := 52) (tgt := 20) dX4_isWord_52 rfl ?_
        exact ih (i + 1) ⟨by omega, h2⟩ (by omega)
      · rw [if_neg h44] at h2
        refine g_iconst (pc := 47) (v := 0) dX4_isWord_47 rfl ?_
        refine g_ireturn (pc := 48) dX4_isWord_48 rfl rfl ?_
        exact ⟨by rw [← h2]; rfl, rfl⟩
    · have hi' : i = q0.2.2.2.length := by omega
      rw [hi', Nat.sub_self] at h2
      rw [hi']
      refine g_iload_n (pc := 20) dX4_isWord_20 rfl ?_
      refine g_aload_n (pc := 21) dX4_isWord_21 rfl (isA_s _) ?_
      refine g_invVT_r (pc := 22) (As := []) dX4_isWord_22 rfl (t_length hq9) rfl rfl (hq9) lk_X4_144 rfl (nb rfl) ⟨nb rfl, nb rfl⟩ rfl ?_
      refine g_icmp_ge (pc := 25) (tgt := 55) dX4_isWord_25 rfl (fun _ => ?_) (fun h25 => absurd (nI_le (Nat.le_refl _) (by omega)) h25)
      refine g_iconst (pc := 55) (v := 1) dX4_isWord_55 rfl ?_
      refine g_ireturn (pc := 56) dX4_isWord_56 rfl rfl ?_
      exact ⟨by rw [← h2]; rfl, rfl⟩
  · rw [if_neg h9]
    refine g_aload_n (pc := 0) dX4_isWord_0 rfl trivial ?_
    refine g_getf (pc := 1) (v := .int _) dX4_isWord_1 fk_X4_21 (shK hS1 rfl) (fun _ => congrArg Value.int (hr2)) ?_
    refine g_aload_n (pc := 4) dX4_isWord_4 rfl trivial ?_
    refine g_getf (pc := 5) (v := .int _) dX4_isWord_5 fk_X4_70 (shK hS1 rfl) (fun _ => congrArg Value.int (hr3)) ?_
    refine g_isub (pc := 8) dX4_isWord_8 ?_
    rw [nI_sub' hb]
    refine g_aload_n (pc := 9) dX4_isWord_9 rfl (isA_s _) ?_
    refine g_invVT_r (pc := 10) (As := []) dX4_isWord_10 rfl (t_length hq9) rfl rfl (hq9) lk_X4_144 rfl (nb rfl) ⟨nb rfl, nb rfl⟩ rfl ?_
    refine g_icmp_eq (pc := 13) (tgt := 18) dX4_isWord_13 rfl (fun h13 => absurd h13 (fun h => h9 ((nI_eq (by omega) (by omega)).mp h))) (fun _ => ?_)
    refine g_iconst (pc := 16) (v := 0) dX4_isWord_16 rfl ?_
    refine g_ireturn (pc := 17) dX4_isWord_17 rfl rfl ?_
    exact ⟨rfl, rfl⟩
/-- bits from text at b; s as it becomes -/
def tbI (T : Nat → Int32) (b : Nat) (a : Int32) (s : RP) : Nat → RP × Int32
  | 0 => (s, 0)
  | k + 1 => if 49 < T (b + k) then (rFail 2 a (tbI T b a s k).1, (tbI T b a s k).2) else if T (b + k) = 49 then ((tbI T b a s k).1, (tbI T b a s k).2 ||| bitI k) else tbI T b a s k
theorem tbI_1 (T : Nat → Int32) (b : Nat) (a : Int32) (s : RP) : ∀ k, (tbI T b a s k).1.1 = s.1 ∧ (tbI T b a s k).1.2.1 = s.2.1
  | 0 => ⟨rfl, rfl⟩
  | k + 1 => by
    rw [tbI]
    split
    · rw [(rFail_1 _ _ _).1, (rFail_1 _ _ _).2]; exact tbI_1 T b a s k
    · split
      · exact tbI_1 T b a s k
      · exact tbI_1 T b a s k
def tbs (T : Nat → Int32) (len n : Nat) (s : RP) : RP × Int32 := if digP T len (skipP T len s.1) - skipP T len s.1 = n then tbI T (skipP T len s.1) (nI (skipP T len s.1)) (tdg T len s) n else (rFail 2 (nI (skipP T len s.1)) (tdg T len s), 0)
theorem tbs_1 (T : Nat → Int32) (len n : Nat) (s : RP) : (tbs T len n s).1.1 = digP T len (skipP T len s.1) ∧ (tbs T len n s).1.2.1 = nI (skipP T len s.1) := by
  unfold tbs; split
  · rw [(tbI_1 _ _ _ _ _).1, (tbI_1 _ _ _ _ _).2]; exact tdg_1 T len s
  · rw [(rFail_1 _ _ _).1, (rFail_1 _ _ _).2]; exact tdg_1 T len s
theorem r_takeBits {n : Nat} (hS : Shp M) (hl : mI M 1 1 = nI len) (hL : len ≤ 600) (hp : s.1 ≤ len) (hn : n ≤ 32) : EvR l jX4_takeBits 2 60 0 0 [.ref 1, .int (nI n)] (rdM M s) (.inl (some (.int (tbs (mI M 2) len n s).2))) (rdM M (tbs (mI M 2) len n s).1) := by
  have hsk := skipP_le (T := mI M 2) hp
  have hdg := digP_le (T := mI M 2) hsk.2
  have hS9 : Shp (rdM M s) := rd_S hS
  have hS1 : ∀ s, Shp (rdM M s) := fun s => rd_S hS
  have hr2 : mI (rdM M (tdg (mI M 2) len s)) 1 2 = nI (digP (mI M 2) len (skipP (mI M 2) len s.1)) := by rw [rd_2, (tdg_1 _ _ _).1]
  have hr3 : mI (rdM M (tdg (mI M 2) len s)) 1 3 = nI (skipP (mI M 2) len s.1) := by rw [rd_3, (tdg_1 _ _ _).2]
  have er : ∀ s, mI (rdM M s) 2 = mI M 2 := fun s => rd_ne (by decide)
  have ht := (tdg_1 (mI M 2) len s).2
  obtain ⟨S, hs⟩ : ∃ S, S = tbs (mI M 2) len n s := ⟨_, rfl⟩
  rw [← hs]
  unfold tbs at hs
  refine ev_intro rfl (nb rfl) rfl ?_
  refine g_aload_n (pc := 0) dX4_takeBits_0 rfl trivial ?_
  refine g_invV_r (pc := 1) (As := []) dX4_takeBits_1 rfl (r_takeDigits hS hl hL hp) rfl rfl (shK hS9 rfl) rfl rfl lk_X4_136 rfl (nb rfl) ⟨nb rfl, nb rfl⟩ rfl ?_
  skip
  generalize digP (mI M 2) len (skipP (mI M 2) len s.1) = p at *
  generalize skipP (mI M 2) len s.1 = q at *
  generalize tdg (mI M 2) len s = s1 at *
  by_cases h9 : p - q = n
  · rw [if_pos h9] at hs
    refine g_aload_n (pc := 4) dX4_takeBits_4 rfl trivial ?_
    refine g_getf (pc := 5) (v := .int _) dX4_takeBits_5 fk_X4_21 (shK (hS1 _) rfl) (fun _ => congrArg Value.int (hr2)) ?_
    refine g_aload_n (pc := 8) dX4_takeBits_8 rfl trivial ?_
    refine g_getf (pc := 9) (v := .int _) dX4_takeBits_9 fk_X4_70 (shK (hS1 _) rfl) (fun _ => congrArg Value.int (hr3)) ?_
    refine g_isub (pc := 12) dX4_takeBits_12 ?_
    rw [nI_sub' hdg.1, h9]
    refine g_iload_n (pc := 13) dX4_takeBits_13 rfl ?_
    refine g_icmp_eq (pc := 14) (tgt := 28) dX4_takeBits_14 rfl (fun _ => ?_) (fun h14 => absurd (rfl) h14)
    refine g_iconst (pc := 28) (v := 0) dX4_takeBits_28 rfl ?_
    refine g_istore_n (pc := 29) (lv' := [(0, _), (1, _), (2, _)]) dX4_takeBits_29 (nl rfl) rfl ?_
    refine g_iconst (pc := 30) (v := 0) dX4_takeBits_30 rfl ?_
    refine g_istore_n (pc := 31) (lv' := [(0, _), (1, _), (2, _), (3, _)]) dX4_takeBits_31 (nl rfl) rfl ?_
    refine go_loop (pc := 32) n (fun i => [(0, .ref 1), (1, .int (nI n)), (2, .int (tbI (mI M 2) q (nI q) s1 i).2), (3, .int (nI i))]) (fun i => rdM M (tbI (mI M 2) q (nI q) s1 i).1) ⟨rfl, rfl, rfl, rfl, trivial⟩ rfl ?_ ?_
    · intro i hi ih
      rw [tbI] at ih
      have hr3 : mI (rdM M (tbI (mI M 2) q (nI q) s1 i).1) 1 3 = nI q := by rw [rd_3, (tbI_1 _ _ _ _ _).2]; exact ht
      generalize tbI (mI M 2) q (nI q) s1 i = s2 at *
      refine g_iload_n (pc := 32) dX4_takeBits_32 rfl ?_
      refine g_iload_n (pc := 33) dX4_takeBits_33 rfl ?_
      refine g_icmp_ge (pc := 34) (tgt := 88) dX4_takeBits_34 rfl (fun h34 => absurd h34 (nI_ge hi (by omega))) (fun _ => ?_)
      refine g_aload_n (pc := 37) dX4_takeBits_37 rfl trivial ?_
      refine g_getf (pc := 38) dX4_takeBits_38 fk_X4_9 (shK (hS1 _) rfl) (fv_arr (shR (hS1 _) rfl)) ?_
      refine g_aload_n (pc := 41) dX4_takeBits_41 rfl trivial ?_
      refine g_getf (pc := 42) (v := .int _) dX4_takeBits_42 fk_X4_70 (shK (hS1 _) rfl) (fun _ => congrArg Value.int (hr3)) ?_
      refine g_iload_n (pc := 45) dX4_takeBits_45 rfl ?_
      refine g_iadd (pc := 46) dX4_takeBits_46 ?_
      rw [nI_add]
      refine g_iaload (pc := 47) dX4_takeBits_47 (shK (hS1 _) rfl) rfl (show q + i < 600 by omega) (nl rfl) ?_
      rw [er]
      refine g_istore (pc := 48) (lv' := [(0, _), (1, _), (2, _), (3, _), (4, _)]) dX4_takeBits_48 (nl rfl) rfl ?_
      refine g_iload (pc := 50) dX4_takeBits_50 rfl ?_
      refine g_bipush (pc := 52) (v := 49) dX4_takeBits_52 rfl ?_
      refine g_icmp_le (pc := 54) (tgt := 69) dX4_takeBits_54 rfl (fun h54 => ?_) (fun h54 => ?_)
      · rw [if_neg (Int32.not_lt.mpr h54)] at ih
        refine g_iload (pc := 69) dX4_takeBits_69 rfl ?_
        refine g_bipush (pc := 71) (v := 49) dX4_takeBits_71 rfl ?_
        refine g_icmp_ne (pc := 73) (tgt := 82) dX4_takeBits_73 rfl (fun h73 => ?_) (fun h73 => ?_)
        · rw [if_neg h73] at ih
          refine g_iinc (pc := 82) (lv' := [(0, _), (1, _), (2, _), (3, _), (4, _)]) dX4_takeBits_82 rfl (nI_1 _) (nl rfl) rfl ?_
          refine g_goto (pc := 85) (tgt := 32) dX4_takeBits_85 rfl ?_
          exact g_sub (lv' := [(0, _), (1, _), (2, _), (3, _)]) ⟨rfl, rfl, rfl, rfl, trivial⟩ ih
        · rw [if_pos (Decidable.not_not.mp h73)] at ih
          refine g_iload_n (pc := 76) dX4_takeBits_76 rfl ?_
          refine g_iconst (pc := 77) (v := 1) dX4_takeBits_77 rfl ?_
          refine g_iload_n (pc := 78) dX4_takeBits_78 rfl ?_
          refine g_ishl (pc := 79) dX4_takeBits_79 ?_
          refine g_ior (pc := 80) dX4_takeBits_80 ?_
          refine g_istore_n (pc := 81) (lv' := [(0, _), (1, _), (2, _), (3, _), (4, _)]) dX4_takeBits_81 (nl rfl) rfl ?_
          refine g_iinc (pc := 82) (lv' := [(0, _), (1, _), (2, _), (3, _), (4, _)]) dX4_takeBits_82 rfl (nI_1 _) (nl rfl) rfl ?_
          refine g_goto (pc := 85) (tgt := 32) dX4_takeBits_85 rfl ?_
          exact g_sub (lv' := [(0, _), (1, _), (2, _), (3, _)]) ⟨rfl, rfl, rfl, rfl, trivial⟩ ih
      · rw [if_pos (Int32.not_le.mp h54)] at ih
        refine g_aload_n (pc := 57) dX4_takeBits_57 rfl trivial ?_
        refine g_iconst (pc := 58) (v := 2) dX4_takeBits_58 rfl ?_
        refine g_aload_n (pc := 59) dX4_takeBits_59 rfl trivial ?_
        refine g_getf (pc := 60) (v := .int _) dX4_takeBits_60 fk_X4_70 (shK (hS1 _) rfl) (fun _ => congrArg Value.int (hr3)) ?_
        refine g_invV_r (pc := 63) (As := [_, _]) dX4_takeBits_63 rfl (r_fail hS) rfl rfl (shK (hS1 _) rfl) rfl rfl lk_X4_73 rfl (nb rfl) ⟨nb rfl, nb rfl⟩ rfl ?_
        refine g_goto (pc := 66) (tgt := 82) dX4_takeBits_66 rfl ?_
        refine g_iinc (pc := 82) (lv' := [(0, _), (1, _), (2, _), (3, _), (4, _)]) dX4_takeBits_82 rfl (nI_1 _) (nl rfl) rfl ?_
        refine g_goto (pc := 85) (tgt := 32) dX4_takeBits_85 rfl ?_
        exact g_sub (lv' := [(0, _), (1, _), (2, _), (3, _)]) ⟨rfl, rfl, rfl, rfl, trivial⟩ ih
    · rw [hs]
      refine g_iload_n (pc := 32) dX4_takeBits_32 rfl ?_
      refine g_iload_n (pc := 33) dX4_takeBits_33 rfl ?_
      refine g_icmp_ge (pc := 34) (tgt := 88) dX4_takeBits_34 rfl (fun _ => ?_) (fun h34 => absurd (nI_le (Nat.le_refl _) (by omega)) h34)
      refine g_iload_n (pc := 88) dX4_takeBits_88 rfl ?_
      refine g_ireturn (pc := 89) dX4_takeBits_89 rfl rfl ?_
      exact ⟨rfl, rfl⟩
  · rw [if_neg h9] at hs
    rw [hs]
    refine g_aload_n (pc := 4) dX4_takeBits_4 rfl trivial ?_
    refine g_getf (pc := 5) (v := .int _) dX4_takeBits_5 fk_X4_21 (shK (hS1 _) rfl) (fun _ => congrArg Value.int (hr2)) ?_
    refine g_aload_n (pc := 8) dX4_takeBits_8 rfl trivial ?_
    refine g_getf (pc := 9) (v := .int _) dX4_takeBits_9 fk_X4_70 (shK (hS1 _) rfl) (fun _ => congrArg Value.int (hr3)) ?_
    refine g_isub (pc := 12) dX4_takeBits_12 ?_
    rw [nI_sub' hdg.1]
    refine g_iload_n (pc := 13) dX4_takeBits_13 rfl ?_
    refine g_icmp_eq (pc := 14) (tgt := 28) dX4_takeBits_14 rfl (fun h14 => absurd h14 (fun h => h9 ((nI_eq (by omega) (by omega)).mp h))) (fun _ => ?_)
    refine g_aload_n (pc := 17) dX4_takeBits_17 rfl trivial ?_
    refine g_iconst (pc := 18) (v := 2) dX4_takeBits_18 rfl ?_
    refine g_aload_n (pc := 19) dX4_takeBits_19 rfl trivial ?_
    refine g_getf (pc := 20) (v := .int _) dX4_takeBits_20 fk_X4_70 (shK (hS1 _) rfl) (fun _ => congrArg Value.int (hr3)) ?_
    refine g_invV_r (pc := 23) (As := [_, _]) dX4_takeBits_23 rfl (r_fail hS) rfl rfl (shK (hS1 _) rfl) rfl rfl lk_X4_73 rfl (nb rfl) ⟨nb rfl, nb rfl⟩ rfl ?_
    refine g_iconst (pc := 26) (v := 0) dX4_takeBits_26 rfl ?_
    refine g_ireturn (pc := 27) dX4_takeBits_27 rfl rfl ?_
    exact ⟨rfl, rfl⟩
theorem r_hasMore (hS : Shp M) (hl : mI M 1 1 = nI len) (hL : len ≤ 600) (hp : s.1 ≤ len) : EvR l jX4_hasMore 1 30 0 0 [.ref 1] (rdM M s) (.inl (some (.int (b1 (decide (s.2.2.2.1 = 0) && decide (skipP (mI M 2) len s.1 < len)))))) (rdM M (skp (mI M 2) len s)) := by
  have hsk := skipP_le (T := mI M 2) hp
  have hS9 : Shp (rdM M s) := rd_S hS
  have hS1 : Shp (rdM M (skp (mI M 2) len s)) := rd_S hS
  have hr2 : mI (rdM M (skp (mI M 2) len s)) 1 2 = nI (skipP (mI M 2) len s.1) := rd_2
  have hr5 : mI (rdM M (skp (mI M 2) len s)) 1 5 = s.2.2.2.1 := rd_5
  have hr1 : mI (rdM M (skp (mI M 2) len s)) 1 1 = nI len := rd_1.trans hl
  refine ev_intro rfl (nb rfl) rfl ?_
  refine g_aload_n (pc := 0) dX4_hasMore_0 rfl trivial ?_
  refine g_invV_r (pc := 1) (As := []) dX4_hasMore_1 rfl (r_skipSpaces hS hl hL hp) rfl rfl (shK hS9 rfl) rfl rfl lk_X4_133 rfl (nb rfl) ⟨nb rfl, nb rfl⟩ rfl ?_
  refine g_aload_n (pc := 4) dX4_hasMore_4 rfl trivial ?_
  refine g_getf (pc := 5) (v := .int _) dX4_hasMore_5 fk_X4_27 (shK hS1 rfl) (fun _ => congrArg Value.int (hr5)) ?_
  refine g_if_ne (pc := 8) (tgt := 26) dX4_hasMore_8 rfl (fun h8 => ?_) (fun h8 => ?_)
  · rw [decide_eq_false h8, Bool.false_and]
    refine g_iconst (pc := 26) (v := 0) dX4_hasMore_26 rfl ?_
    refine g_ireturn (pc := 27) dX4_hasMore_27 rfl rfl ?_
    exact ⟨rfl, rfl⟩
  · rw [decide_eq_true (Decidable.not_not.mp h8), Bool.true_and]
    refine g_aload_n (pc := 11) dX4_hasMore_11 rfl trivial ?_
    refine g_getf (pc := 12) (v := .int _) dX4_hasMore_12 fk_X4_21 (shK hS1 rfl) (fun _ => congrArg Value.int (hr2)) ?_
    refine g_aload_n (pc := 15) dX4_hasMore_15 rfl trivial ?_
    refine g_getf (pc := 16) (v := .int _) dX4_hasMore_16 fk_X4_17 (shK hS1 rfl) (fun _ => congrArg Value.int (hr1)) ?_
    refine g_icmp_ge (pc := 19) (tgt := 26) dX4_hasMore_19 rfl (fun h19 => ?_) (fun h19 => ?_)
    · rw [decide_eq_false (fun h => nI_ge h (by omega) h19)]
      refine g_iconst (pc := 26) (v := 0) dX4_hasMore_26 rfl ?_
      refine g_ireturn (pc := 27) dX4_hasMore_27 rfl rfl ?_
      exact ⟨rfl, rfl⟩
    · rw [decide_eq_true (Nat.lt_of_not_le fun h => h19 (nI_le h (by omega)))]
      refine g_iconst (pc := 22) (v := 1) dX4_hasMore_22 rfl ?_
      refine g_goto (pc := 23) (tgt := 27) dX4_hasMore_23 rfl ?_
      refine g_ireturn (pc := 27) dX4_hasMore_27 rfl rfl ?_
      exact ⟨rfl, rfl⟩
def tsc (T : Nat → Int32) (len : Nat) (s : RP) : RP := if s.1 < len ∧ T s.1 = 59 then (s.1 + 1, s.2.1, s.2.2.1 + 1, s.2.2.2) else rFail 1 (nI s.1) s
theorem r_takeSemicolon (hS : Shp M) (hl : mI M 1 1 = nI len) (hL : len ≤ 600) (hp : s.1 ≤ len) : EvR l jX4_takeSemicolon 1 30 0 0 [.ref 1] (rdM M s) (.inl none) (rdM M (tsc (mI M 2) len s)) := by
  have hS1 : ∀ s, Shp (rdM M s) := fun s => rd_S hS
  have hr2 : mI (rdM M s) 1 2 = nI s.1 := rd_2
  have hr1 : mI (rdM M s) 1 1 = nI len := rd_1.trans hl
  have hr4 : mI (rdM M (s.1 + 1, s.2)) 1 4 = s.2.2.1 := rd_4
  refine ev_intro rfl (nb rfl) rfl ?_
  unfold tsc
  refine g_aload_n (pc := 0) dX4_takeSemicolon_0 rfl trivial ?_
  refine g_getf (pc := 1) (v := .int _) dX4_takeSemicolon_1 fk_X4_21 (shK (hS1 _) rfl) (fun _ => congrArg Value.int (hr2)) ?_
  refine g_aload_n (pc := 4) dX4_takeSemicolon_4 rfl trivial ?_
  refine g_getf (pc := 5) (v := .int _) dX4_takeSemicolon_5 fk_X4_17 (shK (hS1 _) rfl) (fun _ => congrArg Value.int (hr1)) ?_
  refine g_icmp_ge (pc := 8) (tgt := 48) dX4_takeSemicolon_8 rfl (fun h8 => ?_) (fun h8 => ?_)
  · rw [if_neg (fun h => nI_ge h.1 (by omega) h8)]
    refine g_aload_n (pc := 48) dX4_takeSemicolon_48 rfl trivial ?_
    refine g_iconst (pc := 49) (v := 1) dX4_takeSemicolon_49 rfl ?_
    refine g_aload_n (pc := 50) dX4_takeSemicolon_50 rfl trivial ?_
    refine g_getf (pc := 51) (v := .int _) dX4_takeSemicolon_51 fk_X4_21 (shK (hS1 _) rfl) (fun _ => congrArg Value.int (hr2)) ?_
    refine g_invV_r (pc := 54) (As := [_, _]) dX4_takeSemicolon_54 rfl (r_fail hS) rfl rfl (shK (hS1 _) rfl) rfl rfl lk_X4_73 rfl (nb rfl) ⟨nb rfl, nb rfl⟩ rfl ?_
    refine g_return (pc := 57) dX4_takeSemicolon_57 rfl ?_
    exact ⟨rfl, rfl⟩
  · have hlt : s.1 < len := Nat.lt_of_not_le fun h => h8 (nI_le h (by omega))
    refine g_aload_n (pc := 11) dX4_takeSemicolon_11 rfl trivial ?_
    refine g_getf (pc := 12) dX4_takeSemicolon_12 fk_X4_9 (shK (hS1 _) rfl) (fv_arr (shR (hS1 _) rfl)) ?_
    refine g_aload_n (pc := 15) dX4_takeSemicolon_15 rfl trivial ?_
    refine g_getf (pc := 16) (v := .int _) dX4_takeSemicolon_16 fk_X4_21 (shK (hS1 _) rfl) (fun _ => congrArg Value.int (hr2)) ?_
    refine g_iaload (pc := 19) dX4_takeSemicolon_19 (shK (hS1 _) rfl) rfl (show s.1 < 600 by omega) (nl rfl) ?_
    rw [rd_ne (by decide)]
    refine g_bipush (pc := 20) (v := 59) dX4_takeSemicolon_20 rfl ?_
    refine g_icmp_ne (pc := 22) (tgt := 48) dX4_takeSemicolon_22 rfl (fun h22 => ?_) (fun h22 => ?_)
    · rw [if_neg (fun h => h22 h.2)]
      refine g_aload_n (pc := 48) dX4_takeSemicolon_48 rfl trivial ?_
      refine g_iconst (pc := 49) (v := 1) dX4_takeSemicolon_49 rfl ?_
      refine g_aload_n (pc := 50) dX4_takeSemicolon_50 rfl trivial ?_
      refine g_getf (pc := 51) (v := .int _) dX4_takeSemicolon_51 fk_X4_21 (shK (hS1 _) rfl) (fun _ => congrArg Value.int (hr2)) ?_
      refine g_invV_r (pc := 54) (As := [_, _]) dX4_takeSemicolon_54 rfl (r_fail hS) rfl rfl (shK (hS1 _) rfl) rfl rfl lk_X4_73 rfl (nb rfl) ⟨nb rfl, nb rfl⟩ rfl ?_
      refine g_return (pc := 57) dX4_takeSemicolon_57 rfl ?_
      exact ⟨rfl, rfl⟩
    · rw [if_pos ⟨hlt, Decidable.not_not.mp h22⟩]
      refine g_aload_n (pc := 25) dX4_takeSemicolon_25 rfl trivial ?_
      refine g_dup (pc := 26) dX4_takeSemicolon_26 rfl ?_
      refine g_getf (pc := 27) (v := .int _) dX4_takeSemicolon_27 fk_X4_21 (shK (hS1 _) rfl) (fun _ => congrArg Value.int (hr2)) ?_
      refine g_iconst (pc := 30) (v := 1) dX4_takeSemicolon_30 rfl ?_
      refine g_iadd (pc := 31) dX4_takeSemicolon_31 ?_
      refine g_putI (pc := 32) dX4_takeSemicolon_32 fp_X4_21 (shK (hS1 _) rfl) ⟨rfl, rfl⟩ (fun _ _ _ _ => rfl) ?_
      refine go_cast (rd_p2 (nI_1 _)) ?_
      refine g_aload_n (pc := 35) dX4_takeSemicolon_35 rfl trivial ?_
      refine g_dup (pc := 36) dX4_takeSemicolon_36 rfl ?_
      refine g_getf (pc := 37) (v := .int _) dX4_takeSemicolon_37 fk_X4_24 (shK (hS1 _) rfl) (fun _ => congrArg Value.int (hr4)) ?_
      refine g_iconst (pc := 40) (v := 1) dX4_takeSemicolon_40 rfl ?_
      refine g_iadd (pc := 41) dX4_takeSemicolon_41 ?_
      refine g_putI (pc := 42) dX4_takeSemicolon_42 fp_X4_24 (shK (hS1 _) rfl) ⟨rfl, rfl⟩ (fun _ _ _ _ => rfl) ?_
      refine go_cast rd_p4 ?_
      refine g_goto (pc := 45) (tgt := 57) dX4_takeSemicolon_45 rfl ?_
      refine g_return (pc := 57) dX4_takeSemicolon_57 rfl ?_
      exact ⟨rfl, rfl⟩
end
end
-- 193.reader
section
/-- the letters of the String constant k -/
def strW (k : Nat) : List Int32 := (strT[k]?.getD ("", 0, "", [])).2.2.2
section
variable {l : Launch} {M : Mem} {s : RP} {len : Nat}
theorem r_isW {b : Nat} (k : Nat) (hS : Shp M) (hL : s.1 ≤ 600) (hb9 : s.2.1 = nI b) (hb : b ≤ s.1) (hk : k < strT.length) : EvR l jX4_isWord 4 100 0 0 [.ref 1, .retAddr (2 * k + 2)] (rdM M s) (.inl (some (.int (b1 (wdQ (mI M 2) b s.1 (strW k)))))) (rdM M s) := by
  have h : strT[k]? = some (strT[k]?.getD ("", 0, "", [])) := by rw [List.getElem?_eq_getElem hk]; rfl
  exact r_isWord hS hL hb9 hb h
/-- a row of a kind -/
def kdV (T : Nat → Int32) (b p n i : Nat) : Option Int32 :=
  if wdQ T b p (strW 4) = true then some (bitI i) else if wdQ T b p (strW 5) = true then some (lowM n) else if wdQ T b p (strW 6) = true then some (if i + 1 < n then bitI (i + 1) else 1) else if wdQ T b p (strW 7) = true then some (lowM i) else none
def kdS (T : Nat → Int32) (b p n i : Nat) (s : RP) : RP := if kdV T b p n i = none then rFail 1 (nI b) s else s
theorem kdS_1 (T : Nat → Int32) (b p n i : Nat) (s : RP) : (kdS T b p n i s).1 = s.1 ∧ (kdS T b p n i s).2.1 = s.2.1 := by
  unfold kdS; split
  · exact rFail_1 _ _ _
  · exact ⟨rfl, rfl⟩
theorem r_rowOfKind {b n i : Nat} (hS : Shp M) (hL : s.1 ≤ 600) (hb9 : s.2.1 = nI b) (hb : b ≤ s.1) (hn : n ≤ 32) (hi : i < n) : EvR l jX4_rowOfKind 5 130 0 0 [.ref 1, .int (nI i), .int (nI n)] (rdM M s) (.inl (some (.int ((kdV (mI M 2) b s.1 n i).getD 0)))) (rdM M (kdS (mI M 2) b s.1 n i s)) := by
  have hS1 : Shp (rdM M s) := rd_S hS
  have hr3 : mI (rdM M s) 1 3 = nI b := rd_3.trans hb9
  have q4 : EvR l jX4_isWord 4 100 0 0 [.ref 1, .retAddr (2 * 4 + 2)] (rdM M s) (.inl (some (.int (b1 (wdQ (mI M 2) b s.1 (strW 4)))))) (rdM M s) := r_isW 4 hS hL hb9 hb (by decide)
  have q5 : EvR l jX4_isWord 4 100 0 0 [.ref 1, .retAddr (2 * 5 + 2)] (rdM M s) (.inl (some (.int (b1 (wdQ (mI M 2) b s.1 (strW 5)))))) (rdM M s) := r_isW 5 hS hL hb9 hb (by decide)
  have q6 : EvR l jX4_isWord 4 100 0 0 [.ref 1, .retAddr (2 * 6 + 2)] (rdM M s) (.inl (some (.int (b1 (wdQ (mI M 2) b s.1 (strW 6)))))) (rdM M s) := r_isW 6 hS hL hb9 hb (by decide)
  have q7 : EvR l jX4_isWord 4 100 0 0 [.ref 1, .retAddr (2 * 7 + 2)] (rdM M s) (.inl (some (.int (b1 (wdQ (mI M 2) b s.1 (strW 7)))))) (rdM M s) := r_isW 7 hS hL hb9 hb (by decide)
  unfold kdS kdV
  generalize wdQ (mI M 2) b s.1 (strW 4) = w4 at *
  generalize wdQ (mI M 2) b s.1 (strW 5) = w5 at *
  generalize wdQ (mI M 2) b s.1 (strW 6) = w6 at *
  generalize wdQ (mI M 2) b s.1 (strW 7) = w7 at *
  refine ev_intro rfl (nb rfl) rfl ?_
  cases w4 with
  | true =>
    refine g_aload_n (pc := 0) dX4_rowOfKind_0 rfl trivial ?_
    refine g_ldcS (pc := 1) (kS := 4) dX4_rowOfKind_1 rfl ?_
    refine g_invV_r (pc := 3) (As := [_]) dX4_rowOfKind_3 rfl (q4) rfl rfl (shK hS1 rfl) rfl rfl lk_X4_66 rfl (nb rfl) ⟨nb rfl, nb rfl⟩ rfl ?_
    refine g_if_eq (pc := 6) (tgt := 13) dX4_rowOfKind_6 rfl (fun h6 => absurd h6 ((by decide))) (fun _ => ?_)
    refine g_iconst (pc := 9) (v := 1) dX4_rowOfKind_9 rfl ?_
    refine g_iload_n (pc := 10) dX4_rowOfKind_10 rfl ?_
    refine g_ishl (pc := 11) dX4_rowOfKind_11 ?_
    refine g_ireturn (pc := 12) dX4_rowOfKind_12 rfl rfl ?_
    exact ⟨rfl, rfl⟩
  | false =>
    cases w5 with
    | true =>
      refine g_aload_n (pc := 0) dX4_rowOfKind_0 rfl trivial ?_
      refine g_ldcS (pc := 1) (kS := 4) dX4_rowOfKind_1 rfl ?_
      refine g_invV_r (pc := 3) (As := [_]) dX4_rowOfKind_3 rfl (q4) rfl rfl (shK hS1 rfl) rfl rfl lk_X4_66 rfl (nb rfl) ⟨nb rfl, nb rfl⟩ rfl ?_
      refine g_if_eq (pc := 6) (tgt := 13) dX4_rowOfKind_6 rfl (fun _ => ?_) (fun h6 => absurd (rfl) h6)
      refine g_aload_n (pc := 13) dX4_rowOfKind_13 rfl trivial ?_
      refine g_ldcS (pc := 14) (kS := 5) dX4_rowOfKind_14 rfl ?_
      refine g_invV_r (pc := 16) (As := [_]) dX4_rowOfKind_16 rfl (q5) rfl rfl (shK hS1 rfl) rfl rfl lk_X4_66 rfl (nb rfl) ⟨nb rfl, nb rfl⟩ rfl ?_
      refine g_if_eq (pc := 19) (tgt := 27) dX4_rowOfKind_19 rfl (fun h19 => absurd h19 ((by decide))) (fun _ => ?_)
      refine g_iload_n (pc := 22) dX4_rowOfKind_22 rfl ?_
      refine g_invSN_r (pc := 23) (As := [_]) dX4_rowOfKind_23 rfl (s_lowest hn) rfl rfl lk_X4_126 rfl (nb rfl) ⟨nb rfl, nb rfl⟩ rfl ?_
      refine g_ireturn (pc := 26) dX4_rowOfKind_26 rfl rfl ?_
      exact ⟨rfl, rfl⟩
    | false =>
      cases w6 with
      | true =>
        refine g_aload_n (pc := 0) dX4_rowOfKind_0 rfl trivial ?_
        refine g_ldcS (pc := 1) (kS := 4) dX4_rowOfKind_1 rfl ?_
        refine g_invV_r (pc := 3) (As := [_]) dX4_rowOfKind_3 rfl (q4) rfl rfl (shK hS1 rfl) rfl rfl lk_X4_66 rfl (nb rfl) ⟨nb rfl, nb rfl⟩ rfl ?_
        refine g_if_eq (pc := 6) (tgt := 13) dX4_rowOfKind_6 rfl (fun _ => ?_) (fun h6 => absurd (rfl) h6)
        refine g_aload_n (pc := 13) dX4_rowOfKind_13 rfl trivial ?_
        refine g_ldcS (pc := 14) (kS := 5) dX4_rowOfKind_14 rfl ?_
        refine g_invV_r (pc := 16) (As := [_]) dX4_rowOfKind_16 rfl (q5) rfl rfl (shK hS1 rfl) rfl rfl lk_X4_66 rfl (nb rfl) ⟨nb rfl, nb rfl⟩ rfl ?_
        refine g_if_eq (pc := 19) (tgt := 27) dX4_rowOfKind_19 rfl (fun _ => ?_) (fun h19 => absurd (rfl) h19)
        refine g_aload_n (pc := 27) dX4_rowOfKind_27 rfl trivial ?_
        refine g_ldcS (pc := 28) (kS := 6) dX4_rowOfKind_28 rfl ?_
        refine g_invV_r (pc := 30) (As := [_]) dX4_rowOfKind_30 rfl (q6) rfl rfl (shK hS1 rfl) rfl rfl lk_X4_66 rfl (nb rfl) ⟨nb rfl, nb rfl⟩ rfl ?_
        refine g_if_eq (pc := 33) (tgt := 53) dX4_rowOfKind_33 rfl (fun h33 => absurd h33 ((by decide))) (fun _ => ?_)
        refine g_iload_n (pc := 36) dX4_rowOfKind_36 rfl ?_
        refine g_iconst (pc := 37) (v := 1) dX4_rowOfKind_37 rfl ?_
        refine g_iadd (pc := 38) dX4_rowOfKind_38 ?_
        rw [nI_1]
        refine g_iload_n (pc := 39) dX4_rowOfKind_39 rfl ?_
        refine g_icmp_ge (pc := 40) (tgt := 51) dX4_rowOfKind_40 rfl (fun h40 => ?_) (fun h40 => ?_)
        · refine g_iconst (pc := 51) (v := 1) dX4_rowOfKind_51 rfl ?_
          refine g_ireturn (pc := 52) dX4_rowOfKind_52 rfl rfl ?_
          exact ⟨by simp only [Bool.false_eq_true, if_true, if_false]; rw [if_neg (fun h => nI_ge h (by omega) h40)]; rfl, rfl⟩
        · refine g_iconst (pc := 43) (v := 1) dX4_rowOfKind_43 rfl ?_
          refine g_iload_n (pc := 44) dX4_rowOfKind_44 rfl ?_
          refine g_iconst (pc := 45) (v := 1) dX4_rowOfKind_45 rfl ?_
          refine g_iadd (pc := 46) dX4_rowOfKind_46 ?_
          rw [nI_1]
          refine g_ishl (pc := 47) dX4_rowOfKind_47 ?_
          refine g_goto (pc := 48) (tgt := 52) dX4_rowOfKind_48 rfl ?_
          refine g_ireturn (pc := 52) dX4_rowOfKind_52 rfl rfl ?_
          exact ⟨by simp only [Bool.false_eq_true, if_true, if_false]; rw [if_pos (Nat.lt_of_not_le fun h => h40 (nI_le h (by omega)))]; rfl, rfl⟩
      | false =>
        cases w7 with
        | true =>
          refine g_aload_n (pc := 0) dX4_rowOfKind_0 rfl trivial ?_
          refine g_ldcS (pc := 1) (kS := 4) dX4_rowOfKind_1 rfl ?_
          refine g_invV_r (pc := 3) (As := [_]) dX4_rowOfKind_3 rfl (q4) rfl rfl (shK hS1 rfl) rfl rfl lk_X4_66 rfl (nb rfl) ⟨nb rfl, nb rfl⟩ rfl ?_
          refine g_if_eq (pc := 6) (tgt := 13) dX4_rowOfKind_6 rfl (fun _ => ?_) (fun h6 => absurd (rfl) h6)
          refine g_aload_n (pc := 13) dX4_rowOfKind_13 rfl trivial ?_
          refine g_ldcS (pc := 14) (kS := 5) dX4_rowOfKind_14 rfl ?_
          refine g_invV_r (pc := 16) (As := [_]) dX4_rowOfKind_16 rfl (q5) rfl rfl (shK hS1 rfl) rfl rfl lk_X4_66 rfl (nb rfl) ⟨nb rfl, nb rfl⟩ rfl ?_
          refine g_if_eq (pc := 19) (tgt := 27) dX4_rowOfKind_19 rfl (fun _ => ?_) (fun h19 => absurd (rfl) h19)
          refine g_aload_n (pc := 27) dX4_rowOfKind_27 rfl trivial ?_
          refine g_ldcS (pc := 28) (kS := 6) dX4_rowOfKind_28 rfl ?_
          refine g_invV_r (pc := 30) (As := [_]) dX4_rowOfKind_30 rfl (q6) rfl rfl (shK hS1 rfl) rfl rfl lk_X4_66 rfl (nb rfl) ⟨nb rfl, nb rfl⟩ rfl ?_
          refine g_if_eq (pc := 33) (tgt := 53) dX4_rowOfKind_33 rfl (fun _ => ?_) (fun h33 => absurd (rfl) h33)
          refine g_aload_n (pc := 53) dX4_rowOfKind_53 rfl trivial ?_
          refine g_ldcS (pc := 54) (kS := 7) dX4_rowOfKind_54 rfl ?_
          refine g_invV_r (pc := 56) (As := [_]) dX4_rowOfKind_56 rfl (q7) rfl rfl (shK hS1 rfl) rfl rfl lk_X4_66 rfl (nb rfl) ⟨nb rfl, nb rfl⟩ rfl ?_
          refine g_if_eq (pc := 59) (tgt := 67) dX4_rowOfKind_59 rfl (fun h59 => absurd h59 ((by decide))) (fun _ => ?_)
          refine g_iload_n (pc := 62) dX4_rowOfKind_62 rfl ?_
          refine g_invSN_r (pc := 63) (As := [_]) dX4_rowOfKind_63 rfl (s_lowest (show i ≤ 32 by omega)) rfl rfl lk_X4_126 rfl (nb rfl) ⟨nb rfl, nb rfl⟩ rfl ?_
          refine g_ireturn (pc := 66) dX4_rowOfKind_66 rfl rfl ?_
          exact ⟨rfl, rfl⟩
        | false =>
          refine g_aload_n (pc := 0) dX4_rowOfKind_0 rfl trivial ?_
          refine g_ldcS (pc := 1) (kS := 4) dX4_rowOfKind_1 rfl ?_
          refine g_invV_r (pc := 3) (As := [_]) dX4_rowOfKind_3 rfl (q4) rfl rfl (shK hS1 rfl) rfl rfl lk_X4_66 rfl (nb rfl) ⟨nb rfl, nb rfl⟩ rfl ?_
          refine g_if_eq (pc := 6) (tgt := 13) dX4_rowOfKind_6 rfl (fun _ => ?_) (fun h6 => absurd (rfl) h6)
          refine g_aload_n (pc := 13) dX4_rowOfKind_13 rfl trivial ?_
          refine g_ldcS (pc := 14) (kS := 5) dX4_rowOfKind_14 rfl ?_
          refine g_invV_r (pc := 16) (As := [_]) dX4_rowOfKind_16 rfl (q5) rfl rfl (shK hS1 rfl) rfl rfl lk_X4_66 rfl (nb rfl) ⟨nb rfl, nb rfl⟩ rfl ?_
          refine g_if_eq (pc := 19) (tgt := 27) dX4_rowOfKind_19 rfl (fun _ => ?_) (fun h19 => absurd (rfl) h19)
          refine g_aload_n (pc := 27) dX4_rowOfKind_27 rfl trivial ?_
          refine g_ldcS (pc := 28) (kS := 6) dX4_rowOfKind_28 rfl ?_
          refine g_invV_r (pc := 30) (As := [_]) dX4_rowOfKind_30 rfl (q6) rfl rfl (shK hS1 rfl) rfl rfl lk_X4_66 rfl (nb rfl) ⟨nb rfl, nb rfl⟩ rfl ?_
          refine g_if_eq (pc := 33) (tgt := 53) dX4_rowOfKind_33 rfl (fun _ => ?_) (fun h33 => absurd (rfl) h33)
          refine g_aload_n (pc := 53) dX4_rowOfKind_53 rfl trivial ?_
          refine g_ldcS (pc := 54) (kS := 7) dX4_rowOfKind_54 rfl ?_
          refine g_invV_r (pc := 56) (As := [_]) dX4_rowOfKind_56 rfl (q7) rfl rfl (shK hS1 rfl) rfl rfl lk_X4_66 rfl (nb rfl) ⟨nb rfl, nb rfl⟩ rfl ?_
          refine g_if_eq (pc := 59) (tgt := 67) dX4_rowOfKind_59 rfl (fun _ => ?_) (fun h59 => absurd (rfl) h59)
          refine g_aload_n (pc := 67) dX4_rowOfKind_67 rfl trivial ?_
          refine g_iconst (pc := 68) (v := 1) dX4_rowOfKind_68 rfl ?_
          refine g_aload_n (pc := 69) dX4_rowOfKind_69 rfl trivial ?_
          refine g_getf (pc := 70) (v := .int _) dX4_rowOfKind_70 fk_X4_70 (shK hS1 rfl) (fun _ => congrArg Value.int (hr3)) ?_
          refine g_invV_r (pc := 73) (As := [_, _]) dX4_rowOfKind_73 rfl (r_fail hS) rfl rfl (shK hS1 rfl) rfl rfl lk_X4_73 rfl (nb rfl) ⟨nb rfl, nb rfl⟩ rfl ?_
          refine g_iconst (pc := 76) (v := 0) dX4_rowOfKind_76 rfl ?_
          refine g_ireturn (pc := 77) dX4_rowOfKind_77 rfl rfl ?_
          exact ⟨rfl, rfl⟩
/-- the number read, from 0 on -/
def tnN (T : Nat → Int32) (len h : Nat) (s : RP) : Nat := (tnv T len 0 (nI h) s).toNatClampNeg
theorem tnN_ok (T : Nat → Int32) (len : Nat) {h : Nat} (hh : h < 2147483648) (s : RP) : tnv T len 0 (nI h) s = nI (tnN T len h s) ∧ tnN T len h s ≤ h := by
  obtain ⟨h1, h2⟩ := tnv_in T len 0 (nI h) s (nI_pos hh)
  obtain ⟨j, h3, h4⟩ := nI_of2 (nI_toInt hh) h1 (Int32.not_lt.mp h2)
  unfold tnN
  rw [h4, nI_clamp (by omega)]
  exact ⟨rfl, h3⟩
theorem tnm_le {T : Nat → Int32} {lo hi : Int32} (hp : s.1 ≤ len) : (tnm T len lo hi s).1 ≤ len := by
  rw [(tnm_1 T len lo hi s).1]
  exact (digP_le (skipP_le hp).2).2
theorem tbs_le {T : Nat → Int32} {n : Nat} (hp : s.1 ≤ len) : (tbs T len n s).1.1 ≤ len := by
  rw [(tbs_1 T len n s).1]
  exact (digP_le (skipP_le hp).2).2
theorem r_takeN {h : Nat} (hS : Shp M) (hl : mI M 1 1 = nI len) (hL : len ≤ 600) (hp : s.1 ≤ len) (hh : h < 2147483648) : EvR l jX4_takeNumber 2 60 0 0 [.ref 1, .int 0, .int (nI h)] (rdM M s) (.inl (some (.int (nI (tnN (mI M 2) len h s))))) (rdM M (tnm (mI M 2) len 0 (nI h) s)) := by
  rw [← (tnN_ok (mI M 2) len hh s).1]
  exact r_takeNumber hS hl hL hp
theorem st17 : isSt 17 := st_of (by decide)
theorem mx19 (a : Nat) (h : a < 6) : isMx (19 + 2 * a) ∧ REFT 18 a = some (19 + 2 * a) ∧ LAY[20 + 2 * a]? = some (kI 32) ∧ REFT (19 + 2 * a) 0 = some (20 + 2 * a) := by
  obtain ⟨h1, h2⟩ := st17.2 a h
  rw [show 17 + 2 + 2 * a = 19 + 2 * a by omega] at h1 h2
  have h3 := h1.2.1
  have h4 := h1.2.2
  rw [show 19 + 2 * a + 1 = 20 + 2 * a by omega] at h3 h4
  exact ⟨h1, h2, h3, h4⟩
/-- what a reading leaves: the memory beside the reader's numbers, and these -/
def edS (T : Nat → Int32) (len n : Nat) (s : RP) : RP := tnm T len 0 (nI (n - 1)) (tnm T len 0 (nI (n - 1)) (tnm T len 0 (nI 5) s))
def edM (M : Mem) (len n : Nat) (s : RP) : Mem :=
  sI M (20 + 2 * tnN (mI M 2) len 5 s) (fun_set (mI M (20 + 2 * tnN (mI M 2) len 5 s)) (tnN (mI M 2) len (n - 1) (tnm (mI M 2) len 0 (nI 5) s)) (mI M (20 + 2 * tnN (mI M 2) len 5 s) (tnN (mI M 2) len (n - 1) (tnm (mI M 2) len 0 (nI 5) s)) ||| bitI (tnN (mI M 2) len (n - 1) (tnm (mI M 2) len 0 (nI (n - 1)) (tnm (mI M 2) len 0 (nI 5) s)))))
theorem r_readEdge {n : Nat} (hS : Shp M) (hl : mI M 1 1 = nI len) (hL : len ≤ 600) (hp : s.1 ≤ len) (hz : mI M 17 1 = nI n) (hn : 1 ≤ n) (hn9 : n ≤ 32) : EvR l jX4_readEdge 3 90 0 0 [.ref 1, .ref 17] (rdM M s) (.inl none) (rdM (edM M len n s) (edS (mI M 2) len n s)) := by
  have hS1 : ∀ s, Shp (rdM M s) := fun s => rd_S hS
  have hz1 : ∀ s, mI (rdM M s) 17 1 = nI n := fun s => (congrFun (rd_ne (by decide)) 1).trans hz
  have hp1 := tnm_le (T := mI M 2) (lo := 0) (hi := nI 5) hp
  have hp2 := tnm_le (T := mI M 2) (lo := 0) (hi := nI (n - 1)) hp1
  have ha := (tnN_ok (mI M 2) len (show 5 < 2147483648 by decide) s).2
  have hr := (tnN_ok (mI M 2) len (show n - 1 < 2147483648 by omega) (tnm (mI M 2) len 0 (nI 5) s)).2
  have q1 := r_takeN (l := l) (h := 5) hS hl hL hp (by decide)
  have q2 := r_takeN (l := l) (h := n - 1) hS hl hL hp1 (by omega)
  have q3 := r_takeN (l := l) (h := n - 1) hS hl hL hp2 (by omega)
  unfold edM edS
  refine ev_intro rfl (nb rfl) rfl ?_
  generalize tnm (mI M 2) len 0 (nI 5) s = s1 at *
  generalize tnN (mI M 2) len 5 s = a at *
  generalize tnm (mI M 2) len 0 (nI (n - 1)) s1 = s2 at *
  generalize tnN (mI M 2) len (n - 1) s1 = r at *
  generalize tnm (mI M 2) len 0 (nI (n - 1)) s2 = s3 at *
  generalize tnN (mI M 2) len (n - 1) s2 = c at *
  obtain ⟨m1, m2, m3, m4⟩ := mx19 a (by omega)
  have er : mI (rdM M s3) (20 + 2 * a) = mI M (20 + 2 * a) := rd_ne (by omega)
  refine g_aload_n (pc := 0) dX4_readEdge_0 rfl trivial ?_
  refine g_iconst (pc := 1) (v := 0) dX4_readEdge_1 rfl ?_
  refine g_iconst (pc := 2) (v := (nI 5)) dX4_readEdge_2 rfl ?_
  refine g_invV_r (pc := 3) (As := [_, _]) dX4_readEdge_3 rfl (q1) rfl rfl (shK (hS1 _) rfl) rfl rfl lk_X4_77 rfl (nb rfl) ⟨nb rfl, nb rfl⟩ rfl ?_
  refine g_istore_n (pc := 6) (lv' := [(0, _), (1, _), (2, _)]) dX4_readEdge_6 (nl rfl) rfl ?_
  refine g_aload_n (pc := 7) dX4_readEdge_7 rfl trivial ?_
  refine g_iconst (pc := 8) (v := 0) dX4_readEdge_8 rfl ?_
  refine g_aload_n (pc := 9) dX4_readEdge_9 rfl trivial ?_
  refine g_getf (pc := 10) (v := .int _) dX4_readEdge_10 fk_X4_53 (shK (hS1 _) rfl) (fun _ => congrArg Value.int ((hz1 _))) ?_
  refine g_iconst (pc := 13) (v := 1) dX4_readEdge_13 rfl ?_
  refine g_isub (pc := 14) dX4_readEdge_14 ?_
  rw [nI_m1 hn]
  refine g_invV_r (pc := 15) (As := [_, _]) dX4_readEdge_15 rfl (q2) rfl rfl (shK (hS1 _) rfl) rfl rfl lk_X4_77 rfl (nb rfl) ⟨nb rfl, nb rfl⟩ rfl ?_
  refine g_istore_n (pc := 18) (lv' := [(0, _), (1, _), (2, _), (3, _)]) dX4_readEdge_18 (nl rfl) rfl ?_
  refine g_aload_n (pc := 19) dX4_readEdge_19 rfl trivial ?_
  refine g_iconst (pc := 20) (v := 0) dX4_readEdge_20 rfl ?_
  refine g_aload_n (pc := 21) dX4_readEdge_21 rfl trivial ?_
  refine g_getf (pc := 22) (v := .int _) dX4_readEdge_22 fk_X4_53 (shK (hS1 _) rfl) (fun _ => congrArg Value.int ((hz1 _))) ?_
  refine g_iconst (pc := 25) (v := 1) dX4_readEdge_25 rfl ?_
  refine g_isub (pc := 26) dX4_readEdge_26 ?_
  rw [nI_m1 hn]
  refine g_invV_r (pc := 27) (As := [_, _]) dX4_readEdge_27 rfl (q3) rfl rfl (shK (hS1 _) rfl) rfl rfl lk_X4_77 rfl (nb rfl) ⟨nb rfl, nb rfl⟩ rfl ?_
  refine g_istore (pc := 30) (lv' := [(0, _), (1, _), (2, _), (3, _), (4, _)]) dX4_readEdge_30 (nl rfl) rfl ?_
  refine g_aload_n (pc := 32) dX4_readEdge_32 rfl trivial ?_
  refine g_getf (pc := 33) dX4_readEdge_33 fk_X4_47 (shK (hS1 _) rfl) (fv_arr (shR (hS1 _) rfl)) ?_
  refine g_iload_n (pc := 36) dX4_readEdge_36 rfl ?_
  refine g_aaload_Matrix (pc := 37) dX4_readEdge_37 (shK (hS1 _) rfl) rfl (show a < 6 by omega) (by decide) (shR (hS1 _) m2) ?_
  refine g_getf (pc := 38) dX4_readEdge_38 fk_X4_108 (shK (hS1 _) m1.1) (fv_arr (shR (hS1 _) m4)) ?_
  refine g_iload_n (pc := 41) dX4_readEdge_41 rfl ?_
  refine g_dup2_11 (pc := 42) dX4_readEdge_42 rfl rfl ?_
  refine g_iaload (pc := 43) dX4_readEdge_43 (shK (hS1 _) m3) rfl (show r < 32 by omega) (nl rfl) ?_
  refine g_iconst (pc := 44) (v := 1) dX4_readEdge_44 rfl ?_
  refine g_iload (pc := 45) dX4_readEdge_45 rfl ?_
  refine g_ishl (pc := 47) dX4_readEdge_47 ?_
  refine g_ior (pc := 48) dX4_readEdge_48 ?_
  refine g_iastore (pc := 49) dX4_readEdge_49 (shK (hS1 _) m3) rfl (show r < 32 by omega) (nl rfl) ?_
  refine g_return (pc := 50) dX4_readEdge_50 rfl ?_
  exact ⟨rfl, by rw [er]; exact rd_sI (by omega)⟩
end
end
-- 194.reader
section
section
variable {l : Launch} {M : Mem} {s : RP} {len : Nat}
def rrS (T : Nat → Int32) (len n : Nat) (s : RP) : RP := (tbs T len n (tnm T len 0 (nI (n - 1)) (tnm T len 0 (nI 5) s))).1
def rrM (M : Mem) (len n : Nat) (s : RP) : Mem := sI M (20 + 2 * tnN (mI M 2) len 5 s) (fun_set (mI M (20 + 2 * tnN (mI M 2) len 5 s)) (tnN (mI M 2) len (n - 1) (tnm (mI M 2) len 0 (nI 5) s)) (tbs (mI M 2) len n (tnm (mI M 2) len 0 (nI (n - 1)) (tnm (mI M 2) len 0 (nI 5) s))).2)
theorem r_readRow {n : Nat} (hS : Shp M) (hl : mI M 1 1 = nI len) (hL : len ≤ 600) (hp : s.1 ≤ len) (hz : mI M 17 1 = nI n) (hn : 1 ≤ n) (hn9 : n ≤ 32) : EvR l jX4_readRow 3 90 0 0 [.ref 1, .ref 17] (rdM M s) (.inl none) (rdM (rrM M len n s) (rrS (mI M 2) len n s)) := by
  have hS1 : ∀ s, Shp (rdM M s) := fun s => rd_S hS
  have hz1 : ∀ s, mI (rdM M s) 17 1 = nI n := fun s => (congrFun (rd_ne (by decide)) 1).trans hz
  have hp1 := tnm_le (T := mI M 2) (lo := 0) (hi := nI 5) hp
  have hp2 := tnm_le (T := mI M 2) (lo := 0) (hi := nI (n - 1)) hp1
  have ha := (tnN_ok (mI M 2) len (show 5 < 2147483648 by decide) s).2
  have hr := (tnN_ok (mI M 2) len (show n - 1 < 2147483648 by omega) (tnm (mI M 2) len 0 (nI 5) s)).2
  have q1 := r_takeN (l := l) (h := 5) hS hl hL hp (by decide)
  have q2 := r_takeN (l := l) (h := n - 1) hS hl hL hp1 (by omega)
  have q3 := r_takeBits (l := l) (n := n) hS hl hL hp2 hn9
  unfold rrM rrS
  refine ev_intro rfl (nb rfl) rfl ?_
  generalize tnm (mI M 2) len 0 (nI 5) s = s1 at *
  generalize tnN (mI M 2) len 5 s = a at *
  generalize tnm (mI M 2) len 0 (nI (n - 1)) s1 = s2 at *
  generalize tnN (mI M 2) len (n - 1) s1 = r at *
  generalize tbs (mI M 2) len n s2 = s3 at *
  obtain ⟨m1, m2, m3, m4⟩ := mx19 a (by omega)
  have er : mI (rdM M s3.1) (20 + 2 * a) = mI M (20 + 2 * a) := rd_ne (by omega)
  refine g_aload_n (pc := 0) dX4_readRow_0 rfl trivial ?_
  refine g_iconst (pc := 1) (v := 0) dX4_readRow_1 rfl ?_
  refine g_iconst (pc := 2) (v := (nI 5)) dX4_readRow_2 rfl ?_
  refine g_invV_r (pc := 3) (As := [_, _]) dX4_readRow_3 rfl (q1) rfl rfl (shK (hS1 _) rfl) rfl rfl lk_X4_77 rfl (nb rfl) ⟨nb rfl, nb rfl⟩ rfl ?_
  refine g_istore_n (pc := 6) (lv' := [(0, _), (1, _), (2, _)]) dX4_readRow_6 (nl rfl) rfl ?_
  refine g_aload_n (pc := 7) dX4_readRow_7 rfl trivial ?_
  refine g_iconst (pc := 8) (v := 0) dX4_readRow_8 rfl ?_
  refine g_aload_n (pc := 9) dX4_readRow_9 rfl trivial ?_
  refine g_getf (pc := 10) (v := .int _) dX4_readRow_10 fk_X4_53 (shK (hS1 _) rfl) (fun _ => congrArg Value.int ((hz1 _))) ?_
  refine g_iconst (pc := 13) (v := 1) dX4_readRow_13 rfl ?_
  refine g_isub (pc := 14) dX4_readRow_14 ?_
  rw [nI_m1 hn]
  refine g_invV_r (pc := 15) (As := [_, _]) dX4_readRow_15 rfl (q2) rfl rfl (shK (hS1 _) rfl) rfl rfl lk_X4_77 rfl (nb rfl) ⟨nb rfl, nb rfl⟩ rfl ?_
  refine g_istore_n (pc := 18) (lv' := [(0, _), (1, _), (2, _), (3, _)]) dX4_readRow_18 (nl rfl) rfl ?_
  refine g_aload_n (pc := 19) dX4_readRow_19 rfl trivial ?_
  refine g_getf (pc := 20) dX4_readRow_20 fk_X4_47 (shK (hS1 _) rfl) (fv_arr (shR (hS1 _) rfl)) ?_
  refine g_iload_n (pc := 23) dX4_readRow_23 rfl ?_
  refine g_aaload_Matrix (pc := 24) dX4_readRow_24 (shK (hS1 _) rfl) rfl (show a < 6 by omega) (by decide) (shR (hS1 _) m2) ?_
  refine g_getf (pc := 25) dX4_readRow_25 fk_X4_108 (shK (hS1 _) m1.1) (fv_arr (shR (hS1 _) m4)) ?_
  refine g_iload_n (pc := 28) dX4_readRow_28 rfl ?_
  refine g_aload_n (pc := 29) dX4_readRow_29 rfl trivial ?_
  refine g_aload_n (pc := 30) dX4_readRow_30 rfl trivial ?_
  refine g_getf (pc := 31) (v := .int _) dX4_readRow_31 fk_X4_53 (shK (hS1 _) rfl) (fun _ => congrArg Value.int ((hz1 _))) ?_
  refine g_invV_r (pc := 34) (As := [_]) dX4_readRow_34 rfl (q3) rfl rfl (shK (hS1 _) rfl) rfl rfl lk_X4_111 rfl (nb rfl) ⟨nb rfl, nb rfl⟩ rfl ?_
  refine g_iastore (pc := 37) dX4_readRow_37 (shK (hS1 _) m3) rfl (show r < 32 by omega) (nl rfl) ?_
  refine g_return (pc := 38) dX4_readRow_38 rfl ?_
  exact ⟨rfl, by rw [er]; exact rd_sI (by omega)⟩
def rkS (M : Mem) (len : Nat) (s : RP) : RP := if mI M (19 + 2 * tnN (mI M 2) len 5 s) 1 = 0 then tnm (mI M 2) len 0 (nI 5) s else rFail 3 (tnm (mI M 2) len 0 (nI 5) s).2.1 (tnm (mI M 2) len 0 (nI 5) s)
def rkM (M : Mem) (len : Nat) (s : RP) : Mem := pI M (19 + 2 * tnN (mI M 2) len 5 s) 1 1
theorem r_readKeep (hS : Shp M) (hl : mI M 1 1 = nI len) (hL : len ≤ 600) (hp : s.1 ≤ len) : EvR l jX4_readKeep 3 90 0 0 [.ref 1, .ref 17] (rdM M s) (.inl none) (rdM (rkM M len s) (rkS M len s)) := by
  have hS1 : ∀ s, Shp (rdM M s) := fun s => rd_S hS
  have ha := (tnN_ok (mI M 2) len (show 5 < 2147483648 by decide) s).2
  have q1 := r_takeN (l := l) (h := 5) hS hl hL hp (by decide)
  unfold rkM rkS
  refine ev_intro rfl (nb rfl) rfl ?_
  generalize tnm (mI M 2) len 0 (nI 5) s = s1 at *
  generalize tnN (mI M 2) len 5 s = a at *
  obtain ⟨m1, m2, m3, m4⟩ := mx19 a (by omega)
  have er : ∀ s, mI (rdM M s) (19 + 2 * a) 1 = mI M (19 + 2 * a) 1 := fun s => congrFun (rd_ne (by omega)) 1
  have hr3 : mI (rdM M s1) 1 3 = s1.2.1 := rd_3
  refine g_aload_n (pc := 0) dX4_readKeep_0 rfl trivial ?_
  refine g_iconst (pc := 1) (v := 0) dX4_readKeep_1 rfl ?_
  refine g_iconst (pc := 2) (v := (nI 5)) dX4_readKeep_2 rfl ?_
  refine g_invV_r (pc := 3) (As := [_, _]) dX4_readKeep_3 rfl (q1) rfl rfl (shK (hS1 _) rfl) rfl rfl lk_X4_77 rfl (nb rfl) ⟨nb rfl, nb rfl⟩ rfl ?_
  refine g_istore_n (pc := 6) (lv' := [(0, _), (1, _), (2, _)]) dX4_readKeep_6 (nl rfl) rfl ?_
  refine g_aload_n (pc := 7) dX4_readKeep_7 rfl trivial ?_
  refine g_getf (pc := 8) dX4_readKeep_8 fk_X4_47 (shK (hS1 _) rfl) (fv_arr (shR (hS1 _) rfl)) ?_
  refine g_iload_n (pc := 11) dX4_readKeep_11 rfl ?_
  refine g_aaload_Matrix (pc := 12) dX4_readKeep_12 (shK (hS1 _) rfl) rfl (show a < 6 by omega) (by decide) (shR (hS1 _) m2) ?_
  refine g_getf (pc := 13) (v := .int _) dX4_readKeep_13 fk_X4_115 (shK (hS1 _) m1.1) (fun _ => congrArg Value.int ((er _))) ?_
  refine g_if_eq (pc := 16) (tgt := 28) dX4_readKeep_16 rfl (fun h16 => ?_) (fun h16 => ?_)
  · rw [if_pos h16]
    refine g_aload_n (pc := 28) dX4_readKeep_28 rfl trivial ?_
    refine g_getf (pc := 29) dX4_readKeep_29 fk_X4_47 (shK (hS1 _) rfl) (fv_arr (shR (hS1 _) rfl)) ?_
    refine g_iload_n (pc := 32) dX4_readKeep_32 rfl ?_
    refine g_aaload_Matrix (pc := 33) dX4_readKeep_33 (shK (hS1 _) rfl) rfl (show a < 6 by omega) (by decide) (shR (hS1 _) m2) ?_
    refine g_iconst (pc := 34) (v := 1) dX4_readKeep_34 rfl ?_
    refine g_putI (pc := 35) dX4_readKeep_35 fp_X4_115 (shK (hS1 _) m1.1) ⟨rfl, rfl⟩ (fun _ _ _ _ => rfl) ?_
    refine g_return (pc := 38) dX4_readKeep_38 rfl ?_
    exact ⟨rfl, rd_pI (by omega)⟩
  · rw [if_neg h16]
    refine g_aload_n (pc := 19) dX4_readKeep_19 rfl trivial ?_
    refine g_iconst (pc := 20) (v := 3) dX4_readKeep_20 rfl ?_
    refine g_aload_n (pc := 21) dX4_readKeep_21 rfl trivial ?_
    refine g_getf (pc := 22) (v := .int _) dX4_readKeep_22 fk_X4_70 (shK (hS1 _) rfl) (fun _ => congrArg Value.int (hr3)) ?_
    refine g_invV_r (pc := 25) (As := [_, _]) dX4_readKeep_25 rfl (r_fail hS) rfl rfl (shK (hS1 _) rfl) rfl rfl lk_X4_73 rfl (nb rfl) ⟨nb rfl, nb rfl⟩ rfl ?_
    refine g_aload_n (pc := 28) dX4_readKeep_28 rfl trivial ?_
    refine g_getf (pc := 29) dX4_readKeep_29 fk_X4_47 (shK (hS1 _) rfl) (fv_arr (shR (hS1 _) rfl)) ?_
    refine g_iload_n (pc := 32) dX4_readKeep_32 rfl ?_
    refine g_aaload_Matrix (pc := 33) dX4_readKeep_33 (shK (hS1 _) rfl) rfl (show a < 6 by omega) (by decide) (shR (hS1 _) m2) ?_
    refine g_iconst (pc := 34) (v := 1) dX4_readKeep_34 rfl ?_
    refine g_putI (pc := 35) dX4_readKeep_35 fp_X4_115 (shK (hS1 _) m1.1) ⟨rfl, rfl⟩ (fun _ _ _ _ => rfl) ?_
    refine g_return (pc := 38) dX4_readKeep_38 rfl ?_
    exact ⟨rfl, rd_pI (by omega)⟩
def fiS (T : Nat → Int32) (b p n : Nat) (s : RP) : Nat → RP
  | 0 => s
  | k + 1 => kdS T b p n k (fiS T b p n s k)
theorem fiS_1 (T : Nat → Int32) (b p n : Nat) (s : RP) : ∀ k, (fiS T b p n s k).1 = s.1 ∧ (fiS T b p n s k).2.1 = s.2.1
  | 0 => ⟨rfl, rfl⟩
  | k + 1 => by
    rw [fiS, (kdS_1 _ _ _ _ _ _).1, (kdS_1 _ _ _ _ _ _).2]
    exact fiS_1 T b p n s k
def kdG (T : Nat → Int32) (b p n : Nat) (i : Nat) : Int32 := (kdV T b p n i).getD 0
theorem twd_le {T : Nat → Int32} (hp : s.1 ≤ len) : (twd T len s).1 ≤ len ∧ skipP T len s.1 ≤ (twd T len s).1 := by
  have h1 := skipP_le (T := T) hp
  have h2 := wordP_le (T := T) h1.2
  exact ⟨h2.2, h2.1⟩
def rfS (T : Nat → Int32) (len n : Nat) (s : RP) : RP := fiS T (skipP T len (tnm T len 0 (nI 5) s).1) (twd T len (tnm T len 0 (nI 5) s)).1 n (twd T len (tnm T len 0 (nI 5) s)) n
def rfM (M : Mem) (len n : Nat) (s : RP) : Mem := sI M (20 + 2 * tnN (mI M 2) len 5 s) (wr (mI M (20 + 2 * tnN (mI M 2) len 5 s)) (kdG (mI M 2) (skipP (mI M 2) len (tnm (mI M 2) len 0 (nI 5) s).1) (twd (mI M 2) len (tnm (mI M 2) len 0 (nI 5) s)).1 n) n)
theorem r_readFill {n : Nat} (hS : Shp M) (hl : mI M 1 1 = nI len) (hL : len ≤ 600) (hp : s.1 ≤ len) (hz : mI M 17 1 = nI n) (hn9 : n ≤ 32) : EvR l jX4_readFill 6 160 0 0 [.ref 1, .ref 17] (rdM M s) (.inl none) (rdM (rfM M len n s) (rfS (mI M 2) len n s)) := by
  have hS1 : ∀ s, Shp (rdM M s) := fun s => rd_S hS
  have ha := (tnN_ok (mI M 2) len (show 5 < 2147483648 by decide) s).2
  have hp1 := tnm_le (T := mI M 2) (lo := 0) (hi := nI 5) hp
  have q1 := r_takeN (l := l) (h := 5) hS hl hL hp (by decide)
  have q2 := r_takeWord (l := l) hS hl hL hp1
  have hw := twd_le (T := mI M 2) hp1
  have hw2 : (twd (mI M 2) len (tnm (mI M 2) len 0 (nI 5) s)).2.1 = nI (skipP (mI M 2) len (tnm (mI M 2) len 0 (nI 5) s).1) := rfl
  unfold rfM rfS
  refine ev_intro rfl (nb rfl) rfl ?_
  generalize twd (mI M 2) len (tnm (mI M 2) len 0 (nI 5) s) = s2 at *
  generalize skipP (mI M 2) len (tnm (mI M 2) len 0 (nI 5) s).1 = b at *
  generalize tnm (mI M 2) len 0 (nI 5) s = s1 at *
  generalize tnN (mI M 2) len 5 s = a at *
  obtain ⟨m1, m2, m3, m4⟩ := mx19 a (by omega)
  refine g_aload_n (pc := 0) dX4_readFill_0 rfl trivial ?_
  refine g_iconst (pc := 1) (v := 0) dX4_readFill_1 rfl ?_
  refine g_iconst (pc := 2) (v := (nI 5)) dX4_readFill_2 rfl ?_
  refine g_invV_r (pc := 3) (As := [_, _]) dX4_readFill_3 rfl (q1) rfl rfl (shK (hS1 _) rfl) rfl rfl lk_X4_77 rfl (nb rfl) ⟨nb rfl, nb rfl⟩ rfl ?_
  refine g_istore_n (pc := 6) (lv' := [(0, _), (1, _), (2, _)]) dX4_readFill_6 (nl rfl) rfl ?_
  refine g_aload_n (pc := 7) dX4_readFill_7 rfl trivial ?_
  refine g_invV_r (pc := 8) (As := []) dX4_readFill_8 rfl (q2) rfl rfl (shK (hS1 _) rfl) rfl rfl lk_X4_62 rfl (nb rfl) ⟨nb rfl, nb rfl⟩ rfl ?_
  refine g_iconst (pc := 11) (v := 0) dX4_readFill_11 rfl ?_
  refine g_istore_n (pc := 12) (lv' := [(0, _), (1, _), (2, _), (3, _)]) dX4_readFill_12 (nl rfl) rfl ?_
  refine go_loop (pc := 13) n (fun i => [(0, .ref 1), (1, .ref 17), (2, .int (nI a)), (3, .int (nI i))]) (fun i => rdM (sI M (20 + 2 * a) (wr (mI M (20 + 2 * a)) (kdG (mI M 2) b s2.1 n) i)) (fiS (mI M 2) b s2.1 n s2 i)) ⟨rfl, rfl, rfl, rfl, trivial⟩ (by rw [wr_0, sI_id]; rfl) ?_ ?_
  · intro i hi ih
    have hS2 : Shp (sI M (20 + 2 * a) (wr (mI M (20 + 2 * a)) (kdG (mI M 2) b s2.1 n) i)) := shp_sI hS
    have hz2 : mI (sI M (20 + 2 * a) (wr (mI M (20 + 2 * a)) (kdG (mI M 2) b s2.1 n) i)) 17 1 = nI n := (congrFun (sI_ne (by omega)) 1).trans hz
    have eT : mI (sI M (20 + 2 * a) (wr (mI M (20 + 2 * a)) (kdG (mI M 2) b s2.1 n) i)) 2 = mI M 2 := sI_ne (by omega)
    obtain ⟨f1, f2⟩ := fiS_1 (mI M 2) b s2.1 n s2 i
    rw [fiS] at ih
    have eN : ∀ s, pI (rdM (sI M (20 + 2 * a) (wr (mI M (20 + 2 * a)) (kdG (mI M 2) b s2.1 n) i)) s) (20 + 2 * a) i (kdG (mI M 2) b s2.1 n i) = rdM (sI M (20 + 2 * a) (wr (mI M (20 + 2 * a)) (kdG (mI M 2) b s2.1 n) (i + 1))) s := fun s => by
      rw [rd_pI (by omega), sI_st (wr_s _ _ i)]
    have qk := r_rowOfKind (l := l) (s := fiS (mI M 2) b s2.1 n s2 i) (b := b) (n := n) (i := i) hS2 (by rw [f1]; omega) (by rw [f2]; exact hw2) (by rw [f1]; exact hw.2) hn9 hi
    rw [eT, f1] at qk
    generalize sI M (20 + 2 * a) (wr (mI M (20 + 2 * a)) (kdG (mI M 2) b s2.1 n) i) = M1 at *
    have hS3 : ∀ s, Shp (rdM M1 s) := fun s => rd_S hS2
    have hz3 : ∀ s, mI (rdM M1 s) 17 1 = nI n := fun s => (congrFun (rd_ne (by decide)) 1).trans hz2
    generalize fiS (mI M 2) b s2.1 n s2 i = s3 at *
    refine g_iload_n (pc := 13) dX4_readFill_13 rfl ?_
    refine g_aload_n (pc := 14) dX4_readFill_14 rfl trivial ?_
    refine g_getf (pc := 15) (v := .int _) dX4_readFill_15 fk_X4_53 (shK (hS3 _) rfl) (fun _ => congrArg Value.int ((hz3 _))) ?_
    refine g_icmp_ge (pc := 18) (tgt := 47) dX4_readFill_18 rfl (fun h18 => absurd h18 (nI_ge hi (by omega))) (fun _ => ?_)
    refine g_aload_n (pc := 21) dX4_readFill_21 rfl trivial ?_
    refine g_getf (pc := 22) dX4_readFill_22 fk_X4_47 (shK (hS3 _) rfl) (fv_arr (shR (hS3 _) rfl)) ?_
    refine g_iload_n (pc := 25) dX4_readFill_25 rfl ?_
    refine g_aaload_Matrix (pc := 26) dX4_readFill_26 (shK (hS3 _) rfl) rfl (show a < 6 by omega) (by decide) (shR (hS3 _) m2) ?_
    refine g_getf (pc := 27) dX4_readFill_27 fk_X4_108 (shK (hS3 _) m1.1) (fv_arr (shR (hS3 _) m4)) ?_
    refine g_iload_n (pc := 30) dX4_readFill_30 rfl ?_
    refine g_aload_n (pc := 31) dX4_readFill_31 rfl trivial ?_
    refine g_iload_n (pc := 32) dX4_readFill_32 rfl ?_
    refine g_aload_n (pc := 33) dX4_readFill_33 rfl trivial ?_
    refine g_getf (pc := 34) (v := .int _) dX4_readFill_34 fk_X4_53 (shK (hS3 _) rfl) (fun _ => congrArg Value.int ((hz3 _))) ?_
    refine g_invV_r (pc := 37) (As := [_, _]) dX4_readFill_37 rfl (qk) rfl rfl (shK (hS3 _) rfl) rfl rfl lk_X4_119 rfl (nb rfl) ⟨nb rfl, nb rfl⟩ rfl ?_
    refine g_iastore (pc := 40) dX4_readFill_40 (shK (hS3 _) m3) rfl (show i < 32 by omega) (nl rfl) ?_
    refine go_cast (eN _) ?_
    refine g_iinc (pc := 41) (lv' := [(0, _), (1, _), (2, _), (3, _)]) dX4_readFill_41 rfl (nI_1 _) (nl rfl) rfl ?_
    refine g_goto (pc := 44) (tgt := 13) dX4_readFill_44 rfl ?_
    exact ih
  · have hS2 : Shp (sI M (20 + 2 * a) (wr (mI M (20 + 2 * a)) (kdG (mI M 2) b s2.1 n) n)) := shp_sI hS
    have hz2 : mI (sI M (20 + 2 * a) (wr (mI M (20 + 2 * a)) (kdG (mI M 2) b s2.1 n) n)) 17 1 = nI n := (congrFun (sI_ne (by omega)) 1).trans hz
    generalize sI M (20 + 2 * a) (wr (mI M (20 + 2 * a)) (kdG (mI M 2) b s2.1 n) n) = M1 at *
    generalize fiS (mI M 2) b s2.1 n s2 n = s3 at *
    have hS3 : ∀ s, Shp (rdM M1 s) := fun s => rd_S hS2
    have hz3 : ∀ s, mI (rdM M1 s) 17 1 = nI n := fun s => (congrFun (rd_ne (by decide)) 1).trans hz2
    refine g_iload_n (pc := 13) dX4_readFill_13 rfl ?_
    refine g_aload_n (pc := 14) dX4_readFill_14 rfl trivial ?_
    refine g_getf (pc := 15) (v := .int _) dX4_readFill_15 fk_X4_53 (shK (hS3 _) rfl) (fun _ => congrArg Value.int ((hz3 _))) ?_
    refine g_icmp_ge (pc := 18) (tgt := 47) dX4_readFill_18 rfl (fun _ => ?_) (fun h18 => absurd (nI_le (Nat.le_refl _) (by omega)) h18)
    refine g_return (pc := 47) dX4_readFill_47 rfl ?_
    exact ⟨rfl, rfl⟩
end
end
-- 195.reader
section
section
variable {l : Launch} {M : Mem} {s : RP} {len : Nat}
/-- a statement read -/
def rsR (M : Mem) (len n : Nat) (s : RP) : Mem × RP :=
  if wdQ (mI M 2) (skipP (mI M 2) len s.1) (twd (mI M 2) len s).1 (strW 1) = true then (edM M len n (twd (mI M 2) len s), edS (mI M 2) len n (twd (mI M 2) len s))
  else if wdQ (mI M 2) (skipP (mI M 2) len s.1) (twd (mI M 2) len s).1 (strW 2) = true then (rrM M len n (twd (mI M 2) len s), rrS (mI M 2) len n (twd (mI M 2) len s))
  else if wdQ (mI M 2) (skipP (mI M 2) len s.1) (twd (mI M 2) len s).1 (strW 3) = true then (rfM M len n (twd (mI M 2) len s), rfS (mI M 2) len n (twd (mI M 2) len s))
  else if wdQ (mI M 2) (skipP (mI M 2) len s.1) (twd (mI M 2) len s).1 (strW 8) = true then (rkM M len (twd (mI M 2) len s), rkS M len (twd (mI M 2) len s))
  else if wdQ (mI M 2) (skipP (mI M 2) len s.1) (twd (mI M 2) len s).1 (strW 9) = true then (pI M 17 2 (tnv (mI M 2) len 1 8 (twd (mI M 2) len s)), tnm (mI M 2) len 1 8 (twd (mI M 2) len s))
  else (M, rFail 1 (nI (skipP (mI M 2) len s.1)) (twd (mI M 2) len s))
theorem r_readStatement {n : Nat} (hS : Shp M) (hl : mI M 1 1 = nI len) (hL : len ≤ 600) (hp : s.1 ≤ len) (hz : mI M 17 1 = nI n) (hn : 1 ≤ n) (hn9 : n ≤ 32) : EvR l jX4_readStatement 7 190 0 0 [.ref 1, .ref 17] (rdM M s) (.inl none) (rdM (rsR M len n s).1 (rsR M len n s).2) := by
  have hS1 : ∀ s, Shp (rdM M s) := fun s => rd_S hS
  have q0 := r_takeWord (l := l) hS hl hL hp
  have hw := twd_le (T := mI M 2) hp
  have hw2 : (twd (mI M 2) len s).2.1 = nI (skipP (mI M 2) len s.1) := rfl
  unfold rsR
  generalize twd (mI M 2) len s = s1 at *
  generalize skipP (mI M 2) len s.1 = b at *
  have w : ∀ k, k < strT.length → EvR l jX4_isWord 4 100 0 0 [.ref 1, .retAddr (2 * k + 2)] (rdM M s1) (.inl (some (.int (b1 (wdQ (mI M 2) b s1.1 (strW k)))))) (rdM M s1) := fun k hk => r_isW k hS (by omega) hw2 hw.2 hk
  have w1 := w 1 (by decide)
  have w2 := w 2 (by decide)
  have w3 := w 3 (by decide)
  have w8 := w 8 (by decide)
  have w9 := w 9 (by decide)
  have t1 := r_readEdge (l := l) (s := s1) hS hl hL hw.1 hz hn hn9
  have t2 := r_readRow (l := l) (s := s1) hS hl hL hw.1 hz hn hn9
  have t3 := r_readFill (l := l) (s := s1) hS hl hL hw.1 hz hn9
  have t8 := r_readKeep (l := l) (s := s1) hS hl hL hw.1
  have t9 := r_takeNumber (l := l) (s := s1) (lo := 1) (hi := 8) hS hl hL hw.1
  have hr3 : mI (rdM M s1) 1 3 = nI b := rd_3.trans hw2
  generalize wdQ (mI M 2) b s1.1 (strW 1) = c1 at *
  generalize wdQ (mI M 2) b s1.1 (strW 2) = c2 at *
  generalize wdQ (mI M 2) b s1.1 (strW 3) = c3 at *
  generalize wdQ (mI M 2) b s1.1 (strW 8) = c8 at *
  generalize wdQ (mI M 2) b s1.1 (strW 9) = c9 at *
  generalize edM M len n s1 = m1 at *
  generalize edS (mI M 2) len n s1 = e1 at *
  generalize rrM M len n s1 = m2 at *
  generalize rrS (mI M 2) len n s1 = e2 at *
  generalize rfM M len n s1 = m3 at *
  generalize rfS (mI M 2) len n s1 = e3 at *
  generalize rkM M len s1 = m8 at *
  generalize rkS M len s1 = e8 at *
  refine ev_intro rfl (nb rfl) rfl ?_
  refine g_aload_n (pc := 0) dX4_readStatement_0 rfl trivial ?_
  refine g_invV_r (pc := 1) (As := []) dX4_readStatement_1 rfl (q0) rfl rfl (shK (hS1 _) rfl) rfl rfl lk_X4_62 rfl (nb rfl) ⟨nb rfl, nb rfl⟩ rfl ?_
  skip
  cases c1 with
  | true =>
    refine g_aload_n (pc := 4) dX4_readStatement_4 rfl trivial ?_
    refine g_ldcS (pc := 5) (kS := 1) dX4_readStatement_5 rfl ?_
    refine g_invV_r (pc := 7) (As := [_]) dX4_readStatement_7 rfl (w1) rfl rfl (shK (hS1 _) rfl) rfl rfl lk_X4_66 rfl (nb rfl) ⟨nb rfl, nb rfl⟩ rfl ?_
    refine g_if_eq (pc := 10) (tgt := 21) dX4_readStatement_10 rfl (fun h10 => absurd h10 ((by decide))) (fun _ => ?_)
    refine g_aload_n (pc := 13) dX4_readStatement_13 rfl trivial ?_
    refine g_aload_n (pc := 14) dX4_readStatement_14 rfl trivial ?_
    refine g_invV_r (pc := 15) (As := [_]) dX4_readStatement_15 rfl (t1) rfl rfl (shK (hS1 _) rfl) rfl rfl lk_X4_86 rfl (nb rfl) ⟨nb rfl, nb rfl⟩ rfl ?_
    refine g_goto (pc := 18) (tgt := 104) dX4_readStatement_18 rfl ?_
    refine g_return (pc := 104) dX4_readStatement_104 rfl ?_
    exact ⟨rfl, rfl⟩
  | false =>
    refine g_aload_n (pc := 4) dX4_readStatement_4 rfl trivial ?_
    refine g_ldcS (pc := 5) (kS := 1) dX4_readStatement_5 rfl ?_
    refine g_invV_r (pc := 7) (As := [_]) dX4_readStatement_7 rfl (w1) rfl rfl (shK (hS1 _) rfl) rfl rfl lk_X4_66 rfl (nb rfl) ⟨nb rfl, nb rfl⟩ rfl ?_
    refine g_if_eq (pc := 10) (tgt := 21) dX4_readStatement_10 rfl (fun _ => ?_) (fun h10 => absurd (rfl) h10)
    skip
    cases c2 with
    | true =>
      refine g_aload_n (pc := 21) dX4_readStatement_21 rfl trivial ?_
      refine g_ldcS (pc := 22) (kS := 2) dX4_readStatement_22 rfl ?_
      refine g_invV_r (pc := 24) (As := [_]) dX4_readStatement_24 rfl (w2) rfl rfl (shK (hS1 _) rfl) rfl rfl lk_X4_66 rfl (nb rfl) ⟨nb rfl, nb rfl⟩ rfl ?_
      refine g_if_eq (pc := 27) (tgt := 38) dX4_readStatement_27 rfl (fun h27 => absurd h27 ((by decide))) (fun _ => ?_)
      refine g_aload_n (pc := 30) dX4_readStatement_30 rfl trivial ?_
      refine g_aload_n (pc := 31) dX4_readStatement_31 rfl trivial ?_
      refine g_invV_r (pc := 32) (As := [_]) dX4_readStatement_32 rfl (t2) rfl rfl (shK (hS1 _) rfl) rfl rfl lk_X4_91 rfl (nb rfl) ⟨nb rfl, nb rfl⟩ rfl ?_
      refine g_goto (pc := 35) (tgt := 104) dX4_readStatement_35 rfl ?_
      refine g_return (pc := 104) dX4_readStatement_104 rfl ?_
      exact ⟨rfl, rfl⟩
    | false =>
      refine g_aload_n (pc := 21) dX4_readStatement_21 rfl trivial ?_
      refine g_ldcS (pc := 22) (kS := 2) dX4_readStatement_22 rfl ?_
      refine g_invV_r (pc := 24) (As := [_]) dX4_readStatement_24 rfl (w2) rfl rfl (shK (hS1 _) rfl) rfl rfl lk_X4_66 rfl (nb rfl) ⟨nb rfl, nb rfl⟩ rfl ?_
      refine g_if_eq (pc := 27) (tgt := 38) dX4_readStatement_27 rfl (fun _ => ?_) (fun h27 => absurd (rfl) h27)
      skip
      cases c3 with
      | true =>
        refine g_aload_n (pc := 38) dX4_readStatement_38 rfl trivial ?_
        refine g_ldcS (pc := 39) (kS := 3) dX4_readStatement_39 rfl ?_
        refine g_invV_r (pc := 41) (As := [_]) dX4_readStatement_41 rfl (w3) rfl rfl (shK (hS1 _) rfl) rfl rfl lk_X4_66 rfl (nb rfl) ⟨nb rfl, nb rfl⟩ rfl ?_
        refine g_if_eq (pc := 44) (tgt := 55) dX4_readStatement_44 rfl (fun h44 => absurd h44 ((by decide))) (fun _ => ?_)
        refine g_aload_n (pc := 47) dX4_readStatement_47 rfl trivial ?_
        refine g_aload_n (pc := 48) dX4_readStatement_48 rfl trivial ?_
        refine g_invV_r (pc := 49) (As := [_]) dX4_readStatement_49 rfl (t3) rfl rfl (shK (hS1 _) rfl) rfl rfl lk_X4_96 rfl (nb rfl) ⟨nb rfl, nb rfl⟩ rfl ?_
        refine g_goto (pc := 52) (tgt := 104) dX4_readStatement_52 rfl ?_
        refine g_return (pc := 104) dX4_readStatement_104 rfl ?_
        exact ⟨rfl, rfl⟩
      | false =>
        refine g_aload_n (pc := 38) dX4_readStatement_38 rfl trivial ?_
        refine g_ldcS (pc := 39) (kS := 3) dX4_readStatement_39 rfl ?_
        refine g_invV_r (pc := 41) (As := [_]) dX4_readStatement_41 rfl (w3) rfl rfl (shK (hS1 _) rfl) rfl rfl lk_X4_66 rfl (nb rfl) ⟨nb rfl, nb rfl⟩ rfl ?_
        refine g_if_eq (pc := 44) (tgt := 55) dX4_readStatement_44 rfl (fun _ => ?_) (fun h44 => absurd (rfl) h44)
        skip
        cases c8 with
        | true =>
          refine g_aload_n (pc := 55) dX4_readStatement_55 rfl trivial ?_
          refine g_ldcS (pc := 56) (kS := 8) dX4_readStatement_56 rfl ?_
          refine g_invV_r (pc := 58) (As := [_]) dX4_readStatement_58 rfl (w8) rfl rfl (shK (hS1 _) rfl) rfl rfl lk_X4_66 rfl (nb rfl) ⟨nb rfl, nb rfl⟩ rfl ?_
          refine g_if_eq (pc := 61) (tgt := 72) dX4_readStatement_61 rfl (fun h61 => absurd h61 ((by decide))) (fun _ => ?_)
          refine g_aload_n (pc := 64) dX4_readStatement_64 rfl trivial ?_
          refine g_aload_n (pc := 65) dX4_readStatement_65 rfl trivial ?_
          refine g_invV_r (pc := 66) (As := [_]) dX4_readStatement_66 rfl (t8) rfl rfl (shK (hS1 _) rfl) rfl rfl lk_X4_101 rfl (nb rfl) ⟨nb rfl, nb rfl⟩ rfl ?_
          refine g_goto (pc := 69) (tgt := 104) dX4_readStatement_69 rfl ?_
          refine g_return (pc := 104) dX4_readStatement_104 rfl ?_
          exact ⟨rfl, rfl⟩
        | false =>
          cases c9 with
          | true =>
            refine g_aload_n (pc := 55) dX4_readStatement_55 rfl trivial ?_
            refine g_ldcS (pc := 56) (kS := 8) dX4_readStatement_56 rfl ?_
            refine g_invV_r (pc := 58) (As := [_]) dX4_readStatement_58 rfl (w8) rfl rfl (shK (hS1 _) rfl) rfl rfl lk_X4_66 rfl (nb rfl) ⟨nb rfl, nb rfl⟩ rfl ?_
            refine g_if_eq (pc := 61) (tgt := 72) dX4_readStatement_61 rfl (fun _ => ?_) (fun h61 => absurd (rfl) h61)
            refine g_aload_n (pc := 72) dX4_readStatement_72 rfl trivial ?_
            refine g_ldcS (pc := 73) (kS := 9) dX4_readStatement_73 rfl ?_
            refine g_invV_r (pc := 75) (As := [_]) dX4_readStatement_75 rfl (w9) rfl rfl (shK (hS1 _) rfl) rfl rfl lk_X4_66 rfl (nb rfl) ⟨nb rfl, nb rfl⟩ rfl ?_
            refine g_if_eq (pc := 78) (tgt := 95) dX4_readStatement_78 rfl (fun h78 => absurd h78 ((by decide))) (fun _ => ?_)
            refine g_aload_n (pc := 81) dX4_readStatement_81 rfl trivial ?_
            refine g_aload_n (pc := 82) dX4_readStatement_82 rfl trivial ?_
            refine g_iconst (pc := 83) (v := 1) dX4_readStatement_83 rfl ?_
            refine g_bipush (pc := 84) (v := 8) dX4_readStatement_84 rfl ?_
            refine g_invV_r (pc := 86) (As := [_, _]) dX4_readStatement_86 rfl (t9) rfl rfl (shK (hS1 _) rfl) rfl rfl lk_X4_77 rfl (nb rfl) ⟨nb rfl, nb rfl⟩ rfl ?_
            refine g_putI (pc := 89) dX4_readStatement_89 fp_X4_106 (shK (hS1 _) rfl) ⟨rfl, rfl⟩ (fun _ _ _ _ => rfl) ?_
            refine g_goto (pc := 92) (tgt := 104) dX4_readStatement_92 rfl ?_
            refine g_return (pc := 104) dX4_readStatement_104 rfl ?_
            exact ⟨rfl, rd_pI (by decide)⟩
          | false =>
            refine g_aload_n (pc := 55) dX4_readStatement_55 rfl trivial ?_
            refine g_ldcS (pc := 56) (kS := 8) dX4_readStatement_56 rfl ?_
            refine g_invV_r (pc := 58) (As := [_]) dX4_readStatement_58 rfl (w8) rfl rfl (shK (hS1 _) rfl) rfl rfl lk_X4_66 rfl (nb rfl) ⟨nb rfl, nb rfl⟩ rfl ?_
            refine g_if_eq (pc := 61) (tgt := 72) dX4_readStatement_61 rfl (fun _ => ?_) (fun h61 => absurd (rfl) h61)
            refine g_aload_n (pc := 72) dX4_readStatement_72 rfl trivial ?_
            refine g_ldcS (pc := 73) (kS := 9) dX4_readStatement_73 rfl ?_
            refine g_invV_r (pc := 75) (As := [_]) dX4_readStatement_75 rfl (w9) rfl rfl (shK (hS1 _) rfl) rfl rfl lk_X4_66 rfl (nb rfl) ⟨nb rfl, nb rfl⟩ rfl ?_
            refine g_if_eq (pc := 78) (tgt := 95) dX4_readStatement_78 rfl (fun _ => ?_) (fun h78 => absurd (rfl) h78)
            refine g_aload_n (pc := 95) dX4_readStatement_95 rfl trivial ?_
            refine g_iconst (pc := 96) (v := 1) dX4_readStatement_96 rfl ?_
            refine g_aload_n (pc := 97) dX4_readStatement_97 rfl trivial ?_
            refine g_getf (pc := 98) (v := .int _) dX4_readStatement_98 fk_X4_70 (shK (hS1 _) rfl) (fun _ => congrArg Value.int (hr3)) ?_
            refine g_invV_r (pc := 101) (As := [_, _]) dX4_readStatement_101 rfl (r_fail hS) rfl rfl (shK (hS1 _) rfl) rfl rfl lk_X4_73 rfl (nb rfl) ⟨nb rfl, nb rfl⟩ rfl ?_
            refine g_return (pc := 104) dX4_readStatement_104 rfl ?_
            exact ⟨rfl, rfl⟩
theorem sI_okA {a : Nat} {f : Nat → Int32} (hS : Shp M) (ha : a ≤ 5) : Shp (sI M (20 + 2 * a) f) ∧ (∀ i, i < 17 ∨ 31 ≤ i → mI (sI M (20 + 2 * a) f) i = mI M i) ∧ mI (sI M (20 + 2 * a) f) 17 1 = mI M 17 1 :=
  ⟨shp_sI hS, fun i h => sI_ne (by omega), congrFun (sI_ne (by omega)) 1⟩
theorem pI_okA {a : Nat} {v : Int32} (hS : Shp M) (ha : a ≤ 5) : Shp (pI M (19 + 2 * a) 1 v) ∧ (∀ i, i < 17 ∨ 31 ≤ i → mI (pI M (19 + 2 * a) 1 v) i = mI M i) ∧ mI (pI M (19 + 2 * a) 1 v) 17 1 = mI M 17 1 :=
  ⟨shp_pI hS, fun i h => pI_i (by omega), congrFun (pI_i (by omega)) 1⟩
theorem tn5 (T : Nat → Int32) (len : Nat) (s : RP) : tnN T len 5 s ≤ 5 := (tnN_ok T len (show 5 < 2147483648 by decide) s).2
theorem edM_ok {n : Nat} (hS : Shp M) : Shp (edM M len n s) ∧ (∀ i, i < 17 ∨ 31 ≤ i → mI (edM M len n s) i = mI M i) ∧ mI (edM M len n s) 17 1 = mI M 17 1 := by
  unfold edM; exact sI_okA hS (tn5 _ _ _)
theorem rrM_ok {n : Nat} (hS : Shp M) : Shp (rrM M len n s) ∧ (∀ i, i < 17 ∨ 31 ≤ i → mI (rrM M len n s) i = mI M i) ∧ mI (rrM M len n s) 17 1 = mI M 17 1 := by
  unfold rrM; exact sI_okA hS (tn5 _ _ _)
theorem rfM_ok {n : Nat} (hS : Shp M) : Shp (rfM M len n s) ∧ (∀ i, i < 17 ∨ 31 ≤ i → mI (rfM M len n s) i = mI M i) ∧ mI (rfM M len n s) 17 1 = mI M 17 1 := by
  unfold rfM; exact sI_okA hS (tn5 _ _ _)
theorem rkM_ok (hS : Shp M) : Shp (rkM M len s) ∧ (∀ i, i < 17 ∨ 31 ≤ i → mI (rkM M len s) i = mI M i) ∧ mI (rkM M len s) 17 1 = mI M 17 1 := by
  unfold rkM; exact pI_okA hS (tn5 _ _ _)
theorem edS_le {T : Nat → Int32} {n : Nat} (hp : s.1 ≤ len) : (edS T len n s).1 ≤ len := by unfold edS; exact tnm_le (tnm_le (tnm_le hp))
theorem rrS_le {T : Nat → Int32} {n : Nat} (hp : s.1 ≤ len) : (rrS T len n s).1 ≤ len := by unfold rrS; exact tbs_le (tnm_le (tnm_le hp))
theorem rfS_le {T : Nat → Int32} {n : Nat} (hp : s.1 ≤ len) : (rfS T len n s).1 ≤ len := by
  unfold rfS
  rw [(fiS_1 _ _ _ _ _ _).1]
  exact (twd_le (tnm_le hp)).1
theorem rkS_le (hp : s.1 ≤ len) : (rkS M len s).1 ≤ len := by
  unfold rkS
  split
  · exact tnm_le hp
  · rw [(rFail_1 _ _ _).1]; exact tnm_le hp
/-- what a statement leaves -/
theorem rsR_ok {n : Nat} (hS : Shp M) (hp : s.1 ≤ len) : (Shp (rsR M len n s).1 ∧ (∀ i, i < 17 ∨ 31 ≤ i → mI (rsR M len n s).1 i = mI M i) ∧ mI (rsR M len n s).1 17 1 = mI M 17 1) ∧ (rsR M len n s).2.1 ≤ len := by
  have hw := (twd_le (T := mI M 2) hp).1
  unfold rsR
  generalize twd (mI M 2) len s = s1 at *
  generalize skipP (mI M 2) len s.1 = b at *
  generalize wdQ (mI M 2) b s1.1 (strW 1) = c1
  generalize wdQ (mI M 2) b s1.1 (strW 2) = c2
  generalize wdQ (mI M 2) b s1.1 (strW 3) = c3
  generalize wdQ (mI M 2) b s1.1 (strW 8) = c8
  generalize wdQ (mI M 2) b s1.1 (strW 9) = c9
  have k1 := edM_ok (len := len) (n := n) (s := s1) hS
  have k2 := rrM_ok (len := len) (n := n) (s := s1) hS
  have k3 := rfM_ok (len := len) (n := n) (s := s1) hS
  have k8 := rkM_ok (len := len) (s := s1) hS
  have l1 := edS_le (T := mI M 2) (n := n) hw
  have l2 := rrS_le (T := mI M 2) (n := n) hw
  have l3 := rfS_le (T := mI M 2) (n := n) hw
  have l8 := rkS_le (M := M) hw
  have k9 : Shp (pI M 17 2 (tnv (mI M 2) len 1 8 s1)) ∧ (∀ i, i < 17 ∨ 31 ≤ i → mI (pI M 17 2 (tnv (mI M 2) len 1 8 s1)) i = mI M i) ∧ mI (pI M 17 2 (tnv (mI M 2) len 1 8 s1)) 17 1 = mI M 17 1 := ⟨shp_pI hS, fun i h => pI_i (by omega), pI_k (by decide)⟩
  have l9 := tnm_le (T := mI M 2) (lo := 1) (hi := 8) hw
  have k0 : Shp M ∧ (∀ i, i < 17 ∨ 31 ≤ i → mI M i = mI M i) ∧ mI M 17 1 = mI M 17 1 := ⟨hS, fun i h => rfl, rfl⟩
  have l0 : (rFail 1 (nI b) s1).1 ≤ len := by rw [(rFail_1 _ _ _).1]; exact hw
  generalize tnm (mI M 2) len 1 8 s1 = e9 at *
  generalize pI M 17 2 (tnv (mI M 2) len 1 8 s1) = m9 at *
  generalize rFail 1 (nI b) s1 = e0 at *
  generalize edM M len n s1 = m1 at *
  generalize edS (mI M 2) len n s1 = e1 at *
  generalize rrM M len n s1 = m2 at *
  generalize rrS (mI M 2) len n s1 = e2 at *
  generalize rfM M len n s1 = m3 at *
  generalize rfS (mI M 2) len n s1 = e3 at *
  generalize rkM M len s1 = m8 at *
  generalize rkS M len s1 = e8 at *
  cases c1 with
  | true => exact ⟨k1, l1⟩
  | false =>
  cases c2 with
  | true => exact ⟨k2, l2⟩
  | false =>
  cases c3 with
  | true => exact ⟨k3, l3⟩
  | false =>
  cases c8 with
  | true => exact ⟨k8, l8⟩
  | false =>
  cases c9 with
  | true => exact ⟨k9, l9⟩
  | false => exact ⟨k0, l0⟩
theorem mxEmpty_rd {m : Nat} (h : 1 < m) : mxEmpty (rdM M s) m = rdM (mxEmpty M m) s := by
  unfold mxEmpty
  rw [rd_ne (by omega), rd_sI (by omega), rd_pI (by omega), rd_pI (by omega), rd_pI (by omega), rd_pI (by omega)]
theorem stEmptyL_rd {b : Nat} (h : 1 < b) : ∀ k, stEmptyL (rdM M s) b k = rdM (stEmptyL M b k) s
  | 0 => by rw [stEmptyL.eq_1, stEmptyL.eq_1]
  | k + 1 => by rw [stEmptyL.eq_2, stEmptyL.eq_2, stEmptyL_rd h k, mxEmpty_rd (by omega)]
theorem stEmpty_rd {b : Nat} {n : Int32} (h : 1 < b) : stEmpty (rdM M s) b n = rdM (stEmpty M b n) s := by
  unfold stEmpty
  rw [stEmptyL_rd h, rd_pI (by omega), rd_pI (by omega), rd_pI (by omega), rd_pI (by omega)]
/-- the size read -/
def rzS0 (T : Nat → Int32) (len : Nat) (s : RP) : RP := if wdQ T (skipP T len s.1) (twd T len s).1 (strW 0) = true then twd T len s else rFail 1 (nI (skipP T len s.1)) (twd T len s)
def rzS (T : Nat → Int32) (len : Nat) (s : RP) : RP := tnm T len 1 32 (rzS0 T len s)
def rzV (T : Nat → Int32) (len : Nat) (s : RP) : Int32 := tnv T len 1 32 (rzS0 T len s)
theorem rzS0_le {T : Nat → Int32} (hp : s.1 ≤ len) : (rzS0 T len s).1 ≤ len := by
  unfold rzS0; split
  · exact (twd_le hp).1
  · rw [(rFail_1 _ _ _).1]; exact (twd_le hp).1
theorem r_readSize (hS : Shp M) (hl : mI M 1 1 = nI len) (hL : len ≤ 600) (hp : s.1 ≤ len) : EvR l jX4_readSize 5 130 0 0 [.ref 1, .ref 17] (rdM M s) (.inl none) (rdM (stEmpty M 17 (rzV (mI M 2) len s)) (rzS (mI M 2) len s)) := by
  have hS1 : ∀ s, Shp (rdM M s) := fun s => rd_S hS
  have q0 := r_takeWord (l := l) hS hl hL hp
  have hw := twd_le (T := mI M 2) hp
  have hw2 : (twd (mI M 2) len s).2.1 = nI (skipP (mI M 2) len s.1) := rfl
  have hz0 := rzS0_le (T := mI M 2) hp
  unfold rzV rzS
  unfold rzS0 at *
  generalize twd (mI M 2) len s = s1 at *
  generalize skipP (mI M 2) len s.1 = b at *
  have w0 : EvR l jX4_isWord 4 100 0 0 [.ref 1, .retAddr (2 * 0 + 2)] (rdM M s1) (.inl (some (.int (b1 (wdQ (mI M 2) b s1.1 (strW 0)))))) (rdM M s1) := r_isW 0 hS (by omega) hw2 hw.2 (by decide)
  have hr3 : mI (rdM M s1) 1 3 = nI b := rd_3.trans hw2
  have tN : ∀ s2 : RP, s2.1 ≤ len → EvR l jX4_takeNumber 2 60 0 0 [.ref 1, .int 1, .int 32] (rdM M s2) (.inl (some (.int (tnv (mI M 2) len 1 32 s2)))) (rdM M (tnm (mI M 2) len 1 32 s2)) := fun s2 h => r_takeNumber hS hl hL h
  have tE : ∀ (s2 : RP) (v : Int32), EvR l jX5_makeEmpty 1 40 0 0 [.ref 17, .int v] (rdM M s2) (.inl none) (rdM (stEmpty M 17 v) s2) := fun s2 v => by
    rw [← stEmpty_rd (by decide)]; exact s_stEmpty (hS1 s2) st17
  generalize wdQ (mI M 2) b s1.1 (strW 0) = w at *
  refine ev_intro rfl (nb rfl) rfl ?_
  cases w with
  | true =>
    refine g_aload_n (pc := 0) dX4_readSize_0 rfl trivial ?_
    refine g_invV_r (pc := 1) (As := []) dX4_readSize_1 rfl (q0) rfl rfl (shK (hS1 _) rfl) rfl rfl lk_X4_62 rfl (nb rfl) ⟨nb rfl, nb rfl⟩ rfl ?_
    refine g_aload_n (pc := 4) dX4_readSize_4 rfl trivial ?_
    refine g_ldcS (pc := 5) (kS := 0) dX4_readSize_5 rfl ?_
    refine g_invV_r (pc := 7) (As := [_]) dX4_readSize_7 rfl (w0) rfl rfl (shK (hS1 _) rfl) rfl rfl lk_X4_66 rfl (nb rfl) ⟨nb rfl, nb rfl⟩ rfl ?_
    refine g_if_ne (pc := 10) (tgt := 22) dX4_readSize_10 rfl (fun _ => ?_) (fun h10 => absurd ((by decide)) h10)
    refine g_aload_n (pc := 22) dX4_readSize_22 rfl trivial ?_
    refine g_aload_n (pc := 23) dX4_readSize_23 rfl trivial ?_
    refine g_iconst (pc := 24) (v := 1) dX4_readSize_24 rfl ?_
    refine g_bipush (pc := 25) (v := 32) dX4_readSize_25 rfl ?_
    refine g_invV_r (pc := 27) (As := [_, _]) dX4_readSize_27 rfl (tN _ hz0) rfl rfl (shK (hS1 _) rfl) rfl rfl lk_X4_77 rfl (nb rfl) ⟨nb rfl, nb rfl⟩ rfl ?_
    refine g_invV_r (pc := 30) (As := [_]) dX4_readSize_30 rfl (tE _ _) rfl rfl (shK (hS1 _) rfl) rfl rfl lk_X4_81 rfl (nb rfl) ⟨nb rfl, nb rfl⟩ rfl ?_
    refine g_return (pc := 33) dX4_readSize_33 rfl ?_
    exact ⟨rfl, rfl⟩
  | false =>
    refine g_aload_n (pc := 0) dX4_readSize_0 rfl trivial ?_
    refine g_invV_r (pc := 1) (As := []) dX4_readSize_1 rfl (q0) rfl rfl (shK (hS1 _) rfl) rfl rfl lk_X4_62 rfl (nb rfl) ⟨nb rfl, nb rfl⟩ rfl ?_
    refine g_aload_n (pc := 4) dX4_readSize_4 rfl trivial ?_
    refine g_ldcS (pc := 5) (kS := 0) dX4_readSize_5 rfl ?_
    refine g_invV_r (pc := 7) (As := [_]) dX4_readSize_7 rfl (w0) rfl rfl (shK (hS1 _) rfl) rfl rfl lk_X4_66 rfl (nb rfl) ⟨nb rfl, nb rfl⟩ rfl ?_
    refine g_if_ne (pc := 10) (tgt := 22) dX4_readSize_10 rfl (fun h10 => absurd h10 ((fun h => h rfl))) (fun _ => ?_)
    refine g_aload_n (pc := 13) dX4_readSize_13 rfl trivial ?_
    refine g_iconst (pc := 14) (v := 1) dX4_readSize_14 rfl ?_
    refine g_aload_n (pc := 15) dX4_readSize_15 rfl trivial ?_
    refine g_getf (pc := 16) (v := .int _) dX4_readSize_16 fk_X4_70 (shK (hS1 _) rfl) (fun _ => congrArg Value.int (hr3)) ?_
    refine g_invV_r (pc := 19) (As := [_, _]) dX4_readSize_19 rfl (r_fail hS) rfl rfl (shK (hS1 _) rfl) rfl rfl lk_X4_73 rfl (nb rfl) ⟨nb rfl, nb rfl⟩ rfl ?_
    refine g_aload_n (pc := 22) dX4_readSize_22 rfl trivial ?_
    refine g_aload_n (pc := 23) dX4_readSize_23 rfl trivial ?_
    refine g_iconst (pc := 24) (v := 1) dX4_readSize_24 rfl ?_
    refine g_bipush (pc := 25) (v := 32) dX4_readSize_25 rfl ?_
    refine g_invV_r (pc := 27) (As := [_, _]) dX4_readSize_27 rfl (tN _ hz0) rfl rfl (shK (hS1 _) rfl) rfl rfl lk_X4_77 rfl (nb rfl) ⟨nb rfl, nb rfl⟩ rfl ?_
    refine g_invV_r (pc := 30) (As := [_]) dX4_readSize_30 rfl (tE _ _) rfl rfl (shK (hS1 _) rfl) rfl rfl lk_X4_81 rfl (nb rfl) ⟨nb rfl, nb rfl⟩ rfl ?_
    refine g_return (pc := 33) dX4_readSize_33 rfl ?_
    exact ⟨rfl, rfl⟩
end
end
-- 196.reader
section
section
variable {l : Launch} {M : Mem} {s : RP} {len : Nat}
theorem rd_start : pI (pI (pI (pI M 1 2 0) 1 4 0) 1 5 0) 1 6 0 = rdM M (0, mI M 1 3, 0, 0, 0) := by
  refine mem_extI rfl rfl rfl rfl rfl rfl (fun i => ?_)
  by_cases i1 : i = 1
  · subst i1; funext j; simp only [rdM, rdF, sI, mI, pI, fun_set, if_true]
    by_cases j2 : j = 2
    · subst j2; rfl
    · by_cases j3 : j = 3
      · subst j3; rfl
      · by_cases j4 : j = 4
        · subst j4; rfl
        · by_cases j5 : j = 5
          · subst j5; rfl
          · by_cases j6 : j = 6
            · subst j6; rfl
            · simp [j2, j3, j4, j5, j6]
  · simp [rdM, sI, mI, pI, fun_set, i1]
/-- statements one after another, d at most -/
def rsL (len n : Nat) : Nat → Mem → RP → Mem × RP
  | 0, M, s => (M, s)
  | d + 1, M, s =>
    if (decide (s.2.2.2.1 = 0) && decide (skipP (mI M 2) len s.1 < len)) = true then
      (if (tsc (mI M 2) len (skp (mI M 2) len s)).2.2.2.1 = 0 then rsL len n d (rsR M len n (tsc (mI M 2) len (skp (mI M 2) len s))).1 (rsR M len n (tsc (mI M 2) len (skp (mI M 2) len s))).2
      else rsL len n d M (tsc (mI M 2) len (skp (mI M 2) len s)))
    else (M, skp (mI M 2) len s)
termination_by d => d
theorem tsc_le {T : Nat → Int32} (hp : s.1 ≤ len) : (tsc T len s).1 ≤ len := by
  unfold tsc
  split
  · rename_i h; exact h.1
  · rw [(rFail_1 _ _ _).1]; exact hp
theorem skp_le {T : Nat → Int32} (hp : s.1 ≤ len) : (skp T len s).1 ≤ len := (skipP_le hp).2
theorem rsL_ok {n : Nat} : ∀ (d : Nat) (M : Mem) (s : RP), Shp M → s.1 ≤ len → (Shp (rsL len n d M s).1 ∧ (∀ i, i < 17 ∨ 31 ≤ i → mI (rsL len n d M s).1 i = mI M i) ∧ mI (rsL len n d M s).1 17 1 = mI M 17 1) ∧ (rsL len n d M s).2.1 ≤ len
  | 0, M, s, hS, hp => by rw [rsL.eq_1]; exact ⟨⟨hS, fun i h => rfl, rfl⟩, hp⟩
  | d + 1, M, s, hS, hp => by
    rw [rsL.eq_2]
    have h1 := skp_le (T := mI M 2) hp
    have h2 := tsc_le (T := mI M 2) h1
    have h3 := rsR_ok (n := n) hS h2
    generalize tsc (mI M 2) len (skp (mI M 2) len s) = s2 at *
    generalize skp (mI M 2) len s = s1 at *
    generalize rsR M len n s2 = r at *
    split
    · split
      · obtain ⟨⟨a1, a2, a3⟩, a4⟩ := rsL_ok d r.1 r.2 h3.1.1 h3.2
        exact ⟨⟨a1, fun i h => (a2 i h).trans (h3.1.2.1 i h), a3.trans h3.1.2.2⟩, a4⟩
      · exact rsL_ok d M s2 hS h2
    · exact ⟨⟨hS, fun i h => rfl, rfl⟩, h1⟩
/-- what is made is noted -/
def anL (M : Mem) (x : Int32) : Nat → Mem
  | 0 => M
  | k + 1 => mxAnew (anL M x k) (19 + 2 * k) x
termination_by k => k
theorem anL_S (hS : Shp M) (x : Int32) : ∀ k, Shp (anL M x k)
  | 0 => by rw [anL]; exact hS
  | k + 1 => by rw [anL]; exact (anL_S hS x k).anew
theorem anL_ne {x : Int32} {i : Nat} (h : i < 19 ∨ 31 ≤ i) : ∀ k, k ≤ 6 → mI (anL M x k) i = mI M i
  | 0, _ => by rw [anL]
  | k + 1, hk => by rw [anL, mxAnew_ne (by omega), anL_ne h k (by omega)]
theorem mxLook_rd {m : Nat} {x : Int32} (h : 1 < m) : mxLook (rdM M s) m x = rdM (mxLook M m x) s := by
  unfold mxLook
  rw [rd_ne (by omega), rd_pI (by omega), rd_ne (by omega), rd_pI (by omega)]
  split <;> rfl
theorem mxAnew_rd {m : Nat} {x : Int32} (h : 1 < m) : mxAnew (rdM M s) m x = rdM (mxAnew M m x) s := by
  unfold mxAnew
  rw [rd_ne (by omega), mxLook_rd h, rd_ne (by omega), rd_pI (by omega)]
  split <;> rfl
theorem stEmptyL_ne {b i : Nat} : ∀ (k : Nat), k ≤ 6 → (i < b + 2 ∨ b + 14 ≤ i) → mI (stEmptyL M b k) i = mI M i
  | 0, _, _ => by rw [stEmptyL]
  | k + 1, h, h2 => by
    rw [stEmptyL]
    unfold mxEmpty
    rw [pI_i (by omega), pI_i (by omega), pI_i (by omega), pI_i (by omega), sI_ne (by omega)]
    exact stEmptyL_ne k (by omega) h2
theorem stEmpty_ne {b i : Nat} {n : Int32} (h : i < b ∨ b + 14 ≤ i) : mI (stEmpty M b n) i = mI M i := by
  unfold stEmpty; rw [pI_i (by omega), pI_i (by omega), pI_i (by omega), pI_i (by omega), stEmptyL_ne 6 (by omega) (by omega)]
theorem stEmpty_n {b : Nat} {n : Int32} : mI (stEmpty M b n) b 1 = n := by
  unfold stEmpty
  rw [pI_k (by decide), pI_k (by decide), pI_k (by decide), pI_self]
/-- the size read, as a number -/
def rzN (T : Nat → Int32) (len : Nat) (s : RP) : Nat := (rzV T len s).toNatClampNeg
theorem rzN_ok (T : Nat → Int32) (len : Nat) (s : RP) : rzV T len s = nI (rzN T len s) ∧ 1 ≤ rzN T len s ∧ rzN T len s ≤ 32 := by
  have h := tnv_in T len 1 32 (rzS0 T len s) (by decide)
  have hv : rzV T len s = tnv T len 1 32 (rzS0 T len s) := rfl
  rw [← hv] at h
  unfold rzN
  generalize rzV T len s = v at *
  obtain ⟨j, h3, h4⟩ := nI_of2 (x := v) (M := 32) (n := 32) (by decide) (fun q => h.1 (Int32.lt_trans q (by decide))) (Int32.not_lt.mp h.2)
  subst h4
  rw [nI_clamp (by omega)]
  refine ⟨rfl, Nat.pos_of_ne_zero fun q => ?_, h3⟩
  subst q
  exact h.1 (by decide)
def riN (M : Mem) (len : Nat) : Nat := rzN (mI M 2) len (0, mI M 1 3, 0, 0, 0)
def riR (M : Mem) (len : Nat) : Mem × RP := rsL len (riN M len) len (stEmpty M 17 (nI (riN M len))) (rzS (mI M 2) len (0, mI M 1 3, 0, 0, 0))
/-- a text read -/
def riM (M : Mem) (len : Nat) : Mem := pI (rdM (anL (riR M len).1 (nI (riN M len)) 6) (riR M len).2) 1 1 0
theorem r_readInto (hS : Shp M) (hl : mI M 1 1 = nI len) (hL : len ≤ 600) : EvR l jX4_readInto 8 220 0 0 [.ref 1, .ref 17] M (.inl none) (riM M len) := by
  have hS1 : ∀ s, Shp (rdM M s) := fun s => rd_S hS
  have z1 := r_readSize (l := l) (s := (0, mI M 1 3, 0, 0, 0)) hS hl hL (Nat.zero_le _)
  obtain ⟨n1, n2, n3⟩ := rzN_ok (mI M 2) len (0, mI M 1 3, 0, 0, 0)
  have z2 : (rzS (mI M 2) len (0, mI M 1 3, 0, 0, 0)).1 ≤ len := by unfold rzS; exact tnm_le (rzS0_le (Nat.zero_le _))
  rw [n1] at z1
  unfold riM riR
  have en : rzN (mI M 2) len (0, mI M 1 3, 0, 0, 0) = riN M len := rfl
  rw [en] at z1 n2 n3
  generalize riN M len = n at *
  have e1 : mI (stEmpty M 17 (nI n)) 1 1 = nI len := by rw [stEmpty_ne (by decide)]; exact hl
  have e17 : mI (stEmpty M 17 (nI n)) 17 1 = nI n := stEmpty_n
  have e2 : Shp (stEmpty M 17 (nI n)) := stEmpty_S hS 17 (nI n)
  generalize stEmpty M 17 (nI n) = M1 at *
  generalize rzS (mI M 2) len (0, mI M 1 3, 0, 0, 0) = s1 at *
  have hfin : ∀ (M2 : Mem) (s2 : RP), Shp M2 → mI M2 17 1 = nI n → Go l jX4_readInto 8 220 0 0 (fun r' M9 => r' = .inl none ∧ M9 = pI (rdM (anL M2 (nI n) 6) s2) 1 1 0) 64 [(0, .ref 1), (1, .ref 17)] [] 0 0 (rdM M2 s2) := by
    intro M2 s2 hS2 hz2
    refine g_iconst (pc := 64) (v := 0) dX4_readInto_64 rfl ?_
    refine g_istore_n (pc := 65) (lv' := [(0, _), (1, _), (2, _)]) dX4_readInto_65 (nl rfl) rfl ?_
    refine go_loop (pc := 66) 6 (fun i => [(0, .ref 1), (1, .ref 17), (2, .int (nI i))]) (fun i => rdM (anL M2 (nI n) i) s2) ⟨rfl, rfl, rfl, trivial⟩ (by rw [anL]) ?_ ?_
    · intro i hi ih
      have hS3 : Shp (rdM (anL M2 (nI n) i) s2) := rd_S (anL_S hS2 (nI n) i)
      have hz3 : mI (rdM (anL M2 (nI n) i) s2) 17 1 = nI n := (congrFun (rd_ne (by decide)) 1).trans ((congrFun (anL_ne (by decide) i (by omega)) 1).trans hz2)
      rw [anL.eq_2 M2 (nI n) i, ← mxAnew_rd (by omega)] at ih
      generalize rdM (anL M2 (nI n) i) s2 = M3 at *
      generalize pI (rdM (anL M2 (nI n) 6) s2) 1 1 0 = M9 at *
      obtain ⟨m1, m2, m3, m4⟩ := mx19 i hi
      refine g_iload_n (pc := 66) dX4_readInto_66 rfl ?_
      refine g_bipush (pc := 67) (v := 6) dX4_readInto_67 rfl ?_
      refine g_icmp_ge (pc := 69) (tgt := 91) dX4_readInto_69 rfl (fun h69 => absurd h69 (nI_ge (b := 6) hi (by omega))) (fun _ => ?_)
      refine g_aload_n (pc := 72) dX4_readInto_72 rfl trivial ?_
      refine g_getf (pc := 73) dX4_readInto_73 fk_X4_47 (shK hS3 rfl) (fv_arr (shR hS3 rfl)) ?_
      refine g_iload_n (pc := 76) dX4_readInto_76 rfl ?_
      refine g_aaload_Matrix (pc := 77) dX4_readInto_77 (shK hS3 rfl) rfl hi (by decide) (shR hS3 m2) ?_
      refine g_aload_n (pc := 78) dX4_readInto_78 rfl trivial ?_
      refine g_getf (pc := 79) (v := .int _) dX4_readInto_79 fk_X4_53 (shK hS3 rfl) (fun _ => congrArg Value.int (hz3)) ?_
      refine g_invV_r (pc := 82) (As := [_]) dX4_readInto_82 rfl (s_noteMadeAnew hS3 m1) rfl rfl (shK hS3 m1.1) rfl rfl lk_X4_56 rfl (nb rfl) ⟨nb rfl, nb rfl⟩ rfl ?_
      refine g_iinc (pc := 85) (lv' := [(0, _), (1, _), (2, _)]) dX4_readInto_85 rfl (nI_1 _) (nl rfl) rfl ?_
      refine g_goto (pc := 88) (tgt := 66) dX4_readInto_88 rfl ?_
      exact ih
    · have hS3 : Shp (rdM (anL M2 (nI n) 6) s2) := rd_S (anL_S hS2 (nI n) 6)
      generalize rdM (anL M2 (nI n) 6) s2 = M3 at *
      refine g_iload_n (pc := 66) dX4_readInto_66 rfl ?_
      refine g_bipush (pc := 67) (v := 6) dX4_readInto_67 rfl ?_
      refine g_icmp_ge (pc := 69) (tgt := 91) dX4_readInto_69 rfl (fun _ => ?_) (fun h69 => absurd (nI_le (Nat.le_refl 6) (by omega)) h69)
      refine g_aload_n (pc := 91) dX4_readInto_91 rfl trivial ?_
      refine g_iconst (pc := 92) (v := 0) dX4_readInto_92 rfl ?_
      refine g_putI (pc := 93) dX4_readInto_93 fp_X4_17 (shK hS3 rfl) ⟨rfl, rfl⟩ (fun _ _ _ _ => rfl) ?_
      refine g_return (pc := 96) dX4_readInto_96 rfl ?_
      exact ⟨rfl, rfl⟩
  refine ev_intro rfl (nb rfl) rfl ?_
  obtain ⟨S, hs⟩ : ∃ S, S = rsL len n len M1 s1 := ⟨_, rfl⟩
  rw [← hs]
  refine g_aload_n (pc := 0) dX4_readInto_0 rfl trivial ?_
  refine g_iconst (pc := 1) (v := 0) dX4_readInto_1 rfl ?_
  refine g_putI (pc := 2) dX4_readInto_2 fp_X4_21 (shK hS rfl) ⟨rfl, rfl⟩ (fun _ _ _ _ => rfl) ?_
  refine g_aload_n (pc := 5) dX4_readInto_5 rfl trivial ?_
  refine g_iconst (pc := 6) (v := 0) dX4_readInto_6 rfl ?_
  refine g_putI (pc := 7) dX4_readInto_7 fp_X4_24 (shK (shp_pI hS) rfl) ⟨rfl, rfl⟩ (fun _ _ _ _ => rfl) ?_
  refine g_aload_n (pc := 10) dX4_readInto_10 rfl trivial ?_
  refine g_iconst (pc := 11) (v := 0) dX4_readInto_11 rfl ?_
  refine g_putI (pc := 12) dX4_readInto_12 fp_X4_27 (shK (shp_pI (shp_pI hS)) rfl) ⟨rfl, rfl⟩ (fun _ _ _ _ => rfl) ?_
  refine g_aload_n (pc := 15) dX4_readInto_15 rfl trivial ?_
  refine g_iconst (pc := 16) (v := 0) dX4_readInto_16 rfl ?_
  refine g_putI (pc := 17) dX4_readInto_17 fp_X4_30 (shK (shp_pI (shp_pI (shp_pI hS))) rfl) ⟨rfl, rfl⟩ (fun _ _ _ _ => rfl) ?_
  refine go_cast rd_start ?_
  skip
  refine g_aload_n (pc := 20) dX4_readInto_20 rfl trivial ?_
  refine g_aload_n (pc := 21) dX4_readInto_21 rfl trivial ?_
  refine g_invV_r (pc := 22) (As := [_]) dX4_readInto_22 rfl (z1) rfl rfl (shK (hS1 _) rfl) rfl rfl lk_X4_33 rfl (nb rfl) ⟨nb rfl, nb rfl⟩ rfl ?_
  refine g_iconst (pc := 25) (v := 0) dX4_readInto_25 rfl ?_
  refine g_istore_n (pc := 26) (lv' := [(0, _), (1, _), (2, _)]) dX4_readInto_26 (nl rfl) rfl ?_
  refine go_while (pc := 27) (σ := Nat × Mem × RP) (fun q => q.1 ≤ len ∧ Shp q.2.1 ∧ mI q.2.1 1 1 = nI len ∧ mI q.2.1 17 1 = nI n ∧ q.2.2.1 ≤ len ∧ rsL len n (len - q.1) q.2.1 q.2.2 = S) (fun q => len - q.1) (fun q => [(0, .ref 1), (1, .ref 17), (2, .int (nI q.1))]) (fun q => rdM q.2.1 q.2.2) (0, M1, s1) ⟨rfl, rfl, rfl, trivial⟩ rfl ⟨Nat.zero_le _, e2, e1, e17, z2, hs.symm⟩ ?_
  rintro ⟨i, M2, s2⟩ ⟨h1, hS2, hl2, hz2, hp2, hq2⟩ ih
  simp only at h1 hS2 hl2 hz2 hp2 hq2 ih
  have hS3 : ∀ s, Shp (rdM M2 s) := fun s => rd_S hS2
  have hr1 : ∀ s, mI (rdM M2 s) 1 1 = nI len := fun s => rd_1.trans hl2
  by_cases hi : i < len
  · rw [show len - i = (len - (i + 1)) + 1 by omega, rsL.eq_2] at hq2
    have hp3 := skp_le (T := mI M2 2) hp2
    have hp4 := tsc_le (T := mI M2 2) hp3
    have qh := r_hasMore (l := l) hS2 hl2 hL hp2
    have qt := r_takeSemicolon (l := l) hS2 hl2 hL hp3
    have qs := r_readStatement (l := l) hS2 hl2 hL hp4 hz2 n2 n3
    have ok := rsR_ok (n := n) hS2 hp4
    have h5 : mI (rdM M2 (tsc (mI M2 2) len (skp (mI M2 2) len s2))) 1 5 = (tsc (mI M2 2) len (skp (mI M2 2) len s2)).2.2.2.1 := rd_5
    generalize (decide (s2.2.2.2.1 = 0) && decide (skipP (mI M2 2) len s2.1 < len)) = c at *
    generalize tsc (mI M2 2) len (skp (mI M2 2) len s2) = s4 at *
    generalize skp (mI M2 2) len s2 = s3 at *
    generalize rsR M2 len n s4 = r at *
    cases c with
    | false =>
      rw [if_neg (by decide)] at hq2
      rw [← hq2]
      refine g_iload_n (pc := 27) dX4_readInto_27 rfl ?_
      refine g_aload_n (pc := 28) dX4_readInto_28 rfl trivial ?_
      refine g_getf (pc := 29) (v := .int _) dX4_readInto_29 fk_X4_17 (shK (hS3 _) rfl) (fun _ => congrArg Value.int ((hr1 _))) ?_
      refine g_icmp_ge (pc := 32) (tgt := 64) dX4_readInto_32 rfl (fun h32 => absurd h32 (nI_ge hi (by omega))) (fun _ => ?_)
      refine g_aload_n (pc := 35) dX4_readInto_35 rfl trivial ?_
      refine g_invV_r (pc := 36) (As := []) dX4_readInto_36 rfl (qh) rfl rfl (shK (hS3 _) rfl) rfl rfl lk_X4_37 rfl (nb rfl) ⟨nb rfl, nb rfl⟩ rfl ?_
      refine g_if_eq (pc := 39) (tgt := 64) dX4_readInto_39 rfl (fun _ => ?_) (fun h39 => absurd (rfl) h39)
      exact g_sub (lv' := [(0, _), (1, _)]) ⟨rfl, rfl, trivial⟩ (hfin M2 s3 hS2 hz2)
    | true =>
      rw [if_pos rfl] at hq2
      refine g_iload_n (pc := 27) dX4_readInto_27 rfl ?_
      refine g_aload_n (pc := 28) dX4_readInto_28 rfl trivial ?_
      refine g_getf (pc := 29) (v := .int _) dX4_readInto_29 fk_X4_17 (shK (hS3 _) rfl) (fun _ => congrArg Value.int ((hr1 _))) ?_
      refine g_icmp_ge (pc := 32) (tgt := 64) dX4_readInto_32 rfl (fun h32 => absurd h32 (nI_ge hi (by omega))) (fun _ => ?_)
      refine g_aload_n (pc := 35) dX4_readInto_35 rfl trivial ?_
      refine g_invV_r (pc := 36) (As := []) dX4_readInto_36 rfl (qh) rfl rfl (shK (hS3 _) rfl) rfl rfl lk_X4_37 rfl (nb rfl) ⟨nb rfl, nb rfl⟩ rfl ?_
      refine g_if_eq (pc := 39) (tgt := 64) dX4_readInto_39 rfl (fun h39 => absurd h39 ((by decide))) (fun _ => ?_)
      refine g_aload_n (pc := 42) dX4_readInto_42 rfl trivial ?_
      refine g_invV_r (pc := 43) (As := []) dX4_readInto_43 rfl (qt) rfl rfl (shK (hS3 _) rfl) rfl rfl lk_X4_41 rfl (nb rfl) ⟨nb rfl, nb rfl⟩ rfl ?_
      refine g_aload_n (pc := 46) dX4_readInto_46 rfl trivial ?_
      refine g_getf (pc := 47) (v := .int _) dX4_readInto_47 fk_X4_27 (shK (hS3 _) rfl) (fun _ => congrArg Value.int (h5)) ?_
      refine g_if_ne (pc := 50) (tgt := 58) dX4_readInto_50 rfl (fun h50 => ?_) (fun h50 => ?_)
      · rw [if_neg h50] at hq2
        refine g_iinc (pc := 58) (lv' := [(0, _), (1, _), (2, _)]) dX4_readInto_58 rfl (nI_1 _) (nl rfl) rfl ?_
        refine g_goto (pc := 61) (tgt := 27) dX4_readInto_61 rfl ?_
        exact ih (i + 1, M2, s4) ⟨by simp only; omega, hS2, hl2, hz2, hp4, hq2⟩ (by simp only; omega)
      · rw [if_pos (Decidable.not_not.mp h50)] at hq2
        refine g_aload_n (pc := 53) dX4_readInto_53 rfl trivial ?_
        refine g_aload_n (pc := 54) dX4_readInto_54 rfl trivial ?_
        refine g_invV_r (pc := 55) (As := [_]) dX4_readInto_55 rfl (qs) rfl rfl (shK (hS3 _) rfl) rfl rfl lk_X4_44 rfl (nb rfl) ⟨nb rfl, nb rfl⟩ rfl ?_
        refine g_iinc (pc := 58) (lv' := [(0, _), (1, _), (2, _)]) dX4_readInto_58 rfl (nI_1 _) (nl rfl) rfl ?_
        refine g_goto (pc := 61) (tgt := 27) dX4_readInto_61 rfl ?_
        exact ih (i + 1, r.1, r.2) ⟨by simp only; omega, ok.1.1, (congrFun (ok.1.2.1 1 (by decide)) 1).trans hl2, ok.1.2.2.trans hz2, ok.2, hq2⟩ (by simp only; omega)
  · have hi' : i = len := by omega
    subst hi'
    rw [Nat.sub_self, rsL.eq_1] at hq2
    rw [← hq2]
    refine g_iload_n (pc := 27) dX4_readInto_27 rfl ?_
    refine g_aload_n (pc := 28) dX4_readInto_28 rfl trivial ?_
    refine g_getf (pc := 29) (v := .int _) dX4_readInto_29 fk_X4_17 (shK (hS3 _) rfl) (fun _ => congrArg Value.int ((hr1 _))) ?_
    refine g_icmp_ge (pc := 32) (tgt := 64) dX4_readInto_32 rfl (fun _ => ?_) (fun h32 => absurd (nI_le (Nat.le_refl _) (by omega)) h32)
    exact g_sub (lv' := [(0, _), (1, _)]) ⟨rfl, rfl, trivial⟩ (hfin M2 s2 hS2 hz2)
end
end
-- 197.append
section
section
variable {l : Launch} {M : Mem}
def shI : Nat → Int32
  | 0 => 56
  | k + 1 => shI k + Int32.ofInt (-8)
theorem sh_ge : ∀ i, i < 8 → ¬ shI i < 0 := by decide +kernel
theorem sh_8 : shI 8 < 0 := by decide +kernel
/-- byte k of a long, from the highest on -/
def btX (x : Int64) (k : Nat) : Int64 := (x.toUInt64 >>> ((shI k).toInt64.toUInt64 &&& Int64.toUInt64 63)).toInt64 &&& 255
def bI (x : Int64) (k : Nat) : Int32 := (btX x k).toInt32
def mrN (x : Int64) : Nat → Nat
  | 0 => 0
  | k + 1 => if lg_cmp (btX x k) 0 = 0 then mrN x k else mrN x k + 1
theorem mrN_le (x : Int64) : ∀ k, mrN x k ≤ k
  | 0 => Nat.le_refl _
  | k + 1 => by have := mrN_le x k; unfold mrN; split <;> omega
def apL (len : Nat) (T : Nat → Int32) (x : Int64) : Nat → Nat × (Nat → Int32)
  | 0 => (len, T)
  | k + 1 => if bI x k = 0 then apL len T x k else if (apL len T x k).1 < 600 then ((apL len T x k).1 + 1, fun_set (apL len T x k).2 (apL len T x k).1 (bI x k)) else apL len T x k
theorem apL_le {len : Nat} {T : Nat → Int32} {x : Int64} (h : len ≤ 600) : ∀ k, (apL len T x k).1 ≤ 600
  | 0 => h
  | k + 1 => by
    have := apL_le (T := T) (x := x) h k
    unfold apL
    split
    · exact this
    · split
      · rename_i q; exact q
      · exact this
def apQ (M : Mem) (q : Nat × (Nat → Int32)) : Mem := pI (sI M 2 q.2) 1 1 (nI q.1)
theorem apQ_S (hS : Shp M) (q : Nat × (Nat → Int32)) : Shp (apQ M q) := hS
theorem apQ_1 (q : Nat × (Nat → Int32)) : mI (apQ M q) 1 1 = nI q.1 := by simp [apQ, pI, sI, mI, fun_set]
theorem apQ_2 (q : Nat × (Nat → Int32)) : mI (apQ M q) 2 = q.2 := by simp [apQ, pI, sI, mI, fun_set]
theorem apQ_id {len : Nat} (h : mI M 1 1 = nI len) : M = apQ M (len, mI M 2) := by
  refine mem_extI rfl rfl rfl rfl rfl rfl (fun i => ?_)
  simp only [apQ, sI, mI, pI]
  by_cases i1 : i = 1
  · subst i1; funext j
    by_cases j1 : j = 1
    · subst j1; simp only [fun_set]; exact h
    · simp [fun_set, j1]
  · by_cases i2 : i = 2
    · subst i2; simp [fun_set]
    · simp [fun_set, i1, i2]
theorem apQ_st {q : Nat × (Nat → Int32)} {i : Nat} {x : Int32} (h : i = q.1) : pI (sI (apQ M q) 2 (fun_set (mI (apQ M q) 2) i x)) 1 1 (nI (q.1 + 1)) = apQ M (q.1 + 1, fun_set q.2 q.1 x) := by
  subst h
  rw [apQ_2]
  refine mem_extI rfl rfl rfl rfl rfl rfl (fun i => ?_)
  simp only [apQ, sI, mI, pI]
  by_cases i1 : i = 1
  · subst i1; funext j
    by_cases j1 : j = 1
    · subst j1; simp [fun_set]
    · simp [fun_set, j1]
  · by_cases i2 : i = 2
    · subst i2; simp [fun_set]
    · simp [fun_set, i1, i2]
/-- bytes put to the text -/
def apM (M : Mem) (len : Nat) (x : Int64) : Mem := if 600 < len + mrN x 8 then M else apQ M (apL len (mI M 2) x 8)
def apV (M : Mem) (len : Nat) (x : Int64) : Int32 := if 600 < len + mrN x 8 then -2 else nI (apL len (mI M 2) x 8).1
theorem r_addBytes {x : Int64} {len : Nat} (hS : Shp M) (hl : mI M 1 1 = nI len) (hL : len ≤ 600) : EvR l jX4_addBytes 0 0 0 0 [.ref 1, .long x] M (.inl (some (.int (apV M len x)))) (apM M len x) := by
  have hm := mrN_le x 8
  have hB : Go l jX4_addBytes 0 0 0 0 (fun r' M9 => r' = .inl (some (.int (nI (apL len (mI M 2) x 8).1))) ∧ M9 = apQ M (apL len (mI M 2) x 8)) 48 [(0, .ref 1), (1, .long x), (3, .int (nI (mrN x 8)))] [] 0 0 M := by
    refine g_bipush (pc := 48) (v := 56) dX4_addBytes_48 rfl ?_
    refine g_istore (pc := 50) (lv' := [(0, _), (1, _), (3, _), (4, _)]) dX4_addBytes_50 (nl rfl) rfl ?_
    refine go_loop (pc := 52) 8 (fun i => [(0, .ref 1), (1, .long x), (3, .int (nI (mrN x 8))), (4, .int (shI i))]) (fun i => apQ M (apL len (mI M 2) x i)) ⟨rfl, rfl, rfl, rfl, trivial⟩ (apQ_id hl) ?_ ?_
    · intro i hi ih
      have hle := apL_le (T := mI M 2) (x := x) hL i
      generalize apL len (mI M 2) x 8 = q9 at ih ⊢
      rw [apL] at ih
      generalize apL len (mI M 2) x i = q at *
      have h1 := apQ_1 (M := M) q
      have hS1 := apQ_S hS q
      have e2 := fun (j : Nat) (y : Int32) (h : j = q.1) => apQ_st (M := M) (q := q) (x := y) h
      have hq3 : ∀ f : Nat → Int32, mI (sI (apQ M q) 2 f) 1 1 = nI q.1 := fun f => (congrFun (sI_ne (by decide)) 1).trans h1
      have hS4 : ∀ f : Nat → Int32, Shp (sI (apQ M q) 2 f) := fun f => shp_sI hS1
      generalize hM1 : apQ M q = M1 at *
      refine g_iload (pc := 52) dX4_addBytes_52 rfl ?_
      refine g_if_lt (pc := 54) (tgt := 110) dX4_addBytes_54 rfl (fun h54 => absurd h54 (sh_ge i hi)) (fun _ => ?_)
      refine g_lload_n (pc := 57) dX4_addBytes_57 rfl ?_
      refine g_iload (pc := 58) dX4_addBytes_58 rfl ?_
      refine g_lushr (pc := 60) dX4_addBytes_60 rfl ?_
      refine g_ldc2 (pc := 61) dX4_addBytes_61 wd_343 ?_
      refine g_land (pc := 64) dX4_addBytes_64 ?_
      refine g_l2i (pc := 65) dX4_addBytes_65 rfl ?_
      refine g_istore (pc := 66) (lv' := [(0, _), (1, _), (3, _), (4, _), (5, _)]) dX4_addBytes_66 (nl rfl) rfl ?_
      refine g_iload (pc := 68) dX4_addBytes_68 rfl ?_
      refine g_if_eq (pc := 70) (tgt := 104) dX4_addBytes_70 rfl (fun h70 => ?_) (fun h70 => ?_)
      · rw [if_pos (show bI x i = 0 from h70), hM1] at ih
        refine g_iinc (pc := 104) (lv' := [(0, _), (1, _), (3, _), (4, _), (5, _)]) dX4_addBytes_104 rfl rfl (nl rfl) rfl ?_
        refine g_goto (pc := 107) (tgt := 52) dX4_addBytes_107 rfl ?_
        exact g_sub (lv' := [(0, _), (1, _), (3, _), (4, _)]) ⟨rfl, rfl, rfl, rfl, trivial⟩ ih
      · rw [if_neg (show ¬ bI x i = 0 from h70)] at ih
        refine g_aload_n (pc := 73) dX4_addBytes_73 rfl trivial ?_
        refine g_getf (pc := 74) (v := .int _) dX4_addBytes_74 fk_X4_17 (shK hS1 rfl) (fun _ => congrArg Value.int (h1)) ?_
        refine g_sipush (pc := 77) (v := 600) dX4_addBytes_77 rfl ?_
        refine g_icmp_ge (pc := 80) (tgt := 104) dX4_addBytes_80 rfl (fun h80 => ?_) (fun h80 => ?_)
        · rw [if_neg (fun h => nI_ge (b := 600) h (by decide) h80), hM1] at ih
          refine g_iinc (pc := 104) (lv' := [(0, _), (1, _), (3, _), (4, _), (5, _)]) dX4_addBytes_104 rfl rfl (nl rfl) rfl ?_
          refine g_goto (pc := 107) (tgt := 52) dX4_addBytes_107 rfl ?_
          exact g_sub (lv' := [(0, _), (1, _), (3, _), (4, _)]) ⟨rfl, rfl, rfl, rfl, trivial⟩ ih
        · have hlt : q.1 < 600 := Nat.lt_of_not_le fun h => h80 (nI_le (a := 600) h (by omega))
          rw [if_pos hlt] at ih
          refine g_aload_n (pc := 83) dX4_addBytes_83 rfl trivial ?_
          refine g_getf (pc := 84) dX4_addBytes_84 fk_X4_9 (shK hS1 rfl) (fv_arr (shR hS1 rfl)) ?_
          refine g_aload_n (pc := 87) dX4_addBytes_87 rfl trivial ?_
          refine g_getf (pc := 88) (v := .int _) dX4_addBytes_88 fk_X4_17 (shK hS1 rfl) (fun _ => congrArg Value.int (h1)) ?_
          refine g_iload (pc := 91) dX4_addBytes_91 rfl ?_
          refine g_iastore (pc := 93) dX4_addBytes_93 (shK hS1 rfl) rfl hlt (nl rfl) ?_
          refine g_aload_n (pc := 94) dX4_addBytes_94 rfl trivial ?_
          refine g_dup (pc := 95) dX4_addBytes_95 rfl ?_
          refine g_getf (pc := 96) (v := .int _) dX4_addBytes_96 fk_X4_17 (shK (hS4 _) rfl) (fun _ => congrArg Value.int ((hq3 _))) ?_
          refine g_iconst (pc := 99) (v := 1) dX4_addBytes_99 rfl ?_
          refine g_iadd (pc := 100) dX4_addBytes_100 ?_
          rw [nI_1]
          refine g_putI (pc := 101) dX4_addBytes_101 fp_X4_17 (shK (hS4 _) rfl) ⟨rfl, rfl⟩ (fun _ _ _ _ => rfl) ?_
          refine go_cast (e2 q.1 (bI x i) rfl) ?_
          refine g_iinc (pc := 104) (lv' := [(0, _), (1, _), (3, _), (4, _), (5, _)]) dX4_addBytes_104 rfl rfl (nl rfl) rfl ?_
          refine g_goto (pc := 107) (tgt := 52) dX4_addBytes_107 rfl ?_
          exact g_sub (lv' := [(0, _), (1, _), (3, _), (4, _)]) ⟨rfl, rfl, rfl, rfl, trivial⟩ ih
    · have h1 := apQ_1 (M := M) (apL len (mI M 2) x 8)
      have hS1 := apQ_S hS (apL len (mI M 2) x 8)
      generalize apQ M (apL len (mI M 2) x 8) = M1 at *
      refine g_iload (pc := 52) dX4_addBytes_52 rfl ?_
      refine g_if_lt (pc := 54) (tgt := 110) dX4_addBytes_54 rfl (fun _ => ?_) (fun h54 => absurd (sh_8) h54)
      refine g_aload_n (pc := 110) dX4_addBytes_110 rfl trivial ?_
      refine g_getf (pc := 111) (v := .int _) dX4_addBytes_111 fk_X4_17 (shK hS1 rfl) (fun _ => congrArg Value.int (h1)) ?_
      refine g_ireturn (pc := 114) dX4_addBytes_114 rfl rfl ?_
      exact ⟨rfl, rfl⟩
  refine ev_intro rfl (nb rfl) rfl ?_
  refine g_iconst (pc := 0) (v := 0) dX4_addBytes_0 rfl ?_
  refine g_istore_n (pc := 1) (lv' := [(0, _), (1, _), (3, _)]) dX4_addBytes_1 (nl rfl) rfl ?_
  refine g_bipush (pc := 2) (v := 56) dX4_addBytes_2 rfl ?_
  refine g_istore (pc := 4) (lv' := [(0, _), (1, _), (3, _), (4, _)]) dX4_addBytes_4 (nl rfl) rfl ?_
  refine go_loop (pc := 6) 8 (fun i => [(0, .ref 1), (1, .long x), (3, .int (nI (mrN x i))), (4, .int (shI i))]) (fun i => M) ⟨rfl, rfl, rfl, rfl, trivial⟩ rfl ?_ ?_
  · intro i hi ih
    rw [mrN] at ih
    refine g_iload (pc := 6) dX4_addBytes_6 rfl ?_
    refine g_if_lt (pc := 8) (tgt := 33) dX4_addBytes_8 rfl (fun h8 => absurd h8 (sh_ge i hi)) (fun _ => ?_)
    refine g_lload_n (pc := 11) dX4_addBytes_11 rfl ?_
    refine g_iload (pc := 12) dX4_addBytes_12 rfl ?_
    refine g_lushr (pc := 14) dX4_addBytes_14 rfl ?_
    refine g_ldc2 (pc := 15) dX4_addBytes_15 wd_343 ?_
    refine g_land (pc := 18) dX4_addBytes_18 ?_
    refine g_lconst (pc := 19) (v := 0) dX4_addBytes_19 rfl ?_
    refine g_lcmp (pc := 20) dX4_addBytes_20 ?_
    refine g_if_eq (pc := 21) (tgt := 27) dX4_addBytes_21 rfl (fun h21 => ?_) (fun h21 => ?_)
    · rw [if_pos (show lg_cmp (btX x i) 0 = 0 from h21)] at ih
      refine g_iinc (pc := 27) (lv' := [(0, _), (1, _), (3, _), (4, _)]) dX4_addBytes_27 rfl rfl (nl rfl) rfl ?_
      refine g_goto (pc := 30) (tgt := 6) dX4_addBytes_30 rfl ?_
      exact ih
    · rw [if_neg (show ¬ lg_cmp (btX x i) 0 = 0 from h21)] at ih
      refine g_iinc (pc := 24) (lv' := [(0, _), (1, _), (3, _), (4, _)]) dX4_addBytes_24 rfl (nI_1 _) (nl rfl) rfl ?_
      refine g_iinc (pc := 27) (lv' := [(0, _), (1, _), (3, _), (4, _)]) dX4_addBytes_27 rfl rfl (nl rfl) rfl ?_
      refine g_goto (pc := 30) (tgt := 6) dX4_addBytes_30 rfl ?_
      exact ih
  · unfold apV apM
    refine g_iload (pc := 6) dX4_addBytes_6 rfl ?_
    refine g_if_lt (pc := 8) (tgt := 33) dX4_addBytes_8 rfl (fun _ => ?_) (fun h8 => absurd (sh_8) h8)
    refine g_aload_n (pc := 33) dX4_addBytes_33 rfl trivial ?_
    refine g_getf (pc := 34) (v := .int _) dX4_addBytes_34 fk_X4_17 (shK hS rfl) (fun _ => congrArg Value.int (hl)) ?_
    refine g_iload_n (pc := 37) dX4_addBytes_37 rfl ?_
    refine g_iadd (pc := 38) dX4_addBytes_38 ?_
    rw [nI_add]
    refine g_sipush (pc := 39) (v := 600) dX4_addBytes_39 rfl ?_
    refine g_icmp_le (pc := 42) (tgt := 48) dX4_addBytes_42 rfl (fun h42 => ?_) (fun h42 => ?_)
    · rw [if_neg (fun h => by have := (nI_leI (a := len + mrN x 8) (b := 600) (by omega) (by decide)).mp h42; omega), if_neg (fun h => by have := (nI_leI (a := len + mrN x 8) (b := 600) (by omega) (by decide)).mp h42; omega)]
      exact g_sub (lv' := [(0, _), (1, _), (3, _)]) ⟨rfl, rfl, rfl, trivial⟩ hB
    · rw [if_pos (Nat.lt_of_not_le fun h => h42 (nI_le (b := 600) h (by decide))), if_pos (Nat.lt_of_not_le fun h => h42 (nI_le (b := 600) h (by decide)))]
      refine g_bipush (pc := 45) (v := (-2)) dX4_addBytes_45 rfl ?_
      refine g_ireturn (pc := 47) dX4_addBytes_47 rfl rfl ?_
      exact ⟨rfl, rfl⟩
end
end
-- 20.query
section
/-! queries on rows: with arguments as asked, and without -/
section
variable {l : Launch} {M : Mem}
theorem in6 {s : Nat} (h : s < 6) : inR (nI s) 6 := inR_nI h (by decide)
theorem q_bit {s r c n : Nat} (hS : Shp M) (hz : mI M 3 1 = nI n) (hn : n ≤ 32) (hs : s < 6) (hr : r < n) (hc : c < n) : EvR l jX6_bit 9 160 3 18 [.ref 0, .int (nI s), .int (nI r), .int (nI c)] M (.inl (some (.int (b1 (hb (mI M (6 + 2 * s) r) c))))) M := by
  refine ev_intro rfl (nb rfl) rfl ?_
  refine g_aload_n (pc := 0) dX6_bit_0 rfl trivial ?_
  refine g_iload_n (pc := 1) dX6_bit_1 rfl ?_
  refine g_iload_n (pc := 2) dX6_bit_2 rfl ?_
  refine g_iload_n (pc := 3) dX6_bit_3 rfl ?_
  refine g_invV_r (pc := 4) (As := [_, _, _]) dX6_bit_4 rfl (s_needCell hS hz (in6 hs) (inR_nI hr (by omega)) (inR_nI hc (by omega))) rfl rfl (shK hS rfl) rfl rfl lk_X6_109 rfl (nb rfl) ⟨nb rfl, nb rfl⟩ rfl ?_
  refine g_aload_n (pc := 7) dX6_bit_7 rfl trivial ?_
  refine g_iload_n (pc := 8) dX6_bit_8 rfl ?_
  refine g_invV_r (pc := 9) (As := [_]) dX6_bit_9 rfl (s_rowsOf hS hs) rfl rfl (shK hS rfl) rfl rfl lk_X6_112 rfl (nb rfl) ⟨nb rfl, nb rfl⟩ rfl ?_
  refine g_iload_n (pc := 12) dX6_bit_12 rfl ?_
  refine g_iaload (pc := 13) dX6_bit_13 (shK hS (rows_lay hs)) rfl (by omega) (nl rfl) ?_
  refine g_iload_n (pc := 14) dX6_bit_14 rfl ?_
  refine g_invS_r (pc := 15) (As := [_, _]) dX6_bit_15 rfl (s_hasOne (by omega)) rfl rfl lk_X6_116 rfl (nb rfl) ⟨nb rfl, nb rfl⟩ rfl ?_
  refine g_if_eq (pc := 18) (tgt := 25) dX6_bit_18 rfl (fun h18 => ?_) (fun h18 => ?_)
  · rw [b1_0] at h18
    refine g_iconst (pc := 25) (v := 0) dX6_bit_25 rfl ?_
    refine g_ireturn (pc := 26) dX6_bit_26 rfl rfl ?_
    exact ⟨by rw [h18]; rfl, rfl⟩
  · rw [b1_0, Bool.not_eq_false] at h18
    refine g_iconst (pc := 21) (v := 1) dX6_bit_21 rfl ?_
    refine g_goto (pc := 22) (tgt := 26) dX6_bit_22 rfl ?_
    refine g_ireturn (pc := 26) dX6_bit_26 rfl rfl ?_
    exact ⟨by rw [h18]; rfl, rfl⟩
theorem x_bit {v w u : Int32} {n : Nat} (hS : Shp M) (hz : mI M 3 1 = nI n) (h : ¬ (inR v 6 ∧ inR w n ∧ inR u n)) : EvR l jX6_bit 9 160 3 18 [.ref 0, .int v, .int w, .int u] M (.inr xIO) M := by
  refine ev_intro rfl (nb rfl) rfl ?_
  refine g_aload_n (pc := 0) dX6_bit_0 rfl trivial ?_
  refine g_iload_n (pc := 1) dX6_bit_1 rfl ?_
  refine g_iload_n (pc := 2) dX6_bit_2 rfl ?_
  refine g_iload_n (pc := 3) dX6_bit_3 rfl ?_
  refine g_invV_x (pc := 4) (As := [_, _, _]) dX6_bit_4 rfl (x_needCell hS hz h) rfl rfl (shK hS rfl) rfl rfl lk_X6_109 rfl (nb rfl) ⟨nb rfl, nb rfl⟩ rfl ?_
  exact ⟨rfl, rfl⟩
theorem q_row {s r n : Nat} (hS : Shp M) (hz : mI M 3 1 = nI n) (hn : n ≤ 32) (hs : s < 6) (hr : r < n) : EvR l jX6_row 8 140 2 12 [.ref 0, .int (nI s), .int (nI r)] M (.inl (some (.long ((mI M (6 + 2 * s) r).toInt64 &&& 4294967295)))) M := by
  refine ev_intro rfl (nb rfl) rfl ?_
  refine g_aload_n (pc := 0) dX6_row_0 rfl trivial ?_
  refine g_iload_n (pc := 1) dX6_row_1 rfl ?_
  refine g_iload_n (pc := 2) dX6_row_2 rfl ?_
  refine g_invV_r (pc := 3) (As := [_, _]) dX6_row_3 rfl (s_needRow hS hz (in6 hs) (inR_nI hr (by omega))) rfl rfl (shK hS rfl) rfl rfl lk_X6_120 rfl (nb rfl) ⟨nb rfl, nb rfl⟩ rfl ?_
  refine g_aload_n (pc := 6) dX6_row_6 rfl trivial ?_
  refine g_iload_n (pc := 7) dX6_row_7 rfl ?_
  refine g_invV_r (pc := 8) (As := [_]) dX6_row_8 rfl (s_rowsOf hS hs) rfl rfl (shK hS rfl) rfl rfl lk_X6_112 rfl (nb rfl) ⟨nb rfl, nb rfl⟩ rfl ?_
  refine g_iload_n (pc := 11) dX6_row_11 rfl ?_
  refine g_iaload (pc := 12) dX6_row_12 (shK hS (rows_lay hs)) rfl (by omega) (nl rfl) ?_
  refine g_invS_r (pc := 13) (As := [_]) dX6_row_13 rfl (s_unsigned) rfl rfl lk_X6_124 rfl (nb rfl) ⟨nb rfl, nb rfl⟩ rfl ?_
  refine g_lreturn (pc := 16) dX6_row_16 rfl ?_
  exact ⟨rfl, rfl⟩
theorem x_row {v w : Int32} {n : Nat} (hS : Shp M) (hz : mI M 3 1 = nI n) (h : ¬ (inR v 6 ∧ inR w n)) : EvR l jX6_row 8 140 2 12 [.ref 0, .int v, .int w] M (.inr xIO) M := by
  refine ev_intro rfl (nb rfl) rfl ?_
  refine g_aload_n (pc := 0) dX6_row_0 rfl trivial ?_
  refine g_iload_n (pc := 1) dX6_row_1 rfl ?_
  refine g_iload_n (pc := 2) dX6_row_2 rfl ?_
  refine g_invV_x (pc := 3) (As := [_, _]) dX6_row_3 rfl (x_needRow hS hz h) rfl rfl (shK hS rfl) rfl rfl lk_X6_120 rfl (nb rfl) ⟨nb rfl, nb rfl⟩ rfl ?_
  exact ⟨rfl, rfl⟩
theorem q_rank {s r c n : Nat} (hS : Shp M) (hz : mI M 3 1 = nI n) (hn : n ≤ 32) (hs : s < 6) (hr : r < n) (hc : c ≤ n) : EvR l jX6_rank 8 140 3 18 [.ref 0, .int (nI s), .int (nI r), .int (nI c)] M (.inl (some (.int (bcJ (mI M (6 + 2 * s) r &&& lowM c))))) M := by
  refine ev_intro rfl (nb rfl) rfl ?_
  refine g_aload_n (pc := 0) dX6_rank_0 rfl trivial ?_
  refine g_iload_n (pc := 1) dX6_rank_1 rfl ?_
  refine g_iload_n (pc := 2) dX6_rank_2 rfl ?_
  refine g_invV_r (pc := 3) (As := [_, _]) dX6_rank_3 rfl (s_needRow hS hz (in6 hs) (inR_nI hr (by omega))) rfl rfl (shK hS rfl) rfl rfl lk_X6_120 rfl (nb rfl) ⟨nb rfl, nb rfl⟩ rfl ?_
  refine g_aload_n (pc := 6) dX6_rank_6 rfl trivial ?_
  refine g_iload_n (pc := 7) dX6_rank_7 rfl ?_
  refine g_iconst (pc := 8) (v := 0) dX6_rank_8 rfl ?_
  refine g_aload_n (pc := 9) dX6_rank_9 rfl trivial ?_
  refine g_getf (pc := 10) dX6_rank_10 fk_X6_19 (shK hS rfl) (fv_obj (shR hS rfl)) ?_
  refine g_getf (pc := 13) (v := .int _) dX6_rank_13 fk_X6_89 (shK hS rfl) (fun _ => congrArg Value.int (hz)) ?_
  refine g_invV_r (pc := 16) (As := [_, _, _]) dX6_rank_16 rfl (s_needRange (nI_pos (by omega)) (nI_le hc (by omega))) rfl rfl (shK hS rfl) rfl rfl lk_X6_95 rfl (nb rfl) ⟨nb rfl, nb rfl⟩ rfl ?_
  refine g_aload_n (pc := 19) dX6_rank_19 rfl trivial ?_
  refine g_iload_n (pc := 20) dX6_rank_20 rfl ?_
  refine g_invV_r (pc := 21) (As := [_]) dX6_rank_21 rfl (s_rowsOf hS hs) rfl rfl (shK hS rfl) rfl rfl lk_X6_112 rfl (nb rfl) ⟨nb rfl, nb rfl⟩ rfl ?_
  refine g_iload_n (pc := 24) dX6_rank_24 rfl ?_
  refine g_iaload (pc := 25) dX6_rank_25 (shK hS (rows_lay hs)) rfl (by omega) (nl rfl) ?_
  refine g_iload_n (pc := 26) dX6_rank_26 rfl ?_
  refine g_invS_r (pc := 27) (As := [_]) dX6_rank_27 rfl (s_lowest (show c ≤ 32 by omega)) rfl rfl lk_X6_128 rfl (nb rfl) ⟨nb rfl, nb rfl⟩ rfl ?_
  refine g_iand (pc := 30) dX6_rank_30 ?_
  refine g_invS_r (pc := 31) (As := [_]) dX6_rank_31 rfl (s_bitCount) rfl rfl lk_X6_132 rfl (nb rfl) ⟨nb rfl, nb rfl⟩ rfl ?_
  refine g_ireturn (pc := 34) dX6_rank_34 rfl rfl ?_
  exact ⟨rfl, rfl⟩
theorem x_rank {v w u : Int32} {n : Nat} (hS : Shp M) (hz : mI M 3 1 = nI n) (h : ¬ (inR v 6 ∧ inR w n)) : EvR l jX6_rank 8 140 3 18 [.ref 0, .int v, .int w, .int u] M (.inr xIO) M := by
  refine ev_intro rfl (nb rfl) rfl ?_
  refine g_aload_n (pc := 0) dX6_rank_0 rfl trivial ?_
  refine g_iload_n (pc := 1) dX6_rank_1 rfl ?_
  refine g_iload_n (pc := 2) dX6_rank_2 rfl ?_
  refine g_invV_x (pc := 3) (As := [_, _]) dX6_rank_3 rfl (x_needRow hS hz h) rfl rfl (shK hS rfl) rfl rfl lk_X6_120 rfl (nb rfl) ⟨nb rfl, nb rfl⟩ rfl ?_
  exact ⟨rfl, rfl⟩
theorem y_rank {v w u : Int32} {n : Nat} (hS : Shp M) (hz : mI M 3 1 = nI n) (h : inR v 6) (h' : inR w n) (h2 : ¬ (¬ u < 0 ∧ u ≤ nI n)) : EvR l jX6_rank 8 140 3 18 [.ref 0, .int v, .int w, .int u] M (.inr xIA) M := by
  refine ev_intro rfl (nb rfl) rfl ?_
  refine g_aload_n (pc := 0) dX6_rank_0 rfl trivial ?_
  refine g_iload_n (pc := 1) dX6_rank_1 rfl ?_
  refine g_iload_n (pc := 2) dX6_rank_2 rfl ?_
  refine g_invV_r (pc := 3) (As := [_, _]) dX6_rank_3 rfl (s_needRow hS hz h h') rfl rfl (shK hS rfl) rfl rfl lk_X6_120 rfl (nb rfl) ⟨nb rfl, nb rfl⟩ rfl ?_
  refine g_aload_n (pc := 6) dX6_rank_6 rfl trivial ?_
  refine g_iload_n (pc := 7) dX6_rank_7 rfl ?_
  refine g_iconst (pc := 8) (v := 0) dX6_rank_8 rfl ?_
  refine g_aload_n (pc := 9) dX6_rank_9 rfl trivial ?_
  refine g_getf (pc := 10) dX6_rank_10 fk_X6_19 (shK hS rfl) (fv_obj (shR hS rfl)) ?_
  refine g_getf (pc := 13) (v := .int _) dX6_rank_13 fk_X6_89 (shK hS rfl) (fun _ => congrArg Value.int (hz)) ?_
  refine g_invV_x (pc := 16) (As := [_, _, _]) dX6_rank_16 rfl (x_needRange hS h2) rfl rfl (shK hS rfl) rfl rfl lk_X6_95 rfl (nb rfl) ⟨nb rfl, nb rfl⟩ rfl ?_
  exact ⟨rfl, rfl⟩
theorem q_select {s r n : Nat} {x : Int32} (hS : Shp M) (hz : mI M 3 1 = nI n) (hn : n ≤ 32) (hs : s < 6) (hr : r < n) : EvR l jX6_select 8 140 2 12 [.ref 0, .int (nI s), .int (nI r), .int x] M (.inl (some (.int (selG (mI M (6 + 2 * s) r) x 32 0 0)))) M := by
  refine ev_intro rfl (nb rfl) rfl ?_
  refine g_aload_n (pc := 0) dX6_select_0 rfl trivial ?_
  refine g_iload_n (pc := 1) dX6_select_1 rfl ?_
  refine g_iload_n (pc := 2) dX6_select_2 rfl ?_
  refine g_invV_r (pc := 3) (As := [_, _]) dX6_select_3 rfl (s_needRow hS hz (in6 hs) (inR_nI hr (by omega))) rfl rfl (shK hS rfl) rfl rfl lk_X6_120 rfl (nb rfl) ⟨nb rfl, nb rfl⟩ rfl ?_
  refine g_aload_n (pc := 6) dX6_select_6 rfl trivial ?_
  refine g_iload_n (pc := 7) dX6_select_7 rfl ?_
  refine g_invV_r (pc := 8) (As := [_]) dX6_select_8 rfl (s_rowsOf hS hs) rfl rfl (shK hS rfl) rfl rfl lk_X6_112 rfl (nb rfl) ⟨nb rfl, nb rfl⟩ rfl ?_
  refine g_iload_n (pc := 11) dX6_select_11 rfl ?_
  refine g_iaload (pc := 12) dX6_select_12 (shK hS (rows_lay hs)) rfl (by omega) (nl rfl) ?_
  refine g_iload_n (pc := 13) dX6_select_13 rfl ?_
  refine g_invS_r (pc := 14) (As := [_, _]) dX6_select_14 rfl (s_oneAt) rfl rfl lk_X6_137 rfl (nb rfl) ⟨nb rfl, nb rfl⟩ rfl ?_
  refine g_ireturn (pc := 17) dX6_select_17 rfl rfl ?_
  exact ⟨rfl, rfl⟩
theorem x_select {v w x : Int32} {n : Nat} (hS : Shp M) (hz : mI M 3 1 = nI n) (h : ¬ (inR v 6 ∧ inR w n)) : EvR l jX6_select 8 140 2 12 [.ref 0, .int v, .int w, .int x] M (.inr xIO) M := by
  refine ev_intro rfl (nb rfl) rfl ?_
  refine g_aload_n (pc := 0) dX6_select_0 rfl trivial ?_
  refine g_iload_n (pc := 1) dX6_select_1 rfl ?_
  refine g_iload_n (pc := 2) dX6_select_2 rfl ?_
  refine g_invV_x (pc := 3) (As := [_, _]) dX6_select_3 rfl (x_needRow hS hz h) rfl rfl (shK hS rfl) rfl rfl lk_X6_120 rfl (nb rfl) ⟨nb rfl, nb rfl⟩ rfl ?_
  exact ⟨rfl, rfl⟩
theorem q_ones {s n : Nat} (hS : Shp M) (hz : mI M 3 1 = nI n) (hn : n ≤ 32) (hs : s < 6) : EvR l jX6_ones 7 120 1 6 [.ref 0, .int (nI s)] M (.inl (some (.int (onesF (mI M (6 + 2 * s)) n)))) M := by
  refine ev_intro rfl (nb rfl) rfl ?_
  refine g_aload_n (pc := 0) dX6_ones_0 rfl trivial ?_
  refine g_iload_n (pc := 1) dX6_ones_1 rfl ?_
  refine g_invV_r (pc := 2) (As := [_]) dX6_ones_2 rfl (s_needSlot (in6 hs)) rfl rfl (shK hS rfl) rfl rfl lk_X6_141 rfl (nb rfl) ⟨nb rfl, nb rfl⟩ rfl ?_
  refine g_aload_n (pc := 5) dX6_ones_5 rfl trivial ?_
  refine g_iload_n (pc := 6) dX6_ones_6 rfl ?_
  refine g_invV_r (pc := 7) (As := [_]) dX6_ones_7 rfl (s_rowsOf hS hs) rfl rfl (shK hS rfl) rfl rfl lk_X6_112 rfl (nb rfl) ⟨nb rfl, nb rfl⟩ rfl ?_
  refine g_aload_n (pc := 10) dX6_ones_10 rfl trivial ?_
  refine g_getf (pc := 11) dX6_ones_11 fk_X6_19 (shK hS rfl) (fv_obj (shR hS rfl)) ?_
  refine g_getf (pc := 14) (v := .int _) dX6_ones_14 fk_X6_89 (shK hS rfl) (fun _ => congrArg Value.int (hz)) ?_
  refine g_invS_r (pc := 17) (As := [_, _]) dX6_ones_17 rfl (s_onesOf (shK hS (rows_lay hs)) hn) rfl rfl lk_X6_145 rfl (nb rfl) ⟨nb rfl, nb rfl⟩ rfl ?_
  refine g_ireturn (pc := 20) dX6_ones_20 rfl rfl ?_
  exact ⟨rfl, rfl⟩
theorem x_ones {v : Int32} (hS : Shp M) (h : ¬ inR v 6) : EvR l jX6_ones 7 120 1 6 [.ref 0, .int v] M (.inr xIO) M := by
  refine ev_intro rfl (nb rfl) rfl ?_
  refine g_aload_n (pc := 0) dX6_ones_0 rfl trivial ?_
  refine g_iload_n (pc := 1) dX6_ones_1 rfl ?_
  refine g_invV_x (pc := 2) (As := [_]) dX6_ones_2 rfl (x_needSlot hS h) rfl rfl (shK hS rfl) rfl rfl lk_X6_141 rfl (nb rfl) ⟨nb rfl, nb rfl⟩ rfl ?_
  exact ⟨rfl, rfl⟩
theorem q_columnOnes {s c n : Nat} (hS : Shp M) (hz : mI M 3 1 = nI n) (hn : n ≤ 32) (hs : s < 6) (hc : c < n) : EvR l jX6_columnOnes 8 140 2 12 [.ref 0, .int (nI s), .int (nI c)] M (.inl (some (.int (bcJ (colOf (mI M (6 + 2 * s)) c n))))) M := by
  refine ev_intro rfl (nb rfl) rfl ?_
  refine g_aload_n (pc := 0) dX6_columnOnes_0 rfl trivial ?_
  refine g_iload_n (pc := 1) dX6_columnOnes_1 rfl ?_
  refine g_iload_n (pc := 2) dX6_columnOnes_2 rfl ?_
  refine g_invV_r (pc := 3) (As := [_, _]) dX6_columnOnes_3 rfl (s_needRow hS hz (in6 hs) (inR_nI hc (by omega))) rfl rfl (shK hS rfl) rfl rfl lk_X6_120 rfl (nb rfl) ⟨nb rfl, nb rfl⟩ rfl ?_
  refine g_aload_n (pc := 6) dX6_columnOnes_6 rfl trivial ?_
  refine g_iload_n (pc := 7) dX6_columnOnes_7 rfl ?_
  refine g_invV_r (pc := 8) (As := [_]) dX6_columnOnes_8 rfl (s_rowsOf hS hs) rfl rfl (shK hS rfl) rfl rfl lk_X6_112 rfl (nb rfl) ⟨nb rfl, nb rfl⟩ rfl ?_
  refine g_iload_n (pc := 11) dX6_columnOnes_11 rfl ?_
  refine g_aload_n (pc := 12) dX6_columnOnes_12 rfl trivial ?_
  refine g_getf (pc := 13) dX6_columnOnes_13 fk_X6_19 (shK hS rfl) (fv_obj (shR hS rfl)) ?_
  refine g_getf (pc := 16) (v := .int _) dX6_columnOnes_16 fk_X6_89 (shK hS rfl) (fun _ => congrArg Value.int (hz)) ?_
  refine g_invS_r (pc := 19) (As := [_, _, _]) dX6_columnOnes_19 rfl (s_columnOf (shK hS (rows_lay hs)) (show c < 32 by omega) hn) rfl rfl lk_X6_149 rfl (nb rfl) ⟨nb rfl, nb rfl⟩ rfl ?_
  refine g_invS_r (pc := 22) (As := [_]) dX6_columnOnes_22 rfl (s_bitCount) rfl rfl lk_X6_132 rfl (nb rfl) ⟨nb rfl, nb rfl⟩ rfl ?_
  refine g_ireturn (pc := 25) dX6_columnOnes_25 rfl rfl ?_
  exact ⟨rfl, rfl⟩
theorem x_columnOnes {v w : Int32} {n : Nat} (hS : Shp M) (hz : mI M 3 1 = nI n) (h : ¬ (inR v 6 ∧ inR w n)) : EvR l jX6_columnOnes 8 140 2 12 [.ref 0, .int v, .int w] M (.inr xIO) M := by
  refine ev_intro rfl (nb rfl) rfl ?_
  refine g_aload_n (pc := 0) dX6_columnOnes_0 rfl trivial ?_
  refine g_iload_n (pc := 1) dX6_columnOnes_1 rfl ?_
  refine g_iload_n (pc := 2) dX6_columnOnes_2 rfl ?_
  refine g_invV_x (pc := 3) (As := [_, _]) dX6_columnOnes_3 rfl (x_needRow hS hz h) rfl rfl (shK hS rfl) rfl rfl lk_X6_120 rfl (nb rfl) ⟨nb rfl, nb rfl⟩ rfl ?_
  exact ⟨rfl, rfl⟩
theorem q_sameAs {s r n : Nat} (hS : Shp M) (hz : mI M 3 1 = nI n) (hn : n ≤ 32) (hs : s < 6) (hr : r < n) : EvR l jX6_sameAs 8 140 2 12 [.ref 0, .int (nI s), .int (nI r)] M (.inl (some (.int (firstEq (mI M (6 + 2 * s)) (mI M (6 + 2 * s) r) n 0)))) M := by
  refine ev_intro rfl (nb rfl) rfl ?_
  refine g_aload_n (pc := 0) dX6_sameAs_0 rfl trivial ?_
  refine g_iload_n (pc := 1) dX6_sameAs_1 rfl ?_
  refine g_iload_n (pc := 2) dX6_sameAs_2 rfl ?_
  refine g_invV_r (pc := 3) (As := [_, _]) dX6_sameAs_3 rfl (s_needRow hS hz (in6 hs) (inR_nI hr (by omega))) rfl rfl (shK hS rfl) rfl rfl lk_X6_120 rfl (nb rfl) ⟨nb rfl, nb rfl⟩ rfl ?_
  refine g_aload_n (pc := 6) dX6_sameAs_6 rfl trivial ?_
  refine g_aload_n (pc := 7) dX6_sameAs_7 rfl trivial ?_
  refine g_iload_n (pc := 8) dX6_sameAs_8 rfl ?_
  refine g_invV_r (pc := 9) (As := [_]) dX6_sameAs_9 rfl (s_rowsOf hS hs) rfl rfl (shK hS rfl) rfl rfl lk_X6_112 rfl (nb rfl) ⟨nb rfl, nb rfl⟩ rfl ?_
  refine g_aload_n (pc := 12) dX6_sameAs_12 rfl trivial ?_
  refine g_iload_n (pc := 13) dX6_sameAs_13 rfl ?_
  refine g_invV_r (pc := 14) (As := [_]) dX6_sameAs_14 rfl (s_rowsOf hS hs) rfl rfl (shK hS rfl) rfl rfl lk_X6_112 rfl (nb rfl) ⟨nb rfl, nb rfl⟩ rfl ?_
  refine g_iload_n (pc := 17) dX6_sameAs_17 rfl ?_
  refine g_iaload (pc := 18) dX6_sameAs_18 (shK hS (rows_lay hs)) rfl (by omega) (nl rfl) ?_
  refine g_invV_r (pc := 19) (As := [_, _]) dX6_sameAs_19 rfl (s_firstEqual hS (shK hS (rows_lay hs)) hz hn) rfl rfl (shK hS rfl) rfl rfl lk_X6_153 rfl (nb rfl) ⟨nb rfl, nb rfl⟩ rfl ?_
  refine g_ireturn (pc := 22) dX6_sameAs_22 rfl rfl ?_
  exact ⟨rfl, rfl⟩
theorem x_sameAs {v w : Int32} {n : Nat} (hS : Shp M) (hz : mI M 3 1 = nI n) (h : ¬ (inR v 6 ∧ inR w n)) : EvR l jX6_sameAs 8 140 2 12 [.ref 0, .int v, .int w] M (.inr xIO) M := by
  refine ev_intro rfl (nb rfl) rfl ?_
  refine g_aload_n (pc := 0) dX6_sameAs_0 rfl trivial ?_
  refine g_iload_n (pc := 1) dX6_sameAs_1 rfl ?_
  refine g_iload_n (pc := 2) dX6_sameAs_2 rfl ?_
  refine g_invV_x (pc := 3) (As := [_, _]) dX6_sameAs_3 rfl (x_needRow hS hz h) rfl rfl (shK hS rfl) rfl rfl lk_X6_120 rfl (nb rfl) ⟨nb rfl, nb rfl⟩ rfl ?_
  exact ⟨rfl, rfl⟩
theorem q_classes {s n : Nat} (hS : Shp M) (hz : mI M 3 1 = nI n) (hn : n ≤ 32) (hs : s < 6) : EvR l jX6_classes 7 120 1 6 [.ref 0, .int (nI s)] M (.inl (some (.int (frN (mI M (6 + 2 * s)) n n)))) M := by
  refine ev_intro rfl (nb rfl) rfl ?_
  refine g_aload_n (pc := 0) dX6_classes_0 rfl trivial ?_
  refine g_iload_n (pc := 1) dX6_classes_1 rfl ?_
  refine g_invV_r (pc := 2) (As := [_]) dX6_classes_2 rfl (s_needSlot (in6 hs)) rfl rfl (shK hS rfl) rfl rfl lk_X6_141 rfl (nb rfl) ⟨nb rfl, nb rfl⟩ rfl ?_
  refine g_aload_n (pc := 5) dX6_classes_5 rfl trivial ?_
  refine g_aload_n (pc := 6) dX6_classes_6 rfl trivial ?_
  refine g_iload_n (pc := 7) dX6_classes_7 rfl ?_
  refine g_invV_r (pc := 8) (As := [_]) dX6_classes_8 rfl (s_rowsOf hS hs) rfl rfl (shK hS rfl) rfl rfl lk_X6_112 rfl (nb rfl) ⟨nb rfl, nb rfl⟩ rfl ?_
  refine g_aload_n (pc := 11) dX6_classes_11 rfl trivial ?_
  refine g_getf (pc := 12) dX6_classes_12 fk_X6_19 (shK hS rfl) (fv_obj (shR hS rfl)) ?_
  refine g_getf (pc := 15) (v := .int _) dX6_classes_15 fk_X6_89 (shK hS rfl) (fun _ => congrArg Value.int (hz)) ?_
  refine g_invV_r (pc := 18) (As := [_, _]) dX6_classes_18 rfl (s_firstRows hS (shK hS (rows_lay hs)) hz hn hn) rfl rfl (shK hS rfl) rfl rfl lk_X6_156 rfl (nb rfl) ⟨nb rfl, nb rfl⟩ rfl ?_
  refine g_ireturn (pc := 21) dX6_classes_21 rfl rfl ?_
  exact ⟨rfl, rfl⟩
theorem x_classes {v : Int32} (hS : Shp M) (h : ¬ inR v 6) : EvR l jX6_classes 7 120 1 6 [.ref 0, .int v] M (.inr xIO) M := by
  refine ev_intro rfl (nb rfl) rfl ?_
  refine g_aload_n (pc := 0) dX6_classes_0 rfl trivial ?_
  refine g_iload_n (pc := 1) dX6_classes_1 rfl ?_
  refine g_invV_x (pc := 2) (As := [_]) dX6_classes_2 rfl (x_needSlot hS h) rfl rfl (shK hS rfl) rfl rfl lk_X6_141 rfl (nb rfl) ⟨nb rfl, nb rfl⟩ rfl ?_
  exact ⟨rfl, rfl⟩
/-- the first row equal to a row is a row up to it -/
theorem firstEq_le (f : Nat → Int32) (r : Nat) : ∀ d i, i ≤ r → r < i + d → ∃ j, j ≤ r ∧ firstEq f (f r) d i = nI j
  | 0, i, h, h' => by omega
  | d + 1, i, h, h' => by
    rw [firstEq]
    by_cases h9 : f i = f r
    · rw [if_pos h9]; exact ⟨i, h, rfl⟩
    · rw [if_neg h9]
      have hne : i ≠ r := fun q => h9 (by rw [q])
      exact firstEq_le f r d (i + 1) (by omega) (by omega)
def firstN (f : Nat → Int32) (r n : Nat) : Nat := (firstEq f (f r) n 0).toNatClampNeg
theorem firstN_ok {f : Nat → Int32} {r n : Nat} (hr : r < n) (hn : n ≤ 32) : firstEq f (f r) n 0 = nI (firstN f r n) ∧ firstN f r n ≤ r := by
  obtain ⟨j, h1, h2⟩ := firstEq_le f r n 0 (Nat.zero_le _) (by omega)
  unfold firstN
  rw [h2, nI_clamp (by omega)]
  exact ⟨rfl, h1⟩
theorem q_classOf {s r n : Nat} (hS : Shp M) (hz : mI M 3 1 = nI n) (hn : n ≤ 32) (hs : s < 6) (hr : r < n) : EvR l jX6_classOf 8 140 2 12 [.ref 0, .int (nI s), .int (nI r)] M (.inl (some (.int (frN (mI M (6 + 2 * s)) n (firstN (mI M (6 + 2 * s)) r n))))) M := by
  obtain ⟨f1, f2⟩ := firstN_ok (f := mI M (6 + 2 * s)) hr hn
  refine ev_intro rfl (nb rfl) rfl ?_
  refine g_aload_n (pc := 0) dX6_classOf_0 rfl trivial ?_
  refine g_iload_n (pc := 1) dX6_classOf_1 rfl ?_
  refine g_iload_n (pc := 2) dX6_classOf_2 rfl ?_
  refine g_invV_r (pc := 3) (As := [_, _]) dX6_classOf_3 rfl (s_needRow hS hz (in6 hs) (inR_nI hr (by omega))) rfl rfl (shK hS rfl) rfl rfl lk_X6_120 rfl (nb rfl) ⟨nb rfl, nb rfl⟩ rfl ?_
  refine g_aload_n (pc := 6) dX6_classOf_6 rfl trivial ?_
  refine g_iload_n (pc := 7) dX6_classOf_7 rfl ?_
  refine g_invV_r (pc := 8) (As := [_]) dX6_classOf_8 rfl (s_rowsOf hS hs) rfl rfl (shK hS rfl) rfl rfl lk_X6_112 rfl (nb rfl) ⟨nb rfl, nb rfl⟩ rfl ?_
  refine g_astore_n (pc := 11) (lv' := [(0, _), (1, _), (2, _), (3, _)]) dX6_classOf_11 trivial (nl rfl) rfl ?_
  refine g_aload_n (pc := 12) dX6_classOf_12 rfl trivial ?_
  refine g_aload_n (pc := 13) dX6_classOf_13 rfl trivial ?_
  refine g_aload_n (pc := 14) dX6_classOf_14 rfl trivial ?_
  refine g_aload_n (pc := 15) dX6_classOf_15 rfl trivial ?_
  refine g_aload_n (pc := 16) dX6_classOf_16 rfl trivial ?_
  refine g_iload_n (pc := 17) dX6_classOf_17 rfl ?_
  refine g_iaload (pc := 18) dX6_classOf_18 (shK hS (rows_lay hs)) rfl (by omega) (nl rfl) ?_
  refine g_invV_r (pc := 19) (As := [_, _]) dX6_classOf_19 rfl (s_firstEqual hS (shK hS (rows_lay hs)) hz hn) rfl rfl (shK hS rfl) rfl rfl lk_X6_153 rfl (nb rfl) ⟨nb rfl, nb rfl⟩ rfl ?_
  rw [f1]
  refine g_invV_r (pc := 22) (As := [_, _]) dX6_classOf_22 rfl (s_firstRows hS (shK hS (rows_lay hs)) hz hn (by omega)) rfl rfl (shK hS rfl) rfl rfl lk_X6_156 rfl (nb rfl) ⟨nb rfl, nb rfl⟩ rfl ?_
  refine g_ireturn (pc := 25) dX6_classOf_25 rfl rfl ?_
  exact ⟨rfl, rfl⟩
theorem x_classOf {v w : Int32} {n : Nat} (hS : Shp M) (hz : mI M 3 1 = nI n) (h : ¬ (inR v 6 ∧ inR w n)) : EvR l jX6_classOf 8 140 2 12 [.ref 0, .int v, .int w] M (.inr xIO) M := by
  refine ev_intro rfl (nb rfl) rfl ?_
  refine g_aload_n (pc := 0) dX6_classOf_0 rfl trivial ?_
  refine g_iload_n (pc := 1) dX6_classOf_1 rfl ?_
  refine g_iload_n (pc := 2) dX6_classOf_2 rfl ?_
  refine g_invV_x (pc := 3) (As := [_, _]) dX6_classOf_3 rfl (x_needRow hS hz h) rfl rfl (shK hS rfl) rfl rfl lk_X6_120 rfl (nb rfl) ⟨nb rfl, nb rfl⟩ rfl ?_
  exact ⟨rfl, rfl⟩
theorem q_find {s n : Nat} {x : Int64} (hS : Shp M) (hz : mI M 3 1 = nI n) (hn : n ≤ 32) (hs : s < 6) : EvR l jX6_find 7 120 1 6 [.ref 0, .int (nI s), .long x] M (.inl (some (.int (firstEq (mI M (6 + 2 * s)) (x.toInt32 &&& lowM n) n 0)))) M := by
  refine ev_intro rfl (nb rfl) rfl ?_
  refine g_aload_n (pc := 0) dX6_find_0 rfl trivial ?_
  refine g_iload_n (pc := 1) dX6_find_1 rfl ?_
  refine g_invV_r (pc := 2) (As := [_]) dX6_find_2 rfl (s_needSlot (in6 hs)) rfl rfl (shK hS rfl) rfl rfl lk_X6_141 rfl (nb rfl) ⟨nb rfl, nb rfl⟩ rfl ?_
  refine g_aload_n (pc := 5) dX6_find_5 rfl trivial ?_
  refine g_aload_n (pc := 6) dX6_find_6 rfl trivial ?_
  refine g_iload_n (pc := 7) dX6_find_7 rfl ?_
  refine g_invV_r (pc := 8) (As := [_]) dX6_find_8 rfl (s_rowsOf hS hs) rfl rfl (shK hS rfl) rfl rfl lk_X6_112 rfl (nb rfl) ⟨nb rfl, nb rfl⟩ rfl ?_
  refine g_lload_n (pc := 11) dX6_find_11 rfl ?_
  refine g_l2i (pc := 12) dX6_find_12 rfl ?_
  refine g_aload_n (pc := 13) dX6_find_13 rfl trivial ?_
  refine g_getf (pc := 14) dX6_find_14 fk_X6_19 (shK hS rfl) (fv_obj (shR hS rfl)) ?_
  refine g_getf (pc := 17) (v := .int _) dX6_find_17 fk_X6_89 (shK hS rfl) (fun _ => congrArg Value.int (hz)) ?_
  refine g_invS_r (pc := 20) (As := [_]) dX6_find_20 rfl (s_lowest hn) rfl rfl lk_X6_128 rfl (nb rfl) ⟨nb rfl, nb rfl⟩ rfl ?_
  refine g_iand (pc := 23) dX6_find_23 ?_
  refine g_invV_r (pc := 24) (As := [_, _]) dX6_find_24 rfl (s_firstEqual hS (shK hS (rows_lay hs)) hz hn) rfl rfl (shK hS rfl) rfl rfl lk_X6_153 rfl (nb rfl) ⟨nb rfl, nb rfl⟩ rfl ?_
  refine g_ireturn (pc := 27) dX6_find_27 rfl rfl ?_
  exact ⟨rfl, rfl⟩
theorem x_find {v : Int32} {x : Int64} (hS : Shp M) (h : ¬ inR v 6) : EvR l jX6_find 7 120 1 6 [.ref 0, .int v, .long x] M (.inr xIO) M := by
  refine ev_intro rfl (nb rfl) rfl ?_
  refine g_aload_n (pc := 0) dX6_find_0 rfl trivial ?_
  refine g_iload_n (pc := 1) dX6_find_1 rfl ?_
  refine g_invV_x (pc := 2) (As := [_]) dX6_find_2 rfl (x_needSlot hS h) rfl rfl (shK hS rfl) rfl rfl lk_X6_141 rfl (nb rfl) ⟨nb rfl, nb rfl⟩ rfl ?_
  exact ⟨rfl, rfl⟩
/-- the nearest row so far, and how unlike it is -/
def nrF (f : Nat → Int32) (r : Nat) : Nat → Int32 × Int32
  | 0 => (-1, 33)
  | k + 1 => if k = r then nrF f r k else if bcJ (f k ^^^ f r) < (nrF f r k).2 then (nI k, bcJ (f k ^^^ f r)) else nrF f r k
theorem q_nearest {s r n : Nat} (hS : Shp M) (hz : mI M 3 1 = nI n) (hn : n ≤ 32) (hs : s < 6) (hr : r < n) : EvR l jX6_nearest 8 140 2 12 [.ref 0, .int (nI s), .int (nI r)] M (.inl (some (.int (nrF (mI M (6 + 2 * s)) r n).1))) M := by
  refine ev_intro rfl (nb rfl) rfl ?_
  refine g_aload_n (pc := 0) dX6_nearest_0 rfl trivial ?_
  refine g_iload_n (pc := 1) dX6_nearest_1 rfl ?_
  refine g_iload_n (pc := 2) dX6_nearest_2 rfl ?_
  refine g_invV_r (pc := 3) (As := [_, _]) dX6_nearest_3 rfl (s_needRow hS hz (in6 hs) (inR_nI hr (by omega))) rfl rfl (shK hS rfl) rfl rfl lk_X6_120 rfl (nb rfl) ⟨nb rfl, nb rfl⟩ rfl ?_
  refine g_aload_n (pc := 6) dX6_nearest_6 rfl trivial ?_
  refine g_iload_n (pc := 7) dX6_nearest_7 rfl ?_
  refine g_invV_r (pc := 8) (As := [_]) dX6_nearest_8 rfl (s_rowsOf hS hs) rfl rfl (shK hS rfl) rfl rfl lk_X6_112 rfl (nb rfl) ⟨nb rfl, nb rfl⟩ rfl ?_
  refine g_astore_n (pc := 11) (lv' := [(0, _), (1, _), (2, _), (3, _)]) dX6_nearest_11 trivial (nl rfl) rfl ?_
  refine g_iconst (pc := 12) (v := (-1)) dX6_nearest_12 rfl ?_
  refine g_istore (pc := 13) (lv' := [(0, _), (1, _), (2, _), (3, _), (4, _)]) dX6_nearest_13 (nl rfl) rfl ?_
  refine g_bipush (pc := 15) (v := 33) dX6_nearest_15 rfl ?_
  refine g_istore (pc := 17) (lv' := [(0, _), (1, _), (2, _), (3, _), (4, _), (5, _)]) dX6_nearest_17 (nl rfl) rfl ?_
  refine g_iconst (pc := 19) (v := 0) dX6_nearest_19 rfl ?_
  refine g_istore (pc := 20) (lv' := [(0, _), (1, _), (2, _), (3, _), (4, _), (5, _), (6, _)]) dX6_nearest_20 (nl rfl) rfl ?_
  refine go_loop (pc := 22) n (fun i => [(0, .ref 0), (1, .int (nI s)), (2, .int (nI r)), (3, .ref (6 + 2 * s)), (4, .int (nrF (mI M (6 + 2 * s)) r i).1), (5, .int (nrF (mI M (6 + 2 * s)) r i).2), (6, .int (nI i))]) (fun i => M) ⟨rfl, rfl, rfl, rfl, rfl, rfl, rfl, trivial⟩ rfl ?_ ?_
  · intro i hi ih
    generalize nrF (mI M (6 + 2 * s)) r n = X at ih ⊢
    rw [nrF] at ih
    refine g_iload (pc := 22) dX6_nearest_22 rfl ?_
    refine g_aload_n (pc := 24) dX6_nearest_24 rfl trivial ?_
    refine g_getf (pc := 25) dX6_nearest_25 fk_X6_19 (shK hS rfl) (fv_obj (shR hS rfl)) ?_
    refine g_getf (pc := 28) (v := .int _) dX6_nearest_28 fk_X6_89 (shK hS rfl) (fun _ => congrArg Value.int (hz)) ?_
    refine g_icmp_ge (pc := 31) (tgt := 74) dX6_nearest_31 rfl (fun h31 => absurd h31 (nI_ge hi (by omega))) (fun _ => ?_)
    refine g_aload_n (pc := 34) dX6_nearest_34 rfl trivial ?_
    refine g_iload (pc := 35) dX6_nearest_35 rfl ?_
    refine g_iaload (pc := 37) dX6_nearest_37 (shK hS (rows_lay hs)) rfl (by omega) (nl rfl) ?_
    refine g_aload_n (pc := 38) dX6_nearest_38 rfl trivial ?_
    refine g_iload_n (pc := 39) dX6_nearest_39 rfl ?_
    refine g_iaload (pc := 40) dX6_nearest_40 (shK hS (rows_lay hs)) rfl (by omega) (nl rfl) ?_
    refine g_ixor (pc := 41) dX6_nearest_41 ?_
    refine g_invS_r (pc := 42) (As := [_]) dX6_nearest_42 rfl (s_bitCount) rfl rfl lk_X6_132 rfl (nb rfl) ⟨nb rfl, nb rfl⟩ rfl ?_
    refine g_istore (pc := 45) (lv' := [(0, _), (1, _), (2, _), (3, _), (4, _), (5, _), (6, _), (7, _)]) dX6_nearest_45 (nl rfl) rfl ?_
    refine g_iload (pc := 47) dX6_nearest_47 rfl ?_
    refine g_iload_n (pc := 49) dX6_nearest_49 rfl ?_
    refine g_icmp_eq (pc := 50) (tgt := 68) dX6_nearest_50 rfl (fun h50 => ?_) (fun h50 => ?_)
    · rw [if_pos ((nI_eq (by omega) (by omega)).mp h50)] at ih
      refine g_iinc (pc := 68) (lv' := [(0, _), (1, _), (2, _), (3, _), (4, _), (5, _), (6, _), (7, _)]) dX6_nearest_68 rfl (nI_1 _) (nl rfl) rfl ?_
      refine g_goto (pc := 71) (tgt := 22) dX6_nearest_71 rfl ?_
      exact g_sub (lv' := [(0, _), (1, _), (2, _), (3, _), (4, _), (5, _), (6, _)]) ⟨rfl, rfl, rfl, rfl, rfl, rfl, rfl, trivial⟩ ih
    · rw [if_neg (fun h => h50 (by rw [h]))] at ih
      refine g_iload (pc := 53) dX6_nearest_53 rfl ?_
      refine g_iload (pc := 55) dX6_nearest_55 rfl ?_
      refine g_icmp_ge (pc := 57) (tgt := 68) dX6_nearest_57 rfl (fun h57 => ?_) (fun h57 => ?_)
      · rw [if_neg (Int32.not_lt.mpr h57)] at ih
        refine g_iinc (pc := 68) (lv' := [(0, _), (1, _), (2, _), (3, _), (4, _), (5, _), (6, _), (7, _)]) dX6_nearest_68 rfl (nI_1 _) (nl rfl) rfl ?_
        refine g_goto (pc := 71) (tgt := 22) dX6_nearest_71 rfl ?_
        exact g_sub (lv' := [(0, _), (1, _), (2, _), (3, _), (4, _), (5, _), (6, _)]) ⟨rfl, rfl, rfl, rfl, rfl, rfl, rfl, trivial⟩ ih
      · rw [if_pos (Int32.not_le.mp h57)] at ih
        refine g_iload (pc := 60) dX6_nearest_60 rfl ?_
        refine g_istore (pc := 62) (lv' := [(0, _), (1, _), (2, _), (3, _), (4, _), (5, _), (6, _), (7, _)]) dX6_nearest_62 (nl rfl) rfl ?_
        refine g_iload (pc := 64) dX6_nearest_64 rfl ?_
        refine g_istore (pc := 66) (lv' := [(0, _), (1, _), (2, _), (3, _), (4, _), (5, _), (6, _), (7, _)]) dX6_nearest_66 (nl rfl) rfl ?_
        refine g_iinc (pc := 68) (lv' := [(0, _), (1, _), (2, _), (3, _), (4, _), (5, _), (6, _), (7, _)]) dX6_nearest_68 rfl (nI_1 _) (nl rfl) rfl ?_
        refine g_goto (pc := 71) (tgt := 22) dX6_nearest_71 rfl ?_
        exact g_sub (lv' := [(0, _), (1, _), (2, _), (3, _), (4, _), (5, _), (6, _)]) ⟨rfl, rfl, rfl, rfl, rfl, rfl, rfl, trivial⟩ ih
  · refine g_iload (pc := 22) dX6_nearest_22 rfl ?_
    refine g_aload_n (pc := 24) dX6_nearest_24 rfl trivial ?_
    refine g_getf (pc := 25) dX6_nearest_25 fk_X6_19 (shK hS rfl) (fv_obj (shR hS rfl)) ?_
    refine g_getf (pc := 28) (v := .int _) dX6_nearest_28 fk_X6_89 (shK hS rfl) (fun _ => congrArg Value.int (hz)) ?_
    refine g_icmp_ge (pc := 31) (tgt := 74) dX6_nearest_31 rfl (fun _ => ?_) (fun h31 => absurd (nI_le (Nat.le_refl _) (by omega)) h31)
    refine g_iload (pc := 74) dX6_nearest_74 rfl ?_
    refine g_ireturn (pc := 76) dX6_nearest_76 rfl rfl ?_
    exact ⟨rfl, rfl⟩
theorem x_nearest {v w : Int32} {n : Nat} (hS : Shp M) (hz : mI M 3 1 = nI n) (h : ¬ (inR v 6 ∧ inR w n)) : EvR l jX6_nearest 8 140 2 12 [.ref 0, .int v, .int w] M (.inr xIO) M := by
  refine ev_intro rfl (nb rfl) rfl ?_
  refine g_aload_n (pc := 0) dX6_nearest_0 rfl trivial ?_
  refine g_iload_n (pc := 1) dX6_nearest_1 rfl ?_
  refine g_iload_n (pc := 2) dX6_nearest_2 rfl ?_
  refine g_invV_x (pc := 3) (As := [_, _]) dX6_nearest_3 rfl (x_needRow hS hz h) rfl rfl (shK hS rfl) rfl rfl lk_X6_120 rfl (nb rfl) ⟨nb rfl, nb rfl⟩ rfl ?_
  exact ⟨rfl, rfl⟩
end
end
-- 201.query
section
section
variable {l : Launch} {M : Mem}
theorem clOf_z {s n : Nat} (hz : mI M 3 1 = nI n) (hs : s < 6) : mI (clOf M s n) 3 1 = nI n := by rw [clOf_ne (by omega) hs]; exact hz
theorem q_reaches {s a b n : Nat} (hS : Shp M) (hz : mI M 3 1 = nI n) (hn : n ≤ 32) (hs : s < 6) (ha : a < n) (hb9 : b < n) : EvR l jX6_reaches 9 160 3 18 [.ref 0, .int (nI s), .int (nI a), .int (nI b)] M (.inl (some (.int (b1 (hb (mI (clOf M s n) (175 + 2 * s + 1) a) b))))) (clOf M s n) := by
  have hS1 := clOf_S hS s n
  have hc := cl_ok' s hs
  refine ev_intro rfl (nb rfl) rfl ?_
  refine g_aload_n (pc := 0) dX6_reaches_0 rfl trivial ?_
  refine g_iload_n (pc := 1) dX6_reaches_1 rfl ?_
  refine g_iload_n (pc := 2) dX6_reaches_2 rfl ?_
  refine g_iload_n (pc := 3) dX6_reaches_3 rfl ?_
  refine g_invV_r (pc := 4) (As := [_, _, _]) dX6_reaches_4 rfl (s_needCell hS hz (in6 hs) (inR_nI ha (by omega)) (inR_nI hb9 (by omega))) rfl rfl (shK hS rfl) rfl rfl lk_X6_109 rfl (nb rfl) ⟨nb rfl, nb rfl⟩ rfl ?_
  refine g_aload_n (pc := 7) dX6_reaches_7 rfl trivial ?_
  refine g_iload_n (pc := 8) dX6_reaches_8 rfl ?_
  refine g_invV_r (pc := 9) (As := [_]) dX6_reaches_9 rfl (s_closureOf hS hs hz hn) rfl rfl (shK hS rfl) rfl rfl lk_X6_162 rfl (nb rfl) ⟨nb rfl, nb rfl⟩ rfl ?_
  refine g_getf (pc := 12) dX6_reaches_12 fk_X6_166 (shK hS1 hc.1) (fv_arr (shR hS1 hc.2.2)) ?_
  refine g_iload_n (pc := 15) dX6_reaches_15 rfl ?_
  refine g_iaload (pc := 16) dX6_reaches_16 (shK hS1 hc.2.1) rfl (by omega) (nl rfl) ?_
  refine g_iload_n (pc := 17) dX6_reaches_17 rfl ?_
  refine g_invS_r (pc := 18) (As := [_, _]) dX6_reaches_18 rfl (s_hasOne (by omega)) rfl rfl lk_X6_116 rfl (nb rfl) ⟨nb rfl, nb rfl⟩ rfl ?_
  refine g_if_eq (pc := 21) (tgt := 28) dX6_reaches_21 rfl (fun h21 => ?_) (fun h21 => ?_)
  · rw [b1_0] at h21
    refine g_iconst (pc := 28) (v := 0) dX6_reaches_28 rfl ?_
    refine g_ireturn (pc := 29) dX6_reaches_29 rfl rfl ?_
    exact ⟨by rw [h21]; rfl, rfl⟩
  · rw [b1_0, Bool.not_eq_false] at h21
    refine g_iconst (pc := 24) (v := 1) dX6_reaches_24 rfl ?_
    refine g_goto (pc := 25) (tgt := 29) dX6_reaches_25 rfl ?_
    refine g_ireturn (pc := 29) dX6_reaches_29 rfl rfl ?_
    exact ⟨by rw [h21]; rfl, rfl⟩
theorem x_reaches {v w u : Int32} {n : Nat} (hS : Shp M) (hz : mI M 3 1 = nI n) (h : ¬ (inR v 6 ∧ inR w n ∧ inR u n)) : EvR l jX6_reaches 9 160 3 18 [.ref 0, .int v, .int w, .int u] M (.inr xIO) M := by
  refine ev_intro rfl (nb rfl) rfl ?_
  refine g_aload_n (pc := 0) dX6_reaches_0 rfl trivial ?_
  refine g_iload_n (pc := 1) dX6_reaches_1 rfl ?_
  refine g_iload_n (pc := 2) dX6_reaches_2 rfl ?_
  refine g_iload_n (pc := 3) dX6_reaches_3 rfl ?_
  refine g_invV_x (pc := 4) (As := [_, _, _]) dX6_reaches_4 rfl (x_needCell hS hz h) rfl rfl (shK hS rfl) rfl rfl lk_X6_109 rfl (nb rfl) ⟨nb rfl, nb rfl⟩ rfl ?_
  exact ⟨rfl, rfl⟩
theorem q_reached {s a n : Nat} (hS : Shp M) (hz : mI M 3 1 = nI n) (hn : n ≤ 32) (hs : s < 6) (ha : a < n) : EvR l jX6_reached 8 140 2 12 [.ref 0, .int (nI s), .int (nI a)] M (.inl (some (.int (bcJ (mI (clOf M s n) (175 + 2 * s + 1) a))))) (clOf M s n) := by
  have hS1 := clOf_S hS s n
  have hc := cl_ok' s hs
  refine ev_intro rfl (nb rfl) rfl ?_
  refine g_aload_n (pc := 0) dX6_reached_0 rfl trivial ?_
  refine g_iload_n (pc := 1) dX6_reached_1 rfl ?_
  refine g_iload_n (pc := 2) dX6_reached_2 rfl ?_
  refine g_invV_r (pc := 3) (As := [_, _]) dX6_reached_3 rfl (s_needRow hS hz (in6 hs) (inR_nI ha (by omega))) rfl rfl (shK hS rfl) rfl rfl lk_X6_120 rfl (nb rfl) ⟨nb rfl, nb rfl⟩ rfl ?_
  refine g_aload_n (pc := 6) dX6_reached_6 rfl trivial ?_
  refine g_iload_n (pc := 7) dX6_reached_7 rfl ?_
  refine g_invV_r (pc := 8) (As := [_]) dX6_reached_8 rfl (s_closureOf hS hs hz hn) rfl rfl (shK hS rfl) rfl rfl lk_X6_162 rfl (nb rfl) ⟨nb rfl, nb rfl⟩ rfl ?_
  refine g_getf (pc := 11) dX6_reached_11 fk_X6_166 (shK hS1 hc.1) (fv_arr (shR hS1 hc.2.2)) ?_
  refine g_iload_n (pc := 14) dX6_reached_14 rfl ?_
  refine g_iaload (pc := 15) dX6_reached_15 (shK hS1 hc.2.1) rfl (by omega) (nl rfl) ?_
  refine g_invS_r (pc := 16) (As := [_]) dX6_reached_16 rfl (s_bitCount) rfl rfl lk_X6_132 rfl (nb rfl) ⟨nb rfl, nb rfl⟩ rfl ?_
  refine g_ireturn (pc := 19) dX6_reached_19 rfl rfl ?_
  exact ⟨rfl, rfl⟩
theorem x_reached {v w : Int32} {n : Nat} (hS : Shp M) (hz : mI M 3 1 = nI n) (h : ¬ (inR v 6 ∧ inR w n)) : EvR l jX6_reached 8 140 2 12 [.ref 0, .int v, .int w] M (.inr xIO) M := by
  refine ev_intro rfl (nb rfl) rfl ?_
  refine g_aload_n (pc := 0) dX6_reached_0 rfl trivial ?_
  refine g_iload_n (pc := 1) dX6_reached_1 rfl ?_
  refine g_iload_n (pc := 2) dX6_reached_2 rfl ?_
  refine g_invV_x (pc := 3) (As := [_, _]) dX6_reached_3 rfl (x_needRow hS hz h) rfl rfl (shK hS rfl) rfl rfl lk_X6_120 rfl (nb rfl) ⟨nb rfl, nb rfl⟩ rfl ?_
  exact ⟨rfl, rfl⟩
theorem q_pairs {s n : Nat} (hS : Shp M) (hz : mI M 3 1 = nI n) (hn : n ≤ 32) (hs : s < 6) : EvR l jX6_pairs 7 120 1 6 [.ref 0, .int (nI s)] M (.inl (some (.int (onesF (mI (clOf M s n) (175 + 2 * s + 1)) n)))) (clOf M s n) := by
  have hS1 := clOf_S hS s n
  have hc := cl_ok' s hs
  have hz1 := clOf_z hz hs
  refine ev_intro rfl (nb rfl) rfl ?_
  refine g_aload_n (pc := 0) dX6_pairs_0 rfl trivial ?_
  refine g_iload_n (pc := 1) dX6_pairs_1 rfl ?_
  refine g_invV_r (pc := 2) (As := [_]) dX6_pairs_2 rfl (s_needSlot (in6 hs)) rfl rfl (shK hS rfl) rfl rfl lk_X6_141 rfl (nb rfl) ⟨nb rfl, nb rfl⟩ rfl ?_
  refine g_aload_n (pc := 5) dX6_pairs_5 rfl trivial ?_
  refine g_iload_n (pc := 6) dX6_pairs_6 rfl ?_
  refine g_invV_r (pc := 7) (As := [_]) dX6_pairs_7 rfl (s_closureOf hS hs hz hn) rfl rfl (shK hS rfl) rfl rfl lk_X6_162 rfl (nb rfl) ⟨nb rfl, nb rfl⟩ rfl ?_
  refine g_getf (pc := 10) dX6_pairs_10 fk_X6_166 (shK hS1 hc.1) (fv_arr (shR hS1 hc.2.2)) ?_
  refine g_aload_n (pc := 13) dX6_pairs_13 rfl trivial ?_
  refine g_getf (pc := 14) dX6_pairs_14 fk_X6_19 (shK hS1 rfl) (fv_obj (shR hS1 rfl)) ?_
  refine g_getf (pc := 17) (v := .int _) dX6_pairs_17 fk_X6_89 (shK hS1 rfl) (fun _ => congrArg Value.int (hz1)) ?_
  refine g_invS_r (pc := 20) (As := [_, _]) dX6_pairs_20 rfl (s_onesOf (shK hS1 hc.2.1) hn) rfl rfl lk_X6_145 rfl (nb rfl) ⟨nb rfl, nb rfl⟩ rfl ?_
  refine g_ireturn (pc := 23) dX6_pairs_23 rfl rfl ?_
  exact ⟨rfl, rfl⟩
theorem x_pairs {v : Int32} (hS : Shp M) (h : ¬ inR v 6) : EvR l jX6_pairs 7 120 1 6 [.ref 0, .int v] M (.inr xIO) M := by
  refine ev_intro rfl (nb rfl) rfl ?_
  refine g_aload_n (pc := 0) dX6_pairs_0 rfl trivial ?_
  refine g_iload_n (pc := 1) dX6_pairs_1 rfl ?_
  refine g_invV_x (pc := 2) (As := [_]) dX6_pairs_2 rfl (x_needSlot hS h) rfl rfl (shK hS rfl) rfl rfl lk_X6_141 rfl (nb rfl) ⟨nb rfl, nb rfl⟩ rfl ?_
  exact ⟨rfl, rfl⟩
theorem q_component {s a n : Nat} (hS : Shp M) (hz : mI M 3 1 = nI n) (hn : n ≤ 32) (hs : s < 6) (ha : a < n) : EvR l jX6_component 8 140 2 12 [.ref 0, .int (nI s), .int (nI a)] M (.inl (some (.int (nI (lowMut (mI (clOf M s n) (175 + 2 * s + 1)) a n))))) (clOf M s n) := by
  have hS1 := clOf_S hS s n
  have hc := cl_ok' s hs
  have hz1 := clOf_z hz hs
  refine ev_intro rfl (nb rfl) rfl ?_
  refine g_aload_n (pc := 0) dX6_component_0 rfl trivial ?_
  refine g_iload_n (pc := 1) dX6_component_1 rfl ?_
  refine g_iload_n (pc := 2) dX6_component_2 rfl ?_
  refine g_invV_r (pc := 3) (As := [_, _]) dX6_component_3 rfl (s_needRow hS hz (in6 hs) (inR_nI ha (by omega))) rfl rfl (shK hS rfl) rfl rfl lk_X6_120 rfl (nb rfl) ⟨nb rfl, nb rfl⟩ rfl ?_
  refine g_aload_n (pc := 6) dX6_component_6 rfl trivial ?_
  refine g_iload_n (pc := 7) dX6_component_7 rfl ?_
  refine g_invV_r (pc := 8) (As := [_]) dX6_component_8 rfl (s_closureOf hS hs hz hn) rfl rfl (shK hS rfl) rfl rfl lk_X6_162 rfl (nb rfl) ⟨nb rfl, nb rfl⟩ rfl ?_
  refine g_iload_n (pc := 11) dX6_component_11 rfl ?_
  refine g_aload_n (pc := 12) dX6_component_12 rfl trivial ?_
  refine g_getf (pc := 13) dX6_component_13 fk_X6_19 (shK hS1 rfl) (fv_obj (shR hS1 rfl)) ?_
  refine g_getf (pc := 16) (v := .int _) dX6_component_16 fk_X6_89 (shK hS1 rfl) (fun _ => congrArg Value.int (hz1)) ?_
  refine g_invV_r (pc := 19) (As := [_, _]) dX6_component_19 rfl (s_lowestMutual hS1 hc (by omega) hn) rfl rfl (shK hS1 hc.1) rfl rfl lk_X6_172 rfl (nb rfl) ⟨nb rfl, nb rfl⟩ rfl ?_
  refine g_ireturn (pc := 22) dX6_component_22 rfl rfl ?_
  exact ⟨rfl, rfl⟩
theorem x_component {v w : Int32} {n : Nat} (hS : Shp M) (hz : mI M 3 1 = nI n) (h : ¬ (inR v 6 ∧ inR w n)) : EvR l jX6_component 8 140 2 12 [.ref 0, .int v, .int w] M (.inr xIO) M := by
  refine ev_intro rfl (nb rfl) rfl ?_
  refine g_aload_n (pc := 0) dX6_component_0 rfl trivial ?_
  refine g_iload_n (pc := 1) dX6_component_1 rfl ?_
  refine g_iload_n (pc := 2) dX6_component_2 rfl ?_
  refine g_invV_x (pc := 3) (As := [_, _]) dX6_component_3 rfl (x_needRow hS hz h) rfl rfl (shK hS rfl) rfl rfl lk_X6_120 rfl (nb rfl) ⟨nb rfl, nb rfl⟩ rfl ?_
  exact ⟨rfl, rfl⟩
def cmN (g : Nat → Int32) (n : Nat) : Nat → Int32
  | 0 => 0
  | k + 1 => if lowMut g k n = k then cmN g n k + 1 else cmN g n k
theorem lowMut_lt (g : Nat → Int32) (a n : Nat) : lowMut g a n < 32 := lowN_lt _
theorem q_components {s n : Nat} (hS : Shp M) (hz : mI M 3 1 = nI n) (hn : n ≤ 32) (hs : s < 6) : EvR l jX6_components 7 120 1 6 [.ref 0, .int (nI s)] M (.inl (some (.int (cmN (mI (clOf M s n) (175 + 2 * s + 1)) n n)))) (clOf M s n) := by
  have hS1 := clOf_S hS s n
  have hc := cl_ok' s hs
  have hz1 := clOf_z hz hs
  refine ev_intro rfl (nb rfl) rfl ?_
  refine g_aload_n (pc := 0) dX6_components_0 rfl trivial ?_
  refine g_iload_n (pc := 1) dX6_components_1 rfl ?_
  refine g_invV_r (pc := 2) (As := [_]) dX6_components_2 rfl (s_needSlot (in6 hs)) rfl rfl (shK hS rfl) rfl rfl lk_X6_141 rfl (nb rfl) ⟨nb rfl, nb rfl⟩ rfl ?_
  refine g_aload_n (pc := 5) dX6_components_5 rfl trivial ?_
  refine g_iload_n (pc := 6) dX6_components_6 rfl ?_
  refine g_invV_r (pc := 7) (As := [_]) dX6_components_7 rfl (s_closureOf hS hs hz hn) rfl rfl (shK hS rfl) rfl rfl lk_X6_162 rfl (nb rfl) ⟨nb rfl, nb rfl⟩ rfl ?_
  refine g_astore_n (pc := 10) (lv' := [(0, _), (1, _), (2, _)]) dX6_components_10 trivial (nl rfl) rfl ?_
  refine g_iconst (pc := 11) (v := 0) dX6_components_11 rfl ?_
  refine g_istore_n (pc := 12) (lv' := [(0, _), (1, _), (2, _), (3, _)]) dX6_components_12 (nl rfl) rfl ?_
  refine g_iconst (pc := 13) (v := 0) dX6_components_13 rfl ?_
  refine g_istore (pc := 14) (lv' := [(0, _), (1, _), (2, _), (3, _), (4, _)]) dX6_components_14 (nl rfl) rfl ?_
  refine go_loop (pc := 16) n (fun i => [(0, .ref 0), (1, .int (nI s)), (2, .ref (175 + 2 * s)), (3, .int (cmN (mI (clOf M s n) (175 + 2 * s + 1)) n i)), (4, .int (nI i))]) (fun i => clOf M s n) ⟨rfl, rfl, rfl, rfl, rfl, trivial⟩ rfl ?_ ?_
  · intro i hi ih
    generalize clOf M s n = M1 at *
    generalize cmN (mI M1 (175 + 2 * s + 1)) n n = X at ih ⊢
    rw [cmN] at ih
    refine g_iload (pc := 16) dX6_components_16 rfl ?_
    refine g_aload_n (pc := 18) dX6_components_18 rfl trivial ?_
    refine g_getf (pc := 19) dX6_components_19 fk_X6_19 (shK hS1 rfl) (fv_obj (shR hS1 rfl)) ?_
    refine g_getf (pc := 22) (v := .int _) dX6_components_22 fk_X6_89 (shK hS1 rfl) (fun _ => congrArg Value.int (hz1)) ?_
    refine g_icmp_ge (pc := 25) (tgt := 55) dX6_components_25 rfl (fun h25 => absurd h25 (nI_ge hi (by omega))) (fun _ => ?_)
    refine g_aload_n (pc := 28) dX6_components_28 rfl trivial ?_
    refine g_iload (pc := 29) dX6_components_29 rfl ?_
    refine g_aload_n (pc := 31) dX6_components_31 rfl trivial ?_
    refine g_getf (pc := 32) dX6_components_32 fk_X6_19 (shK hS1 rfl) (fv_obj (shR hS1 rfl)) ?_
    refine g_getf (pc := 35) (v := .int _) dX6_components_35 fk_X6_89 (shK hS1 rfl) (fun _ => congrArg Value.int (hz1)) ?_
    refine g_invV_r (pc := 38) (As := [_, _]) dX6_components_38 rfl (s_lowestMutual hS1 hc (by omega) hn) rfl rfl (shK hS1 hc.1) rfl rfl lk_X6_172 rfl (nb rfl) ⟨nb rfl, nb rfl⟩ rfl ?_
    refine g_iload (pc := 41) dX6_components_41 rfl ?_
    refine g_icmp_ne (pc := 43) (tgt := 49) dX6_components_43 rfl (fun h43 => ?_) (fun h43 => ?_)
    · rw [if_neg (fun h => h43 (by rw [h]))] at ih
      refine g_iinc (pc := 49) (lv' := [(0, _), (1, _), (2, _), (3, _), (4, _)]) dX6_components_49 rfl (nI_1 _) (nl rfl) rfl ?_
      refine g_goto (pc := 52) (tgt := 16) dX6_components_52 rfl ?_
      exact ih
    · rw [if_pos ((nI_eq (by have := lowMut_lt (mI M1 (175 + 2 * s + 1)) i n; omega) (by omega)).mp (Decidable.not_not.mp h43))] at ih
      refine g_iinc (pc := 46) (lv' := [(0, _), (1, _), (2, _), (3, _), (4, _)]) dX6_components_46 rfl rfl (nl rfl) rfl ?_
      refine g_iinc (pc := 49) (lv' := [(0, _), (1, _), (2, _), (3, _), (4, _)]) dX6_components_49 rfl (nI_1 _) (nl rfl) rfl ?_
      refine g_goto (pc := 52) (tgt := 16) dX6_components_52 rfl ?_
      exact ih
  · refine g_iload (pc := 16) dX6_components_16 rfl ?_
    refine g_aload_n (pc := 18) dX6_components_18 rfl trivial ?_
    refine g_getf (pc := 19) dX6_components_19 fk_X6_19 (shK hS1 rfl) (fv_obj (shR hS1 rfl)) ?_
    refine g_getf (pc := 22) (v := .int _) dX6_components_22 fk_X6_89 (shK hS1 rfl) (fun _ => congrArg Value.int (hz1)) ?_
    refine g_icmp_ge (pc := 25) (tgt := 55) dX6_components_25 rfl (fun _ => ?_) (fun h25 => absurd (nI_le (Nat.le_refl _) (by omega)) h25)
    refine g_iload_n (pc := 55) dX6_components_55 rfl ?_
    refine g_ireturn (pc := 56) dX6_components_56 rfl rfl ?_
    exact ⟨rfl, rfl⟩
theorem x_components {v : Int32} (hS : Shp M) (h : ¬ inR v 6) : EvR l jX6_components 7 120 1 6 [.ref 0, .int v] M (.inr xIO) M := by
  refine ev_intro rfl (nb rfl) rfl ?_
  refine g_aload_n (pc := 0) dX6_components_0 rfl trivial ?_
  refine g_iload_n (pc := 1) dX6_components_1 rfl ?_
  refine g_invV_x (pc := 2) (As := [_]) dX6_components_2 rfl (x_needSlot hS h) rfl rfl (shK hS rfl) rfl rfl lk_X6_141 rfl (nb rfl) ⟨nb rfl, nb rfl⟩ rfl ?_
  exact ⟨rfl, rfl⟩
def dsV (f : Nat → Int32) (a b n : Nat) : Int32 := if a = b then 0 else feF f b n n 1 (f a)
theorem q_distance {s a b n : Nat} (hS : Shp M) (hz : mI M 3 1 = nI n) (hn : n ≤ 32) (hs : s < 6) (ha : a < n) (hb9 : b < n) : EvR l jX6_distance 9 160 3 18 [.ref 0, .int (nI s), .int (nI a), .int (nI b)] M (.inl (some (.int (dsV (mI M (6 + 2 * s)) a b n)))) M := by
  refine ev_intro rfl (nb rfl) rfl ?_
  unfold dsV
  refine g_aload_n (pc := 0) dX6_distance_0 rfl trivial ?_
  refine g_iload_n (pc := 1) dX6_distance_1 rfl ?_
  refine g_iload_n (pc := 2) dX6_distance_2 rfl ?_
  refine g_iload_n (pc := 3) dX6_distance_3 rfl ?_
  refine g_invV_r (pc := 4) (As := [_, _, _]) dX6_distance_4 rfl (s_needCell hS hz (in6 hs) (inR_nI ha (by omega)) (inR_nI hb9 (by omega))) rfl rfl (shK hS rfl) rfl rfl lk_X6_109 rfl (nb rfl) ⟨nb rfl, nb rfl⟩ rfl ?_
  refine g_iload_n (pc := 7) dX6_distance_7 rfl ?_
  refine g_iload_n (pc := 8) dX6_distance_8 rfl ?_
  refine g_icmp_ne (pc := 9) (tgt := 16) dX6_distance_9 rfl (fun h9 => ?_) (fun h9 => ?_)
  · rw [if_neg (fun h => h9 (by rw [h]))]
    refine g_aload_n (pc := 16) dX6_distance_16 rfl trivial ?_
    refine g_aload_n (pc := 17) dX6_distance_17 rfl trivial ?_
    refine g_iload_n (pc := 18) dX6_distance_18 rfl ?_
    refine g_invV_r (pc := 19) (As := [_]) dX6_distance_19 rfl (s_rowsOf hS hs) rfl rfl (shK hS rfl) rfl rfl lk_X6_112 rfl (nb rfl) ⟨nb rfl, nb rfl⟩ rfl ?_
    refine g_iload_n (pc := 22) dX6_distance_22 rfl ?_
    refine g_iload_n (pc := 23) dX6_distance_23 rfl ?_
    refine g_invV_r (pc := 24) (As := [_, _, _]) dX6_distance_24 rfl (s_fewestEdges hS (shK hS (rows_lay hs)) hz hn (by omega) (by omega)) rfl rfl (shK hS rfl) rfl rfl lk_X6_175 rfl (nb rfl) ⟨nb rfl, nb rfl⟩ rfl ?_
    refine g_ireturn (pc := 27) dX6_distance_27 rfl rfl ?_
    exact ⟨rfl, rfl⟩
  · rw [if_pos ((nI_eq (by omega) (by omega)).mp (Decidable.not_not.mp h9))]
    refine g_iconst (pc := 12) (v := 0) dX6_distance_12 rfl ?_
    refine g_goto (pc := 13) (tgt := 27) dX6_distance_13 rfl ?_
    refine g_ireturn (pc := 27) dX6_distance_27 rfl rfl ?_
    exact ⟨rfl, rfl⟩
theorem x_distance {v w u : Int32} {n : Nat} (hS : Shp M) (hz : mI M 3 1 = nI n) (h : ¬ (inR v 6 ∧ inR w n ∧ inR u n)) : EvR l jX6_distance 9 160 3 18 [.ref 0, .int v, .int w, .int u] M (.inr xIO) M := by
  refine ev_intro rfl (nb rfl) rfl ?_
  refine g_aload_n (pc := 0) dX6_distance_0 rfl trivial ?_
  refine g_iload_n (pc := 1) dX6_distance_1 rfl ?_
  refine g_iload_n (pc := 2) dX6_distance_2 rfl ?_
  refine g_iload_n (pc := 3) dX6_distance_3 rfl ?_
  refine g_invV_x (pc := 4) (As := [_, _, _]) dX6_distance_4 rfl (x_needCell hS hz h) rfl rfl (shK hS rfl) rfl rfl lk_X6_109 rfl (nb rfl) ⟨nb rfl, nb rfl⟩ rfl ?_
  exact ⟨rfl, rfl⟩
theorem q_around {s a n : Nat} (hS : Shp M) (hz : mI M 3 1 = nI n) (hn : n ≤ 32) (hs : s < 6) (ha : a < n) : EvR l jX6_around 8 140 2 12 [.ref 0, .int (nI s), .int (nI a)] M (.inl (some (.int (feF (mI M (6 + 2 * s)) a n n 1 (mI M (6 + 2 * s) a))))) M := by
  refine ev_intro rfl (nb rfl) rfl ?_
  refine g_aload_n (pc := 0) dX6_around_0 rfl trivial ?_
  refine g_iload_n (pc := 1) dX6_around_1 rfl ?_
  refine g_iload_n (pc := 2) dX6_around_2 rfl ?_
  refine g_invV_r (pc := 3) (As := [_, _]) dX6_around_3 rfl (s_needRow hS hz (in6 hs) (inR_nI ha (by omega))) rfl rfl (shK hS rfl) rfl rfl lk_X6_120 rfl (nb rfl) ⟨nb rfl, nb rfl⟩ rfl ?_
  refine g_aload_n (pc := 6) dX6_around_6 rfl trivial ?_
  refine g_aload_n (pc := 7) dX6_around_7 rfl trivial ?_
  refine g_iload_n (pc := 8) dX6_around_8 rfl ?_
  refine g_invV_r (pc := 9) (As := [_]) dX6_around_9 rfl (s_rowsOf hS hs) rfl rfl (shK hS rfl) rfl rfl lk_X6_112 rfl (nb rfl) ⟨nb rfl, nb rfl⟩ rfl ?_
  refine g_iload_n (pc := 12) dX6_around_12 rfl ?_
  refine g_iload_n (pc := 13) dX6_around_13 rfl ?_
  refine g_invV_r (pc := 14) (As := [_, _, _]) dX6_around_14 rfl (s_fewestEdges hS (shK hS (rows_lay hs)) hz hn (by omega) (by omega)) rfl rfl (shK hS rfl) rfl rfl lk_X6_175 rfl (nb rfl) ⟨nb rfl, nb rfl⟩ rfl ?_
  refine g_ireturn (pc := 17) dX6_around_17 rfl rfl ?_
  exact ⟨rfl, rfl⟩
theorem x_around {v w : Int32} {n : Nat} (hS : Shp M) (hz : mI M 3 1 = nI n) (h : ¬ (inR v 6 ∧ inR w n)) : EvR l jX6_around 8 140 2 12 [.ref 0, .int v, .int w] M (.inr xIO) M := by
  refine ev_intro rfl (nb rfl) rfl ?_
  refine g_aload_n (pc := 0) dX6_around_0 rfl trivial ?_
  refine g_iload_n (pc := 1) dX6_around_1 rfl ?_
  refine g_iload_n (pc := 2) dX6_around_2 rfl ?_
  refine g_invV_x (pc := 3) (As := [_, _]) dX6_around_3 rfl (x_needRow hS hz h) rfl rfl (shK hS rfl) rfl rfl lk_X6_120 rfl (nb rfl) ⟨nb rfl, nb rfl⟩ rfl ?_
  exact ⟨rfl, rfl⟩
def giV (f : Nat → Int32) (n : Nat) : Nat → Int32
  | 0 => -1
  | k + 1 => if feF f k n n 1 (f k) = -1 then giV f n k else if giV f n k = -1 then feF f k n n 1 (f k) else if giV f n k ≤ feF f k n n 1 (f k) then giV f n k else feF f k n n 1 (f k)
theorem q_girth {s n : Nat} (hS : Shp M) (hz : mI M 3 1 = nI n) (hn : n ≤ 32) (hs : s < 6) : EvR l jX6_girth 7 120 1 6 [.ref 0, .int (nI s)] M (.inl (some (.int (giV (mI M (6 + 2 * s)) n n)))) M := by
  refine ev_intro rfl (nb rfl) rfl ?_
  refine g_aload_n (pc := 0) dX6_girth_0 rfl trivial ?_
  refine g_iload_n (pc := 1) dX6_girth_1 rfl ?_
  refine g_invV_r (pc := 2) (As := [_]) dX6_girth_2 rfl (s_needSlot (in6 hs)) rfl rfl (shK hS rfl) rfl rfl lk_X6_141 rfl (nb rfl) ⟨nb rfl, nb rfl⟩ rfl ?_
  refine g_iconst (pc := 5) (v := (-1)) dX6_girth_5 rfl ?_
  refine g_istore_n (pc := 6) (lv' := [(0, _), (1, _), (2, _)]) dX6_girth_6 (nl rfl) rfl ?_
  refine g_iconst (pc := 7) (v := 0) dX6_girth_7 rfl ?_
  refine g_istore_n (pc := 8) (lv' := [(0, _), (1, _), (2, _), (3, _)]) dX6_girth_8 (nl rfl) rfl ?_
  refine go_loop (pc := 9) n (fun i => [(0, .ref 0), (1, .int (nI s)), (2, .int (giV (mI M (6 + 2 * s)) n i)), (3, .int (nI i))]) (fun i => M) ⟨rfl, rfl, rfl, rfl, trivial⟩ rfl ?_ ?_
  · intro i hi ih
    generalize giV (mI M (6 + 2 * s)) n n = X at ih ⊢
    rw [giV] at ih
    refine g_iload_n (pc := 9) dX6_girth_9 rfl ?_
    refine g_aload_n (pc := 10) dX6_girth_10 rfl trivial ?_
    refine g_getf (pc := 11) dX6_girth_11 fk_X6_19 (shK hS rfl) (fv_obj (shR hS rfl)) ?_
    refine g_getf (pc := 14) (v := .int _) dX6_girth_14 fk_X6_89 (shK hS rfl) (fun _ => congrArg Value.int (hz)) ?_
    refine g_icmp_ge (pc := 17) (tgt := 59) dX6_girth_17 rfl (fun h17 => absurd h17 (nI_ge hi (by omega))) (fun _ => ?_)
    refine g_aload_n (pc := 20) dX6_girth_20 rfl trivial ?_
    refine g_aload_n (pc := 21) dX6_girth_21 rfl trivial ?_
    refine g_iload_n (pc := 22) dX6_girth_22 rfl ?_
    refine g_invV_r (pc := 23) (As := [_]) dX6_girth_23 rfl (s_rowsOf hS hs) rfl rfl (shK hS rfl) rfl rfl lk_X6_112 rfl (nb rfl) ⟨nb rfl, nb rfl⟩ rfl ?_
    refine g_iload_n (pc := 26) dX6_girth_26 rfl ?_
    refine g_iload_n (pc := 27) dX6_girth_27 rfl ?_
    refine g_invV_r (pc := 28) (As := [_, _, _]) dX6_girth_28 rfl (s_fewestEdges hS (shK hS (rows_lay hs)) hz hn (by omega) (by omega)) rfl rfl (shK hS rfl) rfl rfl lk_X6_175 rfl (nb rfl) ⟨nb rfl, nb rfl⟩ rfl ?_
    refine g_istore (pc := 31) (lv' := [(0, _), (1, _), (2, _), (3, _), (4, _)]) dX6_girth_31 (nl rfl) rfl ?_
    refine g_iload (pc := 33) dX6_girth_33 rfl ?_
    refine g_iconst (pc := 35) (v := (-1)) dX6_girth_35 rfl ?_
    refine g_icmp_eq (pc := 36) (tgt := 53) dX6_girth_36 rfl (fun h36 => ?_) (fun h36 => ?_)
    · rw [if_pos h36] at ih
      refine g_iinc (pc := 53) (lv' := [(0, _), (1, _), (2, _), (3, _), (4, _)]) dX6_girth_53 rfl (nI_1 _) (nl rfl) rfl ?_
      refine g_goto (pc := 56) (tgt := 9) dX6_girth_56 rfl ?_
      exact g_sub (lv' := [(0, _), (1, _), (2, _), (3, _)]) ⟨rfl, rfl, rfl, rfl, trivial⟩ ih
    · rw [if_neg h36] at ih
      refine g_iload_n (pc := 39) dX6_girth_39 rfl ?_
      refine g_iconst (pc := 40) (v := (-1)) dX6_girth_40 rfl ?_
      refine g_icmp_eq (pc := 41) (tgt := 50) dX6_girth_41 rfl (fun h41 => ?_) (fun h41 => ?_)
      · rw [if_pos h41] at ih
        refine g_iload (pc := 50) dX6_girth_50 rfl ?_
        refine g_istore_n (pc := 52) (lv' := [(0, _), (1, _), (2, _), (3, _), (4, _)]) dX6_girth_52 (nl rfl) rfl ?_
        refine g_iinc (pc := 53) (lv' := [(0, _), (1, _), (2, _), (3, _), (4, _)]) dX6_girth_53 rfl (nI_1 _) (nl rfl) rfl ?_
        refine g_goto (pc := 56) (tgt := 9) dX6_girth_56 rfl ?_
        exact g_sub (lv' := [(0, _), (1, _), (2, _), (3, _)]) ⟨rfl, rfl, rfl, rfl, trivial⟩ ih
      · rw [if_neg h41] at ih
        refine g_iload (pc := 44) dX6_girth_44 rfl ?_
        refine g_iload_n (pc := 46) dX6_girth_46 rfl ?_
        refine g_icmp_ge (pc := 47) (tgt := 53) dX6_girth_47 rfl (fun h47 => ?_) (fun h47 => ?_)
        · rw [if_pos h47] at ih
          refine g_iinc (pc := 53) (lv' := [(0, _), (1, _), (2, _), (3, _), (4, _)]) dX6_girth_53 rfl (nI_1 _) (nl rfl) rfl ?_
          refine g_goto (pc := 56) (tgt := 9) dX6_girth_56 rfl ?_
          exact g_sub (lv' := [(0, _), (1, _), (2, _), (3, _)]) ⟨rfl, rfl, rfl, rfl, trivial⟩ ih
        · rw [if_neg h47] at ih
          refine g_iload (pc := 50) dX6_girth_50 rfl ?_
          refine g_istore_n (pc := 52) (lv' := [(0, _), (1, _), (2, _), (3, _), (4, _)]) dX6_girth_52 (nl rfl) rfl ?_
          refine g_iinc (pc := 53) (lv' := [(0, _), (1, _), (2, _), (3, _), (4, _)]) dX6_girth_53 rfl (nI_1 _) (nl rfl) rfl ?_
          refine g_goto (pc := 56) (tgt := 9) dX6_girth_56 rfl ?_
          exact g_sub (lv' := [(0, _), (1, _), (2, _), (3, _)]) ⟨rfl, rfl, rfl, rfl, trivial⟩ ih
  · refine g_iload_n (pc := 9) dX6_girth_9 rfl ?_
    refine g_aload_n (pc := 10) dX6_girth_10 rfl trivial ?_
    refine g_getf (pc := 11) dX6_girth_11 fk_X6_19 (shK hS rfl) (fv_obj (shR hS rfl)) ?_
    refine g_getf (pc := 14) (v := .int _) dX6_girth_14 fk_X6_89 (shK hS rfl) (fun _ => congrArg Value.int (hz)) ?_
    refine g_icmp_ge (pc := 17) (tgt := 59) dX6_girth_17 rfl (fun _ => ?_) (fun h17 => absurd (nI_le (Nat.le_refl _) (by omega)) h17)
    refine g_iload_n (pc := 59) dX6_girth_59 rfl ?_
    refine g_ireturn (pc := 60) dX6_girth_60 rfl rfl ?_
    exact ⟨rfl, rfl⟩
theorem x_girth {v : Int32} (hS : Shp M) (h : ¬ inR v 6) : EvR l jX6_girth 7 120 1 6 [.ref 0, .int v] M (.inr xIO) M := by
  refine ev_intro rfl (nb rfl) rfl ?_
  refine g_aload_n (pc := 0) dX6_girth_0 rfl trivial ?_
  refine g_iload_n (pc := 1) dX6_girth_1 rfl ?_
  refine g_invV_x (pc := 2) (As := [_]) dX6_girth_2 rfl (x_needSlot hS h) rfl rfl (shK hS rfl) rfl rfl lk_X6_141 rfl (nb rfl) ⟨nb rfl, nb rfl⟩ rfl ?_
  exact ⟨rfl, rfl⟩
theorem q_loadErr (hS : Shp M) : EvR l jX6_loadError 0 0 0 0 [.ref 0] M (.inl (some (.int (mI M 1 5)))) M := by
  refine ev_intro rfl (nb rfl) rfl ?_
  refine g_aload_n (pc := 0) dX6_loadError_0 rfl trivial ?_
  refine g_getf (pc := 1) dX6_loadError_1 fk_X6_10 (shK hS rfl) (fv_obj (shR hS rfl)) ?_
  refine g_getf (pc := 4) (v := .int (mI _ _ _)) dX6_loadError_4 fk_X6_76 (shK hS rfl) (fun _ => rfl) ?_
  refine g_ireturn (pc := 7) dX6_loadError_7 rfl rfl ?_
  exact ⟨rfl, rfl⟩
theorem q_loadStatement (hS : Shp M) : EvR l jX6_loadStatement 0 0 0 0 [.ref 0] M (.inl (some (.int (if mI M 1 5 = 0 then -1 else mI M 1 4)))) M := by
  refine ev_intro rfl (nb rfl) rfl ?_
  refine g_aload_n (pc := 0) dX6_loadStatement_0 rfl trivial ?_
  refine g_getf (pc := 1) dX6_loadStatement_1 fk_X6_10 (shK hS rfl) (fv_obj (shR hS rfl)) ?_
  refine g_getf (pc := 4) (v := .int (mI _ _ _)) dX6_loadStatement_4 fk_X6_76 (shK hS rfl) (fun _ => rfl) ?_
  refine g_if_ne (pc := 7) (tgt := 14) dX6_loadStatement_7 rfl (fun h7 => ?_) (fun h7 => ?_)
  · rw [if_neg h7]
    refine g_aload_n (pc := 14) dX6_loadStatement_14 rfl trivial ?_
    refine g_getf (pc := 15) dX6_loadStatement_15 fk_X6_10 (shK hS rfl) (fv_obj (shR hS rfl)) ?_
    refine g_getf (pc := 18) (v := .int (mI _ _ _)) dX6_loadStatement_18 fk_X6_92 (shK hS rfl) (fun _ => rfl) ?_
    refine g_ireturn (pc := 21) dX6_loadStatement_21 rfl rfl ?_
    exact ⟨rfl, rfl⟩
  · rw [if_pos (Decidable.not_not.mp h7)]
    refine g_iconst (pc := 10) (v := (-1)) dX6_loadStatement_10 rfl ?_
    refine g_goto (pc := 11) (tgt := 21) dX6_loadStatement_11 rfl ?_
    refine g_ireturn (pc := 21) dX6_loadStatement_21 rfl rfl ?_
    exact ⟨rfl, rfl⟩
theorem q_append {x : Int64} {len : Nat} (hS : Shp M) (hl : mI M 1 1 = nI len) (hL : len ≤ 600) : EvR l jX6_append 1 30 0 0 [.ref 0, .long x] M (.inl (some (.int (apV M len x)))) (apM M len x) := by
  refine ev_intro rfl (nb rfl) rfl ?_
  refine g_aload_n (pc := 0) dX6_append_0 rfl trivial ?_
  refine g_getf (pc := 1) dX6_append_1 fk_X6_10 (shK hS rfl) (fv_obj (shR hS rfl)) ?_
  refine g_lload_n (pc := 4) dX6_append_4 rfl ?_
  refine g_invV_r (pc := 5) (As := [_]) dX6_append_5 rfl (r_addBytes hS hl hL) rfl rfl (shK hS rfl) rfl rfl lk_X6_68 rfl (nb rfl) ⟨nb rfl, nb rfl⟩ rfl ?_
  refine g_ireturn (pc := 8) dX6_append_8 rfl rfl ?_
  exact ⟨rfl, rfl⟩
end
end
-- 202.query
section
section
variable {l : Launch} {M : Mem}
def smF (f : Nat → Int32) (n : Nat) : Nat → Nat → Bool
  | 0, _ => true
  | d + 1, i => if f i = colOf f i n then smF f n d (i + 1) else false
theorem q_isSymmetric {s n : Nat} (hS : Shp M) (hz : mI M 3 1 = nI n) (hn : n ≤ 32) (hs : s < 6) : EvR l jX6_isSymmetric 7 120 1 6 [.ref 0, .int (nI s)] M (.inl (some (.int (b1 (smF (mI M (6 + 2 * s)) n n 0))))) M := by
  obtain ⟨S, hs9⟩ : ∃ S, S = smF (mI M (6 + 2 * s)) n n 0 := ⟨_, rfl⟩
  rw [← hs9]
  refine ev_intro rfl (nb rfl) rfl ?_
  refine g_aload_n (pc := 0) dX6_isSymmetric_0 rfl trivial ?_
  refine g_iload_n (pc := 1) dX6_isSymmetric_1 rfl ?_
  refine g_invV_r (pc := 2) (As := [_]) dX6_isSymmetric_2 rfl (s_needSlot (in6 hs)) rfl rfl (shK hS rfl) rfl rfl lk_X6_141 rfl (nb rfl) ⟨nb rfl, nb rfl⟩ rfl ?_
  refine g_aload_n (pc := 5) dX6_isSymmetric_5 rfl trivial ?_
  refine g_iload_n (pc := 6) dX6_isSymmetric_6 rfl ?_
  refine g_invV_r (pc := 7) (As := [_]) dX6_isSymmetric_7 rfl (s_rowsOf hS hs) rfl rfl (shK hS rfl) rfl rfl lk_X6_112 rfl (nb rfl) ⟨nb rfl, nb rfl⟩ rfl ?_
  refine g_astore_n (pc := 10) (lv' := [(0, _), (1, _), (2, _)]) dX6_isSymmetric_10 trivial (nl rfl) rfl ?_
  refine g_iconst (pc := 11) (v := 0) dX6_isSymmetric_11 rfl ?_
  refine g_istore_n (pc := 12) (lv' := [(0, _), (1, _), (2, _), (3, _)]) dX6_isSymmetric_12 (nl rfl) rfl ?_
  refine go_while (pc := 13) (σ := Nat) (fun i => i ≤ n ∧ smF (mI M (6 + 2 * s)) n (n - i) i = S) (fun i => n - i) (fun i => [(0, .ref 0), (1, .int (nI s)), (2, .ref (6 + 2 * s)), (3, .int (nI i))]) (fun _ => M) 0 ⟨rfl, rfl, rfl, rfl, trivial⟩ rfl ⟨Nat.zero_le _, hs9.symm⟩ ?_
  rintro i ⟨h1, h2⟩ ih
  by_cases hi : i < n
  · rw [show n - i = (n - (i + 1)) + 1 by omega, smF] at h2
    refine g_iload_n (pc := 13) dX6_isSymmetric_13 rfl ?_
    refine g_aload_n (pc := 14) dX6_isSymmetric_14 rfl trivial ?_
    refine g_getf (pc := 15) dX6_isSymmetric_15 fk_X6_19 (shK hS rfl) (fv_obj (shR hS rfl)) ?_
    refine g_getf (pc := 18) (v := .int _) dX6_isSymmetric_18 fk_X6_89 (shK hS rfl) (fun _ => congrArg Value.int (hz)) ?_
    refine g_icmp_ge (pc := 21) (tgt := 50) dX6_isSymmetric_21 rfl (fun h21 => absurd h21 (nI_ge hi (by omega))) (fun _ => ?_)
    refine g_aload_n (pc := 24) dX6_isSymmetric_24 rfl trivial ?_
    refine g_iload_n (pc := 25) dX6_isSymmetric_25 rfl ?_
    refine g_iaload (pc := 26) dX6_isSymmetric_26 (shK hS (rows_lay hs)) rfl (by omega) (nl rfl) ?_
    refine g_aload_n (pc := 27) dX6_isSymmetric_27 rfl trivial ?_
    refine g_iload_n (pc := 28) dX6_isSymmetric_28 rfl ?_
    refine g_aload_n (pc := 29) dX6_isSymmetric_29 rfl trivial ?_
    refine g_getf (pc := 30) dX6_isSymmetric_30 fk_X6_19 (shK hS rfl) (fv_obj (shR hS rfl)) ?_
    refine g_getf (pc := 33) (v := .int _) dX6_isSymmetric_33 fk_X6_89 (shK hS rfl) (fun _ => congrArg Value.int (hz)) ?_
    refine g_invS_r (pc := 36) (As := [_, _, _]) dX6_isSymmetric_36 rfl (s_columnOf (shK hS (rows_lay hs)) (show i < 32 by omega) hn) rfl rfl lk_X6_149 rfl (nb rfl) ⟨nb rfl, nb rfl⟩ rfl ?_
    refine g_icmp_eq (pc := 39) (tgt := 44) dX6_isSymmetric_39 rfl (fun h39 => ?_) (fun h39 => ?_)
    · rw [if_pos h39] at h2
      refine g_iinc (pc := 44) (lv' := [(0, _), (1, _), (2, _), (3, _)]) dX6_isSymmetric_44 rfl (nI_1 _) (nl rfl) rfl ?_
      refine g_goto (pc := 47) (tgt := 13) dX6_isSymmetric_47 rfl ?_
      exact ih (i + 1) ⟨by omega, h2⟩ (by omega)
    · rw [if_neg h39] at h2
      refine g_iconst (pc := 42) (v := 0) dX6_isSymmetric_42 rfl ?_
      refine g_ireturn (pc := 43) dX6_isSymmetric_43 rfl rfl ?_
      exact ⟨by rw [← h2]; rfl, rfl⟩
  · have hi' : i = n := by omega
    subst hi'
    refine g_iload_n (pc := 13) dX6_isSymmetric_13 rfl ?_
    refine g_aload_n (pc := 14) dX6_isSymmetric_14 rfl trivial ?_
    refine g_getf (pc := 15) dX6_isSymmetric_15 fk_X6_19 (shK hS rfl) (fv_obj (shR hS rfl)) ?_
    refine g_getf (pc := 18) (v := .int _) dX6_isSymmetric_18 fk_X6_89 (shK hS rfl) (fun _ => congrArg Value.int (hz)) ?_
    refine g_icmp_ge (pc := 21) (tgt := 50) dX6_isSymmetric_21 rfl (fun _ => ?_) (fun h21 => absurd (nI_le (Nat.le_refl _) (by omega)) h21)
    refine g_iconst (pc := 50) (v := 1) dX6_isSymmetric_50 rfl ?_
    refine g_ireturn (pc := 51) dX6_isSymmetric_51 rfl rfl ?_
    exact ⟨by rw [← h2, Nat.sub_self]; rfl, rfl⟩
theorem x_isSymmetric {v : Int32} (hS : Shp M) (h : ¬ inR v 6) : EvR l jX6_isSymmetric 7 120 1 6 [.ref 0, .int v] M (.inr xIO) M := by
  refine ev_intro rfl (nb rfl) rfl ?_
  refine g_aload_n (pc := 0) dX6_isSymmetric_0 rfl trivial ?_
  refine g_iload_n (pc := 1) dX6_isSymmetric_1 rfl ?_
  refine g_invV_x (pc := 2) (As := [_]) dX6_isSymmetric_2 rfl (x_needSlot hS h) rfl rfl (shK hS rfl) rfl rfl lk_X6_141 rfl (nb rfl) ⟨nb rfl, nb rfl⟩ rfl ?_
  exact ⟨rfl, rfl⟩
/-- the node at a place of an order: d places are left, p is the place, y what is left -/
def orF (f : Nat → Int32) (n : Nat) (x : Int32) : Nat → Nat → Int32 → Int32
  | 0, _, _ => -1
  | d + 1, p, y => if y &&& (jrF f y n ^^^ -1) = 0 then -1 else if nI p = x then nI (lowN (y &&& (jrF f y n ^^^ -1))) else orF f n x d (p + 1) (y &&& (bitI (lowN (y &&& (jrF f y n ^^^ -1))) ^^^ -1))
theorem q_order {s n : Nat} {x : Int32} (hS : Shp M) (hz : mI M 3 1 = nI n) (hn : n ≤ 32) (hs : s < 6) : EvR l jX6_order 7 120 1 6 [.ref 0, .int (nI s), .int x] M (.inl (some (.int (orF (mI M (6 + 2 * s)) n x n 0 (lowM n))))) M := by
  obtain ⟨S, hs9⟩ : ∃ S, S = orF (mI M (6 + 2 * s)) n x n 0 (lowM n) := ⟨_, rfl⟩
  rw [← hs9]
  refine ev_intro rfl (nb rfl) rfl ?_
  refine g_aload_n (pc := 0) dX6_order_0 rfl trivial ?_
  refine g_iload_n (pc := 1) dX6_order_1 rfl ?_
  refine g_invV_r (pc := 2) (As := [_]) dX6_order_2 rfl (s_needSlot (in6 hs)) rfl rfl (shK hS rfl) rfl rfl lk_X6_141 rfl (nb rfl) ⟨nb rfl, nb rfl⟩ rfl ?_
  refine g_aload_n (pc := 5) dX6_order_5 rfl trivial ?_
  refine g_getf (pc := 6) dX6_order_6 fk_X6_19 (shK hS rfl) (fv_obj (shR hS rfl)) ?_
  refine g_getf (pc := 9) (v := .int _) dX6_order_9 fk_X6_89 (shK hS rfl) (fun _ => congrArg Value.int (hz)) ?_
  refine g_invS_r (pc := 12) (As := [_]) dX6_order_12 rfl (s_lowest hn) rfl rfl lk_X6_128 rfl (nb rfl) ⟨nb rfl, nb rfl⟩ rfl ?_
  refine g_istore_n (pc := 15) (lv' := [(0, _), (1, _), (2, _), (3, _)]) dX6_order_15 (nl rfl) rfl ?_
  refine g_iconst (pc := 16) (v := 0) dX6_order_16 rfl ?_
  refine g_istore (pc := 17) (lv' := [(0, _), (1, _), (2, _), (3, _), (4, _)]) dX6_order_17 (nl rfl) rfl ?_
  refine go_while (pc := 19) (σ := Nat × Int32) (fun q => q.1 ≤ n ∧ orF (mI M (6 + 2 * s)) n x (n - q.1) q.1 q.2 = S) (fun q => n - q.1) (fun q => [(0, .ref 0), (1, .int (nI s)), (2, .int x), (3, .int q.2), (4, .int (nI q.1))]) (fun _ => M) (0, lowM n) ⟨rfl, rfl, rfl, rfl, rfl, trivial⟩ rfl ⟨Nat.zero_le _, hs9.symm⟩ ?_
  rintro ⟨i, y⟩ ⟨h1, h2⟩ ih
  simp only at h1 h2 ih
  by_cases hi : i < n
  · rw [show n - i = (n - (i + 1)) + 1 by omega, orF] at h2
    have ih1 := fun y' => ih (i + 1, y')
    refine g_iload (pc := 19) dX6_order_19 rfl ?_
    refine g_aload_n (pc := 21) dX6_order_21 rfl trivial ?_
    refine g_getf (pc := 22) dX6_order_22 fk_X6_19 (shK hS rfl) (fv_obj (shR hS rfl)) ?_
    refine g_getf (pc := 25) (v := .int _) dX6_order_25 fk_X6_89 (shK hS rfl) (fun _ => congrArg Value.int (hz)) ?_
    refine g_icmp_ge (pc := 28) (tgt := 85) dX6_order_28 rfl (fun h28 => absurd h28 (nI_ge hi (by omega))) (fun _ => ?_)
    refine g_iload_n (pc := 31) dX6_order_31 rfl ?_
    refine g_aload_n (pc := 32) dX6_order_32 rfl trivial ?_
    refine g_aload_n (pc := 33) dX6_order_33 rfl trivial ?_
    refine g_iload_n (pc := 34) dX6_order_34 rfl ?_
    refine g_invV_r (pc := 35) (As := [_]) dX6_order_35 rfl (s_rowsOf hS hs) rfl rfl (shK hS rfl) rfl rfl lk_X6_112 rfl (nb rfl) ⟨nb rfl, nb rfl⟩ rfl ?_
    refine g_iload_n (pc := 38) dX6_order_38 rfl ?_
    refine g_invV_r (pc := 39) (As := [_, _]) dX6_order_39 rfl (s_joinedRows hS (shK hS (rows_lay hs)) hz hn) rfl rfl (shK hS rfl) rfl rfl lk_X6_189 rfl (nb rfl) ⟨nb rfl, nb rfl⟩ rfl ?_
    refine g_iconst (pc := 42) (v := (-1)) dX6_order_42 rfl ?_
    refine g_ixor (pc := 43) dX6_order_43 ?_
    refine g_iand (pc := 44) dX6_order_44 ?_
    refine g_istore (pc := 45) (lv' := [(0, _), (1, _), (2, _), (3, _), (4, _), (5, _)]) dX6_order_45 (nl rfl) rfl ?_
    refine g_iload (pc := 47) dX6_order_47 rfl ?_
    refine g_if_ne (pc := 49) (tgt := 54) dX6_order_49 rfl (fun h49 => ?_) (fun h49 => ?_)
    · rw [if_neg h49] at h2
      refine g_iload (pc := 54) dX6_order_54 rfl ?_
      refine g_invS_r (pc := 56) (As := [_]) dX6_order_56 rfl (s_lowestOne) rfl rfl lk_X6_186 rfl (nb rfl) ⟨nb rfl, nb rfl⟩ rfl ?_
      refine g_istore (pc := 59) (lv' := [(0, _), (1, _), (2, _), (3, _), (4, _), (5, _), (6, _)]) dX6_order_59 (nl rfl) rfl ?_
      refine g_iload (pc := 61) dX6_order_61 rfl ?_
      refine g_iload_n (pc := 63) dX6_order_63 rfl ?_
      refine g_icmp_ne (pc := 64) (tgt := 70) dX6_order_64 rfl (fun h64 => ?_) (fun h64 => ?_)
      · rw [if_neg h64] at h2
        refine g_iload_n (pc := 70) dX6_order_70 rfl ?_
        refine g_iconst (pc := 71) (v := 1) dX6_order_71 rfl ?_
        refine g_iload (pc := 72) dX6_order_72 rfl ?_
        refine g_ishl (pc := 74) dX6_order_74 ?_
        refine g_iconst (pc := 75) (v := (-1)) dX6_order_75 rfl ?_
        refine g_ixor (pc := 76) dX6_order_76 ?_
        refine g_iand (pc := 77) dX6_order_77 ?_
        refine g_istore_n (pc := 78) (lv' := [(0, _), (1, _), (2, _), (3, _), (4, _), (5, _), (6, _)]) dX6_order_78 (nl rfl) rfl ?_
        refine g_iinc (pc := 79) (lv' := [(0, _), (1, _), (2, _), (3, _), (4, _), (5, _), (6, _)]) dX6_order_79 rfl (nI_1 _) (nl rfl) rfl ?_
        refine g_goto (pc := 82) (tgt := 19) dX6_order_82 rfl ?_
        exact g_sub (lv' := [(0, _), (1, _), (2, _), (3, _), (4, _)]) ⟨rfl, rfl, rfl, rfl, rfl, trivial⟩ (ih1 _ ⟨by simp only; omega, h2⟩ (by simp only; omega))
      · rw [if_pos (Decidable.not_not.mp h64)] at h2
        refine g_iload (pc := 67) dX6_order_67 rfl ?_
        refine g_ireturn (pc := 69) dX6_order_69 rfl rfl ?_
        exact ⟨by rw [← h2], rfl⟩
    · rw [if_pos (Decidable.not_not.mp h49)] at h2
      refine g_iconst (pc := 52) (v := (-1)) dX6_order_52 rfl ?_
      refine g_ireturn (pc := 53) dX6_order_53 rfl rfl ?_
      exact ⟨by rw [← h2], rfl⟩
  · have hi' : i = n := by omega
    subst hi'
    refine g_iload (pc := 19) dX6_order_19 rfl ?_
    refine g_aload_n (pc := 21) dX6_order_21 rfl trivial ?_
    refine g_getf (pc := 22) dX6_order_22 fk_X6_19 (shK hS rfl) (fv_obj (shR hS rfl)) ?_
    refine g_getf (pc := 25) (v := .int _) dX6_order_25 fk_X6_89 (shK hS rfl) (fun _ => congrArg Value.int (hz)) ?_
    refine g_icmp_ge (pc := 28) (tgt := 85) dX6_order_28 rfl (fun _ => ?_) (fun h28 => absurd (nI_le (Nat.le_refl _) (by omega)) h28)
    refine g_iconst (pc := 85) (v := (-1)) dX6_order_85 rfl ?_
    refine g_ireturn (pc := 86) dX6_order_86 rfl rfl ?_
    exact ⟨by rw [← h2, Nat.sub_self]; rfl, rfl⟩
theorem x_order {v x : Int32} (hS : Shp M) (h : ¬ inR v 6) : EvR l jX6_order 7 120 1 6 [.ref 0, .int v, .int x] M (.inr xIO) M := by
  refine ev_intro rfl (nb rfl) rfl ?_
  refine g_aload_n (pc := 0) dX6_order_0 rfl trivial ?_
  refine g_iload_n (pc := 1) dX6_order_1 rfl ?_
  refine g_invV_x (pc := 2) (As := [_]) dX6_order_2 rfl (x_needSlot hS h) rfl rfl (shK hS rfl) rfl rfl lk_X6_141 rfl (nb rfl) ⟨nb rfl, nb rfl⟩ rfl ?_
  exact ⟨rfl, rfl⟩
theorem q_gained {s a b n : Nat} (hS : Shp M) (hz : mI M 3 1 = nI n) (hn : n ≤ 32) (hs : s < 6) (ha : a < n) (hb9 : b < n) : EvR l jX6_gained 9 160 3 18 [.ref 0, .int (nI s), .int (nI a), .int (nI b)] M (.inl (some (.int (gainW (mI (clOf M s n) (175 + 2 * s + 1)) (nodesTo (mI (clOf M s n) (175 + 2 * s + 1)) a n) b n)))) (clOf M s n) := by
  have hS1 := clOf_S hS s n
  have hc := cl_ok' s hs
  have hz1 := clOf_z hz hs
  refine ev_intro rfl (nb rfl) rfl ?_
  refine g_aload_n (pc := 0) dX6_gained_0 rfl trivial ?_
  refine g_iload_n (pc := 1) dX6_gained_1 rfl ?_
  refine g_iload_n (pc := 2) dX6_gained_2 rfl ?_
  refine g_iload_n (pc := 3) dX6_gained_3 rfl ?_
  refine g_invV_r (pc := 4) (As := [_, _, _]) dX6_gained_4 rfl (s_needCell hS hz (in6 hs) (inR_nI ha (by omega)) (inR_nI hb9 (by omega))) rfl rfl (shK hS rfl) rfl rfl lk_X6_109 rfl (nb rfl) ⟨nb rfl, nb rfl⟩ rfl ?_
  refine g_aload_n (pc := 7) dX6_gained_7 rfl trivial ?_
  refine g_iload_n (pc := 8) dX6_gained_8 rfl ?_
  refine g_invV_r (pc := 9) (As := [_]) dX6_gained_9 rfl (s_closureOf hS hs hz hn) rfl rfl (shK hS rfl) rfl rfl lk_X6_162 rfl (nb rfl) ⟨nb rfl, nb rfl⟩ rfl ?_
  refine g_astore (pc := 12) (lv' := [(0, _), (1, _), (2, _), (3, _), (4, _)]) dX6_gained_12 trivial (nl rfl) rfl ?_
  refine g_aload (pc := 14) dX6_gained_14 rfl trivial ?_
  refine g_aload (pc := 16) dX6_gained_16 rfl trivial ?_
  refine g_iload_n (pc := 18) dX6_gained_18 rfl ?_
  refine g_aload_n (pc := 19) dX6_gained_19 rfl trivial ?_
  refine g_getf (pc := 20) dX6_gained_20 fk_X6_19 (shK hS1 rfl) (fv_obj (shR hS1 rfl)) ?_
  refine g_getf (pc := 23) (v := .int _) dX6_gained_23 fk_X6_89 (shK hS1 rfl) (fun _ => congrArg Value.int (hz1)) ?_
  refine g_invV_r (pc := 26) (As := [_, _]) dX6_gained_26 rfl (s_nodesTo hS1 hc (by omega) hn) rfl rfl (shK hS1 hc.1) rfl rfl lk_X6_192 rfl (nb rfl) ⟨nb rfl, nb rfl⟩ rfl ?_
  refine g_iload_n (pc := 29) dX6_gained_29 rfl ?_
  refine g_aload_n (pc := 30) dX6_gained_30 rfl trivial ?_
  refine g_getf (pc := 31) dX6_gained_31 fk_X6_19 (shK hS1 rfl) (fv_obj (shR hS1 rfl)) ?_
  refine g_getf (pc := 34) (v := .int _) dX6_gained_34 fk_X6_89 (shK hS1 rfl) (fun _ => congrArg Value.int (hz1)) ?_
  refine g_invV_r (pc := 37) (As := [_, _, _]) dX6_gained_37 rfl (s_gainWith hS1 hc (by omega) hn) rfl rfl (shK hS1 hc.1) rfl rfl lk_X6_195 rfl (nb rfl) ⟨nb rfl, nb rfl⟩ rfl ?_
  refine g_ireturn (pc := 40) dX6_gained_40 rfl rfl ?_
  exact ⟨rfl, rfl⟩
theorem x_gained {v w u : Int32} {n : Nat} (hS : Shp M) (hz : mI M 3 1 = nI n) (h : ¬ (inR v 6 ∧ inR w n ∧ inR u n)) : EvR l jX6_gained 9 160 3 18 [.ref 0, .int v, .int w, .int u] M (.inr xIO) M := by
  refine ev_intro rfl (nb rfl) rfl ?_
  refine g_aload_n (pc := 0) dX6_gained_0 rfl trivial ?_
  refine g_iload_n (pc := 1) dX6_gained_1 rfl ?_
  refine g_iload_n (pc := 2) dX6_gained_2 rfl ?_
  refine g_iload_n (pc := 3) dX6_gained_3 rfl ?_
  refine g_invV_x (pc := 4) (As := [_, _, _]) dX6_gained_4 rfl (x_needCell hS hz h) rfl rfl (shK hS rfl) rfl rfl lk_X6_109 rfl (nb rfl) ⟨nb rfl, nb rfl⟩ rfl ?_
  exact ⟨rfl, rfl⟩
def loV (M : Mem) (s a b n : Nat) : Int32 := lossB (mI (clOf (lwMem M s a b n) s n) (176 + 2 * s)) (mI (lwMem M s a b n) 195) a b n
def loM (M : Mem) (s a b n : Nat) : Mem := clOf (lwMem M s a b n) s n
theorem q_lost {s a b n : Nat} (hS : Shp M) (hz : mI M 3 1 = nI n) (hn : n ≤ 32) (hs : s < 6) (ha : a < n) (hb9 : b < n) : EvR l jX6_lost 9 190 3 18 [.ref 0, .int (nI s), .int (nI a), .int (nI b)] M (.inl (some (.int (if hb (mI M (6 + 2 * s) a) b = true then loV M s a b n else -1)))) (if hb (mI M (6 + 2 * s) a) b = true then loM M s a b n else M) := by
  refine ev_intro rfl (nb rfl) rfl ?_
  unfold loV loM
  refine g_aload_n (pc := 0) dX6_lost_0 rfl trivial ?_
  refine g_iload_n (pc := 1) dX6_lost_1 rfl ?_
  refine g_iload_n (pc := 2) dX6_lost_2 rfl ?_
  refine g_iload_n (pc := 3) dX6_lost_3 rfl ?_
  refine g_invV_r (pc := 4) (As := [_, _, _]) dX6_lost_4 rfl (s_needCell hS hz (in6 hs) (inR_nI ha (by omega)) (inR_nI hb9 (by omega))) rfl rfl (shK hS rfl) rfl rfl lk_X6_109 rfl (nb rfl) ⟨nb rfl, nb rfl⟩ rfl ?_
  refine g_aload_n (pc := 7) dX6_lost_7 rfl trivial ?_
  refine g_iload_n (pc := 8) dX6_lost_8 rfl ?_
  refine g_invV_r (pc := 9) (As := [_]) dX6_lost_9 rfl (s_rowsOf hS hs) rfl rfl (shK hS rfl) rfl rfl lk_X6_112 rfl (nb rfl) ⟨nb rfl, nb rfl⟩ rfl ?_
  refine g_iload_n (pc := 12) dX6_lost_12 rfl ?_
  refine g_iaload (pc := 13) dX6_lost_13 (shK hS (rows_lay hs)) rfl (by omega) (nl rfl) ?_
  refine g_iload_n (pc := 14) dX6_lost_14 rfl ?_
  refine g_invS_r (pc := 15) (As := [_, _]) dX6_lost_15 rfl (s_hasOne (by omega)) rfl rfl lk_X6_116 rfl (nb rfl) ⟨nb rfl, nb rfl⟩ rfl ?_
  refine g_if_eq (pc := 18) (tgt := 31) dX6_lost_18 rfl (fun h18 => ?_) (fun h18 => ?_)
  · rw [b1_0] at h18
    rw [if_neg (by rw [h18]; decide), if_neg (by rw [h18]; decide)]
    refine g_iconst (pc := 31) (v := (-1)) dX6_lost_31 rfl ?_
    refine g_ireturn (pc := 32) dX6_lost_32 rfl rfl ?_
    exact ⟨rfl, rfl⟩
  · rw [b1_0, Bool.not_eq_false] at h18
    rw [if_pos h18, if_pos h18]
    refine g_aload_n (pc := 21) dX6_lost_21 rfl trivial ?_
    refine g_iload_n (pc := 22) dX6_lost_22 rfl ?_
    refine g_iload_n (pc := 23) dX6_lost_23 rfl ?_
    refine g_iload_n (pc := 24) dX6_lost_24 rfl ?_
    refine g_invV_r (pc := 25) (As := [_, _, _]) dX6_lost_25 rfl (s_lossWithout hS hs hz hn ha hb9) rfl rfl (shK hS rfl) rfl rfl lk_X6_198 rfl (nb rfl) ⟨nb rfl, nb rfl⟩ rfl ?_
    refine g_goto (pc := 28) (tgt := 32) dX6_lost_28 rfl ?_
    refine g_ireturn (pc := 32) dX6_lost_32 rfl rfl ?_
    exact ⟨rfl, rfl⟩
theorem x_lost {v w u : Int32} {n : Nat} (hS : Shp M) (hz : mI M 3 1 = nI n) (h : ¬ (inR v 6 ∧ inR w n ∧ inR u n)) : EvR l jX6_lost 9 190 3 18 [.ref 0, .int v, .int w, .int u] M (.inr xIO) M := by
  refine ev_intro rfl (nb rfl) rfl ?_
  refine g_aload_n (pc := 0) dX6_lost_0 rfl trivial ?_
  refine g_iload_n (pc := 1) dX6_lost_1 rfl ?_
  refine g_iload_n (pc := 2) dX6_lost_2 rfl ?_
  refine g_iload_n (pc := 3) dX6_lost_3 rfl ?_
  refine g_invV_x (pc := 4) (As := [_, _, _]) dX6_lost_4 rfl (x_needCell hS hz h) rfl rfl (shK hS rfl) rfl rfl lk_X6_109 rfl (nb rfl) ⟨nb rfl, nb rfl⟩ rfl ?_
  exact ⟨rfl, rfl⟩
def trI (f : Nat → Int32) (n a : Nat) (x : Int32) : Nat → Int32
  | 0 => x
  | k + 1 => if a = k then trI f n a x k else if hb (f a) k = true then trI f n a x k + bcJ (f k &&& (colOf f a n &&& (bitI a ^^^ -1)) &&& (bitI k ^^^ -1)) else trI f n a x k
def trO (f : Nat → Int32) (n : Nat) : Nat → Int32
  | 0 => 0
  | k + 1 => trI f n k (trO f n k) n
theorem q_triangles {s n : Nat} (hS : Shp M) (hz : mI M 3 1 = nI n) (hn : n ≤ 32) (hs : s < 6) : EvR l jX6_triangles 7 120 1 6 [.ref 0, .int (nI s)] M (.inl (some (.int (trO (mI M (6 + 2 * s)) n n)))) M := by
  refine ev_intro rfl (nb rfl) rfl ?_
  refine g_aload_n (pc := 0) dX6_triangles_0 rfl trivial ?_
  refine g_iload_n (pc := 1) dX6_triangles_1 rfl ?_
  refine g_invV_r (pc := 2) (As := [_]) dX6_triangles_2 rfl (s_needSlot (in6 hs)) rfl rfl (shK hS rfl) rfl rfl lk_X6_141 rfl (nb rfl) ⟨nb rfl, nb rfl⟩ rfl ?_
  refine g_aload_n (pc := 5) dX6_triangles_5 rfl trivial ?_
  refine g_iload_n (pc := 6) dX6_triangles_6 rfl ?_
  refine g_invV_r (pc := 7) (As := [_]) dX6_triangles_7 rfl (s_rowsOf hS hs) rfl rfl (shK hS rfl) rfl rfl lk_X6_112 rfl (nb rfl) ⟨nb rfl, nb rfl⟩ rfl ?_
  refine g_astore_n (pc := 10) (lv' := [(0, _), (1, _), (2, _)]) dX6_triangles_10 trivial (nl rfl) rfl ?_
  refine g_iconst (pc := 11) (v := 0) dX6_triangles_11 rfl ?_
  refine g_istore_n (pc := 12) (lv' := [(0, _), (1, _), (2, _), (3, _)]) dX6_triangles_12 (nl rfl) rfl ?_
  refine g_iconst (pc := 13) (v := 0) dX6_triangles_13 rfl ?_
  refine g_istore (pc := 14) (lv' := [(0, _), (1, _), (2, _), (3, _), (4, _)]) dX6_triangles_14 (nl rfl) rfl ?_
  refine go_loop (pc := 16) n (fun i => [(0, .ref 0), (1, .int (nI s)), (2, .ref (6 + 2 * s)), (3, .int (trO (mI M (6 + 2 * s)) n i)), (4, .int (nI i))]) (fun i => M) ⟨rfl, rfl, rfl, rfl, rfl, trivial⟩ rfl ?_ ?_
  · intro a ha ih
    generalize trO (mI M (6 + 2 * s)) n n = X at ih ⊢
    rw [trO] at ih
    generalize trO (mI M (6 + 2 * s)) n a = x0 at ih ⊢
    refine g_iload (pc := 16) dX6_triangles_16 rfl ?_
    refine g_aload_n (pc := 18) dX6_triangles_18 rfl trivial ?_
    refine g_getf (pc := 19) dX6_triangles_19 fk_X6_19 (shK hS rfl) (fv_obj (shR hS rfl)) ?_
    refine g_getf (pc := 22) (v := .int _) dX6_triangles_22 fk_X6_89 (shK hS rfl) (fun _ => congrArg Value.int (hz)) ?_
    refine g_icmp_ge (pc := 25) (tgt := 116) dX6_triangles_25 rfl (fun h25 => absurd h25 (nI_ge ha (by omega))) (fun _ => ?_)
    refine g_aload_n (pc := 28) dX6_triangles_28 rfl trivial ?_
    refine g_iload (pc := 29) dX6_triangles_29 rfl ?_
    refine g_aload_n (pc := 31) dX6_triangles_31 rfl trivial ?_
    refine g_getf (pc := 32) dX6_triangles_32 fk_X6_19 (shK hS rfl) (fv_obj (shR hS rfl)) ?_
    refine g_getf (pc := 35) (v := .int _) dX6_triangles_35 fk_X6_89 (shK hS rfl) (fun _ => congrArg Value.int (hz)) ?_
    refine g_invS_r (pc := 38) (As := [_, _, _]) dX6_triangles_38 rfl (s_columnOf (shK hS (rows_lay hs)) (show a < 32 by omega) hn) rfl rfl lk_X6_149 rfl (nb rfl) ⟨nb rfl, nb rfl⟩ rfl ?_
    refine g_iconst (pc := 41) (v := 1) dX6_triangles_41 rfl ?_
    refine g_iload (pc := 42) dX6_triangles_42 rfl ?_
    refine g_ishl (pc := 44) dX6_triangles_44 ?_
    refine g_iconst (pc := 45) (v := (-1)) dX6_triangles_45 rfl ?_
    refine g_ixor (pc := 46) dX6_triangles_46 ?_
    refine g_iand (pc := 47) dX6_triangles_47 ?_
    refine g_istore (pc := 48) (lv' := [(0, _), (1, _), (2, _), (3, _), (4, _), (5, _)]) dX6_triangles_48 (nl rfl) rfl ?_
    refine g_iconst (pc := 50) (v := 0) dX6_triangles_50 rfl ?_
    refine g_istore (pc := 51) (lv' := [(0, _), (1, _), (2, _), (3, _), (4, _), (5, _), (6, _)]) dX6_triangles_51 (nl rfl) rfl ?_
    refine go_loop (pc := 53) n (fun i => [(0, .ref 0), (1, .int (nI s)), (2, .ref (6 + 2 * s)), (3, .int (trI (mI M (6 + 2 * s)) n a x0 i)), (4, .int (nI a)), (5, .int (colOf (mI M (6 + 2 * s)) a n &&& (bitI a ^^^ -1))), (6, .int (nI i))]) (fun i => M) ⟨rfl, rfl, rfl, rfl, rfl, rfl, rfl, trivial⟩ rfl ?_ ?_
    · intro i hi ih2
      generalize trI (mI M (6 + 2 * s)) n a x0 n = Y at ih ⊢
      rw [trI] at ih2
      refine g_iload (pc := 53) dX6_triangles_53 rfl ?_
      refine g_aload_n (pc := 55) dX6_triangles_55 rfl trivial ?_
      refine g_getf (pc := 56) dX6_triangles_56 fk_X6_19 (shK hS rfl) (fv_obj (shR hS rfl)) ?_
      refine g_getf (pc := 59) (v := .int _) dX6_triangles_59 fk_X6_89 (shK hS rfl) (fun _ => congrArg Value.int (hz)) ?_
      refine g_icmp_ge (pc := 62) (tgt := 110) dX6_triangles_62 rfl (fun h62 => absurd h62 (nI_ge hi (by omega))) (fun _ => ?_)
      refine g_iload (pc := 65) dX6_triangles_65 rfl ?_
      refine g_iload (pc := 67) dX6_triangles_67 rfl ?_
      refine g_icmp_eq (pc := 69) (tgt := 104) dX6_triangles_69 rfl (fun h69 => ?_) (fun h69 => ?_)
      · rw [if_pos ((nI_eq (by omega) (by omega)).mp h69)] at ih2
        refine g_iinc (pc := 104) (lv' := [(0, _), (1, _), (2, _), (3, _), (4, _), (5, _), (6, _)]) dX6_triangles_104 rfl (nI_1 _) (nl rfl) rfl ?_
        refine g_goto (pc := 107) (tgt := 53) dX6_triangles_107 rfl ?_
        exact ih2
      · rw [if_neg (fun h => h69 (by rw [h]))] at ih2
        refine g_aload_n (pc := 72) dX6_triangles_72 rfl trivial ?_
        refine g_iload (pc := 73) dX6_triangles_73 rfl ?_
        refine g_iaload (pc := 75) dX6_triangles_75 (shK hS (rows_lay hs)) rfl (by omega) (nl rfl) ?_
        refine g_iload (pc := 76) dX6_triangles_76 rfl ?_
        refine g_invS_r (pc := 78) (As := [_, _]) dX6_triangles_78 rfl (s_hasOne (by omega)) rfl rfl lk_X6_116 rfl (nb rfl) ⟨nb rfl, nb rfl⟩ rfl ?_
        refine g_if_eq (pc := 81) (tgt := 104) dX6_triangles_81 rfl (fun h81 => ?_) (fun h81 => ?_)
        · rw [b1_0] at h81
          rw [if_neg (by rw [h81]; decide)] at ih2
          refine g_iinc (pc := 104) (lv' := [(0, _), (1, _), (2, _), (3, _), (4, _), (5, _), (6, _)]) dX6_triangles_104 rfl (nI_1 _) (nl rfl) rfl ?_
          refine g_goto (pc := 107) (tgt := 53) dX6_triangles_107 rfl ?_
          exact ih2
        · rw [b1_0, Bool.not_eq_false] at h81
          rw [if_pos h81] at ih2
          refine g_iload_n (pc := 84) dX6_triangles_84 rfl ?_
          refine g_aload_n (pc := 85) dX6_triangles_85 rfl trivial ?_
          refine g_iload (pc := 86) dX6_triangles_86 rfl ?_
          refine g_iaload (pc := 88) dX6_triangles_88 (shK hS (rows_lay hs)) rfl (by omega) (nl rfl) ?_
          refine g_iload (pc := 89) dX6_triangles_89 rfl ?_
          refine g_iand (pc := 91) dX6_triangles_91 ?_
          refine g_iconst (pc := 92) (v := 1) dX6_triangles_92 rfl ?_
          refine g_iload (pc := 93) dX6_triangles_93 rfl ?_
          refine g_ishl (pc := 95) dX6_triangles_95 ?_
          refine g_iconst (pc := 96) (v := (-1)) dX6_triangles_96 rfl ?_
          refine g_ixor (pc := 97) dX6_triangles_97 ?_
          refine g_iand (pc := 98) dX6_triangles_98 ?_
          refine g_invS_r (pc := 99) (As := [_]) dX6_triangles_99 rfl (s_bitCount) rfl rfl lk_X6_132 rfl (nb rfl) ⟨nb rfl, nb rfl⟩ rfl ?_
          refine g_iadd (pc := 102) dX6_triangles_102 ?_
          refine g_istore_n (pc := 103) (lv' := [(0, _), (1, _), (2, _), (3, _), (4, _), (5, _), (6, _)]) dX6_triangles_103 (nl rfl) rfl ?_
          refine g_iinc (pc := 104) (lv' := [(0, _), (1, _), (2, _), (3, _), (4, _), (5, _), (6, _)]) dX6_triangles_104 rfl (nI_1 _) (nl rfl) rfl ?_
          refine g_goto (pc := 107) (tgt := 53) dX6_triangles_107 rfl ?_
          exact ih2
    · refine g_iload (pc := 53) dX6_triangles_53 rfl ?_
      refine g_aload_n (pc := 55) dX6_triangles_55 rfl trivial ?_
      refine g_getf (pc := 56) dX6_triangles_56 fk_X6_19 (shK hS rfl) (fv_obj (shR hS rfl)) ?_
      refine g_getf (pc := 59) (v := .int _) dX6_triangles_59 fk_X6_89 (shK hS rfl) (fun _ => congrArg Value.int (hz)) ?_
      refine g_icmp_ge (pc := 62) (tgt := 110) dX6_triangles_62 rfl (fun _ => ?_) (fun h62 => absurd (nI_le (Nat.le_refl _) (by omega)) h62)
      refine g_iinc (pc := 110) (lv' := [(0, _), (1, _), (2, _), (3, _), (4, _), (5, _), (6, _)]) dX6_triangles_110 rfl (nI_1 _) (nl rfl) rfl ?_
      refine g_goto (pc := 113) (tgt := 16) dX6_triangles_113 rfl ?_
      exact g_sub (lv' := [(0, _), (1, _), (2, _), (3, _), (4, _)]) ⟨rfl, rfl, rfl, rfl, rfl, trivial⟩ ih
  · refine g_iload (pc := 16) dX6_triangles_16 rfl ?_
    refine g_aload_n (pc := 18) dX6_triangles_18 rfl trivial ?_
    refine g_getf (pc := 19) dX6_triangles_19 fk_X6_19 (shK hS rfl) (fv_obj (shR hS rfl)) ?_
    refine g_getf (pc := 22) (v := .int _) dX6_triangles_22 fk_X6_89 (shK hS rfl) (fun _ => congrArg Value.int (hz)) ?_
    refine g_icmp_ge (pc := 25) (tgt := 116) dX6_triangles_25 rfl (fun _ => ?_) (fun h25 => absurd (nI_le (Nat.le_refl _) (by omega)) h25)
    refine g_iload_n (pc := 116) dX6_triangles_116 rfl ?_
    refine g_ireturn (pc := 117) dX6_triangles_117 rfl rfl ?_
    exact ⟨rfl, rfl⟩
theorem x_triangles {v : Int32} (hS : Shp M) (h : ¬ inR v 6) : EvR l jX6_triangles 7 120 1 6 [.ref 0, .int v] M (.inr xIO) M := by
  refine ev_intro rfl (nb rfl) rfl ?_
  refine g_aload_n (pc := 0) dX6_triangles_0 rfl trivial ?_
  refine g_iload_n (pc := 1) dX6_triangles_1 rfl ?_
  refine g_invV_x (pc := 2) (As := [_]) dX6_triangles_2 rfl (x_needSlot hS h) rfl rfl (shK hS rfl) rfl rfl lk_X6_141 rfl (nb rfl) ⟨nb rfl, nb rfl⟩ rfl ?_
  exact ⟨rfl, rfl⟩
theorem q_count0 (hS : Shp M) : EvR l jX6_count 7 120 1 6 [.ref 0, .int 0] M (.inl (some (.int (mI M 3 1)))) M := by
  refine ev_intro rfl (nb rfl) rfl ?_
  refine g_aload_n (pc := 0) dX6_count_0 rfl trivial ?_
  refine g_iload_n (pc := 1) dX6_count_1 rfl ?_
  refine g_iconst (pc := 2) (v := 0) dX6_count_2 rfl ?_
  refine g_iconst (pc := 3) (v := 3) dX6_count_3 rfl ?_
  refine g_invV_r (pc := 4) (As := [_, _, _]) dX6_count_4 rfl (s_needRange (by decide) (by decide)) rfl rfl (shK hS rfl) rfl rfl lk_X6_95 rfl (nb rfl) ⟨nb rfl, nb rfl⟩ rfl ?_
  refine g_iload_n (pc := 7) dX6_count_7 rfl ?_
  refine g_tableIn (pc := 8) (tgt := 36) (off := 28) dX6_count_8 (by decide) (by decide) (by decide) (by decide) ?_
  refine g_aload_n (pc := 36) dX6_count_36 rfl trivial ?_
  refine g_getf (pc := 37) dX6_count_37 fk_X6_19 (shK hS rfl) (fv_obj (shR hS rfl)) ?_
  refine g_getf (pc := 40) (v := .int (mI _ _ _)) dX6_count_40 fk_X6_89 (shK hS rfl) (fun _ => rfl) ?_
  refine g_ireturn (pc := 43) dX6_count_43 rfl rfl ?_
  exact ⟨rfl, rfl⟩
theorem q_count1 (hS : Shp M) : EvR l jX6_count 7 120 1 6 [.ref 0, .int 1] M (.inl (some (.int (mI M 3 2)))) M := by
  refine ev_intro rfl (nb rfl) rfl ?_
  refine g_aload_n (pc := 0) dX6_count_0 rfl trivial ?_
  refine g_iload_n (pc := 1) dX6_count_1 rfl ?_
  refine g_iconst (pc := 2) (v := 0) dX6_count_2 rfl ?_
  refine g_iconst (pc := 3) (v := 3) dX6_count_3 rfl ?_
  refine g_invV_r (pc := 4) (As := [_, _, _]) dX6_count_4 rfl (s_needRange (by decide) (by decide)) rfl rfl (shK hS rfl) rfl rfl lk_X6_95 rfl (nb rfl) ⟨nb rfl, nb rfl⟩ rfl ?_
  refine g_iload_n (pc := 7) dX6_count_7 rfl ?_
  refine g_tableIn (pc := 8) (tgt := 44) (off := 36) dX6_count_8 (by decide) (by decide) (by decide) (by decide) ?_
  refine g_aload_n (pc := 44) dX6_count_44 rfl trivial ?_
  refine g_getf (pc := 45) dX6_count_45 fk_X6_19 (shK hS rfl) (fv_obj (shR hS rfl)) ?_
  refine g_getf (pc := 48) (v := .int (mI _ _ _)) dX6_count_48 fk_X6_99 (shK hS rfl) (fun _ => rfl) ?_
  refine g_ireturn (pc := 51) dX6_count_51 rfl rfl ?_
  exact ⟨rfl, rfl⟩
theorem q_count2 (hS : Shp M) : EvR l jX6_count 7 120 1 6 [.ref 0, .int 2] M (.inl (some (.int (nI (keptC M 6))))) M := by
  generalize hX : keptC M 6 = X
  have hk := s_keptSlots (l := l) hS
  rw [hX] at hk
  refine ev_intro rfl (nb rfl) rfl ?_
  refine g_aload_n (pc := 0) dX6_count_0 rfl trivial ?_
  refine g_iload_n (pc := 1) dX6_count_1 rfl ?_
  refine g_iconst (pc := 2) (v := 0) dX6_count_2 rfl ?_
  refine g_iconst (pc := 3) (v := 3) dX6_count_3 rfl ?_
  refine g_invV_r (pc := 4) (As := [_, _, _]) dX6_count_4 rfl (s_needRange (by decide) (by decide)) rfl rfl (shK hS rfl) rfl rfl lk_X6_95 rfl (nb rfl) ⟨nb rfl, nb rfl⟩ rfl ?_
  refine g_iload_n (pc := 7) dX6_count_7 rfl ?_
  refine g_tableIn (pc := 8) (tgt := 52) (off := 44) dX6_count_8 (by decide) (by decide) (by decide) (by decide) ?_
  refine g_aload_n (pc := 52) dX6_count_52 rfl trivial ?_
  refine g_invV_r (pc := 53) (As := []) dX6_count_53 rfl (hk) rfl rfl (shK hS rfl) rfl rfl lk_X6_102 rfl (nb rfl) ⟨nb rfl, nb rfl⟩ rfl ?_
  refine g_ireturn (pc := 56) dX6_count_56 rfl rfl ?_
  exact ⟨rfl, rfl⟩
theorem q_count3 (hS : Shp M) : EvR l jX6_count 7 120 1 6 [.ref 0, .int 3] M (.inl (some (.int (mI M 0 5)))) M := by
  refine ev_intro rfl (nb rfl) rfl ?_
  refine g_aload_n (pc := 0) dX6_count_0 rfl trivial ?_
  refine g_iload_n (pc := 1) dX6_count_1 rfl ?_
  refine g_iconst (pc := 2) (v := 0) dX6_count_2 rfl ?_
  refine g_iconst (pc := 3) (v := 3) dX6_count_3 rfl ?_
  refine g_invV_r (pc := 4) (As := [_, _, _]) dX6_count_4 rfl (s_needRange (by decide) (by decide)) rfl rfl (shK hS rfl) rfl rfl lk_X6_95 rfl (nb rfl) ⟨nb rfl, nb rfl⟩ rfl ?_
  refine g_iload_n (pc := 7) dX6_count_7 rfl ?_
  refine g_tableOut (pc := 8) (tgt := 57) dX6_count_8 (by decide) (by decide) ?_
  refine g_aload_n (pc := 57) dX6_count_57 rfl trivial ?_
  refine g_getf (pc := 58) (v := .int (mI _ _ _)) dX6_count_58 fk_X6_106 (shK hS rfl) (fun _ => rfl) ?_
  refine g_ireturn (pc := 61) dX6_count_61 rfl rfl ?_
  exact ⟨rfl, rfl⟩
theorem x_count {v : Int32} (hS : Shp M) (h : ¬ (¬ v < 0 ∧ v ≤ 3)) : EvR l jX6_count 7 120 1 6 [.ref 0, .int v] M (.inr xIA) M := by
  refine ev_intro rfl (nb rfl) rfl ?_
  refine g_aload_n (pc := 0) dX6_count_0 rfl trivial ?_
  refine g_iload_n (pc := 1) dX6_count_1 rfl ?_
  refine g_iconst (pc := 2) (v := 0) dX6_count_2 rfl ?_
  refine g_iconst (pc := 3) (v := 3) dX6_count_3 rfl ?_
  refine g_invV_x (pc := 4) (As := [_, _, _]) dX6_count_4 rfl (x_needRange hS h) rfl rfl (shK hS rfl) rfl rfl lk_X6_95 rfl (nb rfl) ⟨nb rfl, nb rfl⟩ rfl ?_
  exact ⟨rfl, rfl⟩
end
end
-- 203.query
section
section
variable {l : Launch} {M : Mem}
/-- the elimination of a slot beside a right side -/
def elQ (M : Mem) (s n : Nat) (x : Int32) : ES := elAll M n (mI M (6 + 2 * s)) (wr (mI M 193) (fun i => us x (nI i) &&& 1) n)
theorem elQ_c (M : Mem) (s n : Nat) (x : Int32) : (elQ M s n x).2.2.2 ≤ n := by
  have h := elIt_c n (wr (mI M 192) (mI M (6 + 2 * s)) n, wr (mI M 193) (fun i => us x (nI i) &&& 1) n, mI M 194, 0) n
  simp only [Nat.zero_add] at h
  exact h
theorem elMem_S (hS : Shp M) (s : ES) : Shp (elMem M s) := hS
theorem elMem_ne {i : Nat} (s : ES) (h : i < 191 ∨ 194 < i) : mI (elMem M s) i = mI M i := by
  unfold elMem
  rw [sI_ne (by omega), sI_ne (by omega), sI_ne (by omega), sI_ne (by omega)]
theorem s_elQ {s n : Nat} {x : Int32} (hS : Shp M) (hn : n ≤ 32) (hs : s < 6) : EvR l jX1_eliminate 3 90 0 0 [.ref 191, .ref (6 + 2 * s), .int (nI n), .int x] M (.inl none) (elMem M (elQ M s n x)) := s_eliminate hS (shK hS (rows_lay hs)) (by omega) hn
theorem q_fieldRank {s n : Nat} (hS : Shp M) (hz : mI M 3 1 = nI n) (hn : n ≤ 32) (hs : s < 6) : EvR l jX6_fieldRank 7 150 1 6 [.ref 0, .int (nI s)] M (.inl (some (.int (nI (elQ M s n 0).2.2.2)))) (elMem M (elQ M s n 0)) := by
  have q1 := s_elQ (l := l) (x := 0) hS hn hs
  generalize elQ M s n 0 = e at *
  have hS1 := elMem_S hS e
  have hc := el_c (M := M) e
  refine ev_intro rfl (nb rfl) rfl ?_
  refine g_aload_n (pc := 0) dX6_fieldRank_0 rfl trivial ?_
  refine g_iload_n (pc := 1) dX6_fieldRank_1 rfl ?_
  refine g_invV_r (pc := 2) (As := [_]) dX6_fieldRank_2 rfl (s_needSlot (in6 hs)) rfl rfl (shK hS rfl) rfl rfl lk_X6_141 rfl (nb rfl) ⟨nb rfl, nb rfl⟩ rfl ?_
  refine g_aload_n (pc := 5) dX6_fieldRank_5 rfl trivial ?_
  refine g_getf (pc := 6) dX6_fieldRank_6 fk_X6_54 (shK hS rfl) (fv_obj (shR hS rfl)) ?_
  refine g_aload_n (pc := 9) dX6_fieldRank_9 rfl trivial ?_
  refine g_iload_n (pc := 10) dX6_fieldRank_10 rfl ?_
  refine g_invV_r (pc := 11) (As := [_]) dX6_fieldRank_11 rfl (s_rowsOf hS hs) rfl rfl (shK hS rfl) rfl rfl lk_X6_112 rfl (nb rfl) ⟨nb rfl, nb rfl⟩ rfl ?_
  refine g_aload_n (pc := 14) dX6_fieldRank_14 rfl trivial ?_
  refine g_getf (pc := 15) dX6_fieldRank_15 fk_X6_19 (shK hS rfl) (fv_obj (shR hS rfl)) ?_
  refine g_getf (pc := 18) (v := .int _) dX6_fieldRank_18 fk_X6_89 (shK hS rfl) (fun _ => congrArg Value.int (hz)) ?_
  refine g_iconst (pc := 21) (v := 0) dX6_fieldRank_21 rfl ?_
  refine g_invV_r (pc := 22) (As := [_, _, _]) dX6_fieldRank_22 rfl (q1) rfl rfl (shK hS rfl) rfl rfl lk_X6_204 rfl (nb rfl) ⟨nb rfl, nb rfl⟩ rfl ?_
  refine g_aload_n (pc := 25) dX6_fieldRank_25 rfl trivial ?_
  refine g_getf (pc := 26) dX6_fieldRank_26 fk_X6_54 (shK hS1 rfl) (fv_obj (shR hS1 rfl)) ?_
  refine g_getf (pc := 29) (v := .int _) dX6_fieldRank_29 fk_X6_207 (shK hS1 rfl) (fun _ => congrArg Value.int (hc)) ?_
  refine g_ireturn (pc := 32) dX6_fieldRank_32 rfl rfl ?_
  exact ⟨rfl, rfl⟩
theorem x_fieldRank {v : Int32} (hS : Shp M) (h : ¬ inR v 6) : EvR l jX6_fieldRank 7 150 1 6 [.ref 0, .int v] M (.inr xIO) M := by
  refine ev_intro rfl (nb rfl) rfl ?_
  refine g_aload_n (pc := 0) dX6_fieldRank_0 rfl trivial ?_
  refine g_iload_n (pc := 1) dX6_fieldRank_1 rfl ?_
  refine g_invV_x (pc := 2) (As := [_]) dX6_fieldRank_2 rfl (x_needSlot hS h) rfl rfl (shK hS rfl) rfl rfl lk_X6_141 rfl (nb rfl) ⟨nb rfl, nb rfl⟩ rfl ?_
  exact ⟨rfl, rfl⟩
theorem q_pivot {s n : Nat} {x : Int32} (hS : Shp M) (hz : mI M 3 1 = nI n) (hn : n ≤ 32) (hs : s < 6) : EvR l jX6_pivot 7 150 1 6 [.ref 0, .int (nI s), .int x] M (.inl (some (.int (if ¬ x < 0 ∧ x < nI (elQ M s n 0).2.2.2 then (elQ M s n 0).2.2.1 x.toNatClampNeg else -1)))) (elMem M (elQ M s n 0)) := by
  have q1 := s_elQ (l := l) (x := 0) hS hn hs
  have hp := elQ_c M s n 0
  generalize elQ M s n 0 = e at *
  have hS1 := elMem_S hS e
  have q2 := s_pivotAt (l := l) (s := e) (x := x) hS (by omega)
  generalize elMem M e = M1 at *
  refine ev_intro rfl (nb rfl) rfl ?_
  refine g_aload_n (pc := 0) dX6_pivot_0 rfl trivial ?_
  refine g_iload_n (pc := 1) dX6_pivot_1 rfl ?_
  refine g_invV_r (pc := 2) (As := [_]) dX6_pivot_2 rfl (s_needSlot (in6 hs)) rfl rfl (shK hS rfl) rfl rfl lk_X6_141 rfl (nb rfl) ⟨nb rfl, nb rfl⟩ rfl ?_
  refine g_aload_n (pc := 5) dX6_pivot_5 rfl trivial ?_
  refine g_getf (pc := 6) dX6_pivot_6 fk_X6_54 (shK hS rfl) (fv_obj (shR hS rfl)) ?_
  refine g_aload_n (pc := 9) dX6_pivot_9 rfl trivial ?_
  refine g_iload_n (pc := 10) dX6_pivot_10 rfl ?_
  refine g_invV_r (pc := 11) (As := [_]) dX6_pivot_11 rfl (s_rowsOf hS hs) rfl rfl (shK hS rfl) rfl rfl lk_X6_112 rfl (nb rfl) ⟨nb rfl, nb rfl⟩ rfl ?_
  refine g_aload_n (pc := 14) dX6_pivot_14 rfl trivial ?_
  refine g_getf (pc := 15) dX6_pivot_15 fk_X6_19 (shK hS rfl) (fv_obj (shR hS rfl)) ?_
  refine g_getf (pc := 18) (v := .int _) dX6_pivot_18 fk_X6_89 (shK hS rfl) (fun _ => congrArg Value.int (hz)) ?_
  refine g_iconst (pc := 21) (v := 0) dX6_pivot_21 rfl ?_
  refine g_invV_r (pc := 22) (As := [_, _, _]) dX6_pivot_22 rfl (q1) rfl rfl (shK hS rfl) rfl rfl lk_X6_204 rfl (nb rfl) ⟨nb rfl, nb rfl⟩ rfl ?_
  refine g_aload_n (pc := 25) dX6_pivot_25 rfl trivial ?_
  refine g_getf (pc := 26) dX6_pivot_26 fk_X6_54 (shK hS1 rfl) (fv_obj (shR hS1 rfl)) ?_
  refine g_iload_n (pc := 29) dX6_pivot_29 rfl ?_
  refine g_invV_r (pc := 30) (As := [_]) dX6_pivot_30 rfl (q2) rfl rfl (shK hS1 rfl) rfl rfl lk_X6_219 rfl (nb rfl) ⟨nb rfl, nb rfl⟩ rfl ?_
  refine g_ireturn (pc := 33) dX6_pivot_33 rfl rfl ?_
  exact ⟨rfl, rfl⟩
theorem x_pivot {v x : Int32} (hS : Shp M) (h : ¬ inR v 6) : EvR l jX6_pivot 7 150 1 6 [.ref 0, .int v, .int x] M (.inr xIO) M := by
  refine ev_intro rfl (nb rfl) rfl ?_
  refine g_aload_n (pc := 0) dX6_pivot_0 rfl trivial ?_
  refine g_iload_n (pc := 1) dX6_pivot_1 rfl ?_
  refine g_invV_x (pc := 2) (As := [_]) dX6_pivot_2 rfl (x_needSlot hS h) rfl rfl (shK hS rfl) rfl rfl lk_X6_141 rfl (nb rfl) ⟨nb rfl, nb rfl⟩ rfl ?_
  exact ⟨rfl, rfl⟩
theorem q_freedom {s n : Nat} {x : Int64} (hS : Shp M) (hz : mI M 3 1 = nI n) (hn : n ≤ 32) (hs : s < 6) : EvR l jX6_freedom 7 150 1 6 [.ref 0, .int (nI s), .long x] M (.inl (some (.int (if solvB (elQ M s n x.toInt32) (n - (elQ M s n x.toInt32).2.2.2) (elQ M s n x.toInt32).2.2.2 = true then nI n - nI (elQ M s n x.toInt32).2.2.2 else -1)))) (elMem M (elQ M s n x.toInt32)) := by
  have q1 := s_elQ (l := l) (x := x.toInt32) hS hn hs
  have hp := elQ_c M s n x.toInt32
  generalize elQ M s n x.toInt32 = e at *
  have hS1 := elMem_S hS e
  have hc := el_c (M := M) e
  have hz1 : mI (elMem M e) 3 1 = nI n := by rw [elMem_ne e (by decide)]; exact hz
  have q2 := s_isSolvable (l := l) (s := e) hS hn hp
  generalize elMem M e = M1 at *
  generalize solvB e (n - e.2.2.2) e.2.2.2 = b at *
  refine ev_intro rfl (nb rfl) rfl ?_
  refine g_aload_n (pc := 0) dX6_freedom_0 rfl trivial ?_
  refine g_iload_n (pc := 1) dX6_freedom_1 rfl ?_
  refine g_invV_r (pc := 2) (As := [_]) dX6_freedom_2 rfl (s_needSlot (in6 hs)) rfl rfl (shK hS rfl) rfl rfl lk_X6_141 rfl (nb rfl) ⟨nb rfl, nb rfl⟩ rfl ?_
  refine g_aload_n (pc := 5) dX6_freedom_5 rfl trivial ?_
  refine g_getf (pc := 6) dX6_freedom_6 fk_X6_54 (shK hS rfl) (fv_obj (shR hS rfl)) ?_
  refine g_aload_n (pc := 9) dX6_freedom_9 rfl trivial ?_
  refine g_iload_n (pc := 10) dX6_freedom_10 rfl ?_
  refine g_invV_r (pc := 11) (As := [_]) dX6_freedom_11 rfl (s_rowsOf hS hs) rfl rfl (shK hS rfl) rfl rfl lk_X6_112 rfl (nb rfl) ⟨nb rfl, nb rfl⟩ rfl ?_
  refine g_aload_n (pc := 14) dX6_freedom_14 rfl trivial ?_
  refine g_getf (pc := 15) dX6_freedom_15 fk_X6_19 (shK hS rfl) (fv_obj (shR hS rfl)) ?_
  refine g_getf (pc := 18) (v := .int _) dX6_freedom_18 fk_X6_89 (shK hS rfl) (fun _ => congrArg Value.int (hz)) ?_
  refine g_lload_n (pc := 21) dX6_freedom_21 rfl ?_
  refine g_l2i (pc := 22) dX6_freedom_22 rfl ?_
  refine g_invV_r (pc := 23) (As := [_, _, _]) dX6_freedom_23 rfl (q1) rfl rfl (shK hS rfl) rfl rfl lk_X6_204 rfl (nb rfl) ⟨nb rfl, nb rfl⟩ rfl ?_
  refine g_aload_n (pc := 26) dX6_freedom_26 rfl trivial ?_
  refine g_getf (pc := 27) dX6_freedom_27 fk_X6_54 (shK hS1 rfl) (fv_obj (shR hS1 rfl)) ?_
  refine g_aload_n (pc := 30) dX6_freedom_30 rfl trivial ?_
  refine g_getf (pc := 31) dX6_freedom_31 fk_X6_19 (shK hS1 rfl) (fv_obj (shR hS1 rfl)) ?_
  refine g_getf (pc := 34) (v := .int _) dX6_freedom_34 fk_X6_89 (shK hS1 rfl) (fun _ => congrArg Value.int (hz1)) ?_
  refine g_invV_r (pc := 37) (As := [_]) dX6_freedom_37 rfl (q2) rfl rfl (shK hS1 rfl) rfl rfl lk_X6_210 rfl (nb rfl) ⟨nb rfl, nb rfl⟩ rfl ?_
  refine g_if_eq (pc := 40) (tgt := 61) dX6_freedom_40 rfl (fun h40 => ?_) (fun h40 => ?_)
  · rw [b1_0] at h40
    rw [if_neg (by rw [h40]; decide)]
    refine g_iconst (pc := 61) (v := (-1)) dX6_freedom_61 rfl ?_
    refine g_ireturn (pc := 62) dX6_freedom_62 rfl rfl ?_
    exact ⟨rfl, rfl⟩
  · rw [b1_0, Bool.not_eq_false] at h40
    rw [if_pos h40]
    refine g_aload_n (pc := 43) dX6_freedom_43 rfl trivial ?_
    refine g_getf (pc := 44) dX6_freedom_44 fk_X6_19 (shK hS1 rfl) (fv_obj (shR hS1 rfl)) ?_
    refine g_getf (pc := 47) (v := .int _) dX6_freedom_47 fk_X6_89 (shK hS1 rfl) (fun _ => congrArg Value.int (hz1)) ?_
    refine g_aload_n (pc := 50) dX6_freedom_50 rfl trivial ?_
    refine g_getf (pc := 51) dX6_freedom_51 fk_X6_54 (shK hS1 rfl) (fv_obj (shR hS1 rfl)) ?_
    refine g_getf (pc := 54) (v := .int _) dX6_freedom_54 fk_X6_207 (shK hS1 rfl) (fun _ => congrArg Value.int (hc)) ?_
    refine g_isub (pc := 57) dX6_freedom_57 ?_
    refine g_goto (pc := 58) (tgt := 62) dX6_freedom_58 rfl ?_
    refine g_ireturn (pc := 62) dX6_freedom_62 rfl rfl ?_
    exact ⟨rfl, rfl⟩
theorem x_freedom {v : Int32} {x : Int64} (hS : Shp M) (h : ¬ inR v 6) : EvR l jX6_freedom 7 150 1 6 [.ref 0, .int v, .long x] M (.inr xIO) M := by
  refine ev_intro rfl (nb rfl) rfl ?_
  refine g_aload_n (pc := 0) dX6_freedom_0 rfl trivial ?_
  refine g_iload_n (pc := 1) dX6_freedom_1 rfl ?_
  refine g_invV_x (pc := 2) (As := [_]) dX6_freedom_2 rfl (x_needSlot hS h) rfl rfl (shK hS rfl) rfl rfl lk_X6_141 rfl (nb rfl) ⟨nb rfl, nb rfl⟩ rfl ?_
  exact ⟨rfl, rfl⟩
theorem q_solve {s n : Nat} {x : Int64} (hS : Shp M) (hz : mI M 3 1 = nI n) (hn : n ≤ 32) (hs : s < 6) : EvR l jX6_solve 7 150 1 6 [.ref 0, .int (nI s), .long x] M (.inl (some (.long (if solvB (elQ M s n x.toInt32) (n - (elQ M s n x.toInt32).2.2.2) (elQ M s n x.toInt32).2.2.2 = true then (solF (elQ M s n x.toInt32) (elQ M s n x.toInt32).2.2.2).toInt64 &&& 4294967295 else -1)))) (elMem M (elQ M s n x.toInt32)) := by
  have q1 := s_elQ (l := l) (x := x.toInt32) hS hn hs
  have hp := elQ_c M s n x.toInt32
  generalize elQ M s n x.toInt32 = e at *
  have hS1 := elMem_S hS e
  have hz1 : mI (elMem M e) 3 1 = nI n := by rw [elMem_ne e (by decide)]; exact hz
  have q2 := s_isSolvable (l := l) (s := e) hS hn hp
  have q3 := s_solution (l := l) (s := e) hS (by omega)
  generalize elMem M e = M1 at *
  generalize solvB e (n - e.2.2.2) e.2.2.2 = b at *
  refine ev_intro rfl (nb rfl) rfl ?_
  refine g_aload_n (pc := 0) dX6_solve_0 rfl trivial ?_
  refine g_iload_n (pc := 1) dX6_solve_1 rfl ?_
  refine g_invV_r (pc := 2) (As := [_]) dX6_solve_2 rfl (s_needSlot (in6 hs)) rfl rfl (shK hS rfl) rfl rfl lk_X6_141 rfl (nb rfl) ⟨nb rfl, nb rfl⟩ rfl ?_
  refine g_aload_n (pc := 5) dX6_solve_5 rfl trivial ?_
  refine g_getf (pc := 6) dX6_solve_6 fk_X6_54 (shK hS rfl) (fv_obj (shR hS rfl)) ?_
  refine g_aload_n (pc := 9) dX6_solve_9 rfl trivial ?_
  refine g_iload_n (pc := 10) dX6_solve_10 rfl ?_
  refine g_invV_r (pc := 11) (As := [_]) dX6_solve_11 rfl (s_rowsOf hS hs) rfl rfl (shK hS rfl) rfl rfl lk_X6_112 rfl (nb rfl) ⟨nb rfl, nb rfl⟩ rfl ?_
  refine g_aload_n (pc := 14) dX6_solve_14 rfl trivial ?_
  refine g_getf (pc := 15) dX6_solve_15 fk_X6_19 (shK hS rfl) (fv_obj (shR hS rfl)) ?_
  refine g_getf (pc := 18) (v := .int _) dX6_solve_18 fk_X6_89 (shK hS rfl) (fun _ => congrArg Value.int (hz)) ?_
  refine g_lload_n (pc := 21) dX6_solve_21 rfl ?_
  refine g_l2i (pc := 22) dX6_solve_22 rfl ?_
  refine g_invV_r (pc := 23) (As := [_, _, _]) dX6_solve_23 rfl (q1) rfl rfl (shK hS rfl) rfl rfl lk_X6_204 rfl (nb rfl) ⟨nb rfl, nb rfl⟩ rfl ?_
  refine g_aload_n (pc := 26) dX6_solve_26 rfl trivial ?_
  refine g_getf (pc := 27) dX6_solve_27 fk_X6_54 (shK hS1 rfl) (fv_obj (shR hS1 rfl)) ?_
  refine g_aload_n (pc := 30) dX6_solve_30 rfl trivial ?_
  refine g_getf (pc := 31) dX6_solve_31 fk_X6_19 (shK hS1 rfl) (fv_obj (shR hS1 rfl)) ?_
  refine g_getf (pc := 34) (v := .int _) dX6_solve_34 fk_X6_89 (shK hS1 rfl) (fun _ => congrArg Value.int (hz1)) ?_
  refine g_invV_r (pc := 37) (As := [_]) dX6_solve_37 rfl (q2) rfl rfl (shK hS1 rfl) rfl rfl lk_X6_210 rfl (nb rfl) ⟨nb rfl, nb rfl⟩ rfl ?_
  refine g_if_eq (pc := 40) (tgt := 56) dX6_solve_40 rfl (fun h40 => ?_) (fun h40 => ?_)
  · rw [b1_0] at h40
    rw [if_neg (by rw [h40]; decide)]
    refine g_ldc2 (pc := 56) dX6_solve_56 wd_989 ?_
    refine g_lreturn (pc := 59) dX6_solve_59 rfl ?_
    exact ⟨rfl, rfl⟩
  · rw [b1_0, Bool.not_eq_false] at h40
    rw [if_pos h40]
    refine g_aload_n (pc := 43) dX6_solve_43 rfl trivial ?_
    refine g_getf (pc := 44) dX6_solve_44 fk_X6_54 (shK hS1 rfl) (fv_obj (shR hS1 rfl)) ?_
    refine g_invV_r (pc := 47) (As := []) dX6_solve_47 rfl (q3) rfl rfl (shK hS1 rfl) rfl rfl lk_X6_214 rfl (nb rfl) ⟨nb rfl, nb rfl⟩ rfl ?_
    refine g_invS_r (pc := 50) (As := [_]) dX6_solve_50 rfl (s_unsigned) rfl rfl lk_X6_124 rfl (nb rfl) ⟨nb rfl, nb rfl⟩ rfl ?_
    refine g_goto (pc := 53) (tgt := 59) dX6_solve_53 rfl ?_
    refine g_lreturn (pc := 59) dX6_solve_59 rfl ?_
    exact ⟨rfl, rfl⟩
theorem x_solve {v : Int32} {x : Int64} (hS : Shp M) (h : ¬ inR v 6) : EvR l jX6_solve 7 150 1 6 [.ref 0, .int v, .long x] M (.inr xIO) M := by
  refine ev_intro rfl (nb rfl) rfl ?_
  refine g_aload_n (pc := 0) dX6_solve_0 rfl trivial ?_
  refine g_iload_n (pc := 1) dX6_solve_1 rfl ?_
  refine g_invV_x (pc := 2) (As := [_]) dX6_solve_2 rfl (x_needSlot hS h) rfl rfl (shK hS rfl) rfl rfl lk_X6_141 rfl (nb rfl) ⟨nb rfl, nb rfl⟩ rfl ?_
  exact ⟨rfl, rfl⟩
end
end
