-- 02.core
section
/-! MY OWN MACHINE: a memory by numbers of cells, a judgement Go over the kit's W, a contract Ev over the kit's vx_Met. -/
def WS : List Cond := lw_tbl.filter goodWord
theorem ws_mem {w : Cond} (i : Nat) (h : lw_tbl[i]? = some w) (g : goodWord w = true) : w ∈ WS := List.mem_filter.mpr ⟨List.mem_of_getElem? h, g⟩
theorem ws_good {w : Cond} (h : w ∈ WS) : (w.onTables && w.keeps) = true ∨ ∃ ty, w = .arrayClass ty := good_of_word (List.mem_filter.mp h).2
abbrev Knd : Type := (FieldType × Nat) ⊕ Nat
/-- the memory: what each cell is; whether nothing else was made since; ints, longs, references, doubles by cell and place -/
abbrev Mem : Type := List Knd × Bool × (Nat → Nat → Int32) × (Nat → Nat → Int64) × (Nat → Nat → Option Nat) × (Nat → Nat → UInt64) × (Nat × (Nat → Int32))
abbrev mK (M : Mem) : List Knd := M.1
abbrev mX (M : Mem) : Bool := M.2.1
abbrev mI (M : Mem) : Nat → Nat → Int32 := M.2.2.1
abbrev mL (M : Mem) : Nat → Nat → Int64 := M.2.2.2.1
abbrev mR (M : Mem) : Nat → Nat → Option Nat := M.2.2.2.2.1
abbrev mD (M : Mem) : Nat → Nat → UInt64 := M.2.2.2.2.2.1
abbrev mS (M : Mem) : Nat × (Nat → Int32) := M.2.2.2.2.2.2
def fun_set {α : Type} (f : Nat → α) (i : Nat) (x : α) : Nat → α := fun j => if j = i then x else f j
abbrev sI (M : Mem) (i : Nat) (f : Nat → Int32) : Mem := (M.1, M.2.1, fun_set M.2.2.1 i f, M.2.2.2)
abbrev sL (M : Mem) (i : Nat) (f : Nat → Int64) : Mem := (M.1, M.2.1, M.2.2.1, fun_set M.2.2.2.1 i f, M.2.2.2.2)
abbrev sR (M : Mem) (i : Nat) (f : Nat → Option Nat) : Mem := (M.1, M.2.1, M.2.2.1, M.2.2.2.1, fun_set M.2.2.2.2.1 i f, M.2.2.2.2.2)
abbrev sD (M : Mem) (i : Nat) (f : Nat → UInt64) : Mem := (M.1, M.2.1, M.2.2.1, M.2.2.2.1, M.2.2.2.2.1, fun_set M.2.2.2.2.2.1 i f, M.2.2.2.2.2.2)
abbrev sX (M : Mem) : Mem := (M.1, false, M.2.2)
/-- a new cell: all 0 -/
def nK (M : Mem) (k : Knd) : Mem := (M.1 ++ [k], M.2.1, fun_set (mI M) M.1.length (fun _ => 0), fun_set (mL M) M.1.length (fun _ => 0), fun_set (mR M) M.1.length (fun _ => none), fun_set (mD M) M.1.length (fun _ => 0), mS M)
def ftyA : Nat → List FieldType := fun ci => match ci with
  | 0 => [.array .int, .boolean]
  | 1 => [.array .int, .array .int, .array .int, .int]
  | 2 => [.array .int, .boolean, .int, .int, .int]
  | 3 => [.array .int, .array .int, .array .int, .int, .int, .boolean, .int, .int]
  | 4 => [.array .int, .int, .int, .int, .int, .int, .int]
  | 5 => [.array (.object "BitDesk$Matrix"), .int, .int, .int, .int]
  | 6 => [.object "BitDesk$Reader", .object "BitDesk$State", .object "BitDesk$State", .array (.object "BitDesk$State"), .int, .int, .array (.object "BitDesk$State"), .array .boolean, .array (.object "BitDesk$Closure"), .object "BitDesk$Multiplier", .object "BitDesk$Elimination", .array .int, .array .int, .array .int, .int]
  | _ => [.array .long, .array .long, .array .long, .array .long, .array .boolean, .int, .int, .array .byte, .int, .int, .int, .int, .int, .int, .int, .int, .array .long, .array .long, .array .long, .array .int, .array .long, .array .int, .int, .array .byte, .int]
/-- the globals of a run: the base of the cells, the script's cell, its length and ints, the String constants' cells and their arrays', the classes of arrays, the kit's tables -/
abbrev Gl : Type := Nat × Nat × Nat × (Nat → Int32) × (Nat → Nat) × (Nat → Nat) × (FieldType → ClassId) × va_G × Value
abbrev gB (G : Gl) : Nat := G.1
abbrev gScr (G : Gl) : Nat := G.2.1
abbrev gLen (G : Gl) : Nat := G.2.2.1
abbrev gXs (G : Gl) : Nat → Int32 := G.2.2.2.1
abbrev gSK (G : Gl) : Nat → Nat := G.2.2.2.2.1
abbrev gSV (G : Gl) : Nat → Nat := G.2.2.2.2.2.1
abbrev gA (G : Gl) : FieldType → ClassId := G.2.2.2.2.2.2.1
abbrev gD (G : Gl) : va_G := G.2.2.2.2.2.2.2.1
/-- the formatter that String.checkIndex hands on: null or a cell -/
abbrev gFm (G : Gl) : Value := G.2.2.2.2.2.2.2.2
/-- a reference or null -/
def gFc : Value → Value
  | .ref a => .ref a
  | _ => .null
/-- values as the machine has them: a reference is a cell's number; retAddr 0 the script, 1 the formatter, 2 k + 2 the String constant k, 2 k + 3 its bytes -/
def cv (G : Gl) : Value → Value
  | .ref i => .ref (gB G + i)
  | .retAddr 0 => .ref (gScr G)
  | .retAddr 1 => gFc (gFm G)
  | .retAddr (k + 2) => if k % 2 = 0 then .ref (gSK G (k / 2)) else .ref (gSV G (k / 2))
  | v => v
def fval (G : Gl) (M : Mem) (id k : Nat) : FieldType → Value
  | .long => .long (mL M id k)
  | .double => .double (mD M id k)
  | .object _ => va_rf ((mR M id k).map (fun i => gB G + i))
  | .array _ => va_rf ((mR M id k).map (fun i => gB G + i))
  | _ => .int (mI M id k)
def fvs (G : Gl) (M : Mem) (id : Nat) : Nat → List FieldType → List Value
  | _, [] => []
  | k, t :: ts => fval G M id k t :: fvs G M id (k + 1) ts
theorem fvs_get (G : Gl) (M : Mem) (id : Nat) : ∀ (ts : List FieldType) (k j : Nat) (t : FieldType), ts[j]? = some t → (fvs G M id k ts)[j]? = some (fval G M id (k + j) t)
  | [], k, j, t, h => by simp at h
  | u :: ts, k, 0, t, h => by simp at h; subst h; rfl
  | u :: ts, k, j + 1, t, h => by
    have := fvs_get G M id ts (k + 1) j t (by simpa using h)
    rw [show k + (j + 1) = k + 1 + j by omega]
    simpa [fvs] using this
theorem fvs_len (G : Gl) (M : Mem) (id : Nat) : ∀ (ts : List FieldType) (k : Nat), (fvs G M id k ts).length = ts.length
  | [], k => rfl
  | u :: ts, k => by simp [fvs, fvs_len G M id ts (k + 1)]
def adat (G : Gl) (M : Mem) (id : Nat) : FieldType → ((Nat → Int32) ⊕ (Nat → Int64) ⊕ (Nat → UInt32) ⊕ (Nat → UInt64) ⊕ (Nat → Option Nat))
  | .long => .inr (.inl (mL M id))
  | .double => .inr (.inr (.inr (.inl (mD M id))))
  | .object _ => .inr (.inr (.inr (.inr (fun k => (mR M id k).map (fun i => gB G + i)))))
  | _ => .inl (mI M id)
def ent (G : Gl) (M : Mem) (id : Nat) : Knd → va_E
  | .inl (t, n) => .inl (gA G t, n, adat G M id t)
  | .inr ci => .inr (ci, fvs G M id 0 (ftyA ci))
def wl (G : Gl) (M : Mem) : va_W := (mK M).mapIdx (fun i k => (gB G + i, ent G M i k))
theorem wl_get {G : Gl} {M : Mem} {i : Nat} {k : Knd} (h : (mK M)[i]? = some k) : (wl G M)[i]? = some (gB G + i, ent G M i k) := by
  simp [wl, List.getElem?_mapIdx, h]
theorem wl_len (G : Gl) (M : Mem) : (wl G M).length = (mK M).length := by simp [wl]
theorem wl_D (G : Gl) (M : Mem) : va_D (fun q => gB G ≤ q) (wl G M) := by
  refine ⟨fun i j p q hp hq h => ?_, fun k q hq => ?_⟩
  · simp only [wl, List.getElem?_mapIdx, Option.map_eq_some_iff] at hp hq
    obtain ⟨a, -, rfl⟩ := hp
    obtain ⟨b, -, rfl⟩ := hq
    simp only at h
    omega
  · simp only [wl, List.getElem?_mapIdx, Option.map_eq_some_iff] at hq
    obtain ⟨b, -, rfl⟩ := hq
    simp
def Rel (G : Gl) (M : Mem) (H : Heap) : Prop := va_P (gD G) vwCl (wl G M) H ∧ (mX M = true → H.size = gB G + (mK M).length) ∧ gB G + (mK M).length ≤ H.size ∧ mS M = (gLen G, gXs G)
def tyl (G : Gl) : List (ClassId × FieldType) := [(gA G .int, .int), (gA G .long, .long), (gA G .byte, .byte), (gA G .boolean, .boolean), (gA G .double, .double), (gA G (.object "BitDesk$State"), .object "BitDesk$State"), (gA G (.object "BitDesk$Matrix"), .object "BitDesk$Matrix"), (gA G (.object "BitDesk$Closure"), .object "BitDesk$Closure")]
/-- writing one cell -/
theorem wl_set {G : Gl} {M M' : Mem} {i : Nat} {k : Knd} (h : (mK M)[i]? = some k) (hK : mK M' = mK M) (ho : ∀ j x, j ≠ i → (mK M)[j]? = some x → ent G M' j x = ent G M j x) : (wl G M).set i (gB G + i, ent G M' i k) = wl G M' := by
  apply List.ext_getElem?
  intro j
  rw [List.getElem?_set]
  by_cases hj : i = j
  · subst hj
    have hl : i < (wl G M).length := by rw [wl_len]; exact (List.getElem?_eq_some_iff.mp h).1
    rw [if_pos rfl, if_pos hl, wl_get (by rw [hK]; exact h)]
  · rw [if_neg hj]
    simp only [wl, List.getElem?_mapIdx, hK]
    cases hx : (mK M)[j]? with
    | none => rfl
    | some x => simp only [Option.map_some]; rw [ho j x (fun e => hj e.symm) hx]
abbrev Res : Type := Option Value ⊕ String
/-- a method: name, code, locals, what it returns, its handlers -/
abbrev Jm : Type := MethodName × ByteArray × Nat × Option FieldType × List (Nat × Nat × Nat × Nat)
def cwd (J : Jm) : Cond := if J.2.2.2.2 = [] then .code J.1 J.2.1 J.2.2.1 J.2.2.2.1 else .codeWith J.1 J.2.1 J.2.2.1 J.2.2.2.1 J.2.2.2.2
abbrev Go_A (G : Gl) : Nat → Prop := fun q => gB G ≤ q
def strT : List (String × Nat × String × List Int32) := [
  ("BitDesk$Reader", 65, "size", [115, 105, 122, 101]),
  ("BitDesk$Reader", 84, "edge", [101, 100, 103, 101]),
  ("BitDesk$Reader", 89, "row", [114, 111, 119]),
  ("BitDesk$Reader", 94, "fill", [102, 105, 108, 108]),
  ("BitDesk$Reader", 122, "unit", [117, 110, 105, 116]),
  ("BitDesk$Reader", 124, "ones", [111, 110, 101, 115]),
  ("BitDesk$Reader", 129, "ring", [114, 105, 110, 103]),
  ("BitDesk$Reader", 131, "lower", [108, 111, 119, 101, 114]),
  ("BitDesk$Reader", 99, "keep", [107, 101, 101, 112]),
  ("BitDesk$Reader", 104, "block", [98, 108, 111, 99, 107]),
  ("BitDesk", 333, "out of range", [111, 117, 116, 32, 111, 102, 32, 114, 97, 110, 103, 101]),
  ("BitDesk", 321, "no such slot", [110, 111, 32, 115, 117, 99, 104, 32, 115, 108, 111, 116]),
  ("BitDesk", 326, "no such row, column or node", [110, 111, 32, 115, 117, 99, 104, 32, 114, 111, 119, 44, 32, 99, 111, 108, 117, 109, 110, 32, 111, 114, 32, 110, 111, 100, 101]),
  ("BitDeskModel", 135, "size", [115, 105, 122, 101]),
  ("BitDeskModel", 161, "edge", [101, 100, 103, 101]),
  ("BitDeskModel", 166, "row", [114, 111, 119]),
  ("BitDeskModel", 171, "fill", [102, 105, 108, 108]),
  ("BitDeskModel", 146, "unit", [117, 110, 105, 116]),
  ("BitDeskModel", 148, "ones", [111, 110, 101, 115]),
  ("BitDeskModel", 150, "ring", [114, 105, 110, 103]),
  ("BitDeskModel", 152, "lower", [108, 111, 119, 101, 114]),
  ("BitDeskModel", 176, "keep", [107, 101, 101, 112]),
  ("BitDeskModel", 181, "block", [98, 108, 111, 99, 107])]
def nwF : List (String × Nat × String × String × String × String) := [
  ("BitDesk", 92, "BitDesk$Reader", "statement", "I", "BitDesk"),
  ("BitDesk", 76, "BitDesk$Reader", "error", "I", "BitDesk"),
  ("BitDesk", 80, "BitDesk$Reader", "errorPosition", "I", "BitDesk"),
  ("BitDesk$Reader", 108, "BitDesk$Matrix", "rows", "[I", "BitDesk"),
  ("BitDesk", 229, "BitDesk$Matrix", "rows", "[I", "BitDesk"),
  ("BitDesk$Reader", 115, "BitDesk$Matrix", "isKept", "Z", "BitDesk"),
  ("BitDesk", 288, "BitDesk$Matrix", "isKept", "Z", "BitDesk"),
  ("BitDesk", 295, "BitDesk$Matrix", "lookedLately", "I", "BitDesk"),
  ("BitDesk", 298, "BitDesk$Matrix", "lookedInAll", "I", "BitDesk"),
  ("BitDesk", 301, "BitDesk$Matrix", "timesMadeAnew", "I", "BitDesk"),
  ("BitDesk$Reader", 47, "BitDesk$State", "slots", "[LBitDesk$Matrix;", "BitDesk"),
  ("BitDesk", 225, "BitDesk$State", "slots", "[LBitDesk$Matrix;", "BitDesk"),
  ("BitDesk$Multiplier", 21, "BitDesk$State", "size", "I", "BitDesk"),
  ("BitDesk", 89, "BitDesk$State", "size", "I", "BitDesk"),
  ("BitDesk$Reader", 53, "BitDesk$State", "size", "I", "BitDesk"),
  ("BitDesk$Multiplier", 28, "BitDesk$State", "block", "I", "BitDesk"),
  ("BitDesk$Reader", 106, "BitDesk$State", "block", "I", "BitDesk"),
  ("BitDesk", 99, "BitDesk$State", "block", "I", "BitDesk"),
  ("BitDesk", 304, "BitDesk$State", "entriesMade", "I", "BitDesk"),
  ("BitDesk", 307, "BitDesk$State", "entriesTaken", "I", "BitDesk"),
  ("BitDesk", 166, "BitDesk$Closure", "reach", "[I", "BitDesk"),
  ("BitDesk", 341, "BitDesk$Closure", "isCurrent", "Z", "BitDesk"),
  ("BitDesk", 347, "BitDesk$Multiplier", "entriesMade", "I", "BitDesk"),
  ("BitDesk", 348, "BitDesk$Multiplier", "entriesTaken", "I", "BitDesk"),
  ("BitDesk", 273, "BitDesk$Elimination", "right", "[I", "BitDesk"),
  ("BitDesk", 207, "BitDesk$Elimination", "pivotCount", "I", "BitDesk")]
def nwM : List (String × Nat × MethodName × String) := [
  ("BitDesk$Reader", 126, ⟨"BitDesk", "lowest", "(I)I"⟩, "BitDesk"),
  ("BitDesk$Closure", 21, ⟨"BitDesk", "hasOne", "(II)Z"⟩, "BitDesk"),
  ("BitDesk$Closure", 29, ⟨"BitDesk", "columnOf", "([III)I"⟩, "BitDesk"),
  ("BitDesk$Closure", 33, ⟨"BitDesk", "lowestOne", "(I)I"⟩, "BitDesk"),
  ("BitDesk$Closure", 46, ⟨"BitDesk", "reachedFrom", "([III)I"⟩, "BitDesk"),
  ("BitDesk$Elimination", 47, ⟨"BitDesk", "hasOne", "(II)Z"⟩, "BitDesk"),
  ("BitDesk$Multiplier", 67, ⟨"BitDesk", "lowest", "(I)I"⟩, "BitDesk"),
  ("BitDesk$Multiplier", 60, ⟨"BitDesk", "hasOne", "(II)Z"⟩, "BitDesk")]
def NWL : List Cond := (nwF.map fun q => Cond.fieldLinkNest q.1 q.2.1 q.2.2.1 q.2.2.2.1 q.2.2.2.2.1 q.2.2.2.2.2) ++ nwM.map fun q => Cond.methodLinkNest q.1 q.2.1 q.2.2.1 q.2.2.2
def xDcl : List MethodName := [Bundle.initS "java/lang/RuntimeException", Bundle.initS "java/lang/Exception", Bundle.initS Bundle.tN]
def Ctx (l : Launch) (G : Gl) (s : State) : Prop :=
  l.stackTraces = false ∧ va_K (gD G) vwCl (tyl G) s ∧ (∀ w ∈ NWL, va_Nw w s) ∧
  vx_Zq Bundle.tN "UNASSIGNED_STACK" Bundle.steD (Go_A G) s s.heap ∧ vx_Zq Bundle.tN "SUPPRESSED_SENTINEL" Bundle.listD (Go_A G) s s.heap ∧
  (∀ (k : Nat) (q : String × Nat × String × List Int32), strT[k]? = some q → vk_R q.1 q.2.1 q.2.2.1 (gSK G k) s ∧ vk_S 1 [q.2.2.2.length] [q.2.2.2] (fun _ => gSK G k) (fun _ => gSV G k) (Go_A G) s s.heap) ∧
  va_Z "java/lang/String" "COMPACT_STRINGS" "Z" (.int 1) (Go_A G) s s.heap ∧
  (va_Z "jdk/internal/util/Preconditions" "SIOOBE_FORMATTER" "Ljava/util/function/BiFunction;" (gFm G) (Go_A G) s s.heap ∧ (gFm G = .null ∨ ∃ a, gFm G = .ref a)) ∧
  va_X (gScr G) (gLen G) (gXs G) s s.heap ∧ gScr G < gB G ∧ gB G ≤ s.heap.size ∧ va_Nw (.castable "java/lang/IndexOutOfBoundsException" "java/lang/IndexOutOfBoundsException") s ∧ va_Nw (.castable "java/lang/IllegalArgumentException" "java/lang/IllegalArgumentException") s ∧ va_Nc "java/lang/IllegalArgumentException" "java/lang/IndexOutOfBoundsException" s ∧ va_AO "BitDesk$State" s ∧ va_AO "BitDesk$Matrix" s ∧ va_AO "BitDesk$Closure" s ∧ ∀ x ∈ xDcl, va_Nw (.declares x) s
theorem Ctx.warm {l : Launch} {G : Gl} {s U : State} (hW : s.WarmedH U.vm) (hz : s.heap.size ≤ U.heap.size) (hk : ∀ q : Nat, q < s.heap.size → ¬ Go_A G q → U.heap[q]? = s.heap[q]?) (h : Ctx l G s) : Ctx l G U := by
  obtain ⟨h1, h2, h3, h4, h5, h6, h7, ⟨h8, h8'⟩, h9, h10, h11, h12, h13, h14, h15, h16, h17, h18⟩ := h
  have hA := hW.alike
  refine ⟨h1, va_K.moved hA h2, fun w hw => ?_, (h4.moved hA).kept hk, (h5.moved hA).kept hk, fun k q hq => ⟨(h6 k q hq).1.warm hW, ((h6 k q hq).2.moved hA).kept hk⟩, (h7.moved hA).kept hk, ⟨(h8.moved hA).kept hk, h8'⟩, (h9.moved hA).kept (hk _ (by omega) (by show ¬ gB G ≤ gScr G; omega)), h10, Nat.le_trans h11 hz, h12.warmC hW, h13.warmC hW, h14.moved hA, h15.moved hA, h16.moved hA, h17.moved hA, fun x hx => (h18 x hx).warmD hW⟩
  have h0 := h3 w hw
  unfold NWL at hw
  rcases List.mem_append.mp hw with h | h
  · obtain ⟨q, -, rfl⟩ := List.mem_map.mp h
    exact h0.warmF hW
  · obtain ⟨q, -, rfl⟩ := List.mem_map.mp h
    exact h0.warmM hW
def QcOf (G : Gl) (Q : Res → Mem → Prop) : Array Value → State → Outcome → State → Prop := fun _ st o t => (∃ (v : Option Value) (M' : Mem), o = .returned (v.map (cv G)) ∧ Q (.inl v) M' ∧ Rel G M' t.heap) ∧ va_F (Go_A G) st t
def XCOf (G : Gl) (Q : Res → Mem → Prop) : String → State → State → Prop := fun E st t => (∃ M' : Mem, Q (.inr E) M' ∧ Rel G M' t.heap) ∧ va_F (Go_A G) st t
def Stn (l : Launch) (J : Jm) (p : Program) (m : MethodId) (args : Array Value) (s : State) (meth : Method) (c : Code) : Prop :=
  CallFix p m c J.2.1 J.2.2.1 s args WS J.1.cls ∧ meth.sig.returnType = J.2.2.2.1 ∧ meth.locks = false ∧ c.exceptionTable.toList = tableOf J.2.2.2.2 ∧ meth.name = J.1.name
abbrev cvp (G : Gl) : Nat × Value → Nat × Value := fun q => (q.1, cv G q.2)
/-- from here the method comes to an end that Q knows; k cells of n slots may still be made -/
def Go (l : Launch) (J : Jm) (F L MC MS : Nat) (Q : Res → Mem → Prop) (pc : Nat) (lv : List (Nat × Value)) (st : List Value) (k n : Nat) (M : Mem) : Prop :=
  ∀ (p : Program) (e : Env) (s : State) (m : MethodId) (args : Array Value) (below : List Frame) (meth : Method) (c : Code) (G : Gl) (H : Heap) (locs : List Loc) (cells slots : Nat) (ls : Array Slot),
    Stn l J p m args s meth c → Ctx l G s → Rel G M H → va_S (Go_A G) s.heap H locs → lv_has ls J.2.2.1 (lv.map (cvp G)) → cells + k ≤ MC → slots + n ≤ MS →
    W p l e ({ frames := F, cells := MC, slots := MS, locals := L } : Room) s m args below meth c H locs cells slots (vx_MQ below (QcOf G Q) (XCOf G Q) args s MC MS (Go_A G)) (F0 m pc ls (st.map (cv G)))
/-- a method's contract -/
def Ev (l : Launch) (J : Jm) (F L mc ms : Nat) (As : List Value) (M : Mem) (Q : Res → Mem → Prop) : Prop :=
  ∀ G : Gl, vx_Met l J.1 (cwd J :: WS) ({ frames := F, cells := mc, slots := ms, locals := L } : Room) (va_Pc (As.map (cv G)) (fun s => Ctx l G s ∧ Rel G M s.heap)) (QcOf G Q) (XCOf G Q) mc ms (Go_A G)
theorem cv_cat (G : Gl) (v : Value) : (cv G v).category = v.category := by
  cases v with
  | retAddr k =>
    rcases k with _ | _ | k
    · rfl
    · show (gFc (gFm G)).category = _
      cases gFm G <;> rfl
    · show (if k % 2 = 0 then Value.ref (gSK G (k / 2)) else Value.ref (gSV G (k / 2))).category = _
      split <;> rfl
  | _ => rfl
theorem cv_cats (G : Gl) (st : List Value) : ((st.map (cv G)).map fun v => v.category).sum = (st.map fun v => v.category).sum := by
  rw [List.map_map]
  congr 1
  apply List.map_congr_left
  intro v _
  exact cv_cat G v
theorem lv_args_cv (G : Gl) : ∀ (vs : List Value) (i : Nat), lv_args i (vs.map (cv G)) = (lv_args i vs).map (cvp G)
  | [], i => rfl
  | v :: vs, i => by
    show (i, cv G v) :: lv_args (if (cv G v).category = 2 then i + 2 else i + 1) (vs.map (cv G)) = _
    rw [cv_cat, lv_args_cv G vs]
    rfl
theorem lg_sl_cv (G : Gl) : ∀ (vs : List Value), (lg_sl (vs.map (cv G))).length = (lg_sl vs).length
  | [] => rfl
  | v :: vs => by
    have ih := lg_sl_cv G vs
    simp only [lg_sl, List.map_cons, List.flatMap_cons, List.length_append, cv_cat] at ih ⊢
    rw [ih]
    congr 1
    by_cases h : v.category = 2 <;> simp [h]
theorem nwF_apart : ∀ q ∈ nwF, q.1 ≠ q.2.2.1 := by decide +kernel
end
-- 03.rules
section
/-! THE RULES: one an instruction, for Go. -/
section
variable {l : Launch} {J : Jm} {F L MC MS : Nat} {Q : Res → Mem → Prop} {pc : Nat} {lv : List (Nat × Value)} {st : List Value} {k n : Nat} {M : Mem}
theorem nbeq (a b : Nat) : Nat.beq a b = (a == b) := by
  rw [Bool.eq_iff_iff, Nat.beq_eq]
  simp
def lvG : List (Nat × Value) → Nat → Option Value
  | [], _ => none
  | q :: t, i => match Nat.beq q.1 i with
    | true => some q.2
    | false => lvG t i
theorem lvG_mem : ∀ {lv : List (Nat × Value)} {i : Nat} {v : Value}, lvG lv i = some v → (i, v) ∈ lv
  | [], i, v, h => by cases h
  | q :: t, i, v, h => by
    unfold lvG at h
    split at h
    next hb =>
      have := Nat.eq_of_beq_eq_true hb
      cases h
      subst this
      exact List.mem_cons_self
    next => exact List.mem_cons_of_mem _ (lvG_mem h)
/-- behind a store of one slot -/
def lvF1 (i : Nat) : List (Nat × Value) → List (Nat × Value)
  | [] => []
  | q :: t => match Nat.beq q.1 i with
    | true => lvF1 i t
    | false => match Nat.beq (q.1 + 1) i && Nat.beq q.2.category 2 with
      | true => lvF1 i t
      | false => q :: lvF1 i t
def lvS1 (i : Nat) (v : Value) : List (Nat × Value) → List (Nat × Value)
  | [] => [(i, v)]
  | q :: t => match Nat.beq q.1 i with
    | true => (i, v) :: lvF1 i t
    | false => match Nat.beq (q.1 + 1) i && Nat.beq q.2.category 2 with
      | true => lvS1 i v t
      | false => q :: lvS1 i v t
def lvF2 (i : Nat) : List (Nat × Value) → List (Nat × Value)
  | [] => []
  | q :: t => match Nat.beq q.1 i || Nat.beq q.1 (i + 1) with
    | true => lvF2 i t
    | false => match Nat.beq (q.1 + 1) i && Nat.beq q.2.category 2 with
      | true => lvF2 i t
      | false => q :: lvF2 i t
def lvS2 (i : Nat) (v : Value) : List (Nat × Value) → List (Nat × Value)
  | [] => [(i, v)]
  | q :: t => match Nat.beq q.1 i with
    | true => (i, v) :: lvF2 i t
    | false => match Nat.beq q.1 (i + 1) with
      | true => lvS2 i v t
      | false => match Nat.beq (q.1 + 1) i && Nat.beq q.2.category 2 with
        | true => lvS2 i v t
        | false => q :: lvS2 i v t
abbrev pr1 (i : Nat) : Nat × Value → Bool := fun q => !(q.1 == i) && !(q.1 + 1 == i && q.2.category == 2)
abbrev pr2 (i : Nat) : Nat × Value → Bool := fun q => !(q.1 == i) && (!(q.1 == i + 1) && !(q.1 + 1 == i && q.2.category == 2))
theorem lvF1_mem {i : Nat} : ∀ {lv : List (Nat × Value)} {q : Nat × Value}, q ∈ lvF1 i lv → q ∈ lv ∧ pr1 i q = true
  | [], q, h => by cases h
  | u :: t, q, h => by
    unfold lvF1 at h
    split at h
    next => exact ⟨List.mem_cons_of_mem _ (lvF1_mem h).1, (lvF1_mem h).2⟩
    next hb =>
      split at h
      next => exact ⟨List.mem_cons_of_mem _ (lvF1_mem h).1, (lvF1_mem h).2⟩
      next hc =>
        rcases List.mem_cons.mp h with rfl | h
        · refine ⟨List.mem_cons_self, ?_⟩
          have hb' : (q.1 == i) = false := by simpa only [nbeq] using hb
          have hc' : (q.1 + 1 == i && q.2.category == 2) = false := by simpa only [nbeq] using hc
          simp only [pr1, hb', hc', Bool.not_false, Bool.and_self]
        · exact ⟨List.mem_cons_of_mem _ (lvF1_mem h).1, (lvF1_mem h).2⟩
theorem lvS1_mem {i : Nat} {v : Value} : ∀ {lv : List (Nat × Value)} {q : Nat × Value}, q ∈ lvS1 i v lv → q = (i, v) ∨ (q ∈ lv ∧ pr1 i q = true)
  | [], q, h => by rcases List.mem_cons.mp h with h | h
                   · exact Or.inl h
                   · cases h
  | u :: t, q, h => by
    unfold lvS1 at h
    split at h
    next =>
      rcases List.mem_cons.mp h with h | h
      · exact Or.inl h
      · exact Or.inr ⟨List.mem_cons_of_mem _ (lvF1_mem h).1, (lvF1_mem h).2⟩
    next hb =>
      split at h
      next =>
        rcases lvS1_mem h with h | ⟨h1, h2⟩
        · exact Or.inl h
        · exact Or.inr ⟨List.mem_cons_of_mem _ h1, h2⟩
      next hc =>
        rcases List.mem_cons.mp h with rfl | h
        · refine Or.inr ⟨List.mem_cons_self, ?_⟩
          have hb' : (q.1 == i) = false := by simpa only [nbeq] using hb
          have hc' : (q.1 + 1 == i && q.2.category == 2) = false := by simpa only [nbeq] using hc
          simp only [pr1, hb', hc', Bool.not_false, Bool.and_self]
        · rcases lvS1_mem h with h | ⟨h1, h2⟩
          · exact Or.inl h
          · exact Or.inr ⟨List.mem_cons_of_mem _ h1, h2⟩
theorem lvF2_mem {i : Nat} : ∀ {lv : List (Nat × Value)} {q : Nat × Value}, q ∈ lvF2 i lv → q ∈ lv ∧ pr2 i q = true
  | [], q, h => by cases h
  | u :: t, q, h => by
    unfold lvF2 at h
    split at h
    next => exact ⟨List.mem_cons_of_mem _ (lvF2_mem h).1, (lvF2_mem h).2⟩
    next hb =>
      split at h
      next => exact ⟨List.mem_cons_of_mem _ (lvF2_mem h).1, (lvF2_mem h).2⟩
      next hc =>
        rcases List.mem_cons.mp h with rfl | h
        · refine ⟨List.mem_cons_self, ?_⟩
          have hb' : ((q.1 == i) || (q.1 == i + 1)) = false := by simpa only [nbeq] using hb
          have hc' : (q.1 + 1 == i && q.2.category == 2) = false := by simpa only [nbeq] using hc
          obtain ⟨b1, b2⟩ := Bool.or_eq_false_iff.mp hb'
          simp only [pr2, b1, b2, hc', Bool.not_false, Bool.and_self]
        · exact ⟨List.mem_cons_of_mem _ (lvF2_mem h).1, (lvF2_mem h).2⟩
theorem lvS2_mem {i : Nat} {v : Value} : ∀ {lv : List (Nat × Value)} {q : Nat × Value}, q ∈ lvS2 i v lv → q = (i, v) ∨ (q ∈ lv ∧ pr2 i q = true)
  | [], q, h => by rcases List.mem_cons.mp h with h | h
                   · exact Or.inl h
                   · cases h
  | u :: t, q, h => by
    unfold lvS2 at h
    split at h
    next =>
      rcases List.mem_cons.mp h with h | h
      · exact Or.inl h
      · exact Or.inr ⟨List.mem_cons_of_mem _ (lvF2_mem h).1, (lvF2_mem h).2⟩
    next hb =>
      split at h
      next =>
        rcases lvS2_mem h with h | ⟨h1, h2⟩
        · exact Or.inl h
        · exact Or.inr ⟨List.mem_cons_of_mem _ h1, h2⟩
      next hb2 =>
        split at h
        next =>
          rcases lvS2_mem h with h | ⟨h1, h2⟩
          · exact Or.inl h
          · exact Or.inr ⟨List.mem_cons_of_mem _ h1, h2⟩
        next hc =>
          rcases List.mem_cons.mp h with rfl | h
          · refine Or.inr ⟨List.mem_cons_self, ?_⟩
            have hb' : (q.1 == i) = false := by simpa only [nbeq] using hb
            have hb2' : (q.1 == i + 1) = false := by simpa only [nbeq] using hb2
            have hc' : (q.1 + 1 == i && q.2.category == 2) = false := by simpa only [nbeq] using hc
            simp only [pr2, hb', hb2', hc', Bool.not_false, Bool.and_self]
          · rcases lvS2_mem h with h | ⟨h1, h2⟩
            · exact Or.inl h
            · exact Or.inr ⟨List.mem_cons_of_mem _ h1, h2⟩
theorem lvH_get {G : Gl} {ls : Array Slot} {nL i : Nat} {v : Value} (hl : lv_has ls nL (lv.map (cvp G))) (h : lvG lv i = some v) : ls[i]? = some (.val (cv G v)) :=
  hl.2.2 (i, cv G v) (List.mem_map.mpr ⟨(i, v), lvG_mem h, rfl⟩)
theorem lvH_S1 {G : Gl} {ls : Array Slot} {nL i : Nat} {v : Value} {lv' : List (Nat × Value)} (e : lvS1 i v lv = lv') (h : lv_has ls nL ((i, cv G v) :: (lv.map (cvp G)).filter (pr1 i))) : lv_has ls nL (lv'.map (cvp G)) := by
  subst e
  refine ⟨h.1, h.2.1, fun q hq => h.2.2 q ?_⟩
  obtain ⟨u, hu, rfl⟩ := List.mem_map.mp hq
  rcases lvS1_mem hu with rfl | ⟨h1, h2⟩
  · exact List.mem_cons_self
  · refine List.mem_cons_of_mem _ (List.mem_filter.mpr ⟨List.mem_map.mpr ⟨u, h1, rfl⟩, ?_⟩)
    simp only [cvp, pr1, cv_cat] at h2 ⊢
    exact h2
theorem lvH_S2 {G : Gl} {ls : Array Slot} {nL i : Nat} {v : Value} {lv' : List (Nat × Value)} (e : lvS2 i v lv = lv') (h : lv_has ls nL ((i, cv G v) :: (lv.map (cvp G)).filter (pr2 i))) : lv_has ls nL (lv'.map (cvp G)) := by
  subst e
  refine ⟨h.1, h.2.1, fun q hq => h.2.2 q ?_⟩
  obtain ⟨u, hu, rfl⟩ := List.mem_map.mp hq
  rcases lvS2_mem hu with rfl | ⟨h1, h2⟩
  · exact List.mem_cons_self
  · refine List.mem_cons_of_mem _ (List.mem_filter.mpr ⟨List.mem_map.mpr ⟨u, h1, rfl⟩, ?_⟩)
    simp only [cvp, pr2, cv_cat] at h2 ⊢
    exact h2
def lvSub (lv : List (Nat × Value)) : List (Nat × Value) → Prop
  | [] => True
  | q :: t => lvG lv q.1 = some q.2 ∧ lvSub lv t
theorem lvSub_mem : ∀ {lv' : List (Nat × Value)}, lvSub lv lv' → ∀ q ∈ lv', q ∈ lv
  | [], _, q, h => by cases h
  | u :: t, h, q, hq => by
    rcases List.mem_cons.mp hq with rfl | hq
    · exact lvG_mem h.1
    · exact lvSub_mem h.2 q hq
/-- fewer locals -/
theorem g_sub {lv' : List (Nat × Value)} (h : lvSub lv lv') (kk : Go l J F L MC MS Q pc lv' st k n M) : Go l J F L MC MS Q pc lv st k n M := by
  intro p e s m args below meth c G H locs cells slots ls hX hC hR hS hl hc hs
  refine kk p e s m args below meth c G H locs cells slots ls hX hC hR hS ⟨hl.1, hl.2.1, fun q hq => hl.2.2 q ?_⟩ hc hs
  obtain ⟨u, hu, rfl⟩ := List.mem_map.mp hq
  exact List.mem_map.mpr ⟨u, lvSub_mem h u hu, rfl⟩
/-- less room asked -/
theorem g_less {k' n' : Nat} (h1 : k' ≤ k) (h2 : n' ≤ n) (kk : Go l J F L MC MS Q pc lv st k' n' M) : Go l J F L MC MS Q pc lv st k n M := by
  intro p e s m args below meth c G H locs cells slots ls hX hC hR hS hl hc hs
  exact kk p e s m args below meth c G H locs cells slots ls hX hC hR hS hl (by omega) (by omega)
theorem g_iconst {i : Int} {v : Int32} (hd : decode J.2.1 pc = .ok (.iconst i, 1)) (hv : Int32.ofInt i = v) (kk : Go l J F L MC MS Q (pc + 1) lv (.int v :: st) k n M) : Go l J F L MC MS Q pc lv (st) k n M := by
  intro p e s m args below meth c G H locs cells slots ls hX hC hR hS hl hc hs
  exact lv_iconst hX.1.1 hX.1.2.1 hd hv (kk p e s m args below meth c G H locs cells slots ls hX hC hR hS hl hc hs)
theorem g_bipush {i : Int} {v : Int32} (hd : decode J.2.1 pc = .ok (.bipush i, 2)) (hv : (Int8.ofInt i).toInt32 = v) (kk : Go l J F L MC MS Q (pc + 2) lv (.int v :: st) k n M) : Go l J F L MC MS Q pc lv (st) k n M := by
  intro p e s m args below meth c G H locs cells slots ls hX hC hR hS hl hc hs
  exact lv_bipush hX.1.1 hX.1.2.1 hd hv (kk p e s m args below meth c G H locs cells slots ls hX hC hR hS hl hc hs)
theorem g_sipush {i : Int} {v : Int32} (hd : decode J.2.1 pc = .ok (.sipush i, 3)) (hv : (Int16.ofInt i).toInt32 = v) (kk : Go l J F L MC MS Q (pc + 3) lv (.int v :: st) k n M) : Go l J F L MC MS Q pc lv (st) k n M := by
  intro p e s m args below meth c G H locs cells slots ls hX hC hR hS hl hc hs
  exact lv_sipush hX.1.1 hX.1.2.1 hd hv (kk p e s m args below meth c G H locs cells slots ls hX hC hR hS hl hc hs)
theorem g_lconst {i : Fin 2} {v : Int64} (hd : decode J.2.1 pc = .ok (.lconst i, 1)) (hv : Int64.ofNat (i : Nat) = v) (kk : Go l J F L MC MS Q (pc + 1) lv (.long v :: st) k n M) : Go l J F L MC MS Q pc lv (st) k n M := by
  intro p e s m args below meth c G H locs cells slots ls hX hC hR hS hl hc hs
  exact lv_lconst hX.1.1 hX.1.2.1 hd hv (kk p e s m args below meth c G H locs cells slots ls hX hC hR hS hl hc hs)
theorem g_ldc {ix : Nat} {v : Int32} (hd : decode J.2.1 pc = .ok (.ldc ix, 2)) (hw : Cond.constant J.1.cls ix v ∈ WS) (kk : Go l J F L MC MS Q (pc + 2) lv (.int v :: st) k n M) : Go l J F L MC MS Q pc lv st k n M := by
  intro p e s m args below meth c G H locs cells slots ls hX hC hR hS hl hc hs
  exact lv_ldc hX.1.1 hX.1.2.1 hX.1.2.2.2.1 (hX.1.2.2.2.2 _ hw) hd (kk p e s m args below meth c G H locs cells slots ls hX hC hR hS hl hc hs)
theorem g_ldc2 {ix : Nat} {v : Int64} (hd : decode J.2.1 pc = .ok (.ldc2_w ix, 3)) (hw : Cond.constantLong J.1.cls ix v ∈ WS) (kk : Go l J F L MC MS Q (pc + 3) lv (.long v :: st) k n M) : Go l J F L MC MS Q pc lv st k n M := by
  intro p e s m args below meth c G H locs cells slots ls hX hC hR hS hl hc hs
  exact lv_ldc2 hX.1.1 hX.1.2.1 hX.1.2.2.2.1 (hX.1.2.2.2.2 _ hw) hd (kk p e s m args below meth c G H locs cells slots ls hX hC hR hS hl hc hs)
theorem g_ldcw {ix : Nat} {v : Int32} (hd : decode J.2.1 pc = .ok (.ldc_w ix, 3)) (hw : Cond.constant J.1.cls ix v ∈ WS) (kk : Go l J F L MC MS Q (pc + 3) lv (.int v :: st) k n M) : Go l J F L MC MS Q pc lv st k n M := by
  intro p e s m args below meth c G H locs cells slots ls hX hC hR hS hl hc hs
  exact lv_ldcw hX.1.1 hX.1.2.1 hX.1.2.2.2.1 (hX.1.2.2.2.2 _ hw) hd (kk p e s m args below meth c G H locs cells slots ls hX hC hR hS hl hc hs)
theorem g_iload {i : Nat} {x : Int32} (hd : decode J.2.1 pc = .ok (.iload i, 2)) (hv : lvG lv i = some (.int x)) (kk : Go l J F L MC MS Q (pc + 2) lv (.int x :: st) k n M) : Go l J F L MC MS Q pc lv (st) k n M := by
  intro p e s m args below meth c G H locs cells slots ls hX hC hR hS hl hc hs
  exact lv_iload hX.1.1 hX.1.2.1 hd (lvH_get hl hv) (kk p e s m args below meth c G H locs cells slots ls hX hC hR hS hl hc hs)
theorem g_iload_n {j : Fin 4} {x : Int32} (hd : decode J.2.1 pc = .ok (.iload_n j, 1)) (hv : lvG lv j.val = some (.int x)) (kk : Go l J F L MC MS Q (pc + 1) lv (.int x :: st) k n M) : Go l J F L MC MS Q pc lv (st) k n M := by
  intro p e s m args below meth c G H locs cells slots ls hX hC hR hS hl hc hs
  exact lv_iload_n hX.1.1 hX.1.2.1 hd rfl (lvH_get hl hv) (kk p e s m args below meth c G H locs cells slots ls hX hC hR hS hl hc hs)
theorem g_lload {i : Nat} {x : Int64} (hd : decode J.2.1 pc = .ok (.lload i, 2)) (hv : lvG lv i = some (.long x)) (kk : Go l J F L MC MS Q (pc + 2) lv (.long x :: st) k n M) : Go l J F L MC MS Q pc lv (st) k n M := by
  intro p e s m args below meth c G H locs cells slots ls hX hC hR hS hl hc hs
  exact lv_lload hX.1.1 hX.1.2.1 hd (lvH_get hl hv) (kk p e s m args below meth c G H locs cells slots ls hX hC hR hS hl hc hs)
theorem g_lload_n {j : Fin 4} {x : Int64} (hd : decode J.2.1 pc = .ok (.lload_n j, 1)) (hv : lvG lv j.val = some (.long x)) (kk : Go l J F L MC MS Q (pc + 1) lv (.long x :: st) k n M) : Go l J F L MC MS Q pc lv (st) k n M := by
  intro p e s m args below meth c G H locs cells slots ls hX hC hR hS hl hc hs
  exact lv_lload_n hX.1.1 hX.1.2.1 hd rfl (lvH_get hl hv) (kk p e s m args below meth c G H locs cells slots ls hX hC hR hS hl hc hs)
theorem g_fload {i : Nat} {x : UInt32} (hd : decode J.2.1 pc = .ok (.fload i, 2)) (hv : lvG lv i = some (.float x)) (kk : Go l J F L MC MS Q (pc + 2) lv (.float x :: st) k n M) : Go l J F L MC MS Q pc lv (st) k n M := by
  intro p e s m args below meth c G H locs cells slots ls hX hC hR hS hl hc hs
  exact lv_fload hX.1.1 hX.1.2.1 hd (lvH_get hl hv) (kk p e s m args below meth c G H locs cells slots ls hX hC hR hS hl hc hs)
theorem g_fload_n {j : Fin 4} {x : UInt32} (hd : decode J.2.1 pc = .ok (.fload_n j, 1)) (hv : lvG lv j.val = some (.float x)) (kk : Go l J F L MC MS Q (pc + 1) lv (.float x :: st) k n M) : Go l J F L MC MS Q pc lv (st) k n M := by
  intro p e s m args below meth c G H locs cells slots ls hX hC hR hS hl hc hs
  exact lv_fload_n hX.1.1 hX.1.2.1 hd rfl (lvH_get hl hv) (kk p e s m args below meth c G H locs cells slots ls hX hC hR hS hl hc hs)
theorem g_dload {i : Nat} {x : UInt64} (hd : decode J.2.1 pc = .ok (.dload i, 2)) (hv : lvG lv i = some (.double x)) (kk : Go l J F L MC MS Q (pc + 2) lv (.double x :: st) k n M) : Go l J F L MC MS Q pc lv (st) k n M := by
  intro p e s m args below meth c G H locs cells slots ls hX hC hR hS hl hc hs
  exact lv_dload hX.1.1 hX.1.2.1 hd (lvH_get hl hv) (kk p e s m args below meth c G H locs cells slots ls hX hC hR hS hl hc hs)
theorem g_dload_n {j : Fin 4} {x : UInt64} (hd : decode J.2.1 pc = .ok (.dload_n j, 1)) (hv : lvG lv j.val = some (.double x)) (kk : Go l J F L MC MS Q (pc + 1) lv (.double x :: st) k n M) : Go l J F L MC MS Q pc lv (st) k n M := by
  intro p e s m args below meth c G H locs cells slots ls hX hC hR hS hl hc hs
  exact lv_dload_n hX.1.1 hX.1.2.1 hd rfl (lvH_get hl hv) (kk p e s m args below meth c G H locs cells slots ls hX hC hR hS hl hc hs)
/-- a value that is a reference or null for the machine -/
def isR : Value → Prop
  | .ref _ => True
  | .retAddr _ => True
  | .null => True
  | _ => False
theorem isR_cv (G : Gl) {v : Value} (h : isR v) : cv G v = .null ∨ ∃ a, cv G v = .ref a := by
  cases v with
  | ref a => exact Or.inr ⟨_, rfl⟩
  | null => exact Or.inl rfl
  | retAddr j =>
    rcases j with _ | _ | j
    · exact Or.inr ⟨_, rfl⟩
    · show gFc (gFm G) = .null ∨ ∃ a, gFc (gFm G) = .ref a
      cases gFm G <;> first | exact Or.inl rfl | exact Or.inr ⟨_, rfl⟩
    · show (if j % 2 = 0 then Value.ref (gSK G (j / 2)) else Value.ref (gSV G (j / 2))) = .null ∨ ∃ a, (if j % 2 = 0 then Value.ref (gSK G (j / 2)) else Value.ref (gSV G (j / 2))) = .ref a
      split <;> exact Or.inr ⟨_, rfl⟩
  | _ => exact absurd h (by simp [isR])
/-- a value that is a reference for the machine, for sure -/
def isA : Value → Prop
  | .ref _ => True
  | .retAddr j => j ≠ 1
  | _ => False
theorem isA_cv (G : Gl) {v : Value} (h : isA v) : ∃ a, cv G v = .ref a := by
  cases v with
  | ref a => exact ⟨_, rfl⟩
  | retAddr j =>
    rcases j with _ | _ | j
    · exact ⟨_, rfl⟩
    · exact absurd rfl h
    · show ∃ a, (if j % 2 = 0 then Value.ref (gSK G (j / 2)) else Value.ref (gSV G (j / 2))) = .ref a
      split <;> exact ⟨_, rfl⟩
  | _ => exact absurd h (by simp [isA])
theorem g_aload {i : Nat} {v : Value} (hd : decode J.2.1 pc = .ok (.aload i, 2)) (hv : lvG lv i = some v) (hr : isA v) (kk : Go l J F L MC MS Q (pc + 2) lv (v :: st) k n M) : Go l J F L MC MS Q pc lv st k n M := by
  intro p e s m args below meth c G H locs cells slots ls hX hC hR hS hl hc hs
  obtain ⟨a, ha⟩ := isA_cv G hr
  have h0 := lvH_get hl hv
  have h1 := kk p e s m args below meth c G H locs cells slots ls hX hC hR hS hl hc hs
  rw [List.map_cons] at h1
  rw [ha] at h0 h1
  exact lv_aload hX.1.1 hX.1.2.1 hd h0 h1
theorem g_aload_n {j : Fin 4} {v : Value} (hd : decode J.2.1 pc = .ok (.aload_n j, 1)) (hv : lvG lv j.val = some v) (hr : isA v) (kk : Go l J F L MC MS Q (pc + 1) lv (v :: st) k n M) : Go l J F L MC MS Q pc lv st k n M := by
  intro p e s m args below meth c G H locs cells slots ls hX hC hR hS hl hc hs
  obtain ⟨a, ha⟩ := isA_cv G hr
  have h0 := lvH_get hl hv
  have h1 := kk p e s m args below meth c G H locs cells slots ls hX hC hR hS hl hc hs
  rw [List.map_cons] at h1
  rw [ha] at h0 h1
  exact lv_aload_n hX.1.1 hX.1.2.1 hd rfl h0 h1
theorem g_istore {i : Nat} {x : Int32} {lv' : List (Nat × Value)} (hd : decode J.2.1 pc = .ok (.istore i, 2)) (hn : i < J.2.2.1) (hv : lvS1 i (.int x) lv = lv') (kk : Go l J F L MC MS Q (pc + 2) lv' st k n M) : Go l J F L MC MS Q pc lv (.int x :: st) k n M := by
  intro p e s m args below meth c G H locs cells slots ls hX hC hR hS hl hc hs
  exact lv_istore hX.1.1 hX.1.2.1 hd hl hn rfl (fun ls' hl' => kk p e s m args below meth c G H locs cells slots ls' hX hC hR hS (lvH_S1 hv hl') hc hs)
theorem g_istore_n {j : Fin 4} {x : Int32} {lv' : List (Nat × Value)} (hd : decode J.2.1 pc = .ok (.istore_n j, 1)) (hn : j.val < J.2.2.1) (hv : lvS1 j.val (.int x) lv = lv') (kk : Go l J F L MC MS Q (pc + 1) lv' st k n M) : Go l J F L MC MS Q pc lv (.int x :: st) k n M := by
  intro p e s m args below meth c G H locs cells slots ls hX hC hR hS hl hc hs
  exact lv_istore_n hX.1.1 hX.1.2.1 hd rfl hl hn rfl (fun ls' hl' => kk p e s m args below meth c G H locs cells slots ls' hX hC hR hS (lvH_S1 hv hl') hc hs)
theorem g_lstore {i : Nat} {x : Int64} {lv' : List (Nat × Value)} (hd : decode J.2.1 pc = .ok (.lstore i, 2)) (hn : i + 1 < J.2.2.1) (hv : lvS2 i (.long x) lv = lv') (kk : Go l J F L MC MS Q (pc + 2) lv' st k n M) : Go l J F L MC MS Q pc lv (.long x :: st) k n M := by
  intro p e s m args below meth c G H locs cells slots ls hX hC hR hS hl hc hs
  exact lv_lstore hX.1.1 hX.1.2.1 hd hl hn rfl (fun ls' hl' => kk p e s m args below meth c G H locs cells slots ls' hX hC hR hS (lvH_S2 hv hl') hc hs)
theorem g_lstore_n {j : Fin 4} {x : Int64} {lv' : List (Nat × Value)} (hd : decode J.2.1 pc = .ok (.lstore_n j, 1)) (hn : j.val + 1 < J.2.2.1) (hv : lvS2 j.val (.long x) lv = lv') (kk : Go l J F L MC MS Q (pc + 1) lv' st k n M) : Go l J F L MC MS Q pc lv (.long x :: st) k n M := by
  intro p e s m args below meth c G H locs cells slots ls hX hC hR hS hl hc hs
  exact lv_lstore_n hX.1.1 hX.1.2.1 hd rfl hl hn rfl (fun ls' hl' => kk p e s m args below meth c G H locs cells slots ls' hX hC hR hS (lvH_S2 hv hl') hc hs)
theorem g_fstore {i : Nat} {x : UInt32} {lv' : List (Nat × Value)} (hd : decode J.2.1 pc = .ok (.fstore i, 2)) (hn : i < J.2.2.1) (hv : lvS1 i (.float x) lv = lv') (kk : Go l J F L MC MS Q (pc + 2) lv' st k n M) : Go l J F L MC MS Q pc lv (.float x :: st) k n M := by
  intro p e s m args below meth c G H locs cells slots ls hX hC hR hS hl hc hs
  exact lv_fstore hX.1.1 hX.1.2.1 hd hl hn rfl (fun ls' hl' => kk p e s m args below meth c G H locs cells slots ls' hX hC hR hS (lvH_S1 hv hl') hc hs)
theorem g_fstore_n {j : Fin 4} {x : UInt32} {lv' : List (Nat × Value)} (hd : decode J.2.1 pc = .ok (.fstore_n j, 1)) (hn : j.val < J.2.2.1) (hv : lvS1 j.val (.float x) lv = lv') (kk : Go l J F L MC MS Q (pc + 1) lv' st k n M) : Go l J F L MC MS Q pc lv (.float x :: st) k n M := by
  intro p e s m args below meth c G H locs cells slots ls hX hC hR hS hl hc hs
  exact lv_fstore_n hX.1.1 hX.1.2.1 hd rfl hl hn rfl (fun ls' hl' => kk p e s m args below meth c G H locs cells slots ls' hX hC hR hS (lvH_S1 hv hl') hc hs)
theorem g_dstore {i : Nat} {x : UInt64} {lv' : List (Nat × Value)} (hd : decode J.2.1 pc = .ok (.dstore i, 2)) (hn : i + 1 < J.2.2.1) (hv : lvS2 i (.double x) lv = lv') (kk : Go l J F L MC MS Q (pc + 2) lv' st k n M) : Go l J F L MC MS Q pc lv (.double x :: st) k n M := by
  intro p e s m args below meth c G H locs cells slots ls hX hC hR hS hl hc hs
  exact lv_dstore hX.1.1 hX.1.2.1 hd hl hn rfl (fun ls' hl' => kk p e s m args below meth c G H locs cells slots ls' hX hC hR hS (lvH_S2 hv hl') hc hs)
theorem g_dstore_n {j : Fin 4} {x : UInt64} {lv' : List (Nat × Value)} (hd : decode J.2.1 pc = .ok (.dstore_n j, 1)) (hn : j.val + 1 < J.2.2.1) (hv : lvS2 j.val (.double x) lv = lv') (kk : Go l J F L MC MS Q (pc + 1) lv' st k n M) : Go l J F L MC MS Q pc lv (.double x :: st) k n M := by
  intro p e s m args below meth c G H locs cells slots ls hX hC hR hS hl hc hs
  exact lv_dstore_n hX.1.1 hX.1.2.1 hd rfl hl hn rfl (fun ls' hl' => kk p e s m args below meth c G H locs cells slots ls' hX hC hR hS (lvH_S2 hv hl') hc hs)
theorem g_astore {i : Nat} {v : Value} {lv' : List (Nat × Value)} (hd : decode J.2.1 pc = .ok (.astore i, 2)) (hr : isA v) (hn : i < J.2.2.1) (hv : lvS1 i v lv = lv') (kk : Go l J F L MC MS Q (pc + 2) lv' st k n M) : Go l J F L MC MS Q pc lv (v :: st) k n M := by
  intro p e s m args below meth c G H locs cells slots ls hX hC hR hS hl hc hs
  obtain ⟨a, ha⟩ := isA_cv G hr
  have h1 : ∀ ls' : Array Slot, lv_has ls' J.2.2.1 ((i, cv G v) :: (lv.map (cvp G)).filter (pr1 i)) → _ := fun ls' hl' => kk p e s m args below meth c G H locs cells slots ls' hX hC hR hS (lvH_S1 hv hl') hc hs
  rw [List.map_cons]
  rw [ha] at h1 ⊢
  exact lv_astore hX.1.1 hX.1.2.1 hd hl hn rfl h1
theorem g_astore_n {j : Fin 4} {v : Value} {lv' : List (Nat × Value)} (hd : decode J.2.1 pc = .ok (.astore_n j, 1)) (hr : isA v) (hn : j.val < J.2.2.1) (hv : lvS1 j.val v lv = lv') (kk : Go l J F L MC MS Q (pc + 1) lv' st k n M) : Go l J F L MC MS Q pc lv (v :: st) k n M := by
  intro p e s m args below meth c G H locs cells slots ls hX hC hR hS hl hc hs
  obtain ⟨a, ha⟩ := isA_cv G hr
  have h1 : ∀ ls' : Array Slot, lv_has ls' J.2.2.1 ((j.val, cv G v) :: (lv.map (cvp G)).filter (pr1 j.val)) → _ := fun ls' hl' => kk p e s m args below meth c G H locs cells slots ls' hX hC hR hS (lvH_S1 hv hl') hc hs
  rw [List.map_cons]
  rw [ha] at h1 ⊢
  exact lv_astore_n hX.1.1 hX.1.2.1 hd rfl hl hn rfl h1
theorem g_iinc {i : Nat} {d : Int} {x v : Int32} {lv' : List (Nat × Value)} (hd : decode J.2.1 pc = .ok (.iinc i d, 3)) (hg : lvG lv i = some (.int x)) (hx : x + Int32.ofInt d = v) (hn : i < J.2.2.1) (hv : lvS1 i (.int v) lv = lv') (kk : Go l J F L MC MS Q (pc + 3) lv' st k n M) : Go l J F L MC MS Q pc lv st k n M := by
  intro p e s m args below meth c G H locs cells slots ls hX hC hR hS hl hc hs
  obtain ⟨j, hj⟩ := List.getElem?_of_mem (List.mem_map.mpr ⟨(i, .int x), lvG_mem hg, rfl⟩ : (i, cv G (.int x)) ∈ lv.map (cvp G))
  exact lv_iinc (k := j) hX.1.1 hX.1.2.1 hd hl hj hx hn rfl (fun ls' hl' => kk p e s m args below meth c G H locs cells slots ls' hX hC hR hS (lvH_S1 hv hl') hc hs)
theorem g_iadd {x y : Int32} (hd : decode J.2.1 pc = .ok (.iadd, 1)) (kk : Go l J F L MC MS Q (pc + 1) lv (.int (x + y) :: st) k n M) : Go l J F L MC MS Q pc lv (.int y :: .int x :: st) k n M := by
  intro p e s m args below meth c G H locs cells slots ls hX hC hR hS hl hc hs
  exact lv_iadd hX.1.1 hX.1.2.1 hd (kk p e s m args below meth c G H locs cells slots ls hX hC hR hS hl hc hs)
theorem g_isub {x y : Int32} (hd : decode J.2.1 pc = .ok (.isub, 1)) (kk : Go l J F L MC MS Q (pc + 1) lv (.int (x - y) :: st) k n M) : Go l J F L MC MS Q pc lv (.int y :: .int x :: st) k n M := by
  intro p e s m args below meth c G H locs cells slots ls hX hC hR hS hl hc hs
  exact lv_isub hX.1.1 hX.1.2.1 hd (kk p e s m args below meth c G H locs cells slots ls hX hC hR hS hl hc hs)
theorem g_imul {x y : Int32} (hd : decode J.2.1 pc = .ok (.imul, 1)) (kk : Go l J F L MC MS Q (pc + 1) lv (.int (x * y) :: st) k n M) : Go l J F L MC MS Q pc lv (.int y :: .int x :: st) k n M := by
  intro p e s m args below meth c G H locs cells slots ls hX hC hR hS hl hc hs
  exact lv_imul hX.1.1 hX.1.2.1 hd (kk p e s m args below meth c G H locs cells slots ls hX hC hR hS hl hc hs)
theorem g_iand {x y : Int32} (hd : decode J.2.1 pc = .ok (.iand, 1)) (kk : Go l J F L MC MS Q (pc + 1) lv (.int (x &&& y) :: st) k n M) : Go l J F L MC MS Q pc lv (.int y :: .int x :: st) k n M := by
  intro p e s m args below meth c G H locs cells slots ls hX hC hR hS hl hc hs
  exact lv_iand hX.1.1 hX.1.2.1 hd (kk p e s m args below meth c G H locs cells slots ls hX hC hR hS hl hc hs)
theorem g_ior {x y : Int32} (hd : decode J.2.1 pc = .ok (.ior, 1)) (kk : Go l J F L MC MS Q (pc + 1) lv (.int (x ||| y) :: st) k n M) : Go l J F L MC MS Q pc lv (.int y :: .int x :: st) k n M := by
  intro p e s m args below meth c G H locs cells slots ls hX hC hR hS hl hc hs
  exact lv_ior hX.1.1 hX.1.2.1 hd (kk p e s m args below meth c G H locs cells slots ls hX hC hR hS hl hc hs)
theorem g_ixor {x y : Int32} (hd : decode J.2.1 pc = .ok (.ixor, 1)) (kk : Go l J F L MC MS Q (pc + 1) lv (.int (x ^^^ y) :: st) k n M) : Go l J F L MC MS Q pc lv (.int y :: .int x :: st) k n M := by
  intro p e s m args below meth c G H locs cells slots ls hX hC hR hS hl hc hs
  exact lv_ixor hX.1.1 hX.1.2.1 hd (kk p e s m args below meth c G H locs cells slots ls hX hC hR hS hl hc hs)
theorem g_idiv {x y : Int32} (hd : decode J.2.1 pc = .ok (.idiv, 1)) (h0 : ¬ y = 0) (kk : Go l J F L MC MS Q (pc + 1) lv (.int (x / y) :: st) k n M) : Go l J F L MC MS Q pc lv (.int y :: .int x :: st) k n M := by
  intro p e s m args below meth c G H locs cells slots ls hX hC hR hS hl hc hs
  exact lv_idiv hX.1.1 hX.1.2.1 hd h0 (kk p e s m args below meth c G H locs cells slots ls hX hC hR hS hl hc hs)
theorem g_irem {x y : Int32} (hd : decode J.2.1 pc = .ok (.irem, 1)) (h0 : ¬ y = 0) (kk : Go l J F L MC MS Q (pc + 1) lv (.int (x - x / y * y) :: st) k n M) : Go l J F L MC MS Q pc lv (.int y :: .int x :: st) k n M := by
  intro p e s m args below meth c G H locs cells slots ls hX hC hR hS hl hc hs
  exact lv_irem hX.1.1 hX.1.2.1 hd h0 (kk p e s m args below meth c G H locs cells slots ls hX hC hR hS hl hc hs)
theorem g_ineg {x : Int32} (hd : decode J.2.1 pc = .ok (.ineg, 1)) (kk : Go l J F L MC MS Q (pc + 1) lv (.int (-x) :: st) k n M) : Go l J F L MC MS Q pc lv (.int x :: st) k n M := by
  intro p e s m args below meth c G H locs cells slots ls hX hC hR hS hl hc hs
  exact lv_ineg hX.1.1 hX.1.2.1 hd (kk p e s m args below meth c G H locs cells slots ls hX hC hR hS hl hc hs)
theorem g_ladd {x y : Int64} (hd : decode J.2.1 pc = .ok (.ladd, 1)) (kk : Go l J F L MC MS Q (pc + 1) lv (.long (x + y) :: st) k n M) : Go l J F L MC MS Q pc lv (.long y :: .long x :: st) k n M := by
  intro p e s m args below meth c G H locs cells slots ls hX hC hR hS hl hc hs
  exact lv_ladd hX.1.1 hX.1.2.1 hd (kk p e s m args below meth c G H locs cells slots ls hX hC hR hS hl hc hs)
theorem g_lsub {x y : Int64} (hd : decode J.2.1 pc = .ok (.lsub, 1)) (kk : Go l J F L MC MS Q (pc + 1) lv (.long (x - y) :: st) k n M) : Go l J F L MC MS Q pc lv (.long y :: .long x :: st) k n M := by
  intro p e s m args below meth c G H locs cells slots ls hX hC hR hS hl hc hs
  exact lv_lsub hX.1.1 hX.1.2.1 hd (kk p e s m args below meth c G H locs cells slots ls hX hC hR hS hl hc hs)
theorem g_lmul {x y : Int64} (hd : decode J.2.1 pc = .ok (.lmul, 1)) (kk : Go l J F L MC MS Q (pc + 1) lv (.long (x * y) :: st) k n M) : Go l J F L MC MS Q pc lv (.long y :: .long x :: st) k n M := by
  intro p e s m args below meth c G H locs cells slots ls hX hC hR hS hl hc hs
  exact lv_lmul hX.1.1 hX.1.2.1 hd (kk p e s m args below meth c G H locs cells slots ls hX hC hR hS hl hc hs)
theorem g_land {x y : Int64} (hd : decode J.2.1 pc = .ok (.land, 1)) (kk : Go l J F L MC MS Q (pc + 1) lv (.long (x &&& y) :: st) k n M) : Go l J F L MC MS Q pc lv (.long y :: .long x :: st) k n M := by
  intro p e s m args below meth c G H locs cells slots ls hX hC hR hS hl hc hs
  exact lv_land hX.1.1 hX.1.2.1 hd (kk p e s m args below meth c G H locs cells slots ls hX hC hR hS hl hc hs)
theorem g_lor {x y : Int64} (hd : decode J.2.1 pc = .ok (.lor, 1)) (kk : Go l J F L MC MS Q (pc + 1) lv (.long (x ||| y) :: st) k n M) : Go l J F L MC MS Q pc lv (.long y :: .long x :: st) k n M := by
  intro p e s m args below meth c G H locs cells slots ls hX hC hR hS hl hc hs
  exact lv_lor hX.1.1 hX.1.2.1 hd (kk p e s m args below meth c G H locs cells slots ls hX hC hR hS hl hc hs)
theorem g_lxor {x y : Int64} (hd : decode J.2.1 pc = .ok (.lxor, 1)) (kk : Go l J F L MC MS Q (pc + 1) lv (.long (x ^^^ y) :: st) k n M) : Go l J F L MC MS Q pc lv (.long y :: .long x :: st) k n M := by
  intro p e s m args below meth c G H locs cells slots ls hX hC hR hS hl hc hs
  exact lv_lxor hX.1.1 hX.1.2.1 hd (kk p e s m args below meth c G H locs cells slots ls hX hC hR hS hl hc hs)
theorem g_ishl {x y : Int32} (hd : decode J.2.1 pc = .ok (.ishl, 1)) (kk : Go l J F L MC MS Q (pc + 1) lv (.int (x <<< (y &&& 31)) :: st) k n M) : Go l J F L MC MS Q pc lv (.int y :: .int x :: st) k n M := by
  intro p e s m args below meth c G H locs cells slots ls hX hC hR hS hl hc hs
  exact lv_ishl hX.1.1 hX.1.2.1 hd (kk p e s m args below meth c G H locs cells slots ls hX hC hR hS hl hc hs)
theorem g_ishr {x y : Int32} (hd : decode J.2.1 pc = .ok (.ishr, 1)) (kk : Go l J F L MC MS Q (pc + 1) lv (.int (x >>> (y &&& 31)) :: st) k n M) : Go l J F L MC MS Q pc lv (.int y :: .int x :: st) k n M := by
  intro p e s m args below meth c G H locs cells slots ls hX hC hR hS hl hc hs
  exact lv_ishr hX.1.1 hX.1.2.1 hd (kk p e s m args below meth c G H locs cells slots ls hX hC hR hS hl hc hs)
theorem g_iushr {x y v : Int32} (hd : decode J.2.1 pc = .ok (.iushr, 1)) (hv : (x.toUInt32 >>> (y.toUInt32 &&& Int32.toUInt32 31)).toInt32 = v) (kk : Go l J F L MC MS Q (pc + 1) lv (.int v :: st) k n M) : Go l J F L MC MS Q pc lv (.int y :: .int x :: st) k n M := by
  intro p e s m args below meth c G H locs cells slots ls hX hC hR hS hl hc hs
  exact lv_iushr hX.1.1 hX.1.2.1 hd hv (kk p e s m args below meth c G H locs cells slots ls hX hC hR hS hl hc hs)
theorem g_lushr {x v : Int64} {y : Int32} (hd : decode J.2.1 pc = .ok (.lushr, 1)) (hv : (x.toUInt64 >>> (y.toInt64.toUInt64 &&& Int64.toUInt64 63)).toInt64 = v) (kk : Go l J F L MC MS Q (pc + 1) lv (.long v :: st) k n M) : Go l J F L MC MS Q pc lv (.int y :: .long x :: st) k n M := by
  intro p e s m args below meth c G H locs cells slots ls hX hC hR hS hl hc hs
  exact lv_lushr hX.1.1 hX.1.2.1 hd hv (kk p e s m args below meth c G H locs cells slots ls hX hC hR hS hl hc hs)
theorem g_lshl {x v : Int64} {y : Int32} (hd : decode J.2.1 pc = .ok (.lshl, 1)) (hv : x <<< (y.toInt64 &&& 63) = v) (kk : Go l J F L MC MS Q (pc + 1) lv (.long v :: st) k n M) : Go l J F L MC MS Q pc lv (.int y :: .long x :: st) k n M := by
  intro p e s m args below meth c G H locs cells slots ls hX hC hR hS hl hc hs
  exact lv_lshl hX.1.1 hX.1.2.1 hd hv (kk p e s m args below meth c G H locs cells slots ls hX hC hR hS hl hc hs)
theorem g_lshr {x v : Int64} {y : Int32} (hd : decode J.2.1 pc = .ok (.lshr, 1)) (hv : x >>> (y.toInt64 &&& 63) = v) (kk : Go l J F L MC MS Q (pc + 1) lv (.long v :: st) k n M) : Go l J F L MC MS Q pc lv (.int y :: .long x :: st) k n M := by
  intro p e s m args below meth c G H locs cells slots ls hX hC hR hS hl hc hs
  exact lv_lshr hX.1.1 hX.1.2.1 hd hv (kk p e s m args below meth c G H locs cells slots ls hX hC hR hS hl hc hs)
theorem g_i2l {x : Int32} {v : Int64} (hd : decode J.2.1 pc = .ok (.i2l, 1)) (hv : x.toInt64 = v) (kk : Go l J F L MC MS Q (pc + 1) lv (.long v :: st) k n M) : Go l J F L MC MS Q pc lv (.int x :: st) k n M := by
  intro p e s m args below meth c G H locs cells slots ls hX hC hR hS hl hc hs
  exact lv_i2l hX.1.1 hX.1.2.1 hd hv (kk p e s m args below meth c G H locs cells slots ls hX hC hR hS hl hc hs)
theorem g_l2i {x : Int64} {v : Int32} (hd : decode J.2.1 pc = .ok (.l2i, 1)) (hv : x.toInt32 = v) (kk : Go l J F L MC MS Q (pc + 1) lv (.int v :: st) k n M) : Go l J F L MC MS Q pc lv (.long x :: st) k n M := by
  intro p e s m args below meth c G H locs cells slots ls hX hC hR hS hl hc hs
  exact lv_l2i hX.1.1 hX.1.2.1 hd hv (kk p e s m args below meth c G H locs cells slots ls hX hC hR hS hl hc hs)
theorem g_i2b {x v : Int32} (hd : decode J.2.1 pc = .ok (.i2b, 1)) (hv : x.toInt8.toInt32 = v) (kk : Go l J F L MC MS Q (pc + 1) lv (.int v :: st) k n M) : Go l J F L MC MS Q pc lv (.int x :: st) k n M := by
  intro p e s m args below meth c G H locs cells slots ls hX hC hR hS hl hc hs
  exact lv_i2b hX.1.1 hX.1.2.1 hd hv (kk p e s m args below meth c G H locs cells slots ls hX hC hR hS hl hc hs)
theorem g_i2c {x v : Int32} (hd : decode J.2.1 pc = .ok (.i2c, 1)) (hv : (x.toUInt32 % 65536).toInt32 = v) (kk : Go l J F L MC MS Q (pc + 1) lv (.int v :: st) k n M) : Go l J F L MC MS Q pc lv (.int x :: st) k n M := by
  intro p e s m args below meth c G H locs cells slots ls hX hC hR hS hl hc hs
  exact lv_i2c hX.1.1 hX.1.2.1 hd hv (kk p e s m args below meth c G H locs cells slots ls hX hC hR hS hl hc hs)
theorem g_i2d {x : Int32} (hd : decode J.2.1 pc = .ok (.i2d, 1)) (kk : Go l J F L MC MS Q (pc + 1) lv (.double (FP.i2d x) :: st) k n M) : Go l J F L MC MS Q pc lv (.int x :: st) k n M := by
  intro p e s m args below meth c G H locs cells slots ls hX hC hR hS hl hc hs
  exact lv_i2d hX.1.1 hX.1.2.1 hd (kk p e s m args below meth c G H locs cells slots ls hX hC hR hS hl hc hs)
theorem g_i2f {x : Int32} (hd : decode J.2.1 pc = .ok (.i2f, 1)) (kk : Go l J F L MC MS Q (pc + 1) lv (.float (FP.i2f x) :: st) k n M) : Go l J F L MC MS Q pc lv (.int x :: st) k n M := by
  intro p e s m args below meth c G H locs cells slots ls hX hC hR hS hl hc hs
  exact lv_i2f hX.1.1 hX.1.2.1 hd (kk p e s m args below meth c G H locs cells slots ls hX hC hR hS hl hc hs)
theorem g_f2d {x : UInt32} (hd : decode J.2.1 pc = .ok (.f2d, 1)) (h0 : vf_n64 (FP.f2d x)) (kk : Go l J F L MC MS Q (pc + 1) lv (.double (FP.f2d x) :: st) k n M) : Go l J F L MC MS Q pc lv (.float x :: st) k n M := by
  intro p e s m args below meth c G H locs cells slots ls hX hC hR hS hl hc hs
  exact lv_f2d hX.1.1 hX.1.2.1 hd h0 (kk p e s m args below meth c G H locs cells slots ls hX hC hR hS hl hc hs)
theorem g_ddiv {x y : UInt64} (hd : decode J.2.1 pc = .ok (.ddiv, 1)) (h0 : vf_n64 (FP.ddiv x y)) (kk : Go l J F L MC MS Q (pc + 1) lv (.double (FP.ddiv x y) :: st) k n M) : Go l J F L MC MS Q pc lv (.double y :: .double x :: st) k n M := by
  intro p e s m args below meth c G H locs cells slots ls hX hC hR hS hl hc hs
  exact lv_ddiv hX.1.1 hX.1.2.1 hd h0 (kk p e s m args below meth c G H locs cells slots ls hX hC hR hS hl hc hs)
theorem g_fdiv {x y : UInt32} (hd : decode J.2.1 pc = .ok (.fdiv, 1)) (h0 : vf_n32 (FP.fdiv x y)) (kk : Go l J F L MC MS Q (pc + 1) lv (.float (FP.fdiv x y) :: st) k n M) : Go l J F L MC MS Q pc lv (.float y :: .float x :: st) k n M := by
  intro p e s m args below meth c G H locs cells slots ls hX hC hR hS hl hc hs
  exact lv_fdiv hX.1.1 hX.1.2.1 hd h0 (kk p e s m args below meth c G H locs cells slots ls hX hC hR hS hl hc hs)
theorem g_fcmp {x y : UInt32} {op : CmpOp} (hd : decode J.2.1 pc = .ok (.fcmp op, 1)) (kk : Go l J F L MC MS Q (pc + 1) lv (.int (Op.cmpValue (FP.fcmp x y) op) :: st) k n M) : Go l J F L MC MS Q pc lv (.float y :: .float x :: st) k n M := by
  intro p e s m args below meth c G H locs cells slots ls hX hC hR hS hl hc hs
  exact lv_fcmp hX.1.1 hX.1.2.1 hd (kk p e s m args below meth c G H locs cells slots ls hX hC hR hS hl hc hs)
theorem g_dcmp {x y : UInt64} {op : CmpOp} (hd : decode J.2.1 pc = .ok (.dcmp op, 1)) (kk : Go l J F L MC MS Q (pc + 1) lv (.int (Op.cmpValue (FP.dcmp x y) op) :: st) k n M) : Go l J F L MC MS Q pc lv (.double y :: .double x :: st) k n M := by
  intro p e s m args below meth c G H locs cells slots ls hX hC hR hS hl hc hs
  exact lv_dcmp hX.1.1 hX.1.2.1 hd (kk p e s m args below meth c G H locs cells slots ls hX hC hR hS hl hc hs)
theorem g_lcmp {x y : Int64} (hd : decode J.2.1 pc = .ok (.lcmp, 1)) (kk : Go l J F L MC MS Q (pc + 1) lv (.int (lg_cmp x y) :: st) k n M) : Go l J F L MC MS Q pc lv (.long y :: .long x :: st) k n M := by
  intro p e s m args below meth c G H locs cells slots ls hX hC hR hS hl hc hs
  exact W.lcmp hX.1.1 hX.1.2.1 hd (kk p e s m args below meth c G H locs cells slots ls hX hC hR hS hl hc hs)
theorem g_dup {v : Value} (hd : decode J.2.1 pc = .ok (.dup, 1)) (h1 : v.category = 1) (kk : Go l J F L MC MS Q (pc + 1) lv (v :: v :: st) k n M) : Go l J F L MC MS Q pc lv (v :: st) k n M := by
  intro p e s m args below meth c G H locs cells slots ls hX hC hR hS hl hc hs
  exact lv_dup hX.1.1 hX.1.2.1 hd ((cv_cat G v).trans h1) (kk p e s m args below meth c G H locs cells slots ls hX hC hR hS hl hc hs)
theorem g_pop {v : Value} (hd : decode J.2.1 pc = .ok (.pop, 1)) (h1 : v.category = 1) (kk : Go l J F L MC MS Q (pc + 1) lv (st) k n M) : Go l J F L MC MS Q pc lv (v :: st) k n M := by
  intro p e s m args below meth c G H locs cells slots ls hX hC hR hS hl hc hs
  exact lv_pop hX.1.1 hX.1.2.1 hd ((cv_cat G v).trans h1) (kk p e s m args below meth c G H locs cells slots ls hX hC hR hS hl hc hs)
theorem g_dup2_11 {v w : Value} (hd : decode J.2.1 pc = .ok (.dup2, 1)) (h1 : v.category = 1) (h2 : w.category = 1) (kk : Go l J F L MC MS Q (pc + 1) lv (v :: w :: v :: w :: st) k n M) : Go l J F L MC MS Q pc lv (v :: w :: st) k n M := by
  intro p e s m args below meth c G H locs cells slots ls hX hC hR hS hl hc hs
  exact lv_dup2_11 hX.1.1 hX.1.2.1 hd ((cv_cat G v).trans h1) ((cv_cat G w).trans h2) (kk p e s m args below meth c G H locs cells slots ls hX hC hR hS hl hc hs)
theorem g_dup2_2 {v : Value} (hd : decode J.2.1 pc = .ok (.dup2, 1)) (h1 : v.category = 2) (kk : Go l J F L MC MS Q (pc + 1) lv (v :: v :: st) k n M) : Go l J F L MC MS Q pc lv (v :: st) k n M := by
  intro p e s m args below meth c G H locs cells slots ls hX hC hR hS hl hc hs
  exact lv_dup2_2 hX.1.1 hX.1.2.1 hd ((cv_cat G v).trans h1) (kk p e s m args below meth c G H locs cells slots ls hX hC hR hS hl hc hs)
theorem g_if_eq {x : Int32} {off : Int} {tgt : Nat} (hd : decode J.2.1 pc = .ok (.ifCond .eq off, 3)) (ht : (pc : Int) + off = (tgt : Int)) (kt : x = 0 → Go l J F L MC MS Q tgt lv st k n M) (kf : ¬ (x = 0) → Go l J F L MC MS Q (pc + 3) lv st k n M) : Go l J F L MC MS Q pc lv (.int x :: st) k n M := by
  intro p e s m args below meth c G H locs cells slots ls hX hC hR hS hl hc hs
  exact lv_if_eq hX.1.1 hX.1.2.1 hd ht (fun q => kt q p e s m args below meth c G H locs cells slots ls hX hC hR hS hl hc hs) (fun q => kf q p e s m args below meth c G H locs cells slots ls hX hC hR hS hl hc hs)
theorem g_if_ne {x : Int32} {off : Int} {tgt : Nat} (hd : decode J.2.1 pc = .ok (.ifCond .ne off, 3)) (ht : (pc : Int) + off = (tgt : Int)) (kt : ¬ x = 0 → Go l J F L MC MS Q tgt lv st k n M) (kf : ¬ (¬ x = 0) → Go l J F L MC MS Q (pc + 3) lv st k n M) : Go l J F L MC MS Q pc lv (.int x :: st) k n M := by
  intro p e s m args below meth c G H locs cells slots ls hX hC hR hS hl hc hs
  exact lv_if_ne hX.1.1 hX.1.2.1 hd ht (fun q => kt q p e s m args below meth c G H locs cells slots ls hX hC hR hS hl hc hs) (fun q => kf (fun z => z q) p e s m args below meth c G H locs cells slots ls hX hC hR hS hl hc hs)
theorem g_if_lt {x : Int32} {off : Int} {tgt : Nat} (hd : decode J.2.1 pc = .ok (.ifCond .lt off, 3)) (ht : (pc : Int) + off = (tgt : Int)) (kt : x < 0 → Go l J F L MC MS Q tgt lv st k n M) (kf : ¬ (x < 0) → Go l J F L MC MS Q (pc + 3) lv st k n M) : Go l J F L MC MS Q pc lv (.int x :: st) k n M := by
  intro p e s m args below meth c G H locs cells slots ls hX hC hR hS hl hc hs
  exact lv_if_lt hX.1.1 hX.1.2.1 hd ht (fun q => kt q p e s m args below meth c G H locs cells slots ls hX hC hR hS hl hc hs) (fun q => kf q p e s m args below meth c G H locs cells slots ls hX hC hR hS hl hc hs)
theorem g_if_ge {x : Int32} {off : Int} {tgt : Nat} (hd : decode J.2.1 pc = .ok (.ifCond .ge off, 3)) (ht : (pc : Int) + off = (tgt : Int)) (kt : 0 ≤ x → Go l J F L MC MS Q tgt lv st k n M) (kf : ¬ (0 ≤ x) → Go l J F L MC MS Q (pc + 3) lv st k n M) : Go l J F L MC MS Q pc lv (.int x :: st) k n M := by
  intro p e s m args below meth c G H locs cells slots ls hX hC hR hS hl hc hs
  exact lv_if_ge hX.1.1 hX.1.2.1 hd ht (fun q => kt q p e s m args below meth c G H locs cells slots ls hX hC hR hS hl hc hs) (fun q => kf q p e s m args below meth c G H locs cells slots ls hX hC hR hS hl hc hs)
theorem g_if_gt {x : Int32} {off : Int} {tgt : Nat} (hd : decode J.2.1 pc = .ok (.ifCond .gt off, 3)) (ht : (pc : Int) + off = (tgt : Int)) (kt : 0 < x → Go l J F L MC MS Q tgt lv st k n M) (kf : ¬ (0 < x) → Go l J F L MC MS Q (pc + 3) lv st k n M) : Go l J F L MC MS Q pc lv (.int x :: st) k n M := by
  intro p e s m args below meth c G H locs cells slots ls hX hC hR hS hl hc hs
  exact lv_if_gt hX.1.1 hX.1.2.1 hd ht (fun q => kt q p e s m args below meth c G H locs cells slots ls hX hC hR hS hl hc hs) (fun q => kf q p e s m args below meth c G H locs cells slots ls hX hC hR hS hl hc hs)
theorem g_if_le {x : Int32} {off : Int} {tgt : Nat} (hd : decode J.2.1 pc = .ok (.ifCond .le off, 3)) (ht : (pc : Int) + off = (tgt : Int)) (kt : x ≤ 0 → Go l J F L MC MS Q tgt lv st k n M) (kf : ¬ (x ≤ 0) → Go l J F L MC MS Q (pc + 3) lv st k n M) : Go l J F L MC MS Q pc lv (.int x :: st) k n M := by
  intro p e s m args below meth c G H locs cells slots ls hX hC hR hS hl hc hs
  exact lv_if_le hX.1.1 hX.1.2.1 hd ht (fun q => kt q p e s m args below meth c G H locs cells slots ls hX hC hR hS hl hc hs) (fun q => kf q p e s m args below meth c G H locs cells slots ls hX hC hR hS hl hc hs)
theorem g_icmp_eq {x y : Int32} {off : Int} {tgt : Nat} (hd : decode J.2.1 pc = .ok (.if_icmp .eq off, 3)) (ht : (pc : Int) + off = (tgt : Int)) (kt : x = y → Go l J F L MC MS Q tgt lv st k n M) (kf : ¬ (x = y) → Go l J F L MC MS Q (pc + 3) lv st k n M) : Go l J F L MC MS Q pc lv (.int y :: .int x :: st) k n M := by
  intro p e s m args below meth c G H locs cells slots ls hX hC hR hS hl hc hs
  exact lv_icmp_eq hX.1.1 hX.1.2.1 hd ht (fun q => kt q p e s m args below meth c G H locs cells slots ls hX hC hR hS hl hc hs) (fun q => kf q p e s m args below meth c G H locs cells slots ls hX hC hR hS hl hc hs)
theorem g_icmp_ne {x y : Int32} {off : Int} {tgt : Nat} (hd : decode J.2.1 pc = .ok (.if_icmp .ne off, 3)) (ht : (pc : Int) + off = (tgt : Int)) (kt : ¬ x = y → Go l J F L MC MS Q tgt lv st k n M) (kf : ¬ (¬ x = y) → Go l J F L MC MS Q (pc + 3) lv st k n M) : Go l J F L MC MS Q pc lv (.int y :: .int x :: st) k n M := by
  intro p e s m args below meth c G H locs cells slots ls hX hC hR hS hl hc hs
  exact lv_icmp_ne hX.1.1 hX.1.2.1 hd ht (fun q => kt q p e s m args below meth c G H locs cells slots ls hX hC hR hS hl hc hs) (fun q => kf (fun z => z q) p e s m args below meth c G H locs cells slots ls hX hC hR hS hl hc hs)
theorem g_icmp_lt {x y : Int32} {off : Int} {tgt : Nat} (hd : decode J.2.1 pc = .ok (.if_icmp .lt off, 3)) (ht : (pc : Int) + off = (tgt : Int)) (kt : x < y → Go l J F L MC MS Q tgt lv st k n M) (kf : ¬ (x < y) → Go l J F L MC MS Q (pc + 3) lv st k n M) : Go l J F L MC MS Q pc lv (.int y :: .int x :: st) k n M := by
  intro p e s m args below meth c G H locs cells slots ls hX hC hR hS hl hc hs
  exact lv_icmp_lt hX.1.1 hX.1.2.1 hd ht (fun q => kt q p e s m args below meth c G H locs cells slots ls hX hC hR hS hl hc hs) (fun q => kf q p e s m args below meth c G H locs cells slots ls hX hC hR hS hl hc hs)
theorem g_icmp_ge {x y : Int32} {off : Int} {tgt : Nat} (hd : decode J.2.1 pc = .ok (.if_icmp .ge off, 3)) (ht : (pc : Int) + off = (tgt : Int)) (kt : y ≤ x → Go l J F L MC MS Q tgt lv st k n M) (kf : ¬ (y ≤ x) → Go l J F L MC MS Q (pc + 3) lv st k n M) : Go l J F L MC MS Q pc lv (.int y :: .int x :: st) k n M := by
  intro p e s m args below meth c G H locs cells slots ls hX hC hR hS hl hc hs
  exact lv_icmp_ge hX.1.1 hX.1.2.1 hd ht (fun q => kt q p e s m args below meth c G H locs cells slots ls hX hC hR hS hl hc hs) (fun q => kf q p e s m args below meth c G H locs cells slots ls hX hC hR hS hl hc hs)
theorem g_icmp_gt {x y : Int32} {off : Int} {tgt : Nat} (hd : decode J.2.1 pc = .ok (.if_icmp .gt off, 3)) (ht : (pc : Int) + off = (tgt : Int)) (kt : y < x → Go l J F L MC MS Q tgt lv st k n M) (kf : ¬ (y < x) → Go l J F L MC MS Q (pc + 3) lv st k n M) : Go l J F L MC MS Q pc lv (.int y :: .int x :: st) k n M := by
  intro p e s m args below meth c G H locs cells slots ls hX hC hR hS hl hc hs
  exact lv_icmp_gt hX.1.1 hX.1.2.1 hd ht (fun q => kt q p e s m args below meth c G H locs cells slots ls hX hC hR hS hl hc hs) (fun q => kf q p e s m args below meth c G H locs cells slots ls hX hC hR hS hl hc hs)
theorem g_icmp_le {x y : Int32} {off : Int} {tgt : Nat} (hd : decode J.2.1 pc = .ok (.if_icmp .le off, 3)) (ht : (pc : Int) + off = (tgt : Int)) (kt : x ≤ y → Go l J F L MC MS Q tgt lv st k n M) (kf : ¬ (x ≤ y) → Go l J F L MC MS Q (pc + 3) lv st k n M) : Go l J F L MC MS Q pc lv (.int y :: .int x :: st) k n M := by
  intro p e s m args below meth c G H locs cells slots ls hX hC hR hS hl hc hs
  exact lv_icmp_le hX.1.1 hX.1.2.1 hd ht (fun q => kt q p e s m args below meth c G H locs cells slots ls hX hC hR hS hl hc hs) (fun q => kf q p e s m args below meth c G H locs cells slots ls hX hC hR hS hl hc hs)
theorem g_goto {off : Int} {tgt : Nat} (hd : decode J.2.1 pc = .ok (.goto off, 3)) (ht : (pc : Int) + off = (tgt : Int)) (kk : Go l J F L MC MS Q tgt lv st k n M) : Go l J F L MC MS Q pc lv st k n M := by
  intro p e s m args below meth c G H locs cells slots ls hX hC hR hS hl hc hs
  exact lv_goto hX.1.1 hX.1.2.1 hd ht (kk p e s m args below meth c G H locs cells slots ls hX hC hR hS hl hc hs)
theorem g_tableIn {dflt lo hi : Int} {offs : Array Int} {len : Nat} {x : Int32} {off : Int} {tgt : Nat} (hd : decode J.2.1 pc = .ok (.tableswitch dflt lo hi offs, len)) (h1 : ¬ x.toInt < lo) (h2 : ¬ hi < x.toInt) (ho : offs[(x.toInt - lo).toNat]? = some off) (ht : (pc : Int) + off = (tgt : Int)) (kk : Go l J F L MC MS Q tgt lv st k n M) : Go l J F L MC MS Q pc lv (.int x :: st) k n M := by
  intro p e s m args below meth c G H locs cells slots ls hX hC hR hS hl hc hs
  exact lv_tableIn hX.1.1 hX.1.2.1 hd h1 h2 ho ht (kk p e s m args below meth c G H locs cells slots ls hX hC hR hS hl hc hs)
theorem g_tableOut {dflt lo hi : Int} {offs : Array Int} {len : Nat} {x : Int32} {tgt : Nat} (hd : decode J.2.1 pc = .ok (.tableswitch dflt lo hi offs, len)) (h1 : x.toInt < lo ∨ hi < x.toInt) (ht : (pc : Int) + dflt = (tgt : Int)) (kk : Go l J F L MC MS Q tgt lv st k n M) : Go l J F L MC MS Q pc lv (.int x :: st) k n M := by
  intro p e s m args below meth c G H locs cells slots ls hX hC hR hS hl hc hs
  exact lv_tableOut hX.1.1 hX.1.2.1 hd h1 ht (kk p e s m args below meth c G H locs cells slots ls hX hC hR hS hl hc hs)
theorem g_lookup {dflt : Int} {ps : Array (Int × Int)} {len : Nat} {x : Int32} {off : Int} {tgt : Nat} (hd : decode J.2.1 pc = .ok (.lookupswitch dflt ps, len)) (hp : (ps.toList.zip (ps.toList.drop 1)).all (fun (a, next) => a.1 < next.1) = true) (ho : Op.lookupswitch.offset ps.toList dflt x.toInt = off) (ht : (pc : Int) + off = (tgt : Int)) (kk : Go l J F L MC MS Q tgt lv st k n M) : Go l J F L MC MS Q pc lv (.int x :: st) k n M := by
  intro p e s m args below meth c G H locs cells slots ls hX hC hR hS hl hc hs
  exact lv_lookup hX.1.1 hX.1.2.1 hd hp ho ht (kk p e s m args below meth c G H locs cells slots ls hX hC hR hS hl hc hs)
end
end
-- 04.mem
section
/-! RULES of the memory: fields, arrays, making, calls, ends. -/
section
variable {l : Launch} {J : Jm} {F L MC MS : Nat} {Q : Res → Mem → Prop} {pc : Nat} {lv : List (Nat × Value)} {st : List Value} {k n : Nat} {M : Mem}
/-- a field as a class's pool names it: the kind of object, the place, the type -/
def FK (own : String) (ix ci j : Nat) (ty : FieldType) : Prop := ∃ (C : String) (T : u_T) (N : Nat), vwCl[ci]? = some (C, T, N) ∧ j < N ∧ (ftyA ci)[j]? = some ty ∧ (T j).1 = C ∧
  ((Cond.fieldLink own ix C (T j).2.1 (T j).2.2.1 ∈ WS) ∨ ∃ host, Cond.fieldLinkNest own ix C (T j).2.1 (T j).2.2.1 host ∈ NWL) ∧ (∀ w ∈ u_ws C T N, w ∈ WS)
/-- the same for writing -/
def FP (own : String) (ix ci j : Nat) (ty : FieldType) (fin : Bool) : Prop := ∃ (C : String) (T : u_T) (N : Nat) (ty0 : Nat → FieldType), vwCl[ci]? = some (C, T, N) ∧ j < N ∧ (ftyA ci)[j]? = some ty ∧ (T j).1 = C ∧
  ((Cond.fieldLink own ix C (T j).2.1 (T j).2.2.1 ∈ WS) ∨ ∃ host, Cond.fieldLinkNest own ix C (T j).2.1 (T j).2.2.1 host ∈ NWL) ∧ (∀ w ∈ u_ws C T N, w ∈ WS) ∧
  (∀ a, a < N → parseFieldDescriptor (T a).2.2.1 = some (ty0 a)) ∧ (∀ a, a < N → ∀ b, b < N → a ≠ b → (T a).2.1 ≠ (T b).2.1) ∧ (T j).2.2.2 = fin ∧ parseFieldDescriptor (T j).2.2.1 = some ty ∧ N = (ftyA ci).length
theorem g_getf {ix ci j id : Nat} {ty : FieldType} {v : Value} (hd : decode J.2.1 pc = .ok (.getfield ix, 3)) (hf : FK J.1.cls ix ci j ty) (hk : (mK M)[id]? = some (.inr ci)) (hv : ∀ G, fval G M id j ty = cv G v) (kk : Go l J F L MC MS Q (pc + 3) lv (v :: st) k n M) : Go l J F L MC MS Q pc lv (.ref id :: st) k n M := by
  intro p e s m args below meth c G H locs cells slots ls hX hC hR hS hl hc hs
  obtain ⟨C, T, N, h1, h2, h3, h4, h5, h6⟩ := hf
  have he := wl_get (G := G) hk
  have hx := (fvs_get G M id (ftyA ci) 0 j ty h3)
  rw [Nat.zero_add, hv] at hx
  rcases h5 with h5 | ⟨host, h5⟩
  · exact va_get hX.1.1 hX.1.2.1 hX.1.2.2.2.2 h6 hX.1.2.2.2.1 hC.2.1 hR.1 id he h1 j h2 (hX.1.2.2.2.2 _ h5) (fun x hx => by rw [h4] at hx; exact hx) hx hd (kk p e s m args below meth c G H locs cells slots ls hX hC hR hS hl hc hs)
  · exact va_getN hX.1.1 hX.1.2.1 hX.1.2.2.2.2 h6 hX.1.2.2.2.1 hC.2.1 hR.1 id he h1 j h2 (va_Nw.use (by rfl) (hC.2.2.1 _ h5)) (fun x hx => by rw [h4] at hx; exact hx) hx hd (kk p e s m args below meth c G H locs cells slots ls hX hC hR hS hl hc hs)
theorem fvs_set (G : Gl) (M M' : Mem) (id j : Nat) (ty : FieldType) (v : Value) : ∀ (ts : List FieldType) (i : Nat), ts[j]? = some ty → fval G M' id (i + j) ty = v → (∀ a t, a ≠ i + j → fval G M' id a t = fval G M id a t) → (fvs G M id i ts).set j v = fvs G M' id i ts := by
  induction j with
  | zero =>
    intro ts i h1 h2 h3
    cases ts with
    | nil => cases h1
    | cons t ts =>
      simp at h1
      subst h1
      have : ∀ (us : List FieldType) (b : Nat), i < b → fvs G M id b us = fvs G M' id b us := by
        intro us
        induction us with
        | nil => intro b hb; rfl
        | cons u us ih => intro b hb; simp only [fvs]; rw [h3 b u (by omega), ih (b + 1) (by omega)]
      simp only [fvs, List.set_cons_zero]
      rw [this ts (i + 1) (by omega)]
      simp at h2
      rw [h2]
  | succ j ih =>
    intro ts i h1 h2 h3
    cases ts with
    | nil => cases h1
    | cons t ts =>
      simp only [fvs, List.set_cons_succ]
      rw [h3 i t (by omega), ih ts (i + 1) (by simpa using h1) (by rw [← h2]; congr 1; omega) (fun a t ha => h3 a t (by omega))]
/-- a new memory that differs in one cell, after a write -/
theorem rel_set {G : Gl} {M M' : Mem} {H H1 : Heap} {i : Nat} {x : Knd} (hR : Rel G M H) (hk : (mK M)[i]? = some x) (hK : mK M' = mK M) (hX : mX M' = mX M) (hSc : mS M' = mS M) (ho : ∀ j y, j ≠ i → (mK M)[j]? = some y → ent G M' j y = ent G M j y) (hz : H1.size = H.size) (hP : va_P (gD G) vwCl ((wl G M).set i (gB G + i, ent G M' i x)) H1) : Rel G M' H1 := by
  rw [wl_set hk hK ho] at hP
  exact ⟨hP, by rw [hX, hz, hK]; exact hR.2.1, by rw [hz, hK]; exact hR.2.2.1, hSc.trans hR.2.2.2⟩
theorem va_S_size {A : Nat → Prop} {H0 H : Heap} {locs : List Loc} (h : va_S A H0 H locs) : H0.size ≤ H.size := h.1
theorem g_putf {ix ci j id : Nat} {ty : FieldType} {fin : Bool} {v : Value} {M' : Mem} (hd : decode J.2.1 pc = .ok (.putfield ix, 3)) (hf : FP J.1.cls ix ci j ty fin) (hfin : fin = true → J.1.name = "<init>" ∧ ∃ q, vwCl[ci]? = some q ∧ q.1 = J.1.cls) (hk : (mK M)[id]? = some (.inr ci)) (hn : ∀ G, narrow ty (cv G v) = cv G v ∧ fits ty (cv G v) = true)
    (hK : mK M' = mK M) (hXX : mX M' = mX M) (hSc : mS M' = mS M) (hv : ∀ G, fval G M' id j ty = cv G v) (ho : ∀ G a t, a ≠ j → fval G M' id a t = fval G M id a t) (ho2 : ∀ G i y, i ≠ id → (mK M)[i]? = some y → ent G M' i y = ent G M i y)
    (kk : Go l J F L MC MS Q (pc + 3) lv st k n M') : Go l J F L MC MS Q pc lv (v :: .ref id :: st) k n M := by
  intro p e s m args below meth c G H locs cells slots ls hX hC hR hS hl hc hs
  obtain ⟨C, T, N, ty0, h1, h2, h3, h4, h5, h6, h7, h8, h9, h10, h11⟩ := hf
  have he := wl_get (G := G) hk
  have hts := hX.1.2.2.2.2
  have hK0 := hC.2.1
  have hap := va_apart (own := J.1.cls) hts h6 ty0 h7 h8 hK0 h1
  obtain ⟨r, g1, cell, q1, q2, q3, q4⟩ := hR.1 id _ he
  have hr : r = (C, T, N) := Option.some.inj (g1.symm.trans h1)
  subst hr
  obtain ⟨hSl, hfc, kC, hkC, hkind⟩ := hK0.1 ci _ h1
  obtain ⟨cf, kf, fi, f, hi, hsl⟩ := hSl j h2
  have hi' : s.fieldFound? C (T j).2.1 (T j).2.2.1 = some (cf, kf, fi, f) := by rw [h4] at hi; exact hi
  have hst := (u_facts hfc hkC (u_lays hts h6 h2) hi).1
  have hlt := k2_hasslot (q4 j h2)
  have hlen : j < (fvs G M id 0 (ftyA ci)).length := by rw [fvs_len, ← h11]; exact h2
  have fin' : ∀ (H' : Heap), H'[gB G + id]? = some (cell.setSlot f.slot (cv G v)) → H'.size = H.size → (∀ q, q ≠ gB G + id → H'[q]? = H[q]?) → Rel G M' H' ∧ va_S (Go_A G) s.heap H' (locs ++ [⟨gB G + id, f.slot⟩]) := by
    intro H' e1 e2 e3
    rw [hsl] at e1
    have hP := hR.1.set (e := .inr (ci, (fvs G M id 0 (ftyA ci)).set j (cv G v))) (wl_D G M) he ⟨_, h1, t_OB.to (V := updV (vp_V (fvs G M id 0 (ftyA ci))) j (cv G v)) ⟨_, e1, q2, q3, t_set q4 hap h2 (cv G v)⟩ (fun a _ => vp_updV_set hlen (cv G v) a)⟩ e3
    rw [fvs_set G M M' id j ty (cv G v) (ftyA ci) 0 h3 (by rw [Nat.zero_add]; exact hv G) (fun a t ha => ho G a t (by omega))] at hP
    exact ⟨rel_set hR hk hK hXX hSc (ho2 G) e2 hP, hS.put e2 e3 (by show gB G ≤ _; omega)⟩
  have go : ∀ (H' : Heap), H'[gB G + id]? = some (cell.setSlot f.slot (cv G v)) → H'.size = H.size → (∀ q, q ≠ gB G + id → H'[q]? = H[q]?) → W p l e ({ frames := F, cells := MC, slots := MS, locals := L } : Room) s m args below meth c H' (locs ++ [⟨gB G + id, f.slot⟩]) cells slots (vx_MQ below (QcOf G Q) (XCOf G Q) args s MC MS (Go_A G)) (F0 m (pc + 3) ls (st.map (cv G))) := by
    intro H' e1 e2 e3
    obtain ⟨hR', hS'⟩ := fin' H' e1 e2 e3
    exact kk p e s m args below meth c G H' _ cells slots ls hX hC hR' hS' hl hc hs
  cases fin with
  | false =>
    have hlay := hts _ (h6 _ (u_in_lay h2))
    unfold u_lay at hlay
    rw [if_neg (by rw [h9]; decide)] at hlay
    have h12 := u_store hfc hkC hkind hlay hi h10 (hn G).1 (hn G).2
    rcases h5 with h5 | ⟨host, h5⟩
    · exact W.putK hX.1.1 hX.1.2.1 (f := f) ⟨hX.1.2.2.2.1, hts _ h5, ⟨_, _, _, hi'⟩, hst⟩ (by rw [q2]; exact h12) q1 q3 (by rw [hsl]; exact hlt) rfl rfl hd go
    · exact va_WputK hX.1.1 hX.1.2.1 (f := f) hX.1.2.2.2.1 (va_Nw.use (by rfl) (hC.2.2.1 _ h5)) hi' hst (by rw [q2]; exact h12) q1 q3 (by rw [hsl]; exact hlt) rfl rfl hd go
  | true =>
    obtain ⟨hname, q, hq1, hq2⟩ := hfin rfl
    rw [h1] at hq1
    cases hq1
    have hq2 : C = J.1.cls := hq2
    have hlay := hts _ (h6 _ (u_in_lay h2))
    unfold u_lay at hlay
    rw [if_pos h9] at hlay
    have hcf : m.cls = cf := by
      obtain ⟨_, _, c', _, _, _, -, -, hf', -, -, -, hown2, -⟩ := Cond.laysFinal_spec hlay
      have e1 : c' = cf := by have := hi.symm.trans hf'; simp at this; exact this.1.symm
      rw [h4, hq2] at hown2
      rw [← e1]; exact Option.some.inj (hX.1.2.2.2.1.symm.trans hown2)
    have h12 := u_fits hfc hkC hkind (Or.inr hlay) hi h10 (hn G).1 (hn G).2
    rcases h5 with h5 | ⟨host, h5⟩
    · exact W.putFinK hX.1.1 hX.1.2.1 hX.1.2.2.2.1 (hts _ h5) hi' hst hcf (hX.2.2.2.2.trans hname) (by rw [q2]; exact h12) q1 q3 (by rw [hsl]; exact hlt) rfl rfl hd go
    · exfalso
      have hh := hC.2.2.1 _ h5
      unfold NWL at h5
      rcases List.mem_append.mp h5 with h | h
      · obtain ⟨q, hq, e9⟩ := List.mem_map.mp h
        simp only [Cond.fieldLinkNest.injEq] at e9
        have : q.1 ≠ q.2.2.1 := nwF_apart q hq
        exact this (by rw [e9.1, e9.2.2.1, hq2])
      · obtain ⟨q, hq, e9⟩ := List.mem_map.mp h
        cases e9
theorem fs_self {α : Type} (f : Nat → α) (i : Nat) (x : α) : fun_set f i x i = x := by simp [fun_set]
theorem fs_ne {α : Type} (f : Nat → α) {i j : Nat} (x : α) (h : j ≠ i) : fun_set f i x j = f j := by simp [fun_set, h]
theorem fs_twice {α : Type} (f : Nat → α) (i : Nat) (x y : α) : fun_set (fun_set f i x) i y = fun_set f i y := by funext j; by_cases h : j = i <;> simp [fun_set, h]
theorem fs_same {α : Type} (f : Nat → α) (i : Nat) : fun_set f i (f i) = f := by funext j; by_cases h : j = i <;> simp [fun_set, h]
theorem fs_comm {α : Type} (f : Nat → α) {i j : Nat} (x y : α) (h : i ≠ j) : fun_set (fun_set f i x) j y = fun_set (fun_set f j y) i x := by
  funext q
  by_cases h1 : q = i
  · subst h1; simp [fun_set, h]
  · by_cases h2 : q = j <;> simp [fun_set, h1, h2, Ne.symm h]
theorem fval_of {G : Gl} {M M' : Mem} {i : Nat} (h1 : mI M' i = mI M i) (h2 : mL M' i = mL M i) (h3 : mR M' i = mR M i) (h4 : mD M' i = mD M i) (j : Nat) (t : FieldType) : fval G M' i j t = fval G M i j t := by
  cases t <;> simp only [fval, h1, h2, h3, h4]
theorem fvs_of {G : Gl} {M M' : Mem} {i : Nat} (h1 : mI M' i = mI M i) (h2 : mL M' i = mL M i) (h3 : mR M' i = mR M i) (h4 : mD M' i = mD M i) : ∀ (ts : List FieldType) (j : Nat), fvs G M' i j ts = fvs G M i j ts
  | [], j => rfl
  | t :: ts, j => by simp only [fvs, fval_of h1 h2 h3 h4, fvs_of h1 h2 h3 h4 ts (j + 1)]
theorem ent_of {G : Gl} {M M' : Mem} {i : Nat} (h1 : mI M' i = mI M i) (h2 : mL M' i = mL M i) (h3 : mR M' i = mR M i) (h4 : mD M' i = mD M i) (y : Knd) : ent G M' i y = ent G M i y := by
  rcases y with ⟨t, n⟩ | ci
  · cases t <;> simp only [ent, adat, h1, h2, h3, h4]
  · simp only [ent, fvs_of h1 h2 h3 h4]
theorem ent_sI {G : Gl} {M : Mem} {id i : Nat} {f : Nat → Int32} (y : Knd) (h : i ≠ id) : ent G (sI M id f) i y = ent G M i y := ent_of (M := M) (M' := sI M id f) (fs_ne _ _ h) rfl rfl rfl y
theorem ent_sL {G : Gl} {M : Mem} {id i : Nat} {f : Nat → Int64} (y : Knd) (h : i ≠ id) : ent G (sL M id f) i y = ent G M i y := ent_of (M := M) (M' := sL M id f) rfl (fs_ne _ _ h) rfl rfl y
theorem ent_sR {G : Gl} {M : Mem} {id i : Nat} {f : Nat → Option Nat} (y : Knd) (h : i ≠ id) : ent G (sR M id f) i y = ent G M i y := ent_of (M := M) (M' := sR M id f) rfl rfl (fs_ne _ _ h) rfl y
theorem ent_sD {G : Gl} {M : Mem} {id i : Nat} {f : Nat → UInt64} (y : Knd) (h : i ≠ id) : ent G (sD M id f) i y = ent G M i y := ent_of (M := M) (M' := sD M id f) rfl rfl rfl (fs_ne _ _ h) y
/-- putting an int field -/
theorem g_putI {ix ci j id : Nat} {ty : FieldType} {x : Int32} (hd : decode J.2.1 pc = .ok (.putfield ix, 3)) (hf : FP J.1.cls ix ci j ty false) (hk : (mK M)[id]? = some (.inr ci)) (hn : narrow ty (.int x) = .int x ∧ fits ty (.int x) = true) (hty : ∀ (G : Gl) (M : Mem) (i a : Nat), fval G M i a ty = .int (mI M i a))
    (kk : Go l J F L MC MS Q (pc + 3) lv st k n (sI M id (fun_set (mI M id) j x))) : Go l J F L MC MS Q pc lv (.int x :: .ref id :: st) k n M := by
  refine g_putf (v := .int x) (M' := sI M id (fun_set (mI M id) j x)) hd hf (fun h => by cases h) hk (fun G => hn) rfl rfl rfl (fun G => ?_) (fun G a t ha => ?_) (fun G i y hi _ => ent_sI y hi) kk
  · rw [hty]; show Value.int (fun_set (mI M) id _ id j) = .int x; rw [fs_self, fs_self]
  · cases t <;> simp only [fval, mI, sI, fs_self, fs_ne _ _ ha]
/-- putting a reference: a final field in a constructor -/
theorem g_putR {ix ci j id r : Nat} {ty : FieldType} {fin : Bool} (hd : decode J.2.1 pc = .ok (.putfield ix, 3)) (hf : FP J.1.cls ix ci j ty fin) (hfin : fin = true → J.1.name = "<init>" ∧ ∃ q, vwCl[ci]? = some q ∧ q.1 = J.1.cls) (hk : (mK M)[id]? = some (.inr ci)) (hn : ∀ a, narrow ty (.ref a) = .ref a ∧ fits ty (.ref a) = true) (hty : ∀ (G : Gl) (M : Mem) (i a : Nat), fval G M i a ty = va_rf ((mR M i a).map (fun i => gB G + i)))
    (kk : Go l J F L MC MS Q (pc + 3) lv st k n (sR M id (fun_set (mR M id) j (some r)))) : Go l J F L MC MS Q pc lv (.ref r :: .ref id :: st) k n M := by
  refine g_putf (v := .ref r) (M' := sR M id (fun_set (mR M id) j (some r))) hd hf hfin hk (fun G => hn _) rfl rfl rfl (fun G => ?_) (fun G a t ha => ?_) (fun G i y hi _ => ent_sR y hi) kk
  · rw [hty]; show va_rf (((fun_set (mR M) id _ id j)).map _) = _; rw [fs_self, fs_self]; rfl
  · cases t <;> simp only [fval, mR, sR, fs_self, fs_ne _ _ ha]
theorem g_iaload {id j len : Nat} {i : Int32} (hd : decode J.2.1 pc = .ok (.iaload, 1)) (hk : (mK M)[id]? = some (.inl (.int, len))) (hi : i = nI j) (hj : j < len) (hL : len < 2147483648) (kk : Go l J F L MC MS Q (pc + 1) lv (.int (mI M id j) :: st) k n M) : Go l J F L MC MS Q pc lv (.int i :: .ref id :: st) k n M := by
  subst hi
  intro p e s m args below meth c G H locs cells slots ls hX hC hR hS hl hc hs
  have h1 := kk p e s m args below meth c G H locs cells slots ls hX hC hR hS hl hc hs
  refine va_iald hX.1.1 hX.1.2.1 hC.2.1 hR.1 id 0 (wl_get hk) rfl (vp_in_nI hj hL) hd ?_
  rw [nI_clamp (by omega)]
  exact h1
theorem g_iastore {id j len : Nat} {i : Int32} {x : Int32} (hd : decode J.2.1 pc = .ok (.iastore, 1)) (hk : (mK M)[id]? = some (.inl (.int, len))) (hi : i = nI j) (hj : j < len) (hL : len < 2147483648) (kk : Go l J F L MC MS Q (pc + 1) lv st k n (sI M id (fun_set (mI M id) j x))) : Go l J F L MC MS Q pc lv (.int x :: .int i :: .ref id :: st) k n M := by
  subst hi
  intro p e s m args below meth c G H locs cells slots ls hX hC hR hS hl hc hs
  have he := wl_get (G := G) hk
  refine W.iast hX.1.1 hX.1.2.1 (hR.1 id _ he) ((hC.2.1.2 0 _ rfl).1 len (fun j => .int (mI M id j))) (fun q => by cases q) (by show ¬ (_ ∨ (arrV _ _ _).slots.size ≤ _); rw [arrV_size]; exact vp_in_nI hj hL) rfl rfl hd fun H1 e1 z oq => ?_
  refine kk p e s m args below meth c G H1 _ cells slots ls hX hC (rel_set hR hk rfl rfl rfl (fun i y hi _ => ent_sI y hi) z (hR.1.set (wl_D G M) he ?_ oq)) (hS.put z oq (by show gB G ≤ _; omega)) hl hc hs
  show H1[gB G + id]? = some (vp_cell (gA G .int) (len, adat G (sI M id (fun_set (mI M id) j x)) id .int))
  rw [e1]
  show some ((vp_cell (gA G .int) (len, adat G M id .int)).setSlot _ _) = _
  simp only [adat, sI, mI, fs_self]
  rw [vp_cell_i, vp_cell_i, arrV_store, nI_clamp (by omega)]
  congr 2
  funext q
  by_cases hq : q = j
  · subst hq
    simp [updV, fun_set, vp_nar]
    try rfl
  · simp [updV, fun_set, hq]
theorem g_baload {id j len : Nat} {i : Int32} (hd : decode J.2.1 pc = .ok (.baload, 1)) (hk : (mK M)[id]? = some (.inl (.byte, len))) (hi : i = nI j) (hj : j < len) (hL : len < 2147483648) (kk : Go l J F L MC MS Q (pc + 1) lv (.int (mI M id j) :: st) k n M) : Go l J F L MC MS Q pc lv (.int i :: .ref id :: st) k n M := by
  subst hi
  intro p e s m args below meth c G H locs cells slots ls hX hC hR hS hl hc hs
  have h1 := kk p e s m args below meth c G H locs cells slots ls hX hC hR hS hl hc hs
  refine va_bald hX.1.1 hX.1.2.1 hC.2.1 hR.1 id 2 (wl_get hk) rfl (vp_in_nI hj hL) hd ?_
  rw [nI_clamp (by omega)]
  exact h1
theorem g_bastore {id j len : Nat} {i : Int32} {x : Int32} (hd : decode J.2.1 pc = .ok (.bastore, 1)) (hk : (mK M)[id]? = some (.inl (.byte, len))) (hi : i = nI j) (hj : j < len) (hL : len < 2147483648) (kk : Go l J F L MC MS Q (pc + 1) lv st k n (sI M id (fun_set (mI M id) j (vp_nar .byte x)))) : Go l J F L MC MS Q pc lv (.int x :: .int i :: .ref id :: st) k n M := by
  subst hi
  intro p e s m args below meth c G H locs cells slots ls hX hC hR hS hl hc hs
  have he := wl_get (G := G) hk
  refine W.bast hX.1.1 hX.1.2.1 (hR.1 id _ he) ((hC.2.1.2 2 _ rfl).1 len (fun j => .int (mI M id j))) (fun q => by cases q) (by show ¬ (_ ∨ (arrV _ _ _).slots.size ≤ _); rw [arrV_size]; exact vp_in_nI hj hL) rfl rfl hd fun H1 e1 z oq => ?_
  refine kk p e s m args below meth c G H1 _ cells slots ls hX hC (rel_set hR hk rfl rfl rfl (fun i y hi _ => ent_sI y hi) z (hR.1.set (wl_D G M) he ?_ oq)) (hS.put z oq (by show gB G ≤ _; omega)) hl hc hs
  show H1[gB G + id]? = some (vp_cell (gA G .byte) (len, adat G (sI M id (fun_set (mI M id) j (vp_nar .byte x))) id .byte))
  rw [e1]
  show some ((vp_cell (gA G .byte) (len, adat G M id .byte)).setSlot _ _) = _
  simp only [adat, sI, mI, fs_self]
  rw [vp_cell_i, vp_cell_i, arrV_store, nI_clamp (by omega)]
  congr 2
  funext q
  by_cases hq : q = j
  · subst hq
    simp [updV, fun_set, vp_nar]
    try rfl
  · simp [updV, fun_set, hq]
theorem g_zaload {id j len : Nat} {i : Int32} (hd : decode J.2.1 pc = .ok (.baload, 1)) (hk : (mK M)[id]? = some (.inl (.boolean, len))) (hi : i = nI j) (hj : j < len) (hL : len < 2147483648) (kk : Go l J F L MC MS Q (pc + 1) lv (.int (mI M id j) :: st) k n M) : Go l J F L MC MS Q pc lv (.int i :: .ref id :: st) k n M := by
  subst hi
  intro p e s m args below meth c G H locs cells slots ls hX hC hR hS hl hc hs
  have h1 := kk p e s m args below meth c G H locs cells slots ls hX hC hR hS hl hc hs
  refine va_zald hX.1.1 hX.1.2.1 hC.2.1 hR.1 id 3 (wl_get hk) rfl (vp_in_nI hj hL) hd ?_
  rw [nI_clamp (by omega)]
  exact h1
theorem g_zastore {id j len : Nat} {i : Int32} {x : Int32} (hd : decode J.2.1 pc = .ok (.bastore, 1)) (hk : (mK M)[id]? = some (.inl (.boolean, len))) (hi : i = nI j) (hj : j < len) (hL : len < 2147483648) (kk : Go l J F L MC MS Q (pc + 1) lv st k n (sI M id (fun_set (mI M id) j (vp_nar .boolean x)))) : Go l J F L MC MS Q pc lv (.int x :: .int i :: .ref id :: st) k n M := by
  subst hi
  intro p e s m args below meth c G H locs cells slots ls hX hC hR hS hl hc hs
  have he := wl_get (G := G) hk
  refine W.zast hX.1.1 hX.1.2.1 (hR.1 id _ he) ((hC.2.1.2 3 _ rfl).1 len (fun j => .int (mI M id j))) (fun q => by cases q) (by show ¬ (_ ∨ (arrV _ _ _).slots.size ≤ _); rw [arrV_size]; exact vp_in_nI hj hL) rfl rfl hd fun H1 e1 z oq => ?_
  refine kk p e s m args below meth c G H1 _ cells slots ls hX hC (rel_set hR hk rfl rfl rfl (fun i y hi _ => ent_sI y hi) z (hR.1.set (wl_D G M) he ?_ oq)) (hS.put z oq (by show gB G ≤ _; omega)) hl hc hs
  show H1[gB G + id]? = some (vp_cell (gA G .boolean) (len, adat G (sI M id (fun_set (mI M id) j (vp_nar .boolean x))) id .boolean))
  rw [e1]
  show some ((vp_cell (gA G .boolean) (len, adat G M id .boolean)).setSlot _ _) = _
  simp only [adat, sI, mI, fs_self]
  rw [vp_cell_i, vp_cell_i, arrV_store, nI_clamp (by omega)]
  congr 2
  funext q
  by_cases hq : q = j
  · subst hq
    simp [updV, fun_set, vp_nar]
    try rfl
  · simp [updV, fun_set, hq]
theorem g_laload {id j len : Nat} {i : Int32} (hd : decode J.2.1 pc = .ok (.laload, 1)) (hk : (mK M)[id]? = some (.inl (.long, len))) (hi : i = nI j) (hj : j < len) (hL : len < 2147483648) (kk : Go l J F L MC MS Q (pc + 1) lv (.long (mL M id j) :: st) k n M) : Go l J F L MC MS Q pc lv (.int i :: .ref id :: st) k n M := by
  subst hi
  intro p e s m args below meth c G H locs cells slots ls hX hC hR hS hl hc hs
  have h1 := kk p e s m args below meth c G H locs cells slots ls hX hC hR hS hl hc hs
  refine va_lald hX.1.1 hX.1.2.1 hC.2.1 hR.1 id 1 (wl_get hk) rfl (vp_in_nI hj hL) hd ?_
  rw [nI_clamp (by omega)]
  exact h1
theorem g_lastore {id j len : Nat} {i : Int32} {x : Int64} (hd : decode J.2.1 pc = .ok (.lastore, 1)) (hk : (mK M)[id]? = some (.inl (.long, len))) (hi : i = nI j) (hj : j < len) (hL : len < 2147483648) (kk : Go l J F L MC MS Q (pc + 1) lv st k n (sL M id (fun_set (mL M id) j x))) : Go l J F L MC MS Q pc lv (.long x :: .int i :: .ref id :: st) k n M := by
  subst hi
  intro p e s m args below meth c G H locs cells slots ls hX hC hR hS hl hc hs
  have he := wl_get (G := G) hk
  refine W.last hX.1.1 hX.1.2.1 (hR.1 id _ he) ((hC.2.1.2 1 _ rfl).1 len (fun j => .long (mL M id j))) (fun q => by cases q) (by show ¬ (_ ∨ (arrV _ _ _).slots.size ≤ _); rw [arrV_size]; exact vp_in_nI hj hL) rfl rfl hd fun H1 e1 z oq => ?_
  refine kk p e s m args below meth c G H1 _ cells slots ls hX hC (rel_set hR hk rfl rfl rfl (fun i y hi _ => ent_sL y hi) z (hR.1.set (wl_D G M) he ?_ oq)) (hS.put z oq (by show gB G ≤ _; omega)) hl hc hs
  show H1[gB G + id]? = some (vp_cell (gA G .long) (len, adat G (sL M id (fun_set (mL M id) j x)) id .long))
  rw [e1]
  show some ((vp_cell (gA G .long) (len, adat G M id .long)).setSlot _ _) = _
  simp only [adat, sL, mL, fs_self]
  rw [vp_cell_l, vp_cell_l, arrV_store, nI_clamp (by omega)]
  congr 2
  funext q
  by_cases hq : q = j
  · subst hq
    simp [updV, fun_set, vp_nar]
    try rfl
  · simp [updV, fun_set, hq]
theorem g_daload {id j len : Nat} {i : Int32} (hd : decode J.2.1 pc = .ok (.daload, 1)) (hk : (mK M)[id]? = some (.inl (.double, len))) (hi : i = nI j) (hj : j < len) (hL : len < 2147483648) (kk : Go l J F L MC MS Q (pc + 1) lv (.double (mD M id j) :: st) k n M) : Go l J F L MC MS Q pc lv (.int i :: .ref id :: st) k n M := by
  subst hi
  intro p e s m args below meth c G H locs cells slots ls hX hC hR hS hl hc hs
  have h1 := kk p e s m args below meth c G H locs cells slots ls hX hC hR hS hl hc hs
  refine va_dald hX.1.1 hX.1.2.1 hC.2.1 hR.1 id 4 (wl_get hk) rfl (vp_in_nI hj hL) hd ?_
  rw [nI_clamp (by omega)]
  exact h1
theorem g_dastore {id j len : Nat} {i : Int32} {x : UInt64} (hd : decode J.2.1 pc = .ok (.dastore, 1)) (hk : (mK M)[id]? = some (.inl (.double, len))) (hi : i = nI j) (hj : j < len) (hL : len < 2147483648) (kk : Go l J F L MC MS Q (pc + 1) lv st k n (sD M id (fun_set (mD M id) j x))) : Go l J F L MC MS Q pc lv (.double x :: .int i :: .ref id :: st) k n M := by
  subst hi
  intro p e s m args below meth c G H locs cells slots ls hX hC hR hS hl hc hs
  have he := wl_get (G := G) hk
  refine W.dast hX.1.1 hX.1.2.1 (hR.1 id _ he) ((hC.2.1.2 4 _ rfl).1 len (fun j => .double (mD M id j))) (fun q => by cases q) (by show ¬ (_ ∨ (arrV _ _ _).slots.size ≤ _); rw [arrV_size]; exact vp_in_nI hj hL) rfl rfl hd fun H1 e1 z oq => ?_
  refine kk p e s m args below meth c G H1 _ cells slots ls hX hC (rel_set hR hk rfl rfl rfl (fun i y hi _ => ent_sD y hi) z (hR.1.set (wl_D G M) he ?_ oq)) (hS.put z oq (by show gB G ≤ _; omega)) hl hc hs
  show H1[gB G + id]? = some (vp_cell (gA G .double) (len, adat G (sD M id (fun_set (mD M id) j x)) id .double))
  rw [e1]
  show some ((vp_cell (gA G .double) (len, adat G M id .double)).setSlot _ _) = _
  simp only [adat, sD, mD, fs_self]
  rw [vp_cell_d, vp_cell_d, arrV_store, nI_clamp (by omega)]
  congr 2
  funext q
  by_cases hq : q = j
  · subst hq
    simp [updV, fun_set, vp_nar]
    try rfl
  · simp [updV, fun_set, hq]
theorem g_aaload_State {id j len r : Nat} {i : Int32} (hd : decode J.2.1 pc = .ok (.aaload, 1)) (hk : (mK M)[id]? = some (.inl (.object "BitDesk$State", len))) (hi : i = nI j) (hj : j < len) (hL : len < 2147483648) (hr : mR M id j = some r) (kk : Go l J F L MC MS Q (pc + 1) lv (.ref r :: st) k n M) : Go l J F L MC MS Q pc lv (.int i :: .ref id :: st) k n M := by
  subst hi
  intro p e s m args below meth c G H locs cells slots ls hX hC hR hS hl hc hs
  have h1 := kk p e s m args below meth c G H locs cells slots ls hX hC hR hS hl hc hs
  refine va_aldq hX.1.1 hX.1.2.1 hC.2.1 hR.1 id 5 (wl_get hk) rfl (vp_in_nI hj hL) hd ?_
  rw [nI_clamp (by omega)]
  show W _ _ _ _ _ _ _ _ _ _ _ _ _ _ _ (F0 m (pc + 1) ls (va_rf ((mR M id j).map _) :: _))
  rw [hr]
  exact h1
theorem g_aastore_State {id j len r ci : Nat} {q0 : vw_C} {i : Int32} (hd : decode J.2.1 pc = .ok (.aastore, 1)) (hk : (mK M)[id]? = some (.inl (.object "BitDesk$State", len))) (hi : i = nI j) (hj : j < len) (hL : len < 2147483648) (hr : (mK M)[r]? = some (.inr ci)) (hc0 : vwCl[ci]? = some q0) (hq0 : q0.1 = "BitDesk$State") (kk : Go l J F L MC MS Q (pc + 1) lv st k n (sR M id (fun_set (mR M id) j (some r)))) : Go l J F L MC MS Q pc lv (.ref r :: .int i :: .ref id :: st) k n M := by
  subst hi
  intro p e s m args below meth c G H locs cells slots ls hX hC hR hS hl hc hs
  have he := wl_get (G := G) hk
  have hv := wl_get (G := G) hr
  obtain ⟨r', hr', cellV, g1, g2, g3, -⟩ := hR.1 r _ hv
  have hcls := (hC.2.1.1 ci q0 hc0).2
  rw [hq0] at hcls
  obtain ⟨kA, comp, k1, k2, k3, -⟩ := (hC.2.1.2 5 _ rfl).2
  have hcomp : comp = (gD G).1 ci := Option.some.inj (k3.symm.trans hcls.1)
  subst hcomp
  obtain ⟨kC, hkC, -⟩ := hcls.2
  refine W.aast hX.1.1 hX.1.2.1 (hR.1 id _ he) (fun q h => by cases h) (fun h => by cases h) k1 k2 rfl hkC ⟨nI_pos (by omega), by show _ < (arrV _ _ _).slots.size; rw [arrV_size, nI_clamp (by omega)]; exact hj⟩ g1 (fun q h => by rw [g3] at h; cases h) (by rw [g2]; exact hkC) (by rw [g2]; exact va_assign hcls) rfl rfl hd fun H1 e1 z oq => ?_
  refine kk p e s m args below meth c G H1 _ cells slots ls hX hC (rel_set hR hk rfl rfl rfl (fun i y hi _ => ent_sR y hi) z (hR.1.set (wl_D G M) he ?_ oq)) (hS.put z oq (by show gB G ≤ _; omega)) hl hc hs
  show H1[gB G + id]? = some (vp_cell (gA G (.object "BitDesk$State")) (len, adat G (sR M id (fun_set (mR M id) j (some r))) id (.object "BitDesk$State")))
  rw [e1]
  show some ((vp_cell (gA G (.object "BitDesk$State")) (len, adat G M id (.object "BitDesk$State"))).setSlot _ _) = _
  simp only [adat, sR, mR, fs_self]
  rw [vp_cell_q, vp_cell_q, arrV_store, nI_clamp (by omega)]
  congr 2
  funext q
  by_cases hq : q = j
  · subst hq
    simp [updV, fun_set, va_rf]
  · simp [updV, fun_set, hq]
theorem g_aaload_Matrix {id j len r : Nat} {i : Int32} (hd : decode J.2.1 pc = .ok (.aaload, 1)) (hk : (mK M)[id]? = some (.inl (.object "BitDesk$Matrix", len))) (hi : i = nI j) (hj : j < len) (hL : len < 2147483648) (hr : mR M id j = some r) (kk : Go l J F L MC MS Q (pc + 1) lv (.ref r :: st) k n M) : Go l J F L MC MS Q pc lv (.int i :: .ref id :: st) k n M := by
  subst hi
  intro p e s m args below meth c G H locs cells slots ls hX hC hR hS hl hc hs
  have h1 := kk p e s m args below meth c G H locs cells slots ls hX hC hR hS hl hc hs
  refine va_aldq hX.1.1 hX.1.2.1 hC.2.1 hR.1 id 6 (wl_get hk) rfl (vp_in_nI hj hL) hd ?_
  rw [nI_clamp (by omega)]
  show W _ _ _ _ _ _ _ _ _ _ _ _ _ _ _ (F0 m (pc + 1) ls (va_rf ((mR M id j).map _) :: _))
  rw [hr]
  exact h1
theorem g_aastore_Matrix {id j len r ci : Nat} {q0 : vw_C} {i : Int32} (hd : decode J.2.1 pc = .ok (.aastore, 1)) (hk : (mK M)[id]? = some (.inl (.object "BitDesk$Matrix", len))) (hi : i = nI j) (hj : j < len) (hL : len < 2147483648) (hr : (mK M)[r]? = some (.inr ci)) (hc0 : vwCl[ci]? = some q0) (hq0 : q0.1 = "BitDesk$Matrix") (kk : Go l J F L MC MS Q (pc + 1) lv st k n (sR M id (fun_set (mR M id) j (some r)))) : Go l J F L MC MS Q pc lv (.ref r :: .int i :: .ref id :: st) k n M := by
  subst hi
  intro p e s m args below meth c G H locs cells slots ls hX hC hR hS hl hc hs
  have he := wl_get (G := G) hk
  have hv := wl_get (G := G) hr
  obtain ⟨r', hr', cellV, g1, g2, g3, -⟩ := hR.1 r _ hv
  have hcls := (hC.2.1.1 ci q0 hc0).2
  rw [hq0] at hcls
  obtain ⟨kA, comp, k1, k2, k3, -⟩ := (hC.2.1.2 6 _ rfl).2
  have hcomp : comp = (gD G).1 ci := Option.some.inj (k3.symm.trans hcls.1)
  subst hcomp
  obtain ⟨kC, hkC, -⟩ := hcls.2
  refine W.aast hX.1.1 hX.1.2.1 (hR.1 id _ he) (fun q h => by cases h) (fun h => by cases h) k1 k2 rfl hkC ⟨nI_pos (by omega), by show _ < (arrV _ _ _).slots.size; rw [arrV_size, nI_clamp (by omega)]; exact hj⟩ g1 (fun q h => by rw [g3] at h; cases h) (by rw [g2]; exact hkC) (by rw [g2]; exact va_assign hcls) rfl rfl hd fun H1 e1 z oq => ?_
  refine kk p e s m args below meth c G H1 _ cells slots ls hX hC (rel_set hR hk rfl rfl rfl (fun i y hi _ => ent_sR y hi) z (hR.1.set (wl_D G M) he ?_ oq)) (hS.put z oq (by show gB G ≤ _; omega)) hl hc hs
  show H1[gB G + id]? = some (vp_cell (gA G (.object "BitDesk$Matrix")) (len, adat G (sR M id (fun_set (mR M id) j (some r))) id (.object "BitDesk$Matrix")))
  rw [e1]
  show some ((vp_cell (gA G (.object "BitDesk$Matrix")) (len, adat G M id (.object "BitDesk$Matrix"))).setSlot _ _) = _
  simp only [adat, sR, mR, fs_self]
  rw [vp_cell_q, vp_cell_q, arrV_store, nI_clamp (by omega)]
  congr 2
  funext q
  by_cases hq : q = j
  · subst hq
    simp [updV, fun_set, va_rf]
  · simp [updV, fun_set, hq]
theorem g_aaload_Closure {id j len r : Nat} {i : Int32} (hd : decode J.2.1 pc = .ok (.aaload, 1)) (hk : (mK M)[id]? = some (.inl (.object "BitDesk$Closure", len))) (hi : i = nI j) (hj : j < len) (hL : len < 2147483648) (hr : mR M id j = some r) (kk : Go l J F L MC MS Q (pc + 1) lv (.ref r :: st) k n M) : Go l J F L MC MS Q pc lv (.int i :: .ref id :: st) k n M := by
  subst hi
  intro p e s m args below meth c G H locs cells slots ls hX hC hR hS hl hc hs
  have h1 := kk p e s m args below meth c G H locs cells slots ls hX hC hR hS hl hc hs
  refine va_aldq hX.1.1 hX.1.2.1 hC.2.1 hR.1 id 7 (wl_get hk) rfl (vp_in_nI hj hL) hd ?_
  rw [nI_clamp (by omega)]
  show W _ _ _ _ _ _ _ _ _ _ _ _ _ _ _ (F0 m (pc + 1) ls (va_rf ((mR M id j).map _) :: _))
  rw [hr]
  exact h1
theorem g_aastore_Closure {id j len r ci : Nat} {q0 : vw_C} {i : Int32} (hd : decode J.2.1 pc = .ok (.aastore, 1)) (hk : (mK M)[id]? = some (.inl (.object "BitDesk$Closure", len))) (hi : i = nI j) (hj : j < len) (hL : len < 2147483648) (hr : (mK M)[r]? = some (.inr ci)) (hc0 : vwCl[ci]? = some q0) (hq0 : q0.1 = "BitDesk$Closure") (kk : Go l J F L MC MS Q (pc + 1) lv st k n (sR M id (fun_set (mR M id) j (some r)))) : Go l J F L MC MS Q pc lv (.ref r :: .int i :: .ref id :: st) k n M := by
  subst hi
  intro p e s m args below meth c G H locs cells slots ls hX hC hR hS hl hc hs
  have he := wl_get (G := G) hk
  have hv := wl_get (G := G) hr
  obtain ⟨r', hr', cellV, g1, g2, g3, -⟩ := hR.1 r _ hv
  have hcls := (hC.2.1.1 ci q0 hc0).2
  rw [hq0] at hcls
  obtain ⟨kA, comp, k1, k2, k3, -⟩ := (hC.2.1.2 7 _ rfl).2
  have hcomp : comp = (gD G).1 ci := Option.some.inj (k3.symm.trans hcls.1)
  subst hcomp
  obtain ⟨kC, hkC, -⟩ := hcls.2
  refine W.aast hX.1.1 hX.1.2.1 (hR.1 id _ he) (fun q h => by cases h) (fun h => by cases h) k1 k2 rfl hkC ⟨nI_pos (by omega), by show _ < (arrV _ _ _).slots.size; rw [arrV_size, nI_clamp (by omega)]; exact hj⟩ g1 (fun q h => by rw [g3] at h; cases h) (by rw [g2]; exact hkC) (by rw [g2]; exact va_assign hcls) rfl rfl hd fun H1 e1 z oq => ?_
  refine kk p e s m args below meth c G H1 _ cells slots ls hX hC (rel_set hR hk rfl rfl rfl (fun i y hi _ => ent_sR y hi) z (hR.1.set (wl_D G M) he ?_ oq)) (hS.put z oq (by show gB G ≤ _; omega)) hl hc hs
  show H1[gB G + id]? = some (vp_cell (gA G (.object "BitDesk$Closure")) (len, adat G (sR M id (fun_set (mR M id) j (some r))) id (.object "BitDesk$Closure")))
  rw [e1]
  show some ((vp_cell (gA G (.object "BitDesk$Closure")) (len, adat G M id (.object "BitDesk$Closure"))).setSlot _ _) = _
  simp only [adat, sR, mR, fs_self]
  rw [vp_cell_q, vp_cell_q, arrV_store, nI_clamp (by omega)]
  congr 2
  funext q
  by_cases hq : q = j
  · subst hq
    simp [updV, fun_set, va_rf]
  · simp [updV, fun_set, hq]
end
end
-- 05.ends
section
/-! RULES: making cells, ends of methods, throws, calls. -/
section
variable {l : Launch} {J : Jm} {F L MC MS : Nat} {Q : Res → Mem → Prop} {pc : Nat} {lv : List (Nat × Value)} {st : List Value} {k n : Nat} {M : Mem}
theorem ent_nK {G : Gl} {M : Mem} {x : Knd} {i : Nat} (y : Knd) (h : i < (mK M).length) : ent G (nK M x) i y = ent G M i y :=
  ent_of (M := M) (M' := nK M x) (fs_ne _ _ (Nat.ne_of_lt h)) (fs_ne _ _ (Nat.ne_of_lt h)) (fs_ne _ _ (Nat.ne_of_lt h)) (fs_ne _ _ (Nat.ne_of_lt h)) y
theorem wl_push (G : Gl) (M : Mem) (x : Knd) : wl G (nK M x) = wl G M ++ [(gB G + (mK M).length, ent G (nK M x) (mK M).length x)] := by
  unfold wl
  rw [show mK (nK M x) = mK M ++ [x] from rfl, List.mapIdx_append]
  congr 1
  · apply List.ext_getElem?
    intro i
    rw [List.getElem?_mapIdx, List.getElem?_mapIdx]
    cases h : (mK M)[i]? with
    | none => rfl
    | some y => simp only [Option.map_some]; rw [ent_nK y (List.getElem?_eq_some_iff.mp h).1]
  · simp
theorem rel_push {G : Gl} {M : Mem} {H H1 : Heap} {x : Knd} (hR : Rel G M H) (hx : mX M = true) (hz : H1.size = H.size + 1) (hk : ∀ q : Nat, q < H.size → H1[q]? = H[q]?) (he : va_at (gD G) vwCl (H.size, ent G (nK M x) (mK M).length x) H1) : Rel G (nK M x) H1 := by
  have hH := hR.2.1 hx
  refine ⟨?_, fun _ => ?_, ?_, hR.2.2.2⟩
  · rw [wl_push]
    refine (hR.1.kept (fun i q hq => hk _ (hR.1 i q hq).lt)).app (fun i q hq => ?_)
    have hz : i < 1 := (List.getElem?_eq_some_iff.mp hq).1
    rw [show i = 0 by omega] at hq
    cases hq
    rw [← hH]
    exact he
  · show H1.size = gB G + (mK M ++ [x]).length
    rw [List.length_append, hz, hH]; simp; omega
  · show gB G + (mK M ++ [x]).length ≤ H1.size
    rw [List.length_append, hz, hH]; simp; omega
theorem va_S.more {A : Nat → Prop} {H0 H H1 : Heap} {locs : List Loc} (h : va_S A H0 H locs) (hz : H.size ≤ H1.size) (hk : ∀ q : Nat, q < H.size → H1[q]? = H[q]?) : va_S A H0 H1 locs :=
  ⟨Nat.le_trans h.1 hz, fun q h1 h2 => (hk q (Nat.lt_of_lt_of_le h1 h.1)).trans (h.2.1 q h1 h2), h.2.2⟩
theorem g_newarray_int {len : Nat} {i : Int32} (hd : decode J.2.1 pc = .ok (.newarray .int, 2)) (hw : Cond.arrayClass .int ∈ WS) (hi : i = nI len) (hL : len < 100000) (hx : mX M = true) (kk : Go l J F L MC MS Q (pc + 2) lv (.ref (mK M).length :: st) k n (nK M (.inl (.int, len)))) : Go l J F L MC MS Q pc lv (.int i :: st) (k + 1) (n + len) M := by
  subst hi
  intro p e s m args below meth c G H locs cells slots ls hX hC hR hS hl hc hs
  have hH := hR.2.1 hx
  refine va_newaK (atype := .int) hX.1.1 hX.1.2.1 (hX.1.2.2.2.2 _ hw) rfl hd rfl (nI_pos (by omega)) (nI_clamp (by omega)) (by simp only [newarray.typeOf, componentBytes]; omega) (by show cells + 1 ≤ MC; omega) (by show slots + len ≤ MS; omega) hH fun H1 cA e1 z1 o1 hAr hNm => ?_
  have hcA : cA = gA G .int := by
    have h9 : s.vm.findClass ("[" ++ FieldType.int.toString) = some (gA G .int) := (hC.2.1.2 0 _ rfl).2
    exact Option.some.inj (hNm.symm.trans h9)
  have hz : H1.size = H.size + 1 := by rw [z1, hH]
  have ho : ∀ q : Nat, q < H.size → H1[q]? = H[q]? := fun q hq => o1 q (by rw [← hH]; exact hq)
  refine kk p e s m args below meth c G H1 locs (cells + 1) (slots + len) ls hX hC (rel_push hR hx hz ho ?_) (hS.more (by omega) ho) hl (by omega) (by omega)
  show H1[H.size]? = some (vp_cell (gA G .int) (len, adat G (nK M (.inl (.int, len))) (mK M).length .int))
  rw [hH, e1, hcA]
  simp only [adat, nK, mI, mL, mD, fs_self]
  rw [vp_cell_i]
  rfl
theorem g_newarray_byte {len : Nat} {i : Int32} (hd : decode J.2.1 pc = .ok (.newarray .byte, 2)) (hw : Cond.arrayClass .byte ∈ WS) (hi : i = nI len) (hL : len < 100000) (hx : mX M = true) (kk : Go l J F L MC MS Q (pc + 2) lv (.ref (mK M).length :: st) k n (nK M (.inl (.byte, len)))) : Go l J F L MC MS Q pc lv (.int i :: st) (k + 1) (n + len) M := by
  subst hi
  intro p e s m args below meth c G H locs cells slots ls hX hC hR hS hl hc hs
  have hH := hR.2.1 hx
  refine va_newaK (atype := .byte) hX.1.1 hX.1.2.1 (hX.1.2.2.2.2 _ hw) rfl hd rfl (nI_pos (by omega)) (nI_clamp (by omega)) (by simp only [newarray.typeOf, componentBytes]; omega) (by show cells + 1 ≤ MC; omega) (by show slots + len ≤ MS; omega) hH fun H1 cA e1 z1 o1 hAr hNm => ?_
  have hcA : cA = gA G .byte := by
    have h9 : s.vm.findClass ("[" ++ FieldType.byte.toString) = some (gA G .byte) := (hC.2.1.2 2 _ rfl).2
    exact Option.some.inj (hNm.symm.trans h9)
  have hz : H1.size = H.size + 1 := by rw [z1, hH]
  have ho : ∀ q : Nat, q < H.size → H1[q]? = H[q]? := fun q hq => o1 q (by rw [← hH]; exact hq)
  refine kk p e s m args below meth c G H1 locs (cells + 1) (slots + len) ls hX hC (rel_push hR hx hz ho ?_) (hS.more (by omega) ho) hl (by omega) (by omega)
  show H1[H.size]? = some (vp_cell (gA G .byte) (len, adat G (nK M (.inl (.byte, len))) (mK M).length .byte))
  rw [hH, e1, hcA]
  simp only [adat, nK, mI, mL, mD, fs_self]
  rw [vp_cell_i]
  rfl
theorem g_newarray_boolean {len : Nat} {i : Int32} (hd : decode J.2.1 pc = .ok (.newarray .boolean, 2)) (hw : Cond.arrayClass .boolean ∈ WS) (hi : i = nI len) (hL : len < 100000) (hx : mX M = true) (kk : Go l J F L MC MS Q (pc + 2) lv (.ref (mK M).length :: st) k n (nK M (.inl (.boolean, len)))) : Go l J F L MC MS Q pc lv (.int i :: st) (k + 1) (n + len) M := by
  subst hi
  intro p e s m args below meth c G H locs cells slots ls hX hC hR hS hl hc hs
  have hH := hR.2.1 hx
  refine va_newaK (atype := .boolean) hX.1.1 hX.1.2.1 (hX.1.2.2.2.2 _ hw) rfl hd rfl (nI_pos (by omega)) (nI_clamp (by omega)) (by simp only [newarray.typeOf, componentBytes]; omega) (by show cells + 1 ≤ MC; omega) (by show slots + len ≤ MS; omega) hH fun H1 cA e1 z1 o1 hAr hNm => ?_
  have hcA : cA = gA G .boolean := by
    have h9 : s.vm.findClass ("[" ++ FieldType.boolean.toString) = some (gA G .boolean) := (hC.2.1.2 3 _ rfl).2
    exact Option.some.inj (hNm.symm.trans h9)
  have hz : H1.size = H.size + 1 := by rw [z1, hH]
  have ho : ∀ q : Nat, q < H.size → H1[q]? = H[q]? := fun q hq => o1 q (by rw [← hH]; exact hq)
  refine kk p e s m args below meth c G H1 locs (cells + 1) (slots + len) ls hX hC (rel_push hR hx hz ho ?_) (hS.more (by omega) ho) hl (by omega) (by omega)
  show H1[H.size]? = some (vp_cell (gA G .boolean) (len, adat G (nK M (.inl (.boolean, len))) (mK M).length .boolean))
  rw [hH, e1, hcA]
  simp only [adat, nK, mI, mL, mD, fs_self]
  rw [vp_cell_i]
  rfl
theorem g_newarray_long {len : Nat} {i : Int32} (hd : decode J.2.1 pc = .ok (.newarray .long, 2)) (hw : Cond.arrayClass .long ∈ WS) (hi : i = nI len) (hL : len < 100000) (hx : mX M = true) (kk : Go l J F L MC MS Q (pc + 2) lv (.ref (mK M).length :: st) k n (nK M (.inl (.long, len)))) : Go l J F L MC MS Q pc lv (.int i :: st) (k + 1) (n + len) M := by
  subst hi
  intro p e s m args below meth c G H locs cells slots ls hX hC hR hS hl hc hs
  have hH := hR.2.1 hx
  refine va_newaK (atype := .long) hX.1.1 hX.1.2.1 (hX.1.2.2.2.2 _ hw) rfl hd rfl (nI_pos (by omega)) (nI_clamp (by omega)) (by simp only [newarray.typeOf, componentBytes]; omega) (by show cells + 1 ≤ MC; omega) (by show slots + len ≤ MS; omega) hH fun H1 cA e1 z1 o1 hAr hNm => ?_
  have hcA : cA = gA G .long := by
    have h9 : s.vm.findClass ("[" ++ FieldType.long.toString) = some (gA G .long) := (hC.2.1.2 1 _ rfl).2
    exact Option.some.inj (hNm.symm.trans h9)
  have hz : H1.size = H.size + 1 := by rw [z1, hH]
  have ho : ∀ q : Nat, q < H.size → H1[q]? = H[q]? := fun q hq => o1 q (by rw [← hH]; exact hq)
  refine kk p e s m args below meth c G H1 locs (cells + 1) (slots + len) ls hX hC (rel_push hR hx hz ho ?_) (hS.more (by omega) ho) hl (by omega) (by omega)
  show H1[H.size]? = some (vp_cell (gA G .long) (len, adat G (nK M (.inl (.long, len))) (mK M).length .long))
  rw [hH, e1, hcA]
  simp only [adat, nK, mI, mL, mD, fs_self]
  rw [vp_cell_l]
  rfl
theorem g_newarray_double {len : Nat} {i : Int32} (hd : decode J.2.1 pc = .ok (.newarray .double, 2)) (hw : Cond.arrayClass .double ∈ WS) (hi : i = nI len) (hL : len < 100000) (hx : mX M = true) (kk : Go l J F L MC MS Q (pc + 2) lv (.ref (mK M).length :: st) k n (nK M (.inl (.double, len)))) : Go l J F L MC MS Q pc lv (.int i :: st) (k + 1) (n + len) M := by
  subst hi
  intro p e s m args below meth c G H locs cells slots ls hX hC hR hS hl hc hs
  have hH := hR.2.1 hx
  refine va_newaK (atype := .double) hX.1.1 hX.1.2.1 (hX.1.2.2.2.2 _ hw) rfl hd rfl (nI_pos (by omega)) (nI_clamp (by omega)) (by simp only [newarray.typeOf, componentBytes]; omega) (by show cells + 1 ≤ MC; omega) (by show slots + len ≤ MS; omega) hH fun H1 cA e1 z1 o1 hAr hNm => ?_
  have hcA : cA = gA G .double := by
    have h9 : s.vm.findClass ("[" ++ FieldType.double.toString) = some (gA G .double) := (hC.2.1.2 4 _ rfl).2
    exact Option.some.inj (hNm.symm.trans h9)
  have hz : H1.size = H.size + 1 := by rw [z1, hH]
  have ho : ∀ q : Nat, q < H.size → H1[q]? = H[q]? := fun q hq => o1 q (by rw [← hH]; exact hq)
  refine kk p e s m args below meth c G H1 locs (cells + 1) (slots + len) ls hX hC (rel_push hR hx hz ho ?_) (hS.more (by omega) ho) hl (by omega) (by omega)
  show H1[H.size]? = some (vp_cell (gA G .double) (len, adat G (nK M (.inl (.double, len))) (mK M).length .double))
  rw [hH, e1, hcA]
  simp only [adat, nK, mI, mL, mD, fs_self]
  rw [vp_cell_d]
  rfl
theorem g_new {ix ci nf : Nat} {q0 : vw_C} {ty0 : Nat → FieldType} (hd : decode J.2.1 pc = .ok (.new ix, 3)) (hc0 : vwCl[ci]? = some q0) (hcl : Cond.classLink J.1.cls ix q0.1 ∈ WS) (hin : Cond.instantiable q0.1 q0.2.2 ∈ WS) (hini : Cond.initialized q0.1 ∈ WS) (hws : ∀ w ∈ u_ws q0.1 q0.2.1 q0.2.2, w ∈ WS) (hty : ∀ a, a < q0.2.2 → parseFieldDescriptor (q0.2.1 a).2.2.1 = some (ty0 a)) (hdf : ∀ a, a < q0.2.2 → ∀ (G : Gl), defaultValue (ty0 a) = vp_V (fvs G (nK M (.inr ci)) (mK M).length 0 (ftyA ci)) a) (hnf : q0.2.2 = nf) (hx : mX M = true)
    (kk : Go l J F L MC MS Q (pc + 3) lv (.ref (mK M).length :: st) k n (nK M (.inr ci))) : Go l J F L MC MS Q pc lv st (k + 1) (n + nf) M := by
  subst hnf
  intro p e s m args below meth c G H locs cells slots ls hX hC hR hS hl hc hs
  have hH := hR.2.1 hx
  have hts := hX.1.2.2.2.2
  have hKn := hC.2.1.1 ci _ hc0
  refine W.newcK hX.1.1 hX.1.2.1 hX.1.2.2.2.1 (hts _ hcl) (hts _ hin) (hts _ hini) rfl hd (by show cells + 1 ≤ MC; omega) (by show slots + _ ≤ MS; omega) hKn.2.1 rfl fun H1 kC hkC e1 z1 o1 => ?_
  have h1 := kk p e s m args below meth c G H1 locs (cells + 1) (slots + q0.2.2) ls hX hC (rel_push hR hx z1 o1 ?_) (hS.more (by omega) o1) hl (by omega) (by omega)
  · rw [List.map_cons] at h1
    show W p l e _ s m args below meth c H1 locs _ _ _ (F0 m (pc + 3) ls (.ref H.size :: st.map (cv G)))
    rw [hH]
    exact h1
  exact ⟨_, hc0, (u_born ty0 hts hws hKn hkC e1 hty).to (fun a ha => hdf a ha G)⟩
theorem g_anewarray_State {ix len : Nat} {i : Int32} (hd : decode J.2.1 pc = .ok (.anewarray ix, 3)) (hcl : Cond.classLink J.1.cls ix "BitDesk$State" ∈ WS) (hi : i = nI len) (hL : len < 100000) (hx : mX M = true) (kk : Go l J F L MC MS Q (pc + 3) lv (.ref (mK M).length :: st) k n (nK M (.inl (.object "BitDesk$State", len)))) : Go l J F L MC MS Q pc lv (.int i :: st) (k + 1) (n + len) M := by
  subst hi
  intro p e s m args below meth c G H locs cells slots ls hX hC hR hS hl hc hs
  have hH := hR.2.1 hx
  have hts := hX.1.2.2.2.2
  refine W.anew hX.1.1 hX.1.2.1 hX.1.2.2.2.1 (hts _ hcl) (va_AO.use hC.2.2.2.2.2.2.2.2.2.2.2.2.2.2.1) rfl hd rfl (nI_pos (by omega)) (by rw [nI_clamp (by omega)]; omega) (by show cells + 1 ≤ MC; omega) (by rw [nI_clamp (by omega)]; show slots + len ≤ MS; omega) fun cA kA comp f1 f2 f3 f4 => ?_
  rw [nI_clamp (by omega)]
  have hcA : cA = gA G (.object "BitDesk$State") := by
    obtain ⟨-, -, -, -, -, h9⟩ := (hC.2.1.2 5 _ rfl).2
    exact Option.some.inj (f1.symm.trans h9)
  generalize hH1 : H.push ({ cls := cA, slots := Array.replicate len .null, vm := .none } : Cell) = H1
  have z1 : H1.size = H.size + 1 := by rw [← hH1, Array.size_push]
  have e1 : H1[H.size]? = some (arrV cA len (fun _ => .null)) := by rw [← hH1, Array.getElem?_push_size, ← arrV_new]
  have o1 : ∀ q : Nat, q < H.size → H1[q]? = H[q]? := fun q hq => by rw [← hH1, Array.getElem?_push, if_neg (Nat.ne_of_lt hq)]
  have h1 := kk p e s m args below meth c G H1 locs (cells + 1) (slots + len) ls hX hC (rel_push hR hx z1 o1 ?_) (hS.more (by omega) o1) hl (by omega) (by omega)
  · rw [List.map_cons] at h1
    rw [hH]
    exact h1
  show H1[H.size]? = some (vp_cell (gA G (.object "BitDesk$State")) (len, adat G (nK M (.inl (.object "BitDesk$State", len))) (mK M).length (.object "BitDesk$State")))
  rw [e1, hcA]
  simp only [adat, nK, mR, fs_self]
  rw [vp_cell_q]
  rfl
theorem g_anewarray_Matrix {ix len : Nat} {i : Int32} (hd : decode J.2.1 pc = .ok (.anewarray ix, 3)) (hcl : Cond.classLink J.1.cls ix "BitDesk$Matrix" ∈ WS) (hi : i = nI len) (hL : len < 100000) (hx : mX M = true) (kk : Go l J F L MC MS Q (pc + 3) lv (.ref (mK M).length :: st) k n (nK M (.inl (.object "BitDesk$Matrix", len)))) : Go l J F L MC MS Q pc lv (.int i :: st) (k + 1) (n + len) M := by
  subst hi
  intro p e s m args below meth c G H locs cells slots ls hX hC hR hS hl hc hs
  have hH := hR.2.1 hx
  have hts := hX.1.2.2.2.2
  refine W.anew hX.1.1 hX.1.2.1 hX.1.2.2.2.1 (hts _ hcl) (va_AO.use hC.2.2.2.2.2.2.2.2.2.2.2.2.2.2.2.1) rfl hd rfl (nI_pos (by omega)) (by rw [nI_clamp (by omega)]; omega) (by show cells + 1 ≤ MC; omega) (by rw [nI_clamp (by omega)]; show slots + len ≤ MS; omega) fun cA kA comp f1 f2 f3 f4 => ?_
  rw [nI_clamp (by omega)]
  have hcA : cA = gA G (.object "BitDesk$Matrix") := by
    obtain ⟨-, -, -, -, -, h9⟩ := (hC.2.1.2 6 _ rfl).2
    exact Option.some.inj (f1.symm.trans h9)
  generalize hH1 : H.push ({ cls := cA, slots := Array.replicate len .null, vm := .none } : Cell) = H1
  have z1 : H1.size = H.size + 1 := by rw [← hH1, Array.size_push]
  have e1 : H1[H.size]? = some (arrV cA len (fun _ => .null)) := by rw [← hH1, Array.getElem?_push_size, ← arrV_new]
  have o1 : ∀ q : Nat, q < H.size → H1[q]? = H[q]? := fun q hq => by rw [← hH1, Array.getElem?_push, if_neg (Nat.ne_of_lt hq)]
  have h1 := kk p e s m args below meth c G H1 locs (cells + 1) (slots + len) ls hX hC (rel_push hR hx z1 o1 ?_) (hS.more (by omega) o1) hl (by omega) (by omega)
  · rw [List.map_cons] at h1
    rw [hH]
    exact h1
  show H1[H.size]? = some (vp_cell (gA G (.object "BitDesk$Matrix")) (len, adat G (nK M (.inl (.object "BitDesk$Matrix", len))) (mK M).length (.object "BitDesk$Matrix")))
  rw [e1, hcA]
  simp only [adat, nK, mR, fs_self]
  rw [vp_cell_q]
  rfl
theorem g_anewarray_Closure {ix len : Nat} {i : Int32} (hd : decode J.2.1 pc = .ok (.anewarray ix, 3)) (hcl : Cond.classLink J.1.cls ix "BitDesk$Closure" ∈ WS) (hi : i = nI len) (hL : len < 100000) (hx : mX M = true) (kk : Go l J F L MC MS Q (pc + 3) lv (.ref (mK M).length :: st) k n (nK M (.inl (.object "BitDesk$Closure", len)))) : Go l J F L MC MS Q pc lv (.int i :: st) (k + 1) (n + len) M := by
  subst hi
  intro p e s m args below meth c G H locs cells slots ls hX hC hR hS hl hc hs
  have hH := hR.2.1 hx
  have hts := hX.1.2.2.2.2
  refine W.anew hX.1.1 hX.1.2.1 hX.1.2.2.2.1 (hts _ hcl) (va_AO.use hC.2.2.2.2.2.2.2.2.2.2.2.2.2.2.2.2.1) rfl hd rfl (nI_pos (by omega)) (by rw [nI_clamp (by omega)]; omega) (by show cells + 1 ≤ MC; omega) (by rw [nI_clamp (by omega)]; show slots + len ≤ MS; omega) fun cA kA comp f1 f2 f3 f4 => ?_
  rw [nI_clamp (by omega)]
  have hcA : cA = gA G (.object "BitDesk$Closure") := by
    obtain ⟨-, -, -, -, -, h9⟩ := (hC.2.1.2 7 _ rfl).2
    exact Option.some.inj (f1.symm.trans h9)
  generalize hH1 : H.push ({ cls := cA, slots := Array.replicate len .null, vm := .none } : Cell) = H1
  have z1 : H1.size = H.size + 1 := by rw [← hH1, Array.size_push]
  have e1 : H1[H.size]? = some (arrV cA len (fun _ => .null)) := by rw [← hH1, Array.getElem?_push_size, ← arrV_new]
  have o1 : ∀ q : Nat, q < H.size → H1[q]? = H[q]? := fun q hq => by rw [← hH1, Array.getElem?_push, if_neg (Nat.ne_of_lt hq)]
  have h1 := kk p e s m args below meth c G H1 locs (cells + 1) (slots + len) ls hX hC (rel_push hR hx z1 o1 ?_) (hS.more (by omega) o1) hl (by omega) (by omega)
  · rw [List.map_cons] at h1
    rw [hH]
    exact h1
  show H1[H.size]? = some (vp_cell (gA G (.object "BitDesk$Closure")) (len, adat G (nK M (.inl (.object "BitDesk$Closure", len))) (mK M).length (.object "BitDesk$Closure")))
  rw [e1, hcA]
  simp only [adat, nK, mR, fs_self]
  rw [vp_cell_q]
  rfl
theorem g_objInit {ix id : Nat} (hd : decode J.2.1 pc = .ok (.invokespecial ix, 3)) (h1 : Cond.methodLink J.1.cls ix objectInit ∈ WS) (h2 : Cond.instanceMethod objectInit ∈ WS) (h3 : Cond.code objectInit ⟨#[0xb1]⟩ 1 none ∈ WS) (hF : 1 ≤ F) (hL : (st.map fun v => v.category).sum + 12 ≤ L) (kk : Go l J F L MC MS Q (pc + 3) lv st k n M) : Go l J F L MC MS Q pc lv (.ref id :: st) k n M := by
  intro p e s m args below meth c G H locs cells slots ls hX hC hR hS hl hc hs
  have hts := hX.1.2.2.2.2
  refine W.objInit hX.1.1 hX.1.2.1 hX.1.2.2.2.1 (hts _ h1) (hts _ h2) (hts _ h3) rfl (by rw [hX.1.2.2.1]; exact hl.1) rfl hd hF (by show 2 * 0 + _ + 12 ≤ L; rw [cv_cats]; omega) ?_
  exact kk p e s m args below meth c G H locs cells slots ls hX hC hR hS hl hc hs
/-- the ends -/
theorem g_end {v : Option Value} (hq : Q (.inl v) M) {G : Gl} {s t : State} {H : Heap} {locs : List Loc} (hR : Rel G M H) (hS : va_S (Go_A G) s.heap H locs) (ht : t.heap = H) (args : Array Value) : QcOf G Q args s (.returned (v.map (cv G))) t :=
  ⟨⟨v, M, rfl, hq, by rw [ht]; exact hR⟩, hS.F ht⟩
theorem g_ireturn {x : Int32} {ty : FieldType} (hd : decode J.2.1 pc = .ok (.ireturn, 1)) (hr : J.2.2.2.1 = some ty) (hn : narrow ty (.int x) = .int x) (hq : Q (.inl (some (.int x))) M) : Go l J F L MC MS Q pc lv [.int x] k n M := by
  intro p e s m args below meth c G H locs cells slots ls hX hC hR hS hl hc hs
  refine W.widen (k := MC) (n := MS) (by omega) (by omega) (vx_ret ?_)
  exact W.zret (ty := ty) hX.1.1 hX.1.2.1 (hX.2.1.trans hr) hn (fun t ht hW => g_end hq hR hS ht args) hS.2.2 hd hX.2.2.1
theorem g_lreturn {x : Int64} (hd : decode J.2.1 pc = .ok (.lreturn, 1)) (hr : J.2.2.2.1 = some .long) (hq : Q (.inl (some (.long x))) M) : Go l J F L MC MS Q pc lv [.long x] k n M := by
  intro p e s m args below meth c G H locs cells slots ls hX hC hR hS hl hc hs
  refine W.widen (k := MC) (n := MS) (by omega) (by omega) (vx_ret ?_)
  exact W.lret hX.1.1 hX.1.2.1 (hX.2.1.trans hr) (fun t ht hW => g_end hq hR hS ht args) hS.2.2 hd hX.2.2.1
theorem g_freturn {x : UInt32} (hd : decode J.2.1 pc = .ok (.freturn, 1)) (hr : J.2.2.2.1 = some .float) (hq : Q (.inl (some (.float x))) M) : Go l J F L MC MS Q pc lv [.float x] k n M := by
  intro p e s m args below meth c G H locs cells slots ls hX hC hR hS hl hc hs
  refine W.widen (k := MC) (n := MS) (by omega) (by omega) (vx_ret ?_)
  exact W.fret hX.1.1 hX.1.2.1 (hX.2.1.trans hr) (fun t ht hW => g_end hq hR hS ht args) hS.2.2 hd hX.2.2.1
theorem g_dreturn {x : UInt64} (hd : decode J.2.1 pc = .ok (.dreturn, 1)) (hr : J.2.2.2.1 = some .double) (hq : Q (.inl (some (.double x))) M) : Go l J F L MC MS Q pc lv [.double x] k n M := by
  intro p e s m args below meth c G H locs cells slots ls hX hC hR hS hl hc hs
  refine W.widen (k := MC) (n := MS) (by omega) (by omega) (vx_ret ?_)
  exact W.dret hX.1.1 hX.1.2.1 (hX.2.1.trans hr) (fun t ht hW => g_end hq hR hS ht args) hS.2.2 hd hX.2.2.1
theorem g_areturn {x : Nat} {rt : FieldType} (hd : decode J.2.1 pc = .ok (.areturn, 1)) (hr : J.2.2.2.1 = some rt) (hrt : (∃ n, rt = .object n) ∨ ∃ t, rt = .array t) (hq : Q (.inl (some (.ref x))) M) : Go l J F L MC MS Q pc lv [.ref x] k n M := by
  intro p e s m args below meth c G H locs cells slots ls hX hC hR hS hl hc hs
  refine W.widen (k := MC) (n := MS) (by omega) (by omega) (vx_ret ?_)
  exact W.aret hX.1.1 hX.1.2.1 (hX.2.1.trans hr) hrt (Or.inr ⟨_, rfl⟩) (fun t ht hW => g_end hq hR hS ht args) hS.2.2 hd hX.2.2.1
theorem g_return (hd : decode J.2.1 pc = .ok (.return_, 1)) (hr : J.2.2.2.1 = none) (hq : Q (.inl none) M) : Go l J F L MC MS Q pc lv [] k n M := by
  intro p e s m args below meth c G H locs cells slots ls hX hC hR hS hl hc hs
  refine W.widen (k := MC) (n := MS) (by omega) (by omega) (vx_ret ?_)
  exact W.vret hX.1.1 hX.1.2.1 (hX.2.1.trans hr) (fun t ht hW => g_end hq hR hS ht args) hS.2.2 hd hX.2.2.1
end
end
-- 06.calls
section
/-! RULES: calls, entries, throws, handlers. -/
section
variable {l : Launch} {J : Jm} {F L MC MS : Nat} {Q : Res → Mem → Prop} {pc : Nat} {lv : List (Nat × Value)} {st : List Value} {k n : Nat} {M : Mem}
theorem rel_of_P {G : Gl} {M : Mem} {H : Heap} (hx : mX M = false) (hP : va_P (gD G) vwCl (wl G M) H) (hb : gB G ≤ H.size) (hSc : mS M = (gLen G, gXs G)) : Rel G M H := by
  refine ⟨hP, fun h => absurd (hx.symm.trans h) (by decide), ?_, hSc⟩
  rcases Nat.eq_zero_or_pos (mK M).length with h | h
  · omega
  · have h1 : (mK M)[(mK M).length - 1]? = some ((mK M)[(mK M).length - 1]'(by omega)) := List.getElem?_eq_getElem (by omega)
    have h2 : gB G + ((mK M).length - 1) < H.size := (hP _ _ (wl_get h1)).lt
    omega
theorem Rel.same {G : Gl} {M : Mem} {H H1 : Heap} (h : Rel G M H) (hx : mX M = false) (hz : H.size ≤ H1.size) (hk : ∀ q : Nat, q < H.size → H1[q]? = H[q]?) : Rel G M H1 :=
  rel_of_P hx (h.1.kept (fun i q hq => hk _ (h.1 i q hq).lt)) (by have := h.2.2.1; omega) h.2.2.2
theorem blind (G : Gl) (As : List Value) (l : Launch) (M : Mem) : FrameBlind (va_Pc As (fun s => Ctx l G s ∧ Rel G M s.heap)) := by
  intro a U g mk h
  obtain ⟨h1, h2, h3⟩ := h
  exact ⟨h1, h2.warm (U := U.calling g mk a) (State.WarmedH.refl U) (Nat.le_refl _) (fun _ _ _ => rfl), h3⟩
/-- into a method -/
theorem ev_intro {J : Jm} {F L mc ms : Nat} {As : List Value} {Q : Res → Mem → Prop} (hy : plainName J.1.cls = true) (hlen : (lg_sl As).length ≤ J.2.2.1) (hh : J.2.2.2.2 = []) (kk : Go l J F L mc ms Q 0 (lv_args 0 As) [] mc ms M) : Ev l J F L mc ms As M Q := by
  intro G
  have hcw : cwd J :: WS = Cond.code J.1 J.2.1 J.2.2.1 J.2.2.2.1 :: WS := by unfold cwd; rw [if_pos hh]
  refine vx_ofW (cc := J.2.1) (maxL := J.2.2.1) (ret := J.2.2.2.1) hy hcw ?_
  intro p e s m args below meth c s₁ B hml htab hv
  obtain ⟨rfl, hC, hR⟩ := hv
  have hts := atoms_spec (ws := cwd J :: WS) B.pre
  have hl := lv_entry (As.map (cv G)) (n := J.2.2.1) (by rw [lg_sl_cv]; exact hlen)
  rw [lg_entry_eq]
  rw [lv_args_cv] at hl
  have hX : Stn l J p m (As.map (cv G)).toArray s meth c := ⟨⟨B.exec, B.bytes, hml, findClass_of_methodNamed B.named, fun w hw => hts w (List.mem_cons_of_mem _ hw)⟩, B.returns, B.notSynchronized, by
    rw [hh]
    cases h9 : c.exceptionTable.toList with
    | nil => rfl
    | cons x xs => exact absurd (htab x (by rw [h9]; exact List.mem_cons_self)) id, (name_of_methodNamed B.named B.method).1⟩
  exact kk p e s m _ below meth c G s.heap [] 0 0 _ hX hC hR va_S.rf hl (by omega) (by omega)
/-- into a method with handlers -/
theorem ev_introW {J : Jm} {F L mc ms : Nat} {As : List Value} {Q : Res → Mem → Prop} (hy : plainName J.1.cls = true) (hlen : (lg_sl As).length ≤ J.2.2.1) (hh : J.2.2.2.2 ≠ []) (kk : Go l J F L mc ms Q 0 (lv_args 0 As) [] mc ms M) : Ev l J F L mc ms As M Q := by
  intro G
  have hcw : cwd J :: WS = Cond.codeWith J.1 J.2.1 J.2.2.1 J.2.2.2.1 J.2.2.2.2 :: WS := by unfold cwd; rw [if_neg hh]
  refine vx_ofWH (cc := J.2.1) (maxL := J.2.2.1) (ret := J.2.2.2.1) (hh := J.2.2.2.2) hy hcw ?_
  intro p e s m args below meth c s₁ B hml hv
  obtain ⟨rfl, hC, hR⟩ := hv
  have hts := atoms_spec (ws := cwd J :: WS) B.pre
  have hl := lv_entry (As.map (cv G)) (n := J.2.2.1) (by rw [lg_sl_cv]; exact hlen)
  rw [lg_entry_eq]
  rw [lv_args_cv] at hl
  have hX : Stn l J p m (As.map (cv G)).toArray s meth c := ⟨⟨B.exec, B.bytes, hml, findClass_of_methodNamed B.named, fun w hw => hts w (List.mem_cons_of_mem _ hw)⟩, B.returns, B.notSynchronized, vx_table (x := J.1) B (hts _ (by rw [hcw]; exact List.mem_cons_self)), (name_of_methodNamed B.named B.method).1⟩
  exact kk p e s m _ below meth c G s.heap [] 0 0 _ hX hC hR va_S.rf hl (by omega) (by omega)
/-- how a class's pool names a method -/
def LkB (own : String) (ix : Nat) (J' : Jm) (nA : Nat) : Prop := Cond.methodLink own ix J'.1 ∈ WS ∧ (J'.2.2.2.2 = [] ∧ cwd J' ∈ WS) ∧ Cond.initialized J'.1.cls ∈ WS ∧ (J'.1.cls ≠ "java/lang/invoke/MethodHandle" ∧ J'.1.cls ≠ "java/lang/invoke/VarHandle") ∧ (parseMethodDescriptor J'.1.desc).map (fun d => d.parameters.length) = some nA
def LkN (own : String) (ix : Nat) (J' : Jm) (nA : Nat) : Prop := (∃ host, Cond.methodLinkNest own ix J'.1 host ∈ NWL) ∧ (J'.2.2.2.2 = [] ∧ cwd J' ∈ WS) ∧ Cond.initialized J'.1.cls ∈ WS ∧ (J'.1.cls ≠ "java/lang/invoke/MethodHandle" ∧ J'.1.cls ≠ "java/lang/invoke/VarHandle") ∧ (parseMethodDescriptor J'.1.desc).map (fun d => d.parameters.length) = some nA
def LkV (own : String) (ix : Nat) (J' : Jm) (nA : Nat) : Prop := LkB own ix J' nA ∧ Cond.instanceMethod J'.1 ∈ WS ∧ Cond.selects J'.1.cls J'.1 J'.1 ∈ WS
def LkS (own : String) (ix : Nat) (J' : Jm) (nA : Nat) : Prop := LkB own ix J' nA ∧ Cond.static J'.1 ∈ WS
def LkI (own : String) (ix : Nat) (J' : Jm) (nA : Nat) : Prop := LkB own ix J' nA ∧ Cond.instanceMethod J'.1 ∈ WS ∧ J'.1.name = "<init>" ∧ J'.2.2.2.1 = none
def LkSN (own : String) (ix : Nat) (J' : Jm) (nA : Nat) : Prop := LkN own ix J' nA ∧ Cond.static J'.1 ∈ WS
theorem ws_warm {args : Array Value} {s : State} (hts : ∀ w ∈ WS, w.before args s = true) {J' : Jm} (hc : cwd J' ∈ WS) : ∀ w ∈ cwd J' :: WS, ∀ (a' : Array Value) (U : State), s.WarmedH U.vm → w.before a' U = true := by
  intro w hw a' U hW
  have hw' : w ∈ WS := by
    rcases List.mem_cons.mp hw with rfl | h
    · exact hc
    · exact h
  exact word_at hW (ws_good hw') (hts w hw')
theorem lk_B {own : String} {ix nA : Nat} {J' : Jm} {args : Array Value} {s : State} {F L mc ms F' L' : Nat} (h : LkB own ix J' nA) (hts : ∀ w ∈ WS, w.before args s = true) (hF : F' + 1 ≤ F ∧ 8 + (J'.2.2.1 + 11) + L' ≤ L) :
    CallB ({ frames := F, cells := MC, slots := MS, locals := L } : Room) s args own ix J'.1 J'.2.1 J'.2.2.1 J'.2.2.2.1 (cwd J' :: WS) ({ frames := F', cells := mc, slots := ms, locals := L' } : Room) mc ms nA := by
  obtain ⟨h1, ⟨h2, h3⟩, h4, h5, h6⟩ := h
  have e : cwd J' = Cond.code J'.1 J'.2.1 J'.2.2.1 J'.2.2.2.1 := by unfold cwd; rw [if_pos h2]
  refine ⟨rfl, rfl, hF.1, hF.2, ws_warm hts h3, by rw [← e]; exact List.mem_cons_self, by rw [← e]; exact hts _ h3, hts _ h4, h5, fun sig h9 => ?_, hts _ h1⟩
  rw [h9] at h6
  exact (Option.some.inj h6).symm
theorem lk_N {own : String} {ix nA : Nat} {J' : Jm} {G : Gl} {args : Array Value} {s : State} {F L mc ms F' L' : Nat} (h : LkN own ix J' nA) (hC : Ctx l G s) (hts : ∀ w ∈ WS, w.before args s = true) (hF : F' + 1 ≤ F ∧ 8 + (J'.2.2.1 + 11) + L' ≤ L) :
    ∃ host, va_CN ({ frames := F, cells := MC, slots := MS, locals := L } : Room) s args own ix J'.1 host J'.2.1 J'.2.2.1 J'.2.2.2.1 (cwd J' :: WS) ({ frames := F', cells := mc, slots := ms, locals := L' } : Room) mc ms nA := by
  obtain ⟨⟨host, h1⟩, ⟨h2, h3⟩, h4, h5, h6⟩ := h
  have e : cwd J' = Cond.code J'.1 J'.2.1 J'.2.2.1 J'.2.2.2.1 := by unfold cwd; rw [if_pos h2]
  refine ⟨host, ⟨rfl, rfl, hF.1, hF.2, ws_warm hts h3, by rw [← e]; exact List.mem_cons_self⟩, by rw [← e]; exact hts _ h3, hts _ h4, h5, fun sig h9 => ?_, va_Nw.use (by rfl) (hC.2.2.1 _ h1)⟩
  rw [h9] at h6
  exact (Option.some.inj h6).symm
section Run
variable {p : Program} {e : Env} {R : Room} {s : State} {m : MethodId} {args : Array Value} {below : List Frame} {meth : Method} {c : Code} {H : Heap} {locs : List Loc} {cells slots mc ms : Nat} {Z : State → Prop} {G : Gl} {Q' : Res → Mem → Prop} {ls : Array Slot} {st0 rest : List Value} {a : Array Value}
theorem vx_go (hr : vx_Run p l e R s m args below meth c H locs cells slots mc ms (F0 m pc ls st0) rest (QcOf G Q' a) (XCOf G Q') (Go_A G)) (hS : va_S (Go_A G) s.heap H locs)
    (kk : ∀ (v : Option Value) (M' : Mem) (H1 : Heap) (locs1 : List Loc), Q' (.inl v) M' → Rel G M' H1 → va_S (Go_A G) s.heap H1 locs1 → W p l e R s m args below meth c H1 locs1 (cells + mc) (slots + ms) Z (F0 m (pc + 3) ls ((v.map (cv G)).toList ++ rest)))
    (kx : ∀ (E : String) (ce : Cell) (q9 : Addr) (M' : Mem) (H1 : Heap) (locs1 : List Loc), Q' (.inr E) M' → Rel G M' H1 → va_S (Go_A G) s.heap H1 locs1 → H1[q9]? = some ce → ce.vm = .none → s.vm.findClass E = some ce.cls → vx_W p l e R s m args below meth c H1 locs1 (cells + mc) (slots + ms) Z (F0 m pc ls rest) q9) :
    W p l e R s m args below meth c H locs cells slots Z (F0 m pc ls st0) := by
  intro T hT X
  rcases hr T hT X with ⟨v, st₀, t, T', L9, h0, X', hL, e1, e2, ⟨⟨v', M', hv, hq, hR⟩, hF⟩, st⟩ | ⟨q, st₀, t, T', L9, E, ce, h0, X', hL, e1, e2, ⟨⟨M', hq, hR⟩, hF⟩, hce, hcv, hcl, st⟩
  · cases hv
    obtain ⟨k1, k2, k3⟩ := vx_keep h0 e1 hS (fun _ _ h => h) (fun _ h => h) hL hF
    obtain ⟨t2, a1, b1⟩ := kk v' M' T'.heap (locs ++ L9) hq (by rw [e1]; exact hR) k3 T' rfl X'
    exact ⟨t2, st t2 a1, b1⟩
  · obtain ⟨k1, k2, k3⟩ := vx_keep h0 e1 hS (fun _ _ h => h) (fun _ h => h) hL hF
    obtain ⟨t2, a1, b1⟩ := kx E ce q M' T'.heap (locs ++ L9) hq (by rw [e1]; exact hR) k3 (by rw [e1]; exact hce) hcv hcl T' rfl X'
    exact ⟨t2, st.trans a1, b1⟩
end Run
theorem ctx_call {G : Gl} {s U : State} {H : Heap} {locs : List Loc} (hC : Ctx l G s) (hS : va_S (Go_A G) s.heap H locs) (hU : U.heap = H) (hW : s.WarmedH U.vm) : Ctx l G U :=
  hC.warm hW (by rw [hU]; exact hS.1) (fun q h1 h2 => by rw [hU]; exact hS.2.1 q h1 h2)
theorem g_invV {ix nA F' L' mc' ms' : Nat} {J' : Jm} {As rest : List Value} {Q' : Res → Mem → Prop} {id ci : Nat} {q0 : vw_C} (hd : decode J.2.1 pc = .ok (.invokevirtual ix, 3)) (hlk : LkV J.1.cls ix J' nA) (hn : As.length = nA) (hcat : (rest.map fun v => v.category).sum ≤ 8) (hF : F' + 1 ≤ F ∧ 8 + (J'.2.2.1 + 11) + L' ≤ L) (hE : Ev l J' F' L' mc' ms' (.ref id :: As) M Q') (hst : st = As.reverse ++ .ref id :: rest) (hk : (mK M)[id]? = some (.inr ci)) (hc0 : vwCl[ci]? = some q0) (hq0 : q0.1 = J'.1.cls) (hh : J.2.2.2.2 = [])
    (kk : ∀ v M', Q' (.inl v) M' → Go l J F L MC MS Q (pc + 3) lv (v.toList ++ rest) k n M') (kx : ∀ E M', Q' (.inr E) M' → Q (.inr E) M') : Go l J F L MC MS Q pc lv st (k + mc') (n + ms') M := by
  subst hst
  intro p e s m args below meth c G H locs cells slots ls hX hC hR hS hl hc hs
  have hts := hX.1.2.2.2.2
  have he := wl_get (G := G) hk
  have hrun := vx_runV (As := As.map (cv G)) (rest := rest.map (cv G)) (e := e) (below := below) (meth := meth) (g := F0 m pc ls ((As.reverse ++ .ref id :: rest).map (cv G))) (locs := locs) (cells := cells) (slots := slots) (H := H) (b := gB G + id) hX.1 (hE G) ⟨lk_B hlk.1 hts hF, hts _ hlk.2.1, hts _ hlk.2.2⟩
    ⟨blind G _ l M, by have := va_recv (q := q0) hC.2.1 hR.1 hc0 he; rw [hq0] at this; exact this, fun U hU hW => ⟨by rw [List.map_cons]; rfl, ctx_call hC hS hU hW, by rw [hU]; exact hR⟩⟩
    rfl (by rw [List.length_map]; exact hn) hl.1 (by show (List.map (cv G) _) = _; rw [List.map_append, List.map_reverse, List.map_cons]; rfl) (by show 2 * 0 + _ ≤ 8; rw [cv_cats]; omega) hd ⟨by show cells + mc' ≤ MC; omega, by show slots + ms' ≤ MS; omega⟩
  refine vx_go (hrun) hS (fun v M' H1 locs1 hq hR1 hS1 => ?_) (fun E ce q9 M' H1 locs1 hq hR1 hS1 h5 h6 h7 => ?_)
  · have h1 := kk v M' hq p e s m args below meth c G H1 locs1 (cells + mc') (slots + ms') ls hX hC hR1 hS1 hl (by omega) (by omega)
    rw [List.map_append] at h1
    cases v <;> exact h1
  · exact vx_out (by rw [hX.2.2.2.1, hh]; intro x hx; cases hx) hX.2.2.1 h5 h6 h7 (fun t ht _ => ⟨⟨M', kx E M' hq, by rw [ht]; exact hR1⟩, hS1.F ht⟩) hS1.2.2 (by omega) (by omega)
theorem g_invS {ix nA F' L' mc' ms' : Nat} {J' : Jm} {As rest : List Value} {Q' : Res → Mem → Prop} (hd : decode J.2.1 pc = .ok (.invokestatic ix, 3)) (hlk : LkS J.1.cls ix J' nA) (hn : As.length = nA) (hcat : (rest.map fun v => v.category).sum ≤ 8) (hF : F' + 1 ≤ F ∧ 8 + (J'.2.2.1 + 11) + L' ≤ L) (hE : Ev l J' F' L' mc' ms' (As) M Q') (hst : st = As.reverse ++ rest) (hh : J.2.2.2.2 = [])
    (kk : ∀ v M', Q' (.inl v) M' → Go l J F L MC MS Q (pc + 3) lv (v.toList ++ rest) k n M') (kx : ∀ E M', Q' (.inr E) M' → Q (.inr E) M') : Go l J F L MC MS Q pc lv st (k + mc') (n + ms') M := by
  subst hst
  intro p e s m args below meth c G H locs cells slots ls hX hC hR hS hl hc hs
  have hts := hX.1.2.2.2.2
  have hrun := vx_runS (As := As.map (cv G)) (rest := rest.map (cv G)) (e := e) (below := below) (meth := meth) (g := F0 m pc ls ((As.reverse ++ rest).map (cv G))) (locs := locs) (cells := cells) (slots := slots) (H := H) hX.1 (hE G) ⟨lk_B hlk.1 hts hF, hts _ hlk.2⟩
    ⟨blind G _ l M, fun U hU hW => ⟨rfl, ctx_call hC hS hU hW, by rw [hU]; exact hR⟩⟩
    rfl (by rw [List.length_map]; exact hn) hl.1 (by show (List.map (cv G) _) = _; rw [List.map_append, List.map_reverse]) (by show 2 * 0 + _ ≤ 8; rw [cv_cats]; omega) hd ⟨by show cells + mc' ≤ MC; omega, by show slots + ms' ≤ MS; omega⟩
  refine vx_go (hrun) hS (fun v M' H1 locs1 hq hR1 hS1 => ?_) (fun E ce q9 M' H1 locs1 hq hR1 hS1 h5 h6 h7 => ?_)
  · have h1 := kk v M' hq p e s m args below meth c G H1 locs1 (cells + mc') (slots + ms') ls hX hC hR1 hS1 hl (by omega) (by omega)
    rw [List.map_append] at h1
    cases v <;> exact h1
  · exact vx_out (by rw [hX.2.2.2.1, hh]; intro x hx; cases hx) hX.2.2.1 h5 h6 h7 (fun t ht _ => ⟨⟨M', kx E M' hq, by rw [ht]; exact hR1⟩, hS1.F ht⟩) hS1.2.2 (by omega) (by omega)
theorem g_invSN {ix nA F' L' mc' ms' : Nat} {J' : Jm} {As rest : List Value} {Q' : Res → Mem → Prop} (hd : decode J.2.1 pc = .ok (.invokestatic ix, 3)) (hlk : LkSN J.1.cls ix J' nA) (hn : As.length = nA) (hcat : (rest.map fun v => v.category).sum ≤ 8) (hF : F' + 1 ≤ F ∧ 8 + (J'.2.2.1 + 11) + L' ≤ L) (hE : Ev l J' F' L' mc' ms' (As) M Q') (hst : st = As.reverse ++ rest) (hh : J.2.2.2.2 = [])
    (kk : ∀ v M', Q' (.inl v) M' → Go l J F L MC MS Q (pc + 3) lv (v.toList ++ rest) k n M') (kx : ∀ E M', Q' (.inr E) M' → Q (.inr E) M') : Go l J F L MC MS Q pc lv st (k + mc') (n + ms') M := by
  subst hst
  intro p e s m args below meth c G H locs cells slots ls hX hC hR hS hl hc hs
  have hts := hX.1.2.2.2.2
  obtain ⟨host, hcn⟩ := lk_N (MC := MC) (MS := MS) (mc := mc') (ms := ms') hlk.1 hC hts hF
  have hrun := vx_runSN (As := As.map (cv G)) (rest := rest.map (cv G)) (e := e) (below := below) (meth := meth) (g := F0 m pc ls ((As.reverse ++ rest).map (cv G))) (locs := locs) (cells := cells) (slots := slots) (H := H) hX.1 (hE G) ⟨hcn, hts _ hlk.2, trivial⟩
    ⟨blind G _ l M, fun U hU hW => ⟨rfl, ctx_call hC hS hU hW, by rw [hU]; exact hR⟩⟩
    rfl (by rw [List.length_map]; exact hn) hl.1 (by show (List.map (cv G) _) = _; rw [List.map_append, List.map_reverse]) (by show 2 * 0 + _ ≤ 8; rw [cv_cats]; omega) hd ⟨by show cells + mc' ≤ MC; omega, by show slots + ms' ≤ MS; omega⟩
  refine vx_go (hrun) hS (fun v M' H1 locs1 hq hR1 hS1 => ?_) (fun E ce q9 M' H1 locs1 hq hR1 hS1 h5 h6 h7 => ?_)
  · have h1 := kk v M' hq p e s m args below meth c G H1 locs1 (cells + mc') (slots + ms') ls hX hC hR1 hS1 hl (by omega) (by omega)
    rw [List.map_append] at h1
    cases v <;> exact h1
  · exact vx_out (by rw [hX.2.2.2.1, hh]; intro x hx; cases hx) hX.2.2.1 h5 h6 h7 (fun t ht _ => ⟨⟨M', kx E M' hq, by rw [ht]; exact hR1⟩, hS1.F ht⟩) hS1.2.2 (by omega) (by omega)
theorem g_invI {ix nA F' L' mc' ms' : Nat} {J' : Jm} {As rest : List Value} {Q' : Res → Mem → Prop} {id ci : Nat} {q0 : vw_C} (hd : decode J.2.1 pc = .ok (.invokespecial ix, 3)) (hlk : LkI J.1.cls ix J' nA) (hn : As.length = nA) (hcat : (rest.map fun v => v.category).sum ≤ 8) (hF : F' + 1 ≤ F ∧ 8 + (J'.2.2.1 + 11) + L' ≤ L) (hE : Ev l J' F' L' mc' ms' (.ref id :: As) M Q') (hst : st = As.reverse ++ .ref id :: rest) (hk : (mK M)[id]? = some (.inr ci)) (hc0 : vwCl[ci]? = some q0) (hq0 : q0.1 = J'.1.cls) (hh : J.2.2.2.2 = [])
    (kk : ∀ v M', Q' (.inl v) M' → Go l J F L MC MS Q (pc + 3) lv (v.toList ++ rest) k n M') (kx : ∀ E M', Q' (.inr E) M' → Q (.inr E) M') : Go l J F L MC MS Q pc lv st (k + mc') (n + ms') M := by
  subst hst
  intro p e s m args below meth c G H locs cells slots ls hX hC hR hS hl hc hs
  have hts := hX.1.2.2.2.2
  have hrun := vx_runI (y := J'.1) (bytes := J'.2.1) (maxL := J'.2.2.1) (ws := cwd J' :: WS) (rm := ({ frames := F', cells := mc', slots := ms', locals := L' } : Room)) (R := ({ frames := F, cells := MC, slots := MS, locals := L } : Room)) (As := As.map (cv G)) (rest := rest.map (cv G)) (e := e) (below := below) (meth := meth) (g := F0 m pc ls ((As.reverse ++ .ref id :: rest).map (cv G))) (locs := locs) (cells := cells) (slots := slots) (H := H) (b := gB G + id) hX.1 (hE G) ⟨by have h9 := lk_B (MC := MC) (MS := MS) (mc := mc') (ms := ms') hlk.1 hts hF; rw [hlk.2.2.2] at h9; exact h9, hlk.2.2.1, hts _ hlk.2.1⟩
    ⟨blind G _ l M, fun U hU hW => ⟨by rw [List.map_cons]; rfl, ctx_call hC hS hU hW, by rw [hU]; exact hR⟩⟩
    rfl (by rw [List.length_map]; exact hn) hl.1 (by show (List.map (cv G) _) = _; rw [List.map_append, List.map_reverse, List.map_cons]; rfl) (by show 2 * 0 + _ ≤ 8; rw [cv_cats]; omega) hd ⟨by show cells + mc' ≤ MC; omega, by show slots + ms' ≤ MS; omega⟩
  refine vx_go (hrun) hS (fun v M' H1 locs1 hq hR1 hS1 => ?_) (fun E ce q9 M' H1 locs1 hq hR1 hS1 h5 h6 h7 => ?_)
  · have h1 := kk v M' hq p e s m args below meth c G H1 locs1 (cells + mc') (slots + ms') ls hX hC hR1 hS1 hl (by omega) (by omega)
    rw [List.map_append] at h1
    cases v <;> exact h1
  · exact vx_out (by rw [hX.2.2.2.1, hh]; intro x hx; cases hx) hX.2.2.1 h5 h6 h7 (fun t ht _ => ⟨⟨M', kx E M' hq, by rw [ht]; exact hR1⟩, hS1.F ht⟩) hS1.2.2 (by omega) (by omega)
end
end
-- 07.throw
section
/-! RULES: throws, handlers. -/
section
variable {l : Launch} {J : Jm} {F L MC MS : Nat} {Q : Res → Mem → Prop} {pc : Nat} {lv : List (Nat × Value)} {st : List Value} {k n : Nat} {M : Mem}
def xIO : String := "java/lang/IndexOutOfBoundsException"
def xIA : String := "java/lang/IllegalArgumentException"
abbrev xNm : List String := ["java/lang/RuntimeException", "java/lang/Exception"]
def xB (E : String) : List Cond := .castable E E :: xDcl.map fun x => Cond.declares x
/-- how a class throws a new E(text) -/
def TH (own : String) (ik is ic kS : Nat) (E : String) : Prop := (E = xIO ∨ E = xIA) ∧ Cond.classLink own ik E ∈ WS ∧ Cond.initialized E ∈ WS ∧ (∃ tx by9, strT[kS]? = some (own, is, tx, by9)) ∧ (∀ w ∈ (vx_atS own ic E xNm).filter goodWord, w ∈ WS) ∧ (∀ w ∈ (vx_atS own ic E xNm).filter (fun w => !goodWord w), w ∈ xB E) ∧ (∀ w ∈ Cond.classLink own ik E :: Cond.initialized E :: vx_atS own ic E xNm, vx_ot w = true) ∧ Bundle.fit E = true ∧ (∀ n ∈ xNm, Bundle.fit n = true)
theorem ctx_cast {G : Gl} {s : State} {E : String} (hC : Ctx l G s) (hE : E = xIO ∨ E = xIA) : va_Nw (.castable E E) s := by
  rcases hE with rfl | rfl
  · exact hC.2.2.2.2.2.2.2.2.2.2.2.1
  · exact hC.2.2.2.2.2.2.2.2.2.2.2.2.1
theorem ctx_xB {G : Gl} {s : State} {args : Array Value} {E : String} (hC : Ctx l G s) (hE : E = xIO ∨ E = xIA) : ∀ w ∈ xB E, w.before args s = true := by
  intro w hw
  rcases List.mem_cons.mp hw with rfl | hw
  · exact va_Nw.use (by rfl) (ctx_cast hC hE)
  · obtain ⟨x, hx, rfl⟩ := List.mem_map.mp hw
    exact va_Nw.use (by rfl) (hC.2.2.2.2.2.2.2.2.2.2.2.2.2.2.2.2.2 x hx)
theorem g_throw {ik is ic kS : Nat} {E : String} (d0 : decode J.2.1 pc = .ok (.new ik, 3)) (d3 : decode J.2.1 (pc + 3) = .ok (.dup, 1)) (d4 : decode J.2.1 (pc + 4) = .ok (.ldc is, 2)) (d6 : decode J.2.1 (pc + 6) = .ok (.invokespecial ic, 3)) (d9 : decode J.2.1 (pc + 9) = .ok (.athrow, 1)) (hT : TH J.1.cls ik is ic kS E) (hh : J.2.2.2.2 = []) (hF : 5 < F) (hL : (st.map fun v => v.category).sum + 82 ≤ L) (hx : mX M = false) (hq : Q (.inr E) M) : Go l J F L MC MS Q pc lv st (k + 1) (n + 6) M := by
  intro p e s m args below meth c G H locs cells slots ls hX hC hR hS hl hc hs
  obtain ⟨t1, t2, t3, ⟨tx, by9, t4⟩, t5, t6, t7, t8, t9⟩ := hT
  have hts := hX.1.2.2.2.2
  refine vx_throwS (names := xNm) (sa := gSK G kS) (A := Go_A G) hX.1.1 hX.1.2.1 hC.1 hX.1.2.2.2.1 t8 t9 (hts _ t2) (hts _ t3) (hC.2.2.2.2.2.1 kS _ t4).1 (vx_hat (fun w hw => hts _ (t5 w hw)) t6 (ctx_xB hC t1)) t7 hC.2.2.2.1 hC.2.2.2.2.1 hS (hl.1.trans hX.1.2.2.1.symm) d0 d3 d4 d6 d9 (by rw [hX.2.2.2.1, hh]; intro x hx; cases hx) (by show 5 < F; exact hF) (by rw [cv_cats]; show _ + 82 ≤ L; exact hL) (by show cells + 1 ≤ MC; omega) (by show slots + 6 ≤ MS; omega) hX.2.2.1 ?_ hS.2.2 (by omega) (by omega)
  intro t hA hz hk
  exact ⟨⟨M, hq, hR.same hx hz hk⟩, Nat.le_trans hS.1 hz, fun q h1 h2 => (hk q (Nat.lt_of_lt_of_le h1 hS.1)).trans (hS.2.1 q h1 h2)⟩
theorem g_throwW {ik is ic kS : Nat} {E : String} (d0 : decode J.2.1 pc = .ok (.new ik, 3)) (d3 : decode J.2.1 (pc + 3) = .ok (.dup, 1)) (d4 : decode J.2.1 (pc + 4) = .ok (.ldc_w is, 3)) (d6 : decode J.2.1 (pc + 7) = .ok (.invokespecial ic, 3)) (d9 : decode J.2.1 (pc + 10) = .ok (.athrow, 1)) (hT : TH J.1.cls ik is ic kS E) (hh : J.2.2.2.2 = []) (hF : 5 < F) (hL : (st.map fun v => v.category).sum + 82 ≤ L) (hx : mX M = false) (hq : Q (.inr E) M) : Go l J F L MC MS Q pc lv st (k + 1) (n + 6) M := by
  intro p e s m args below meth c G H locs cells slots ls hX hC hR hS hl hc hs
  obtain ⟨t1, t2, t3, ⟨tx, by9, t4⟩, t5, t6, t7, t8, t9⟩ := hT
  have hts := hX.1.2.2.2.2
  refine vx_throwSW (names := xNm) (sa := gSK G kS) (A := Go_A G) hX.1.1 hX.1.2.1 hC.1 hX.1.2.2.2.1 t8 t9 (hts _ t2) (hts _ t3) (hC.2.2.2.2.2.1 kS _ t4).1 (vx_hat (fun w hw => hts _ (t5 w hw)) t6 (ctx_xB hC t1)) t7 hC.2.2.2.1 hC.2.2.2.2.1 hS (hl.1.trans hX.1.2.2.1.symm) d0 d3 d4 d6 d9 (by rw [hX.2.2.2.1, hh]; intro x hx; cases hx) (by show 5 < F; exact hF) (by rw [cv_cats]; show _ + 82 ≤ L; exact hL) (by show cells + 1 ≤ MC; omega) (by show slots + 6 ≤ MS; omega) hX.2.2.1 ?_ hS.2.2 (by omega) (by omega)
  intro t hA hz hk
  exact ⟨⟨M, hq, hR.same hx hz hk⟩, Nat.le_trans hS.1 hz, fun q h1 h2 => (hk q (Nat.lt_of_lt_of_le h1 hS.1)).trans (hS.2.1 q h1 h2)⟩
/-- the handler of E at pc: the table's rows ahead don't take it -/
def Hnd (J : Jm) (pc : Nat) (E : String) (hpc : Nat) : Prop := (E = xIO ∨ E = xIA) ∧ ∃ (pre : List (Nat × Nat × Nat × Nat)) (x : Nat × Nat × Nat × Nat) (suf : List (Nat × Nat × Nat × Nat)), J.2.2.2.2 = pre ++ x :: suf ∧ (∀ z ∈ pre, E = xIA ∧ z.2.2.2 ≠ 0 ∧ Cond.classLink J.1.cls z.2.2.2 xIO ∈ WS) ∧ covers ⟨x.1, x.2.1, x.2.2.1, x.2.2.2⟩ pc = true ∧ x.2.2.2 ≠ 0 ∧ Cond.classLink J.1.cls x.2.2.2 E ∈ WS ∧ x.2.2.1 = hpc
theorem lvF1_mem' {i : Nat} {lv : List (Nat × Value)} {q : Nat × Value} (h : q ∈ lvF1 i lv) : q ∈ lv ∧ pr1 i q = true := lvF1_mem h
theorem g_catch_n {p : Program} {e : Env} {s : State} {m : MethodId} {args : Array Value} {below : List Frame} {meth : Method} {c : Code} {G : Gl} {H : Heap} {locs : List Loc} {cells slots : Nat} {ls : Array Slot} {rest : List Value} {E : String} {ce : Cell} {q9 : Addr} {hpc : Nat} {lv' : List (Nat × Value)} {j : Fin 4} (hX : Stn l J p m args s meth c) (hC : Ctx l G s) (hR : Rel G M H) (hS : va_S (Go_A G) s.heap H locs) (hl : lv_has ls J.2.2.1 (lv.map (cvp G))) (hc : cells + k ≤ MC) (hs : slots + n ≤ MS) (hH : Hnd J pc E hpc) (h5 : H[q9]? = some ce) (h6 : ce.vm = .none) (h7 : s.vm.findClass E = some ce.cls)
    (hd : decode J.2.1 hpc = .ok (.astore_n j, 1)) (hn : j.val < J.2.2.1) (hv : lvF1 j.val lv = lv') (kk : Go l J F L MC MS Q (hpc + 1) lv' [] k n M) :
    vx_W p l e ({ frames := F, cells := MC, slots := MS, locals := L } : Room) s m args below meth c H locs cells slots (vx_MQ below (QcOf G Q) (XCOf G Q) args s MC MS (Go_A G)) (F0 m pc ls rest) q9 := by
  obtain ⟨hE, pre, x, suf, t1, t2, t3, t4, t5, rfl⟩ := hH
  have hts := hX.1.2.2.2.2
  refine vx_catch (name := E) hX.1.2.2.2.1 (tableOf pre) ⟨x.1, x.2.1, x.2.2.1, x.2.2.2⟩ (tableOf suf) (by rw [hX.2.2.2.1, t1]; simp [tableOf]) (fun z hz => ?_) t3 t4 (hts _ t5) (va_Nw.use (by rfl) (ctx_cast hC hE)) h5 h6 h7 ?_
  · obtain ⟨u, hu, rfl⟩ := List.mem_map.mp hz
    obtain ⟨e1, e2, e3⟩ := t2 u hu
    refine Or.inr ⟨e2, xIO, hts _ e3, ?_⟩
    rw [e1]
    exact hC.2.2.2.2.2.2.2.2.2.2.2.2.2.1
  · refine lv_astore_n hX.1.1 hX.1.2.1 hd rfl hl hn rfl (fun ls' hl' => ?_)
    refine kk p e s m args below meth c G H locs cells slots ls' hX hC hR hS ⟨hl'.1, hl'.2.1, fun q hq => hl'.2.2 q ?_⟩ hc hs
    subst hv
    obtain ⟨u, hu, rfl⟩ := List.mem_map.mp hq
    obtain ⟨h1, h2⟩ := lvF1_mem hu
    refine List.mem_cons_of_mem _ (List.mem_filter.mpr ⟨List.mem_map.mpr ⟨u, h1, rfl⟩, ?_⟩)
    simp only [cvp, pr1, cv_cat] at h2 ⊢
    exact h2
/-- a call in a body with handlers -/
theorem g_invV_try_n {ix nA F' L' mc' ms' : Nat} {J' : Jm} {As rest : List Value} {Q' : Res → Mem → Prop} {id ci : Nat} {q0 : vw_C} {j : Fin 4} (hd : decode J.2.1 pc = .ok (.invokevirtual ix, 3)) (hlk : LkV J.1.cls ix J' nA) (hn : As.length = nA) (hcat : (rest.map fun v => v.category).sum ≤ 8) (hF : F' + 1 ≤ F ∧ 8 + (J'.2.2.1 + 11) + L' ≤ L) (hE : Ev l J' F' L' mc' ms' (.ref id :: As) M Q') (hst : st = As.reverse ++ .ref id :: rest) (hk : (mK M)[id]? = some (.inr ci)) (hc0 : vwCl[ci]? = some q0) (hq0 : q0.1 = J'.1.cls)
    (kk : ∀ v M', Q' (.inl v) M' → Go l J F L MC MS Q (pc + 3) lv (v.toList ++ rest) k n M') (hi : j.val < J.2.2.1) (kx : ∀ E M', Q' (.inr E) M' → ∃ hpc, Hnd J pc E hpc ∧ decode J.2.1 hpc = .ok (.astore_n j, 1) ∧ Go l J F L MC MS Q (hpc + 1) (lvF1 j.val lv) [] k n M') : Go l J F L MC MS Q pc lv st (k + mc') (n + ms') M := by
  subst hst
  intro p e s m args below meth c G H locs cells slots ls hX hC hR hS hl hc hs
  have hts := hX.1.2.2.2.2
  have he := wl_get (G := G) hk
  have hrun := vx_runV (As := As.map (cv G)) (rest := rest.map (cv G)) (e := e) (below := below) (meth := meth) (g := F0 m pc ls ((As.reverse ++ .ref id :: rest).map (cv G))) (locs := locs) (cells := cells) (slots := slots) (H := H) (b := gB G + id) hX.1 (hE G) ⟨lk_B hlk.1 hts hF, hts _ hlk.2.1, hts _ hlk.2.2⟩
    ⟨blind G _ l M, by have := va_recv (q := q0) hC.2.1 hR.1 hc0 he; rw [hq0] at this; exact this, fun U hU hW => ⟨by rw [List.map_cons]; rfl, ctx_call hC hS hU hW, by rw [hU]; exact hR⟩⟩
    rfl (by rw [List.length_map]; exact hn) hl.1 (by show (List.map (cv G) _) = _; rw [List.map_append, List.map_reverse, List.map_cons]; rfl) (by show 2 * 0 + _ ≤ 8; rw [cv_cats]; omega) hd ⟨by show cells + mc' ≤ MC; omega, by show slots + ms' ≤ MS; omega⟩
  refine vx_go (hrun) hS (fun v M' H1 locs1 hq hR1 hS1 => ?_) (fun E ce q9 M' H1 locs1 hq hR1 hS1 h5 h6 h7 => ?_)
  · have h1 := kk v M' hq p e s m args below meth c G H1 locs1 (cells + mc') (slots + ms') ls hX hC hR1 hS1 hl (by omega) (by omega)
    rw [List.map_append] at h1
    cases v <;> exact h1
  · obtain ⟨hpc, hH, hd9, hg⟩ := kx E M' hq
    exact g_catch_n hX hC hR1 hS1 hl (by omega) (by omega) hH h5 h6 h7 hd9 hi rfl hg
theorem g_catch_w {p : Program} {e : Env} {s : State} {m : MethodId} {args : Array Value} {below : List Frame} {meth : Method} {c : Code} {G : Gl} {H : Heap} {locs : List Loc} {cells slots : Nat} {ls : Array Slot} {rest : List Value} {E : String} {ce : Cell} {q9 : Addr} {hpc : Nat} {lv' : List (Nat × Value)} {i : Nat} (hX : Stn l J p m args s meth c) (hC : Ctx l G s) (hR : Rel G M H) (hS : va_S (Go_A G) s.heap H locs) (hl : lv_has ls J.2.2.1 (lv.map (cvp G))) (hc : cells + k ≤ MC) (hs : slots + n ≤ MS) (hH : Hnd J pc E hpc) (h5 : H[q9]? = some ce) (h6 : ce.vm = .none) (h7 : s.vm.findClass E = some ce.cls)
    (hd : decode J.2.1 hpc = .ok (.astore i, 2)) (hn : i < J.2.2.1) (hv : lvF1 i lv = lv') (kk : Go l J F L MC MS Q (hpc + 2) lv' [] k n M) :
    vx_W p l e ({ frames := F, cells := MC, slots := MS, locals := L } : Room) s m args below meth c H locs cells slots (vx_MQ below (QcOf G Q) (XCOf G Q) args s MC MS (Go_A G)) (F0 m pc ls rest) q9 := by
  obtain ⟨hE, pre, x, suf, t1, t2, t3, t4, t5, rfl⟩ := hH
  have hts := hX.1.2.2.2.2
  refine vx_catch (name := E) hX.1.2.2.2.1 (tableOf pre) ⟨x.1, x.2.1, x.2.2.1, x.2.2.2⟩ (tableOf suf) (by rw [hX.2.2.2.1, t1]; simp [tableOf]) (fun z hz => ?_) t3 t4 (hts _ t5) (va_Nw.use (by rfl) (ctx_cast hC hE)) h5 h6 h7 ?_
  · obtain ⟨u, hu, rfl⟩ := List.mem_map.mp hz
    obtain ⟨e1, e2, e3⟩ := t2 u hu
    refine Or.inr ⟨e2, xIO, hts _ e3, ?_⟩
    rw [e1]
    exact hC.2.2.2.2.2.2.2.2.2.2.2.2.2.1
  · refine lv_astore hX.1.1 hX.1.2.1 hd hl hn rfl (fun ls' hl' => ?_)
    refine kk p e s m args below meth c G H locs cells slots ls' hX hC hR hS ⟨hl'.1, hl'.2.1, fun q hq => hl'.2.2 q ?_⟩ hc hs
    subst hv
    obtain ⟨u, hu, rfl⟩ := List.mem_map.mp hq
    obtain ⟨h1, h2⟩ := lvF1_mem hu
    refine List.mem_cons_of_mem _ (List.mem_filter.mpr ⟨List.mem_map.mpr ⟨u, h1, rfl⟩, ?_⟩)
    simp only [cvp, pr1, cv_cat] at h2 ⊢
    exact h2
/-- a call in a body with handlers -/
theorem g_invV_try_w {ix nA F' L' mc' ms' : Nat} {J' : Jm} {As rest : List Value} {Q' : Res → Mem → Prop} {id ci : Nat} {q0 : vw_C} {i : Nat} (hd : decode J.2.1 pc = .ok (.invokevirtual ix, 3)) (hlk : LkV J.1.cls ix J' nA) (hn : As.length = nA) (hcat : (rest.map fun v => v.category).sum ≤ 8) (hF : F' + 1 ≤ F ∧ 8 + (J'.2.2.1 + 11) + L' ≤ L) (hE : Ev l J' F' L' mc' ms' (.ref id :: As) M Q') (hst : st = As.reverse ++ .ref id :: rest) (hk : (mK M)[id]? = some (.inr ci)) (hc0 : vwCl[ci]? = some q0) (hq0 : q0.1 = J'.1.cls)
    (kk : ∀ v M', Q' (.inl v) M' → Go l J F L MC MS Q (pc + 3) lv (v.toList ++ rest) k n M') (hi : i < J.2.2.1) (kx : ∀ E M', Q' (.inr E) M' → ∃ hpc, Hnd J pc E hpc ∧ decode J.2.1 hpc = .ok (.astore i, 2) ∧ Go l J F L MC MS Q (hpc + 2) (lvF1 i lv) [] k n M') : Go l J F L MC MS Q pc lv st (k + mc') (n + ms') M := by
  subst hst
  intro p e s m args below meth c G H locs cells slots ls hX hC hR hS hl hc hs
  have hts := hX.1.2.2.2.2
  have he := wl_get (G := G) hk
  have hrun := vx_runV (As := As.map (cv G)) (rest := rest.map (cv G)) (e := e) (below := below) (meth := meth) (g := F0 m pc ls ((As.reverse ++ .ref id :: rest).map (cv G))) (locs := locs) (cells := cells) (slots := slots) (H := H) (b := gB G + id) hX.1 (hE G) ⟨lk_B hlk.1 hts hF, hts _ hlk.2.1, hts _ hlk.2.2⟩
    ⟨blind G _ l M, by have := va_recv (q := q0) hC.2.1 hR.1 hc0 he; rw [hq0] at this; exact this, fun U hU hW => ⟨by rw [List.map_cons]; rfl, ctx_call hC hS hU hW, by rw [hU]; exact hR⟩⟩
    rfl (by rw [List.length_map]; exact hn) hl.1 (by show (List.map (cv G) _) = _; rw [List.map_append, List.map_reverse, List.map_cons]; rfl) (by show 2 * 0 + _ ≤ 8; rw [cv_cats]; omega) hd ⟨by show cells + mc' ≤ MC; omega, by show slots + ms' ≤ MS; omega⟩
  refine vx_go (hrun) hS (fun v M' H1 locs1 hq hR1 hS1 => ?_) (fun E ce q9 M' H1 locs1 hq hR1 hS1 h5 h6 h7 => ?_)
  · have h1 := kk v M' hq p e s m args below meth c G H1 locs1 (cells + mc') (slots + ms') ls hX hC hR1 hS1 hl (by omega) (by omega)
    rw [List.map_append] at h1
    cases v <;> exact h1
  · obtain ⟨hpc, hH, hd9, hg⟩ := kx E M' hq
    exact g_catch_w hX hC hR1 hS1 hl (by omega) (by omega) hH h5 h6 h7 hd9 hi rfl hg
def LkSX (own : String) (ix : Nat) (J' : Jm) (nA : Nat) : Prop := Cond.methodLink own ix J'.1 ∈ WS ∧ (J'.2.2.2.2 ≠ [] ∧ cwd J' ∈ WS) ∧ Cond.initialized J'.1.cls ∈ WS ∧ (J'.1.cls ≠ "java/lang/invoke/MethodHandle" ∧ J'.1.cls ≠ "java/lang/invoke/VarHandle") ∧ (parseMethodDescriptor J'.1.desc).map (fun d => d.parameters.length) = some nA ∧ Cond.static J'.1 ∈ WS
theorem g_invSX {ix nA F' L' mc' ms' : Nat} {J' : Jm} {As rest : List Value} {Q' : Res → Mem → Prop} (hd : decode J.2.1 pc = .ok (.invokestatic ix, 3)) (hlk : LkSX J.1.cls ix J' nA) (hn : As.length = nA) (hcat : (rest.map fun v => v.category).sum ≤ 8) (hF : F' + 1 ≤ F ∧ 8 + (J'.2.2.1 + 11) + L' ≤ L) (hE : Ev l J' F' L' mc' ms' As M Q') (hst : st = As.reverse ++ rest) (hh : J.2.2.2.2 = [])
    (kk : ∀ v M', Q' (.inl v) M' → Go l J F L MC MS Q (pc + 3) lv (v.toList ++ rest) k n M') (kx : ∀ E M', Q' (.inr E) M' → Q (.inr E) M') : Go l J F L MC MS Q pc lv st (k + mc') (n + ms') M := by
  subst hst
  intro p e s m args below meth c G H locs cells slots ls hX hC hR hS hl hc hs
  have hts := hX.1.2.2.2.2
  obtain ⟨u1, ⟨u2, u3⟩, u4, u5, u6, u7⟩ := hlk
  have e9 : cwd J' = Cond.codeWith J'.1 J'.2.1 J'.2.2.1 J'.2.2.2.1 J'.2.2.2.2 := by unfold cwd; rw [if_neg u2]
  have hrun := vx_runSX (rm := ({ frames := F', cells := mc', slots := ms', locals := L' } : Room)) (As := As.map (cv G)) (rest := rest.map (cv G)) (e := e) (below := below) (meth := meth) (g := F0 m pc ls ((As.reverse ++ rest).map (cv G))) (locs := locs) (cells := cells) (slots := slots) (H := H) (R := ({ frames := F, cells := MC, slots := MS, locals := L } : Room)) hX.1 (hE G) ⟨⟨rfl, rfl, hF.1, hF.2, ws_warm hts u3, by rw [← e9]; exact List.mem_cons_self⟩, by rw [← e9]; exact hts _ u3, hts _ u4, u5, fun sig h9 => by rw [h9] at u6; exact (Option.some.inj u6).symm, hts _ u1, hts _ u7⟩
    ⟨blind G _ l M, fun U hU hW => ⟨rfl, ctx_call hC hS hU hW, by rw [hU]; exact hR⟩⟩
    rfl (by rw [List.length_map]; exact hn) hl.1 (by show (List.map (cv G) _) = _; rw [List.map_append, List.map_reverse]) (by show 2 * 0 + _ ≤ 8; rw [cv_cats]; omega) hd ⟨by show cells + mc' ≤ MC; omega, by show slots + ms' ≤ MS; omega⟩
  refine vx_go (hrun) hS (fun v M' H1 locs1 hq hR1 hS1 => ?_) (fun E ce q9 M' H1 locs1 hq hR1 hS1 h5 h6 h7 => ?_)
  · have h1 := kk v M' hq p e s m args below meth c G H1 locs1 (cells + mc') (slots + ms') ls hX hC hR1 hS1 hl (by omega) (by omega)
    rw [List.map_append] at h1
    cases v <;> exact h1
  · exact vx_out (by rw [hX.2.2.2.1, hh]; intro x hx; cases hx) hX.2.2.1 h5 h6 h7 (fun t ht _ => ⟨⟨M', kx E M' hq, by rw [ht]; exact hR1⟩, hS1.F ht⟩) hS1.2.2 (by omega) (by omega)
theorem g_copyI {ix a b na nb sp dp cnt : Nat} {i0 i1 i2 : Int32} (hd : decode J.2.1 pc = .ok (.invokestatic ix, 3)) (w1 : Cond.methodLink J.1.cls ix arraycopyName ∈ WS) (w2 : Cond.native arraycopyName ∈ WS) (w3 : Cond.static arraycopyName ∈ WS) (w4 : Cond.initialized "java/lang/System" ∈ WS) (ha : (mK M)[a]? = some (.inl (.int, na))) (hb : (mK M)[b]? = some (.inl (.int, nb))) (e0 : i0 = nI sp) (e1 : i1 = nI dp) (e2 : i2 = nI cnt) (h4 : sp + cnt ≤ na) (h5 : dp + cnt ≤ nb) (hL : na < 100000 ∧ nb < 100000) (hx : mX M = false) (hF : 1 ≤ F) (hLL : (st.map fun v => v.category).sum + (nativeFrameWords "java/lang/System" "arraycopy" 5 + 11) ≤ L)
    (kk : Go l J F L MC MS Q (pc + 3) lv st k n (sI M b (va_cpy (mI M a) (mI M b) sp dp cnt))) : Go l J F L MC MS Q pc lv (.int i2 :: .int i1 :: .ref b :: .int i0 :: .ref a :: st) k n M := by
  subst e0; subst e1; subst e2
  intro p e s m args below meth c G H locs cells slots ls hX hC hR hS hl hc hs
  have hts := hX.1.2.2.2.2
  have c1 := nI_clamp (n := sp) (by omega)
  have c2 := nI_clamp (n := dp) (by omega)
  have c3 := nI_clamp (n := cnt) (by omega)
  refine va_copyi hX.1.1 hX.1.2.1 (hX.1.2.2.1.trans hl.1.symm) hX.1.2.2.2.1 (hts _ w1) (hts _ w2) (hts _ w3) (hts _ w4) hC.2.1 hR.1 (wl_D G M) hS a b 0 0 (ty := .int) (wl_get ha) (wl_get hb) rfl rfl (by rfl) (nI_pos (by omega)) (nI_pos (by omega)) (nI_pos (by omega)) (by rw [c1, c3]; exact h4) (by rw [c2, c3]; exact h5) (fun i _ => rfl) hF (by rw [cv_cats]; exact hLL) hd (fun H1 locs1 hP hD hS1 => ?_)
  rw [c1, c2, c3] at hP
  have hR1 : Rel G (sI M b (va_cpy (mI M a) (mI M b) sp dp cnt)) H1 := by
    refine rel_of_P hx ?_ (Nat.le_trans hC.2.2.2.2.2.2.2.2.2.2.1 hS1.1) hR.2.2.2
    rw [← wl_set (M' := sI M b (va_cpy (mI M a) (mI M b) sp dp cnt)) hb rfl (fun j x hj _ => ent_sI x hj)]
    simp only [ent, adat, sI, mI, fs_self]
    exact hP
  exact kk p e s m args below meth c G H1 locs1 cells slots ls hX hC hR1 hS1 hl hc hs
/-- the script, and its length -/
theorem g_scriptLoad {i : Int32} {j : Nat} (hd : decode J.2.1 pc = .ok (.iaload, 1)) (hi : i = nI j) (hj : j < (mS M).1) (hL : (mS M).1 < 2147483648) (kk : Go l J F L MC MS Q (pc + 1) lv (.int ((mS M).2 j) :: st) k n M) : Go l J F L MC MS Q pc lv (.int i :: .retAddr 0 :: st) k n M := by
  subst hi
  intro p e s m args below meth c G H locs cells slots ls hX hC hR hS hl hc hs
  have h1 := kk p e s m args below meth c G H locs cells slots ls hX hC hR hS hl hc hs
  rw [hR.2.2.2] at h1 hj hL
  refine va_sld (A := Go_A G) hX.1.1 hX.1.2.1 hC.2.2.2.2.2.2.2.2.1 (Nat.lt_of_lt_of_le hC.2.2.2.2.2.2.2.2.2.1 hC.2.2.2.2.2.2.2.2.2.2.1) (Nat.not_le.mpr hC.2.2.2.2.2.2.2.2.2.1) hS (vp_in_nI hj hL) hd ?_
  rw [nI_clamp (by have : gLen G < 2147483648 := hL; have : j < gLen G := hj; omega)]
  exact h1
theorem g_scriptLen (hd : decode J.2.1 pc = .ok (.arraylength, 1)) (kk : Go l J F L MC MS Q (pc + 1) lv (.int (nI (mS M).1) :: st) k n M) : Go l J F L MC MS Q pc lv (.retAddr 0 :: st) k n M := by
  intro p e s m args below meth c G H locs cells slots ls hX hC hR hS hl hc hs
  have h1 := kk p e s m args below meth c G H locs cells slots ls hX hC hR hS hl hc hs
  rw [hR.2.2.2] at h1
  exact va_slen (A := Go_A G) hX.1.1 hX.1.2.1 hC.2.2.2.2.2.2.2.2.1 (Nat.lt_of_lt_of_le hC.2.2.2.2.2.2.2.2.2.1 hC.2.2.2.2.2.2.2.2.2.2.1) (Nat.not_le.mpr hC.2.2.2.2.2.2.2.2.2.1) hS hd h1
/-- String constants -/
theorem g_ldcS {is kS : Nat} {tx : String} {by9 : List Int32} (hd : decode J.2.1 pc = .ok (.ldc is, 2)) (hk : strT[kS]? = some (J.1.cls, is, tx, by9)) (kk : Go l J F L MC MS Q (pc + 2) lv (.retAddr (2 * kS + 2) :: st) k n M) : Go l J F L MC MS Q pc lv st k n M := by
  intro p e s m args below meth c G H locs cells slots ls hX hC hR hS hl hc hs
  have h1 := kk p e s m args below meth c G H locs cells slots ls hX hC hR hS hl hc hs
  rw [List.map_cons, show cv G (.retAddr (2 * kS + 2)) = .ref (gSK G kS) by show (if 2 * kS % 2 = 0 then _ else _) = _; rw [if_pos (by omega), show 2 * kS / 2 = kS by omega]] at h1
  exact va_ldcS hX.1.1 hX.1.2.1 hX.1.2.2.2.1 (hC.2.2.2.2.2.1 kS _ hk).1 hd h1
theorem g_strValue {ix kS : Nat} {q : String × Nat × String × List Int32} (hd : decode J.2.1 pc = .ok (.getfield ix, 3)) (hk : strT[kS]? = some q) (hw : Cond.fieldLink J.1.cls ix "java/lang/String" "value" "[B" ∈ WS) (kk : Go l J F L MC MS Q (pc + 3) lv (.retAddr (2 * kS + 3) :: st) k n M) : Go l J F L MC MS Q pc lv (.retAddr (2 * kS + 2) :: st) k n M := by
  intro p e s m args below meth c G H locs cells slots ls hX hC hR hS hl hc hs
  have h1 := kk p e s m args below meth c G H locs cells slots ls hX hC hR hS hl hc hs
  rw [List.map_cons, show cv G (.retAddr (2 * kS + 3)) = .ref (gSV G kS) by show (if (2 * kS + 1) % 2 = 0 then _ else _) = _; rw [if_neg (by omega), show (2 * kS + 1) / 2 = kS by omega]] at h1
  rw [List.map_cons, show cv G (.retAddr (2 * kS + 2)) = .ref (gSK G kS) by show (if 2 * kS % 2 = 0 then _ else _) = _; rw [if_pos (by omega), show 2 * kS / 2 = kS by omega]]
  exact vk_getf hX.1.1 hX.1.2.1 (((hC.2.2.2.2.2.1 kS _ hk).2.1 0 (by decide)).2.2.1) hS hX.1.2.2.2.1 (hX.1.2.2.2.2 _ hw) (fun x hx => hx) hd h1
theorem g_strCoder {ix kS : Nat} {q : String × Nat × String × List Int32} (hd : decode J.2.1 pc = .ok (.getfield ix, 3)) (hk : strT[kS]? = some q) (hw : Cond.fieldLink J.1.cls ix "java/lang/String" "coder" "B" ∈ WS) (kk : Go l J F L MC MS Q (pc + 3) lv (.int 0 :: st) k n M) : Go l J F L MC MS Q pc lv (.retAddr (2 * kS + 2) :: st) k n M := by
  intro p e s m args below meth c G H locs cells slots ls hX hC hR hS hl hc hs
  have h1 := kk p e s m args below meth c G H locs cells slots ls hX hC hR hS hl hc hs
  rw [List.map_cons, show cv G (.retAddr (2 * kS + 2)) = .ref (gSK G kS) by show (if 2 * kS % 2 = 0 then _ else _) = _; rw [if_pos (by omega), show 2 * kS / 2 = kS by omega]]
  exact vk_getf hX.1.1 hX.1.2.1 (((hC.2.2.2.2.2.1 kS _ hk).2.1 0 (by decide)).2.1) hS hX.1.2.2.2.1 (hX.1.2.2.2.2 _ hw) (fun x hx => hx) hd h1
theorem g_compact {ix : Nat} (hd : decode J.2.1 pc = .ok (.getstatic ix, 3)) (hw : Cond.fieldLink J.1.cls ix "java/lang/String" "COMPACT_STRINGS" "Z" ∈ WS) (kk : Go l J F L MC MS Q (pc + 3) lv (.int 1 :: st) k n M) : Go l J F L MC MS Q pc lv st k n M := by
  intro p e s m args below meth c G H locs cells slots ls hX hC hR hS hl hc hs
  exact va_gets hX.1.1 hX.1.2.1 hC.2.2.2.2.2.2.1 hS hX.1.2.2.2.1 (hX.1.2.2.2.2 _ hw) (fun x hx => hx) hd (kk p e s m args below meth c G H locs cells slots ls hX hC hR hS hl hc hs)
theorem g_formatter {ix : Nat} (hd : decode J.2.1 pc = .ok (.getstatic ix, 3)) (hw : Cond.fieldLink J.1.cls ix "jdk/internal/util/Preconditions" "SIOOBE_FORMATTER" "Ljava/util/function/BiFunction;" ∈ WS) (kk : Go l J F L MC MS Q (pc + 3) lv (.retAddr 1 :: st) k n M) : Go l J F L MC MS Q pc lv st k n M := by
  intro p e s m args below meth c G H locs cells slots ls hX hC hR hS hl hc hs
  have h1 := kk p e s m args below meth c G H locs cells slots ls hX hC hR hS hl hc hs
  have h2 := hC.2.2.2.2.2.2.2.1
  rw [List.map_cons, show cv G (.retAddr 1) = gFm G by show gFc (gFm G) = _; rcases h2.2 with h | ⟨a, h⟩ <;> rw [h] <;> rfl] at h1
  exact va_gets hX.1.1 hX.1.2.1 h2.1 hS hX.1.2.2.2.1 (hX.1.2.2.2.2 _ hw) (fun x hx => hx) hd h1
theorem g_strLen {kS : Nat} {q : String × Nat × String × List Int32} (hd : decode J.2.1 pc = .ok (.arraylength, 1)) (hk : strT[kS]? = some q) (kk : Go l J F L MC MS Q (pc + 1) lv (.int (nI q.2.2.2.length) :: st) k n M) : Go l J F L MC MS Q pc lv (.retAddr (2 * kS + 3) :: st) k n M := by
  intro p e s m args below meth c G H locs cells slots ls hX hC hR hS hl hc hs
  have h1 := kk p e s m args below meth c G H locs cells slots ls hX hC hR hS hl hc hs
  obtain ⟨cell, c1, c2, c3, c4, c5, c6, c7⟩ := ((hC.2.2.2.2.2.1 kS _ hk).2.1 0 (by decide)).2.2.2.kept hS.2.1
  rw [List.map_cons, show cv G (.retAddr (2 * kS + 3)) = .ref (gSV G kS) by show (if (2 * kS + 1) % 2 = 0 then _ else _) = _; rw [if_neg (by omega), show (2 * kS + 1) / 2 = kS by omega]]
  exact W.alen hX.1.1 hX.1.2.1 c1 c2 c5 rfl rfl hd h1
theorem g_strByte {kS j : Nat} {i : Int32} {q : String × Nat × String × List Int32} (hd : decode J.2.1 pc = .ok (.baload, 1)) (hk : strT[kS]? = some q) (hi : i = nI j) (hj : j < q.2.2.2.length) (hL : q.2.2.2.length < 2147483648) (kk : Go l J F L MC MS Q (pc + 1) lv (.int (q.2.2.2.getD j 0) :: st) k n M) : Go l J F L MC MS Q pc lv (.int i :: .retAddr (2 * kS + 3) :: st) k n M := by
  subst hi
  intro p e s m args below meth c G H locs cells slots ls hX hC hR hS hl hc hs
  have h1 := kk p e s m args below meth c G H locs cells slots ls hX hC hR hS hl hc hs
  obtain ⟨cell, c1, c2, c3, c4, c5, c6, c7⟩ := ((hC.2.2.2.2.2.1 kS _ hk).2.1 0 (by decide)).2.2.2.kept hS.2.1
  rw [List.map_cons, List.map_cons, show cv G (.retAddr (2 * kS + 3)) = .ref (gSV G kS) by show (if (2 * kS + 1) % 2 = 0 then _ else _) = _; rw [if_neg (by omega), show (2 * kS + 1) / 2 = kS by omega]]
  have c4' : q.2.2.2.length ≤ cell.slots.size := c4
  have hin : ¬ (nI j < 0 ∨ cell.slots.size ≤ (nI j).toNatClampNeg) := by
    rintro (h | h)
    · exact nI_pos (by omega) h
    · rw [nI_clamp (by omega)] at h
      omega
  exact W.bald (v := .int (q.2.2.2.getD j 0)) hX.1.1 hX.1.2.1 c1 c2 c3 hin (by rw [nI_clamp (by omega)]; exact c6 j hj) rfl rfl hd h1
theorem g_mmin {ix : Nat} {x y : Int32} (hd : decode J.2.1 pc = .ok (.invokestatic ix, 3)) (w1 : Cond.methodLink J.1.cls ix Lib.Math.min.name ∈ WS) (w2 : Cond.static Lib.Math.min.name ∈ WS) (w3 : Cond.initialized "java/lang/Math" ∈ WS) (w4 : Cond.code Lib.Math.min.name Lib.Math.min.code 2 (some .int) ∈ WS) (hF : 1 ≤ F) (hLL : (st.map fun v => v.category).sum + 13 ≤ L) (kk : Go l J F L MC MS Q (pc + 3) lv (.int (if y < x then y else x) :: st) k n M) : Go l J F L MC MS Q pc lv (.int y :: .int x :: st) k n M := by
  intro p e s m args below meth c G H locs cells slots ls hX hC hR hS hl hc hs
  have hts := hX.1.2.2.2.2
  exact va_mmin hX.1.1 hX.1.2.1 (hX.1.2.2.1.trans hl.1.symm) hX.1.2.2.2.1 (hts _ w1) (hts _ w2) (hts _ w3) (hts _ w4) hF (by rw [cv_cats]; exact hLL) (by show cells ≤ MC; omega) (by show slots ≤ MS; omega) hd (kk p e s m args below meth c G H locs cells slots ls hX hC hR hS hl hc hs)
theorem g_mmax {ix : Nat} {x y : Int32} (hd : decode J.2.1 pc = .ok (.invokestatic ix, 3)) (w1 : Cond.methodLink J.1.cls ix Lib.Math.max.name ∈ WS) (w2 : Cond.static Lib.Math.max.name ∈ WS) (w3 : Cond.initialized "java/lang/Math" ∈ WS) (w4 : Cond.code Lib.Math.max.name Lib.Math.max.code 2 (some .int) ∈ WS) (hF : 1 ≤ F) (hLL : (st.map fun v => v.category).sum + 13 ≤ L) (kk : Go l J F L MC MS Q (pc + 3) lv (.int (if x < y then y else x) :: st) k n M) : Go l J F L MC MS Q pc lv (.int y :: .int x :: st) k n M := by
  intro p e s m args below meth c G H locs cells slots ls hX hC hR hS hl hc hs
  have hts := hX.1.2.2.2.2
  exact va_mmax hX.1.1 hX.1.2.1 (hX.1.2.2.1.trans hl.1.symm) hX.1.2.2.2.1 (hts _ w1) (hts _ w2) (hts _ w3) (hts _ w4) hF (by rw [cv_cats]; exact hLL) (by show cells ≤ MC; omega) (by show slots ≤ MS; omega) hd (kk p e s m args below meth c G H locs cells slots ls hX hC hR hS hl hc hs)
theorem g_mabs {ix : Nat} {x y : Int32} (hd : decode J.2.1 pc = .ok (.invokestatic ix, 3)) (w1 : Cond.methodLink J.1.cls ix Lib.Math.abs.name ∈ WS) (w2 : Cond.static Lib.Math.abs.name ∈ WS) (w3 : Cond.initialized "java/lang/Math" ∈ WS) (w4 : Cond.code Lib.Math.abs.name Lib.Math.abs.code 1 (some .int) ∈ WS) (hF : 1 ≤ F) (hLL : (st.map fun v => v.category).sum + 13 ≤ L) (kk : Go l J F L MC MS Q (pc + 3) lv (.int (if 0 ≤ x then x else 0 - x) :: st) k n M) : Go l J F L MC MS Q pc lv (.int x :: st) k n M := by
  intro p e s m args below meth c G H locs cells slots ls hX hC hR hS hl hc hs
  have hts := hX.1.2.2.2.2
  exact va_mabs hX.1.1 hX.1.2.1 (hX.1.2.2.1.trans hl.1.symm) hX.1.2.2.2.1 (hts _ w1) (hts _ w2) (hts _ w3) (hts _ w4) hF (by rw [cv_cats]; exact hLL) (by show cells ≤ MC; omega) (by show slots ≤ MS; omega) hd (kk p e s m args below meth c G H locs cells slots ls hX hC hR hS hl hc hs)
end
end
-- 08.links
section
abbrev jX0_init : Jm := (yX0_init, cX0_init, 1, none, [])
abbrev jX0_makeFrom : Jm := (yX0_makeFrom, cX0_makeFrom, 5, none, [])
abbrev jX0_nodesTo : Jm := (yX0_nodesTo, cX0_nodesTo, 3, (some FieldType.int), [])
abbrev jX0_lowestMutual : Jm := (yX0_lowestMutual, cX0_lowestMutual, 3, (some FieldType.int), [])
abbrev jX0_gainWith : Jm := (yX0_gainWith, cX0_gainWith, 7, (some FieldType.int), [])
abbrev jX0_extend : Jm := (yX0_extend, cX0_extend, 7, (some FieldType.int), [])
abbrev jX0_mend : Jm := (yX0_mend, cX0_mend, 7, (some FieldType.int), [])
abbrev jX0_lossBy : Jm := (yX0_lossBy, cX0_lossBy, 8, (some FieldType.int), [])
abbrev jX1_init : Jm := (yX1_init, cX1_init, 1, none, [])
abbrev jX1_eliminate : Jm := (yX1_eliminate, cX1_eliminate, 5, none, [])
abbrev jX1_eliminateBesideUnit : Jm := (yX1_eliminateBesideUnit, cX1_eliminateBesideUnit, 4, none, [])
abbrev jX1_isSolvable : Jm := (yX1_isSolvable, cX1_isSolvable, 3, (some FieldType.boolean), [])
abbrev jX1_solution : Jm := (yX1_solution, cX1_solution, 3, (some FieldType.int), [])
abbrev jX1_pivotAt : Jm := (yX1_pivotAt, cX1_pivotAt, 2, (some FieldType.int), [])
abbrev jX1_eliminateAll : Jm := (yX1_eliminateAll, cX1_eliminateAll, 5, none, [])
abbrev jX1_rowNotTaken : Jm := (yX1_rowNotTaken, cX1_rowNotTaken, 4, (some FieldType.int), [])
abbrev jX1_swapRows : Jm := (yX1_swapRows, cX1_swapRows, 5, none, [])
abbrev jX1_clearOthers : Jm := (yX1_clearOthers, cX1_clearOthers, 5, none, [])
abbrev jX2_init : Jm := (yX2_init, cX2_init, 1, none, [])
abbrev jX2_makeEmpty : Jm := (yX2_makeEmpty, cX2_makeEmpty, 2, none, [])
abbrev jX2_takeFrom : Jm := (yX2_takeFrom, cX2_takeFrom, 2, none, [])
abbrev jX2_noteLooked : Jm := (yX2_noteLooked, cX2_noteLooked, 2, none, [])
abbrev jX2_noteMadeAnew : Jm := (yX2_noteMadeAnew, cX2_noteMadeAnew, 2, none, [])
abbrev jX3_init : Jm := (yX3_init, cX3_init, 1, none, [])
abbrev jX3_begin : Jm := (yX3_begin, cX3_begin, 3, none, [])
abbrev jX3_multiply : Jm := (yX3_multiply, cX3_multiply, 6, none, [])
abbrev jX3_raise : Jm := (yX3_raise, cX3_raise, 7, (some (FieldType.array FieldType.int)), [])
abbrev jX3_fillTable : Jm := (yX3_fillTable, cX3_fillTable, 7, none, [])
abbrev jX3_takeEntries : Jm := (yX3_takeEntries, cX3_takeEntries, 7, none, [])
abbrev jX3_joined : Jm := (yX3_joined, cX3_joined, 3, (some FieldType.int), [])
abbrev jX4_init : Jm := (yX4_init, cX4_init, 1, none, [])
abbrev jX4_addBytes : Jm := (yX4_addBytes, cX4_addBytes, 6, (some FieldType.int), [])
abbrev jX4_readInto : Jm := (yX4_readInto, cX4_readInto, 3, none, [])
abbrev jX4_readSize : Jm := (yX4_readSize, cX4_readSize, 2, none, [])
abbrev jX4_readStatement : Jm := (yX4_readStatement, cX4_readStatement, 2, none, [])
abbrev jX4_readEdge : Jm := (yX4_readEdge, cX4_readEdge, 5, none, [])
abbrev jX4_readRow : Jm := (yX4_readRow, cX4_readRow, 4, none, [])
abbrev jX4_readKeep : Jm := (yX4_readKeep, cX4_readKeep, 3, none, [])
abbrev jX4_readFill : Jm := (yX4_readFill, cX4_readFill, 4, none, [])
abbrev jX4_rowOfKind : Jm := (yX4_rowOfKind, cX4_rowOfKind, 3, (some FieldType.int), [])
abbrev jX4_hasMore : Jm := (yX4_hasMore, cX4_hasMore, 1, (some FieldType.boolean), [])
abbrev jX4_takeSemicolon : Jm := (yX4_takeSemicolon, cX4_takeSemicolon, 1, none, [])
abbrev jX4_takeWord : Jm := (yX4_takeWord, cX4_takeWord, 1, none, [])
abbrev jX4_takeDigits : Jm := (yX4_takeDigits, cX4_takeDigits, 1, none, [])
abbrev jX4_takeNumber : Jm := (yX4_takeNumber, cX4_takeNumber, 5, (some FieldType.int), [])
abbrev jX4_takeBits : Jm := (yX4_takeBits, cX4_takeBits, 5, (some FieldType.int), [])
abbrev jX4_skipSpaces : Jm := (yX4_skipSpaces, cX4_skipSpaces, 1, none, [])
abbrev jX4_isWord : Jm := (yX4_isWord, cX4_isWord, 3, (some FieldType.boolean), [])
abbrev jX4_fail : Jm := (yX4_fail, cX4_fail, 3, none, [])
abbrev jX5_init : Jm := (yX5_init, cX5_init, 2, none, [])
abbrev jX5_makeEmpty : Jm := (yX5_makeEmpty, cX5_makeEmpty, 3, none, [])
abbrev jX5_takeFrom : Jm := (yX5_takeFrom, cX5_takeFrom, 3, none, [])
abbrev jX6_init : Jm := (yX6_init, cX6_init, 2, none, [])
abbrev jX6_append : Jm := (yX6_append, cX6_append, 3, (some FieldType.int), [])
abbrev jX6_load : Jm := (yX6_load, cX6_load, 1, (some FieldType.int), [])
abbrev jX6_loadError : Jm := (yX6_loadError, cX6_loadError, 1, (some FieldType.int), [])
abbrev jX6_loadStatement : Jm := (yX6_loadStatement, cX6_loadStatement, 1, (some FieldType.int), [])
abbrev jX6_count : Jm := (yX6_count, cX6_count, 2, (some FieldType.int), [])
abbrev jX6_bit : Jm := (yX6_bit, cX6_bit, 4, (some FieldType.int), [])
abbrev jX6_row : Jm := (yX6_row, cX6_row, 3, (some FieldType.long), [])
abbrev jX6_rank : Jm := (yX6_rank, cX6_rank, 4, (some FieldType.int), [])
abbrev jX6_select : Jm := (yX6_select, cX6_select, 4, (some FieldType.int), [])
abbrev jX6_ones : Jm := (yX6_ones, cX6_ones, 2, (some FieldType.int), [])
abbrev jX6_columnOnes : Jm := (yX6_columnOnes, cX6_columnOnes, 3, (some FieldType.int), [])
abbrev jX6_sameAs : Jm := (yX6_sameAs, cX6_sameAs, 3, (some FieldType.int), [])
abbrev jX6_classes : Jm := (yX6_classes, cX6_classes, 2, (some FieldType.int), [])
abbrev jX6_classOf : Jm := (yX6_classOf, cX6_classOf, 4, (some FieldType.int), [])
abbrev jX6_find : Jm := (yX6_find, cX6_find, 4, (some FieldType.int), [])
abbrev jX6_nearest : Jm := (yX6_nearest, cX6_nearest, 8, (some FieldType.int), [])
abbrev jX6_density : Jm := (yX6_density, cX6_density, 2, (some FieldType.double), [])
abbrev jX6_isSymmetric : Jm := (yX6_isSymmetric, cX6_isSymmetric, 4, (some FieldType.boolean), [])
abbrev jX6_reaches : Jm := (yX6_reaches, cX6_reaches, 4, (some FieldType.int), [])
abbrev jX6_reached : Jm := (yX6_reached, cX6_reached, 3, (some FieldType.int), [])
abbrev jX6_pairs : Jm := (yX6_pairs, cX6_pairs, 2, (some FieldType.int), [])
abbrev jX6_meanReach : Jm := (yX6_meanReach, cX6_meanReach, 2, (some FieldType.float), [])
abbrev jX6_component : Jm := (yX6_component, cX6_component, 3, (some FieldType.int), [])
abbrev jX6_components : Jm := (yX6_components, cX6_components, 5, (some FieldType.int), [])
abbrev jX6_distance : Jm := (yX6_distance, cX6_distance, 4, (some FieldType.int), [])
abbrev jX6_stepAt : Jm := (yX6_stepAt, cX6_stepAt, 9, (some FieldType.int), [])
abbrev jX6_around : Jm := (yX6_around, cX6_around, 3, (some FieldType.int), [])
abbrev jX6_girth : Jm := (yX6_girth, cX6_girth, 5, (some FieldType.int), [])
abbrev jX6_order : Jm := (yX6_order, cX6_order, 7, (some FieldType.int), [])
abbrev jX6_gained : Jm := (yX6_gained, cX6_gained, 5, (some FieldType.int), [])
abbrev jX6_lost : Jm := (yX6_lost, cX6_lost, 4, (some FieldType.int), [])
abbrev jX6_bestEdge : Jm := (yX6_bestEdge, cX6_bestEdge, 10, (some FieldType.int), [])
abbrev jX6_weakest : Jm := (yX6_weakest, cX6_weakest, 8, (some FieldType.int), [])
abbrev jX6_triangles : Jm := (yX6_triangles, cX6_triangles, 7, (some FieldType.int), [])
abbrev jX6_fieldRank : Jm := (yX6_fieldRank, cX6_fieldRank, 2, (some FieldType.int), [])
abbrev jX6_solve : Jm := (yX6_solve, cX6_solve, 4, (some FieldType.long), [])
abbrev jX6_freedom : Jm := (yX6_freedom, cX6_freedom, 4, (some FieldType.int), [])
abbrev jX6_pivot : Jm := (yX6_pivot, cX6_pivot, 3, (some FieldType.int), [])
abbrev jX6_put : Jm := (yX6_put, cX6_put, 8, (some FieldType.int), [])
abbrev jX6_setRow : Jm := (yX6_setRow, cX6_setRow, 7, (some FieldType.int), [])
abbrev jX6_copy : Jm := (yX6_copy, cX6_copy, 3, (some FieldType.int), [])
abbrev jX6_transpose : Jm := (yX6_transpose, cX6_transpose, 4, (some FieldType.int), [])
abbrev jX6_combine : Jm := (yX6_combine, cX6_combine, 6, (some FieldType.int), [])
abbrev jX6_product : Jm := (yX6_product, cX6_product, 5, (some FieldType.int), [])
abbrev jX6_power : Jm := (yX6_power, cX6_power, 6, (some FieldType.int), [])
abbrev jX6_invert : Jm := (yX6_invert, cX6_invert, 3, (some FieldType.int), [])
abbrev jX6_close : Jm := (yX6_close, cX6_close, 3, (some FieldType.int), [])
abbrev jX6_reduce : Jm := (yX6_reduce, cX6_reduce, 4, (some FieldType.int), [])
abbrev jX6_exchange : Jm := (yX6_exchange, cX6_exchange, 8, (some FieldType.int), [])
abbrev jX6_keep : Jm := (yX6_keep, cX6_keep, 4, (some FieldType.int), [])
abbrev jX6_setBlock : Jm := (yX6_setBlock, cX6_setBlock, 3, (some FieldType.int), [])
abbrev jX6_kept : Jm := (yX6_kept, cX6_kept, 4, (some FieldType.int), [])
abbrev jX6_work : Jm := (yX6_work, cX6_work, 2, (some FieldType.int), [])
abbrev jX6_writeRow : Jm := (yX6_writeRow, cX6_writeRow, 5, (some FieldType.int), [])
abbrev jX6_outputByte : Jm := (yX6_outputByte, cX6_outputByte, 2, (some FieldType.int), [])
abbrev jX6_undo : Jm := (yX6_undo, cX6_undo, 1, (some FieldType.int), [])
abbrev jX6_saveSnapshot : Jm := (yX6_saveSnapshot, cX6_saveSnapshot, 2, (some FieldType.int), [])
abbrev jX6_restoreSnapshot : Jm := (yX6_restoreSnapshot, cX6_restoreSnapshot, 2, (some FieldType.int), [])
abbrev jX6_needSlot : Jm := (yX6_needSlot, cX6_needSlot, 2, none, [])
abbrev jX6_needNode : Jm := (yX6_needNode, cX6_needNode, 2, none, [])
abbrev jX6_needRow : Jm := (yX6_needRow, cX6_needRow, 3, none, [])
abbrev jX6_needCell : Jm := (yX6_needCell, cX6_needCell, 4, none, [])
abbrev jX6_needRange : Jm := (yX6_needRange, cX6_needRange, 4, none, [])
abbrev jX6_rowsOf : Jm := (yX6_rowsOf, cX6_rowsOf, 2, (some (FieldType.array FieldType.int)), [])
abbrev jX6_keptSlots : Jm := (yX6_keptSlots, cX6_keptSlots, 3, (some FieldType.int), [])
abbrev jX6_remember : Jm := (yX6_remember, cX6_remember, 1, none, [])
abbrev jX6_replaceState : Jm := (yX6_replaceState, cX6_replaceState, 2, none, [])
abbrev jX6_dropClosures : Jm := (yX6_dropClosures, cX6_dropClosures, 2, none, [])
abbrev jX6_closureOf : Jm := (yX6_closureOf, cX6_closureOf, 3, (some (FieldType.object "BitDesk$Closure")), [])
abbrev jX6_store : Jm := (yX6_store, cX6_store, 3, (some FieldType.int), [])
abbrev jX6_noteChange : Jm := (yX6_noteChange, cX6_noteChange, 2, none, [])
abbrev jX6_noteWork : Jm := (yX6_noteWork, cX6_noteWork, 1, none, [])
abbrev jX6_firstEqual : Jm := (yX6_firstEqual, cX6_firstEqual, 4, (some FieldType.int), [])
abbrev jX6_firstRows : Jm := (yX6_firstRows, cX6_firstRows, 5, (some FieldType.int), [])
abbrev jX6_joinedRows : Jm := (yX6_joinedRows, cX6_joinedRows, 5, (some FieldType.int), [])
abbrev jX6_fewestEdges : Jm := (yX6_fewestEdges, cX6_fewestEdges, 6, (some FieldType.int), [])
abbrev jX6_fillLevels : Jm := (yX6_fillLevels, cX6_fillLevels, 7, none, [])
abbrev jX6_lossWithout : Jm := (yX6_lossWithout, cX6_lossWithout, 4, (some FieldType.int), [])
abbrev jX6_dropNeedless : Jm := (yX6_dropNeedless, cX6_dropNeedless, 5, none, [])
abbrev jX6_combined : Jm := (yX6_combined, cX6_combined, 3, (some FieldType.int), [])
abbrev jX6_exchanged : Jm := (yX6_exchanged, cX6_exchanged, 3, (some FieldType.int), [])
abbrev jX6_edgeNumber : Jm := (yX6_edgeNumber, cX6_edgeNumber, 2, (some FieldType.int), [])
abbrev jX6_unsigned : Jm := (yX6_unsigned, cX6_unsigned, 1, (some FieldType.long), [])
abbrev jX6_hasOne : Jm := (yX6_hasOne, cX6_hasOne, 2, (some FieldType.boolean), [])
abbrev jX6_lowest : Jm := (yX6_lowest, cX6_lowest, 1, (some FieldType.int), [])
abbrev jX6_lowestOne : Jm := (yX6_lowestOne, cX6_lowestOne, 1, (some FieldType.int), [])
abbrev jX6_oneAt : Jm := (yX6_oneAt, cX6_oneAt, 4, (some FieldType.int), [])
abbrev jX6_onesOf : Jm := (yX6_onesOf, cX6_onesOf, 4, (some FieldType.int), [])
abbrev jX6_columnOf : Jm := (yX6_columnOf, cX6_columnOf, 5, (some FieldType.int), [])
abbrev jX6_reachedFrom : Jm := (yX6_reachedFrom, cX6_reachedFrom, 7, (some FieldType.int), [])
abbrev jX7_init : Jm := (yX7_init, cX7_init, 1, none, [])
abbrev jX7_in : Jm := (yX7_in, cX7_in, 6, (some FieldType.boolean), [])
abbrev jX7_copies : Jm := (yX7_copies, cX7_copies, 5, none, [])
abbrev jX7_begins : Jm := (yX7_begins, cX7_begins, 3, none, [])
abbrev jX7_isThrown : Jm := (yX7_isThrown, cX7_isThrown, 3, (some FieldType.boolean), [])
abbrev jX7_size : Jm := (yX7_size, cX7_size, 1, (some FieldType.int), [])
abbrev jX7_isSlot : Jm := (yX7_isSlot, cX7_isSlot, 1, (some FieldType.boolean), [])
abbrev jX7_isNode : Jm := (yX7_isNode, cX7_isNode, 2, (some FieldType.boolean), [])
abbrev jX7_rowOf : Jm := (yX7_rowOf, cX7_rowOf, 3, (some FieldType.long), [])
abbrev jX7_setsRow : Jm := (yX7_setsRow, cX7_setsRow, 5, none, [])
abbrev jX7_one : Jm := (yX7_one, cX7_one, 3, (some FieldType.int), [])
abbrev jX7_bitsOf : Jm := (yX7_bitsOf, cX7_bitsOf, 5, (some FieldType.int), [])
abbrev jX7_all : Jm := (yX7_all, cX7_all, 1, (some FieldType.long), [])
abbrev jX7_byteOf : Jm := (yX7_byteOf, cX7_byteOf, 3, (some FieldType.int), [])
abbrev jX7_append : Jm := (yX7_append, cX7_append, 5, (some FieldType.int), [])
abbrev jX7_here : Jm := (yX7_here, cX7_here, 1, (some FieldType.int), [])
abbrev jX7_next : Jm := (yX7_next, cX7_next, 1, (some FieldType.int), [])
abbrev jX7_fails : Jm := (yX7_fails, cX7_fails, 2, none, [])
abbrev jX7_reads : Jm := (yX7_reads, cX7_reads, 1, none, [])
abbrev jX7_isWord : Jm := (yX7_isWord, cX7_isWord, 4, (some FieldType.boolean), [])
abbrev jX7_number : Jm := (yX7_number, cX7_number, 4, (some FieldType.int), [])
abbrev jX7_readSlot : Jm := (yX7_readSlot, cX7_readSlot, 1, (some FieldType.int), [])
abbrev jX7_readNode : Jm := (yX7_readNode, cX7_readNode, 1, (some FieldType.int), [])
abbrev jX7_sizePart : Jm := (yX7_sizePart, cX7_sizePart, 1, none, [])
abbrev jX7_edgePart : Jm := (yX7_edgePart, cX7_edgePart, 4, none, [])
abbrev jX7_rowPart : Jm := (yX7_rowPart, cX7_rowPart, 7, none, [])
abbrev jX7_filled : Jm := (yX7_filled, cX7_filled, 5, (some FieldType.long), [])
abbrev jX7_kindHere : Jm := (yX7_kindHere, cX7_kindHere, 1, (some FieldType.int), [])
abbrev jX7_fillPart : Jm := (yX7_fillPart, cX7_fillPart, 5, none, [])
abbrev jX7_keepPart : Jm := (yX7_keepPart, cX7_keepPart, 2, none, [])
abbrev jX7_statement : Jm := (yX7_statement, cX7_statement, 1, none, [])
abbrev jX7_isMore : Jm := (yX7_isMore, cX7_isMore, 1, (some FieldType.boolean), [])
abbrev jX7_load : Jm := (yX7_load, cX7_load, 2, (some FieldType.int), [])
abbrev jX7_loadError : Jm := (yX7_loadError, cX7_loadError, 1, (some FieldType.int), [])
abbrev jX7_loadStatement : Jm := (yX7_loadStatement, cX7_loadStatement, 1, (some FieldType.int), [])
abbrev jX7_keptMany : Jm := (yX7_keptMany, cX7_keptMany, 3, (some FieldType.int), [])
abbrev jX7_count : Jm := (yX7_count, cX7_count, 2, (some FieldType.int), [])
abbrev jX7_areIn : Jm := (yX7_areIn, cX7_areIn, 3, (some FieldType.boolean), [])
abbrev jX7_bit : Jm := (yX7_bit, cX7_bit, 4, (some FieldType.int), [])
abbrev jX7_row : Jm := (yX7_row, cX7_row, 3, (some FieldType.long), [])
abbrev jX7_rank : Jm := (yX7_rank, cX7_rank, 4, (some FieldType.int), [])
abbrev jX7_select : Jm := (yX7_select, cX7_select, 6, (some FieldType.int), [])
abbrev jX7_onesOf : Jm := (yX7_onesOf, cX7_onesOf, 4, (some FieldType.int), [])
abbrev jX7_ones : Jm := (yX7_ones, cX7_ones, 2, (some FieldType.int), [])
abbrev jX7_columnOnes : Jm := (yX7_columnOnes, cX7_columnOnes, 5, (some FieldType.int), [])
abbrev jX7_firstAs : Jm := (yX7_firstAs, cX7_firstAs, 4, (some FieldType.int), [])
abbrev jX7_sameAs : Jm := (yX7_sameAs, cX7_sameAs, 3, (some FieldType.int), [])
abbrev jX7_find : Jm := (yX7_find, cX7_find, 5, (some FieldType.int), [])
abbrev jX7_classesAhead : Jm := (yX7_classesAhead, cX7_classesAhead, 5, (some FieldType.int), [])
abbrev jX7_classes : Jm := (yX7_classes, cX7_classes, 2, (some FieldType.int), [])
abbrev jX7_classOf : Jm := (yX7_classOf, cX7_classOf, 3, (some FieldType.int), [])
abbrev jX7_nearest : Jm := (yX7_nearest, cX7_nearest, 7, (some FieldType.int), [])
abbrev jX7_density : Jm := (yX7_density, cX7_density, 2, (some FieldType.double), [])
abbrev jX7_isSymmetric : Jm := (yX7_isSymmetric, cX7_isSymmetric, 4, (some FieldType.boolean), [])
abbrev jX7_takes : Jm := (yX7_takes, cX7_takes, 4, none, [])
abbrev jX7_closes : Jm := (yX7_closes, cX7_closes, 4, none, [])
abbrev jX7_closure : Jm := (yX7_closure, cX7_closure, 2, none, [])
abbrev jX7_sumOf : Jm := (yX7_sumOf, cX7_sumOf, 4, (some FieldType.int), [])
abbrev jX7_reaches : Jm := (yX7_reaches, cX7_reaches, 4, (some FieldType.int), [])
abbrev jX7_reached : Jm := (yX7_reached, cX7_reached, 3, (some FieldType.int), [])
abbrev jX7_pairsOf : Jm := (yX7_pairsOf, cX7_pairsOf, 2, (some FieldType.int), [])
abbrev jX7_pairs : Jm := (yX7_pairs, cX7_pairs, 2, (some FieldType.int), [])
abbrev jX7_meanReach : Jm := (yX7_meanReach, cX7_meanReach, 2, (some FieldType.float), [])
abbrev jX7_componentOf : Jm := (yX7_componentOf, cX7_componentOf, 3, (some FieldType.int), [])
abbrev jX7_component : Jm := (yX7_component, cX7_component, 3, (some FieldType.int), [])
abbrev jX7_components : Jm := (yX7_components, cX7_components, 4, (some FieldType.int), [])
abbrev jX7_measures : Jm := (yX7_measures, cX7_measures, 6, none, [])
abbrev jX7_distance : Jm := (yX7_distance, cX7_distance, 4, (some FieldType.int), [])
abbrev jX7_stepAt : Jm := (yX7_stepAt, cX7_stepAt, 8, (some FieldType.int), [])
abbrev jX7_aroundOf : Jm := (yX7_aroundOf, cX7_aroundOf, 5, (some FieldType.int), [])
abbrev jX7_around : Jm := (yX7_around, cX7_around, 3, (some FieldType.int), [])
abbrev jX7_girth : Jm := (yX7_girth, cX7_girth, 5, (some FieldType.int), [])
abbrev jX7_free : Jm := (yX7_free, cX7_free, 7, (some FieldType.int), [])
abbrev jX7_order : Jm := (yX7_order, cX7_order, 7, (some FieldType.int), [])
abbrev jX7_pairsTurned : Jm := (yX7_pairsTurned, cX7_pairsTurned, 4, (some FieldType.int), [])
abbrev jX7_gained : Jm := (yX7_gained, cX7_gained, 4, (some FieldType.int), [])
abbrev jX7_lost : Jm := (yX7_lost, cX7_lost, 4, (some FieldType.int), [])
abbrev jX7_mostTurned : Jm := (yX7_mostTurned, cX7_mostTurned, 8, (some FieldType.int), [])
abbrev jX7_bestEdge : Jm := (yX7_bestEdge, cX7_bestEdge, 2, (some FieldType.int), [])
abbrev jX7_weakest : Jm := (yX7_weakest, cX7_weakest, 2, (some FieldType.int), [])
abbrev jX7_triangles : Jm := (yX7_triangles, cX7_triangles, 6, (some FieldType.int), [])
abbrev jX7_changes : Jm := (yX7_changes, cX7_changes, 7, none, [])
abbrev jX7_reduces : Jm := (yX7_reduces, cX7_reduces, 5, none, [])
abbrev jX7_fieldRank : Jm := (yX7_fieldRank, cX7_fieldRank, 2, (some FieldType.int), [])
abbrev jX7_solved : Jm := (yX7_solved, cX7_solved, 7, (some FieldType.long), [])
abbrev jX7_solve : Jm := (yX7_solve, cX7_solve, 4, (some FieldType.long), [])
abbrev jX7_freedom : Jm := (yX7_freedom, cX7_freedom, 4, (some FieldType.int), [])
abbrev jX7_pivot : Jm := (yX7_pivot, cX7_pivot, 3, (some FieldType.int), [])
abbrev jX7_keeps : Jm := (yX7_keeps, cX7_keeps, 2, none, [])
abbrev jX7_undo : Jm := (yX7_undo, cX7_undo, 1, (some FieldType.int), [])
abbrev jX7_looks : Jm := (yX7_looks, cX7_looks, 3, none, [])
abbrev jX7_madeAnew : Jm := (yX7_madeAnew, cX7_madeAnew, 2, none, [])
abbrev jX7_put : Jm := (yX7_put, cX7_put, 8, (some FieldType.int), [])
abbrev jX7_setRow : Jm := (yX7_setRow, cX7_setRow, 6, (some FieldType.int), [])
abbrev jX7_lays : Jm := (yX7_lays, cX7_lays, 4, (some FieldType.int), [])
abbrev jX7_copy : Jm := (yX7_copy, cX7_copy, 3, (some FieldType.int), [])
abbrev jX7_transpose : Jm := (yX7_transpose, cX7_transpose, 5, (some FieldType.int), [])
abbrev jX7_combined : Jm := (yX7_combined, cX7_combined, 5, (some FieldType.long), [])
abbrev jX7_combine : Jm := (yX7_combine, cX7_combine, 6, (some FieldType.int), [])
abbrev jX7_counts : Jm := (yX7_counts, cX7_counts, 8, none, [])
abbrev jX7_multiplies : Jm := (yX7_multiplies, cX7_multiplies, 9, none, [])
abbrev jX7_product : Jm := (yX7_product, cX7_product, 5, (some FieldType.int), [])
abbrev jX7_moves : Jm := (yX7_moves, cX7_moves, 4, none, [])
abbrev jX7_power : Jm := (yX7_power, cX7_power, 6, (some FieldType.int), [])
abbrev jX7_invert : Jm := (yX7_invert, cX7_invert, 4, (some FieldType.int), [])
abbrev jX7_close : Jm := (yX7_close, cX7_close, 3, (some FieldType.int), [])
abbrev jX7_isSame : Jm := (yX7_isSame, cX7_isSame, 4, (some FieldType.boolean), [])
abbrev jX7_reduce : Jm := (yX7_reduce, cX7_reduce, 6, (some FieldType.int), [])
abbrev jX7_exchanged : Jm := (yX7_exchanged, cX7_exchanged, 5, (some FieldType.long), [])
abbrev jX7_exchange : Jm := (yX7_exchange, cX7_exchange, 7, (some FieldType.int), [])
abbrev jX7_keep : Jm := (yX7_keep, cX7_keep, 3, (some FieldType.int), [])
abbrev jX7_setBlock : Jm := (yX7_setBlock, cX7_setBlock, 3, (some FieldType.int), [])
abbrev jX7_kept : Jm := (yX7_kept, cX7_kept, 3, (some FieldType.int), [])
abbrev jX7_work : Jm := (yX7_work, cX7_work, 2, (some FieldType.int), [])
abbrev jX7_writeRow : Jm := (yX7_writeRow, cX7_writeRow, 4, (some FieldType.int), [])
abbrev jX7_outputByte : Jm := (yX7_outputByte, cX7_outputByte, 2, (some FieldType.int), [])
abbrev jX7_saveSnapshot : Jm := (yX7_saveSnapshot, cX7_saveSnapshot, 2, (some FieldType.int), [])
abbrev jX7_restoreSnapshot : Jm := (yX7_restoreSnapshot, cX7_restoreSnapshot, 2, (some FieldType.int), [])
abbrev jJ6_bitCount_0f7a4 : Jm := (yJ6_bitCount_0f7a4, cJ6_bitCount_0f7a4, 1, (some FieldType.int), [])
abbrev jJ9_abs_0f7a4 : Jm := (yJ9_abs_0f7a4, cJ9_abs_0f7a4, 1, (some FieldType.int), [])
abbrev jJ9_max_7cf53 : Jm := (yJ9_max_7cf53, cJ9_max_7cf53, 2, (some FieldType.int), [])
abbrev jJ9_min_7cf53 : Jm := (yJ9_min_7cf53, cJ9_min_7cf53, 2, (some FieldType.int), [])
abbrev jJ0_length_8abf5 : Jm := (yJ0_length_8abf5, cJ0_length_8abf5, 1, (some FieldType.int), [])
abbrev jJ0_charAt_5068e : Jm := (yJ0_charAt_5068e, cJ0_charAt_5068e, 2, (some FieldType.char), [])
abbrev jJ0_coder_7d493 : Jm := (yJ0_coder_7d493, cJ0_coder_7d493, 1, (some FieldType.byte), [])
abbrev jJ0_isLatin1_aae02 : Jm := (yJ0_isLatin1_aae02, cJ0_isLatin1_aae02, 1, (some FieldType.boolean), [])
abbrev jJ0_checkIndex_df160 : Jm := (yJ0_checkIndex_df160, cJ0_checkIndex_df160, 2, none, [])
abbrev jJ1_charAt_3b067 : Jm := (yJ1_charAt_3b067, cJ1_charAt_3b067, 2, (some FieldType.char), [])
abbrev jJ2_getChar_3b067 : Jm := (yJ2_getChar_3b067, cJ2_getChar_3b067, 2, (some FieldType.char), [])
abbrev jJ2_length_9d52b : Jm := (yJ2_length_9d52b, cJ2_length_9d52b, 1, (some FieldType.int), [])
abbrev jJ2_charAt_3b067 : Jm := (yJ2_charAt_3b067, cJ2_charAt_3b067, 2, (some FieldType.char), [])
abbrev jJ2_checkIndex_2214a : Jm := (yJ2_checkIndex_2214a, cJ2_checkIndex_2214a, 2, none, [])
abbrev jJ3_checkIndex_8e157 : Jm := (yJ3_checkIndex_8e157, cJ3_checkIndex_8e157, 3, (some FieldType.int), [])
theorem ws_list {ws : List Cond} (ps : List Nat) (hp : ws = ps.filterMap (fun i => lw_tbl[i]?)) (h : ws.all goodWord = true) : ∀ w ∈ ws, w ∈ WS := fun w hw => List.mem_filter.mpr ⟨(goodIn_r ws ps hp h w hw).1, List.all_eq_true.mp h w hw⟩
theorem ws_c0 {w : Cond} (i : Nat) (h : (k2_sels lw_privs)[i]? = some w) (g : goodWord w = true) : w ∈ WS := List.mem_filter.mpr ⟨List.mem_append_left _ (List.mem_of_getElem? h), g⟩
theorem ws_c1 {w : Cond} (i : Nat) (h : tables_1_1[i]? = some w) (g : goodWord w = true) : w ∈ WS := List.mem_filter.mpr ⟨List.mem_append_right _ (List.mem_append_left _ (List.mem_of_getElem? h)), g⟩
theorem ws_c2 {w : Cond} (i : Nat) (h : tables_1_2[i]? = some w) (g : goodWord w = true) : w ∈ WS := List.mem_filter.mpr ⟨List.mem_append_right _ (List.mem_append_right _ (List.mem_append_left _ (List.mem_of_getElem? h))), g⟩
theorem ws_c3 {w : Cond} (i : Nat) (h : tables_1_3[i]? = some w) (g : goodWord w = true) : w ∈ WS := List.mem_filter.mpr ⟨List.mem_append_right _ (List.mem_append_right _ (List.mem_append_right _ (List.mem_append_left _ (List.mem_of_getElem? h)))), g⟩
theorem ws_c4 {w : Cond} (i : Nat) (h : tables_1_4[i]? = some w) (g : goodWord w = true) : w ∈ WS := List.mem_filter.mpr ⟨List.mem_append_right _ (List.mem_append_right _ (List.mem_append_right _ (List.mem_append_right _ (List.mem_append_left _ (List.mem_of_getElem? h))))), g⟩
theorem ws_c5 {w : Cond} (i : Nat) (h : tables_1_5[i]? = some w) (g : goodWord w = true) : w ∈ WS := List.mem_filter.mpr ⟨List.mem_append_right _ (List.mem_append_right _ (List.mem_append_right _ (List.mem_append_right _ (List.mem_append_right _ (List.mem_append_left _ (List.mem_of_getElem? h)))))), g⟩
theorem ws_c6 {w : Cond} (i : Nat) (h : tables_1_6[i]? = some w) (g : goodWord w = true) : w ∈ WS := List.mem_filter.mpr ⟨List.mem_append_right _ (List.mem_append_right _ (List.mem_append_right _ (List.mem_append_right _ (List.mem_append_right _ (List.mem_append_right _ (List.mem_append_left _ (List.mem_of_getElem? h))))))), g⟩
theorem ws_c7 {w : Cond} (i : Nat) (h : tables_1_7[i]? = some w) (g : goodWord w = true) : w ∈ WS := List.mem_filter.mpr ⟨List.mem_append_right _ (List.mem_append_right _ (List.mem_append_right _ (List.mem_append_right _ (List.mem_append_right _ (List.mem_append_right _ (List.mem_append_right _ (List.mem_append_left _ (List.mem_of_getElem? h)))))))), g⟩
theorem ws_c8 {w : Cond} (i : Nat) (h : tables_1_8[i]? = some w) (g : goodWord w = true) : w ∈ WS := List.mem_filter.mpr ⟨List.mem_append_right _ (List.mem_append_right _ (List.mem_append_right _ (List.mem_append_right _ (List.mem_append_right _ (List.mem_append_right _ (List.mem_append_right _ (List.mem_append_right _ (List.mem_of_getElem? h)))))))), g⟩
theorem cwd_nil {J : Jm} (h : J.2.2.2.2 = []) : cwd J = .code J.1 J.2.1 J.2.2.1 J.2.2.2.1 := if_pos h
theorem cwd_hh {J : Jm} (h : J.2.2.2.2 ≠ []) : cwd J = .codeWith J.1 J.2.1 J.2.2.1 J.2.2.2.1 J.2.2.2.2 := if_neg h
set_option maxRecDepth 20000 in
theorem inW0 : ∀ w ∈ u_ws RX0 TX0 2, w ∈ WS := ws_list [229, 231] (by decide +kernel) (by decide +kernel)
set_option maxRecDepth 20000 in
theorem inW1 : ∀ w ∈ u_ws RX1 TX1 4, w ∈ WS := ws_list [280, 282, 284, 286] (by decide +kernel) (by decide +kernel)
set_option maxRecDepth 20000 in
theorem inW2 : ∀ w ∈ u_ws RX2 TX2 5, w ∈ WS := ws_list [180, 182, 184, 186, 188] (by decide +kernel) (by decide +kernel)
set_option maxRecDepth 20000 in
theorem inW3 : ∀ w ∈ u_ws RX3 TX3 8, w ∈ WS := ws_list [251, 253, 255, 257, 259, 261, 263, 265] (by decide +kernel) (by decide +kernel)
set_option maxRecDepth 20000 in
theorem inW4 : ∀ w ∈ u_ws RX4 TX4 7, w ∈ WS := ws_list [139, 141, 143, 145, 147, 149, 151] (by decide +kernel) (by decide +kernel)
set_option maxRecDepth 20000 in
theorem inW5 : ∀ w ∈ u_ws RX5 TX5 5, w ∈ WS := ws_list [206, 208, 210, 212, 214] (by decide +kernel) (by decide +kernel)
set_option maxRecDepth 20000 in
theorem inW6 : ∀ w ∈ u_ws RX6 TX6 15, w ∈ WS := ws_list [304, 306, 308, 310, 312, 314, 316, 318, 320, 322, 324, 326, 328, 330, 332] (by decide +kernel) (by decide +kernel)
set_option maxRecDepth 20000 in
theorem inW7 : ∀ w ∈ u_ws RX7 TX7 25, w ∈ WS := ws_list [1241, 1243, 1245, 1247, 1249, 1251, 1253, 1255, 1257, 1259, 1261, 1263, 1265, 1267, 1269, 1271, 1273, 1275, 1277, 1279, 1281, 1283, 1285, 1287, 1289] (by decide +kernel) (by decide +kernel)
theorem wd_94 : (Jvm.Cond.initialized "BitDeskLaw") ∈ WS := ws_c1 0 rfl rfl
theorem wd_95 : (Jvm.Cond.initialized "BitDesk") ∈ WS := ws_c1 1 rfl rfl
theorem wd_96 : (Jvm.Cond.initialized "BitDesk$Reader") ∈ WS := ws_c1 2 rfl rfl
theorem wd_97 : (Jvm.Cond.initialized "BitDesk$State") ∈ WS := ws_c1 3 rfl rfl
theorem wd_98 : (Jvm.Cond.initialized "BitDesk$Matrix") ∈ WS := ws_c1 4 rfl rfl
theorem wd_99 : (Jvm.Cond.initialized "BitDesk$Closure") ∈ WS := ws_c1 5 rfl rfl
theorem wd_100 : (Jvm.Cond.initialized "BitDesk$Multiplier") ∈ WS := ws_c1 6 rfl rfl
theorem wd_101 : (Jvm.Cond.initialized "BitDesk$Elimination") ∈ WS := ws_c1 7 rfl rfl
theorem wd_102 : (Jvm.Cond.initialized "BitDeskModel") ∈ WS := ws_c1 8 rfl rfl
theorem wd_103 : (Jvm.Cond.initialized "java/lang/String") ∈ WS := ws_c1 9 rfl rfl
theorem wd_104 : (Jvm.Cond.initialized "java/lang/StringLatin1") ∈ WS := ws_c1 10 rfl rfl
theorem wd_105 : (Jvm.Cond.initialized "jdk/internal/util/Preconditions") ∈ WS := ws_c1 11 rfl rfl
theorem wd_106 : (Jvm.Cond.initialized "java/lang/StringUTF16") ∈ WS := ws_c1 12 rfl rfl
theorem wd_107 : (Jvm.Cond.initialized "java/lang/Math") ∈ WS := ws_c1 13 rfl rfl
theorem wd_108 : (Jvm.Cond.initialized "java/lang/System") ∈ WS := ws_c1 14 rfl rfl
theorem wd_109 : (Jvm.Cond.initialized "java/lang/Throwable") ∈ WS := ws_c1 15 rfl rfl
theorem wd_110 : (Jvm.Cond.initialized "java/lang/Exception") ∈ WS := ws_c1 16 rfl rfl
theorem wd_111 : (Jvm.Cond.initialized "java/lang/RuntimeException") ∈ WS := ws_c1 17 rfl rfl
theorem wd_112 : (Jvm.Cond.initialized "java/lang/IllegalArgumentException") ∈ WS := ws_c1 18 rfl rfl
theorem wd_113 : (Jvm.Cond.initialized "java/lang/IndexOutOfBoundsException") ∈ WS := ws_c1 19 rfl rfl
theorem wd_114 : (Jvm.Cond.initialized "java/lang/Integer") ∈ WS := ws_c1 20 rfl rfl
theorem wd_154 : (Jvm.Cond.arrayClass Jvm.ClassFile.FieldType.int) ∈ WS := ws_c1 60 rfl rfl
theorem wd_234 : (Jvm.Cond.arrayClass Jvm.ClassFile.FieldType.boolean) ∈ WS := ws_c1 140 rfl rfl
theorem wd_515 : (Jvm.Cond.arrayClass Jvm.ClassFile.FieldType.byte) ∈ WS := ws_c2 181 rfl rfl
theorem wd_1292 : (Jvm.Cond.arrayClass Jvm.ClassFile.FieldType.long) ∈ WS := ws_c5 238 rfl rfl
theorem wd_1784 : (Jvm.Cond.arrayClass Jvm.ClassFile.FieldType.double) ∈ WS := ws_c8 6 rfl rfl
theorem wn_f0 : (Jvm.Cond.fieldLinkNest "BitDesk" (92 : Nat) "BitDesk$Reader" "statement" "I" "BitDesk") ∈ NWL := List.mem_append_left _ (List.mem_of_getElem? (i := 0) rfl)
theorem wn_f1 : (Jvm.Cond.fieldLinkNest "BitDesk" (76 : Nat) "BitDesk$Reader" "error" "I" "BitDesk") ∈ NWL := List.mem_append_left _ (List.mem_of_getElem? (i := 1) rfl)
theorem wn_f2 : (Jvm.Cond.fieldLinkNest "BitDesk" (80 : Nat) "BitDesk$Reader" "errorPosition" "I" "BitDesk") ∈ NWL := List.mem_append_left _ (List.mem_of_getElem? (i := 2) rfl)
theorem wn_f3 : (Jvm.Cond.fieldLinkNest "BitDesk$Reader" (108 : Nat) "BitDesk$Matrix" "rows" "[I" "BitDesk") ∈ NWL := List.mem_append_left _ (List.mem_of_getElem? (i := 3) rfl)
theorem wn_f4 : (Jvm.Cond.fieldLinkNest "BitDesk" (229 : Nat) "BitDesk$Matrix" "rows" "[I" "BitDesk") ∈ NWL := List.mem_append_left _ (List.mem_of_getElem? (i := 4) rfl)
theorem wn_f5 : (Jvm.Cond.fieldLinkNest "BitDesk$Reader" (115 : Nat) "BitDesk$Matrix" "isKept" "Z" "BitDesk") ∈ NWL := List.mem_append_left _ (List.mem_of_getElem? (i := 5) rfl)
theorem wn_f6 : (Jvm.Cond.fieldLinkNest "BitDesk" (288 : Nat) "BitDesk$Matrix" "isKept" "Z" "BitDesk") ∈ NWL := List.mem_append_left _ (List.mem_of_getElem? (i := 6) rfl)
theorem wn_f7 : (Jvm.Cond.fieldLinkNest "BitDesk" (295 : Nat) "BitDesk$Matrix" "lookedLately" "I" "BitDesk") ∈ NWL := List.mem_append_left _ (List.mem_of_getElem? (i := 7) rfl)
theorem wn_f8 : (Jvm.Cond.fieldLinkNest "BitDesk" (298 : Nat) "BitDesk$Matrix" "lookedInAll" "I" "BitDesk") ∈ NWL := List.mem_append_left _ (List.mem_of_getElem? (i := 8) rfl)
theorem wn_f9 : (Jvm.Cond.fieldLinkNest "BitDesk" (301 : Nat) "BitDesk$Matrix" "timesMadeAnew" "I" "BitDesk") ∈ NWL := List.mem_append_left _ (List.mem_of_getElem? (i := 9) rfl)
theorem wn_f10 : (Jvm.Cond.fieldLinkNest "BitDesk$Reader" (47 : Nat) "BitDesk$State" "slots" "[LBitDesk$Matrix;" "BitDesk") ∈ NWL := List.mem_append_left _ (List.mem_of_getElem? (i := 10) rfl)
theorem wn_f11 : (Jvm.Cond.fieldLinkNest "BitDesk" (225 : Nat) "BitDesk$State" "slots" "[LBitDesk$Matrix;" "BitDesk") ∈ NWL := List.mem_append_left _ (List.mem_of_getElem? (i := 11) rfl)
theorem wn_f12 : (Jvm.Cond.fieldLinkNest "BitDesk$Multiplier" (21 : Nat) "BitDesk$State" "size" "I" "BitDesk") ∈ NWL := List.mem_append_left _ (List.mem_of_getElem? (i := 12) rfl)
theorem wn_f13 : (Jvm.Cond.fieldLinkNest "BitDesk" (89 : Nat) "BitDesk$State" "size" "I" "BitDesk") ∈ NWL := List.mem_append_left _ (List.mem_of_getElem? (i := 13) rfl)
theorem wn_f14 : (Jvm.Cond.fieldLinkNest "BitDesk$Reader" (53 : Nat) "BitDesk$State" "size" "I" "BitDesk") ∈ NWL := List.mem_append_left _ (List.mem_of_getElem? (i := 14) rfl)
theorem wn_f15 : (Jvm.Cond.fieldLinkNest "BitDesk$Multiplier" (28 : Nat) "BitDesk$State" "block" "I" "BitDesk") ∈ NWL := List.mem_append_left _ (List.mem_of_getElem? (i := 15) rfl)
theorem wn_f16 : (Jvm.Cond.fieldLinkNest "BitDesk$Reader" (106 : Nat) "BitDesk$State" "block" "I" "BitDesk") ∈ NWL := List.mem_append_left _ (List.mem_of_getElem? (i := 16) rfl)
theorem wn_f17 : (Jvm.Cond.fieldLinkNest "BitDesk" (99 : Nat) "BitDesk$State" "block" "I" "BitDesk") ∈ NWL := List.mem_append_left _ (List.mem_of_getElem? (i := 17) rfl)
theorem wn_f18 : (Jvm.Cond.fieldLinkNest "BitDesk" (304 : Nat) "BitDesk$State" "entriesMade" "I" "BitDesk") ∈ NWL := List.mem_append_left _ (List.mem_of_getElem? (i := 18) rfl)
theorem wn_f19 : (Jvm.Cond.fieldLinkNest "BitDesk" (307 : Nat) "BitDesk$State" "entriesTaken" "I" "BitDesk") ∈ NWL := List.mem_append_left _ (List.mem_of_getElem? (i := 19) rfl)
theorem wn_f20 : (Jvm.Cond.fieldLinkNest "BitDesk" (166 : Nat) "BitDesk$Closure" "reach" "[I" "BitDesk") ∈ NWL := List.mem_append_left _ (List.mem_of_getElem? (i := 20) rfl)
theorem wn_f21 : (Jvm.Cond.fieldLinkNest "BitDesk" (341 : Nat) "BitDesk$Closure" "isCurrent" "Z" "BitDesk") ∈ NWL := List.mem_append_left _ (List.mem_of_getElem? (i := 21) rfl)
theorem wn_f22 : (Jvm.Cond.fieldLinkNest "BitDesk" (347 : Nat) "BitDesk$Multiplier" "entriesMade" "I" "BitDesk") ∈ NWL := List.mem_append_left _ (List.mem_of_getElem? (i := 22) rfl)
theorem wn_f23 : (Jvm.Cond.fieldLinkNest "BitDesk" (348 : Nat) "BitDesk$Multiplier" "entriesTaken" "I" "BitDesk") ∈ NWL := List.mem_append_left _ (List.mem_of_getElem? (i := 23) rfl)
theorem wn_f24 : (Jvm.Cond.fieldLinkNest "BitDesk" (273 : Nat) "BitDesk$Elimination" "right" "[I" "BitDesk") ∈ NWL := List.mem_append_left _ (List.mem_of_getElem? (i := 24) rfl)
theorem wn_f25 : (Jvm.Cond.fieldLinkNest "BitDesk" (207 : Nat) "BitDesk$Elimination" "pivotCount" "I" "BitDesk") ∈ NWL := List.mem_append_left _ (List.mem_of_getElem? (i := 25) rfl)
theorem wn_m0 : (Jvm.Cond.methodLinkNest "BitDesk$Reader" (126 : Nat) ({ cls := "BitDesk", name := "lowest", desc := "(I)I" } : Jvm.MethodName) "BitDesk") ∈ NWL := List.mem_append_right _ (List.mem_of_getElem? (i := 0) rfl)
theorem wn_m1 : (Jvm.Cond.methodLinkNest "BitDesk$Closure" (21 : Nat) ({ cls := "BitDesk", name := "hasOne", desc := "(II)Z" } : Jvm.MethodName) "BitDesk") ∈ NWL := List.mem_append_right _ (List.mem_of_getElem? (i := 1) rfl)
theorem wn_m2 : (Jvm.Cond.methodLinkNest "BitDesk$Closure" (29 : Nat) ({ cls := "BitDesk", name := "columnOf", desc := "([III)I" } : Jvm.MethodName) "BitDesk") ∈ NWL := List.mem_append_right _ (List.mem_of_getElem? (i := 2) rfl)
theorem wn_m3 : (Jvm.Cond.methodLinkNest "BitDesk$Closure" (33 : Nat) ({ cls := "BitDesk", name := "lowestOne", desc := "(I)I" } : Jvm.MethodName) "BitDesk") ∈ NWL := List.mem_append_right _ (List.mem_of_getElem? (i := 3) rfl)
theorem wn_m4 : (Jvm.Cond.methodLinkNest "BitDesk$Closure" (46 : Nat) ({ cls := "BitDesk", name := "reachedFrom", desc := "([III)I" } : Jvm.MethodName) "BitDesk") ∈ NWL := List.mem_append_right _ (List.mem_of_getElem? (i := 4) rfl)
theorem wn_m5 : (Jvm.Cond.methodLinkNest "BitDesk$Elimination" (47 : Nat) ({ cls := "BitDesk", name := "hasOne", desc := "(II)Z" } : Jvm.MethodName) "BitDesk") ∈ NWL := List.mem_append_right _ (List.mem_of_getElem? (i := 5) rfl)
theorem wn_m6 : (Jvm.Cond.methodLinkNest "BitDesk$Multiplier" (67 : Nat) ({ cls := "BitDesk", name := "lowest", desc := "(I)I" } : Jvm.MethodName) "BitDesk") ∈ NWL := List.mem_append_right _ (List.mem_of_getElem? (i := 6) rfl)
theorem wn_m7 : (Jvm.Cond.methodLinkNest "BitDesk$Multiplier" (60 : Nat) ({ cls := "BitDesk", name := "hasOne", desc := "(II)Z" } : Jvm.MethodName) "BitDesk") ∈ NWL := List.mem_append_right _ (List.mem_of_getElem? (i := 7) rfl)
theorem wd_224 : (Jvm.Cond.methodLink "BitDesk$Closure" (3 : Nat) ({ cls := "java/lang/Object", name := "<init>", desc := "()V" } : Jvm.MethodName)) ∈ WS := ws_c1 130 rfl rfl
theorem wd_121 : (Jvm.Cond.instanceMethod ({ cls := "java/lang/Object", name := "<init>", desc := "()V" } : Jvm.MethodName)) ∈ WS := ws_c1 27 rfl rfl
theorem wd_122 : (Jvm.Cond.code ({ cls := "java/lang/Object", name := "<init>", desc := "()V" } : Jvm.MethodName) object_method_1_code (1 : Nat) (Option.none : Option Jvm.ClassFile.FieldType)) ∈ WS := ws_c1 28 rfl rfl
theorem wd_225 : (Jvm.Cond.fieldLink "BitDesk$Closure" (9 : Nat) "BitDesk$Closure" "reach" "[I") ∈ WS := ws_c1 131 rfl rfl
theorem fp_X0_9 : FP RX0 9 0 0 (.array .int) true := ⟨RX0, TX0, 2, tyX0, rfl, by decide, rfl, rfl, (Or.inl wd_225), inW0, tyX0_ok, nmX0, rfl, tyX0_ok 0 (by decide), rfl⟩
theorem fk_X0_9 : FK RX0 9 0 0 (.array .int) := ⟨RX0, TX0, 2, rfl, by decide, rfl, rfl, (Or.inl wd_225), inW0⟩
theorem wd_790 : (Jvm.Cond.methodLink "BitDesk$Closure" (15 : Nat) ({ cls := "java/lang/System", name := "arraycopy", desc := "(Ljava/lang/Object;ILjava/lang/Object;II)V" } : Jvm.MethodName)) ∈ WS := ws_c3 216 rfl rfl
theorem wd_510 : (Jvm.Cond.native ({ cls := "java/lang/System", name := "arraycopy", desc := "(Ljava/lang/Object;ILjava/lang/Object;II)V" } : Jvm.MethodName)) ∈ WS := ws_c2 176 rfl rfl
theorem wd_509 : (Jvm.Cond.static ({ cls := "java/lang/System", name := "arraycopy", desc := "(Ljava/lang/Object;ILjava/lang/Object;II)V" } : Jvm.MethodName)) ∈ WS := ws_c2 175 rfl rfl
theorem wd_661 : (Jvm.Cond.code ({ cls := "BitDesk", name := "hasOne", desc := "(II)Z" } : Jvm.MethodName) prog_1_method_85_code (2 : Nat) (Option.some Jvm.ClassFile.FieldType.boolean)) ∈ WS := ws_c3 87 rfl rfl
theorem wd_660 : (Jvm.Cond.static ({ cls := "BitDesk", name := "hasOne", desc := "(II)Z" } : Jvm.MethodName)) ∈ WS := ws_c3 86 rfl rfl
theorem lk_X0_21 : LkSN RX0 21 jX6_hasOne 2 := ⟨⟨⟨_, wn_m1⟩, ⟨rfl, (by rw [cwd_nil rfl]; exact wd_661)⟩, wd_95, ⟨by decide +kernel, by decide +kernel⟩, by decide +kernel⟩, wd_660⟩
theorem wd_227 : (Jvm.Cond.fieldLink "BitDesk$Closure" (25 : Nat) "BitDesk$Closure" "isCurrent" "Z") ∈ WS := ws_c1 133 rfl rfl
theorem fp_X0_25 : FP RX0 25 0 1 (.boolean) false := ⟨RX0, TX0, 2, tyX0, rfl, by decide, rfl, rfl, (Or.inl wd_227), inW0, tyX0_ok, nmX0, rfl, tyX0_ok 1 (by decide), rfl⟩
theorem wd_716 : (Jvm.Cond.code ({ cls := "BitDesk", name := "columnOf", desc := "([III)I" } : Jvm.MethodName) prog_1_method_90_code (5 : Nat) (Option.some Jvm.ClassFile.FieldType.int)) ∈ WS := ws_c3 142 rfl rfl
theorem wd_715 : (Jvm.Cond.static ({ cls := "BitDesk", name := "columnOf", desc := "([III)I" } : Jvm.MethodName)) ∈ WS := ws_c3 141 rfl rfl
theorem lk_X0_29 : LkSN RX0 29 jX6_columnOf 3 := ⟨⟨⟨_, wn_m2⟩, ⟨rfl, (by rw [cwd_nil rfl]; exact wd_716)⟩, wd_95, ⟨by decide +kernel, by decide +kernel⟩, by decide +kernel⟩, wd_715⟩
theorem wd_828 : (Jvm.Cond.code ({ cls := "BitDesk", name := "lowestOne", desc := "(I)I" } : Jvm.MethodName) prog_1_method_87_code (1 : Nat) (Option.some Jvm.ClassFile.FieldType.int)) ∈ WS := ws_c4 14 rfl rfl
theorem wd_827 : (Jvm.Cond.static ({ cls := "BitDesk", name := "lowestOne", desc := "(I)I" } : Jvm.MethodName)) ∈ WS := ws_c4 13 rfl rfl
theorem lk_X0_33 : LkSN RX0 33 jX6_lowestOne 1 := ⟨⟨⟨_, wn_m3⟩, ⟨rfl, (by rw [cwd_nil rfl]; exact wd_828)⟩, wd_95, ⟨by decide +kernel, by decide +kernel⟩, by decide +kernel⟩, wd_827⟩
theorem wd_683 : (Jvm.Cond.code ({ cls := "java/lang/Integer", name := "bitCount", desc := "(I)I" } : Jvm.MethodName) prog_13_method_49_code (1 : Nat) (Option.some Jvm.ClassFile.FieldType.int)) ∈ WS := ws_c3 109 rfl rfl
theorem wd_900 : (Jvm.Cond.methodLink "BitDesk$Closure" (37 : Nat) ({ cls := "java/lang/Integer", name := "bitCount", desc := "(I)I" } : Jvm.MethodName)) ∈ WS := ws_c4 86 rfl rfl
theorem wd_682 : (Jvm.Cond.static ({ cls := "java/lang/Integer", name := "bitCount", desc := "(I)I" } : Jvm.MethodName)) ∈ WS := ws_c3 108 rfl rfl
theorem lk_X0_37 : LkS RX0 37 jJ6_bitCount_0f7a4 1 := ⟨⟨wd_900, ⟨rfl, (by rw [cwd_nil rfl]; exact wd_683)⟩, wd_114, ⟨by decide +kernel, by decide +kernel⟩, by decide +kernel⟩, wd_682⟩
theorem wd_899 : (Jvm.Cond.code ({ cls := "BitDesk$Closure", name := "gainWith", desc := "(III)I" } : Jvm.MethodName) prog_2_method_5_code (7 : Nat) (Option.some Jvm.ClassFile.FieldType.int)) ∈ WS := ws_c4 85 rfl rfl
theorem wd_1025 : (Jvm.Cond.methodLink "BitDesk$Closure" (42 : Nat) ({ cls := "BitDesk$Closure", name := "gainWith", desc := "(III)I" } : Jvm.MethodName)) ∈ WS := ws_c4 211 rfl rfl
theorem wd_897 : (Jvm.Cond.instanceMethod ({ cls := "BitDesk$Closure", name := "gainWith", desc := "(III)I" } : Jvm.MethodName)) ∈ WS := ws_c4 83 rfl rfl
theorem wd_898 : (Jvm.Cond.selects "BitDesk$Closure" ({ cls := "BitDesk$Closure", name := "gainWith", desc := "(III)I" } : Jvm.MethodName) ({ cls := "BitDesk$Closure", name := "gainWith", desc := "(III)I" } : Jvm.MethodName)) ∈ WS := ws_c4 84 rfl rfl
theorem lk_X0_42 : LkV RX0 42 jX0_gainWith 3 := ⟨⟨wd_1025, ⟨rfl, (by rw [cwd_nil rfl]; exact wd_899)⟩, wd_99, ⟨by decide +kernel, by decide +kernel⟩, by decide +kernel⟩, wd_897, wd_898⟩
theorem wd_919 : (Jvm.Cond.code ({ cls := "BitDesk", name := "reachedFrom", desc := "([III)I" } : Jvm.MethodName) prog_1_method_91_code (7 : Nat) (Option.some Jvm.ClassFile.FieldType.int)) ∈ WS := ws_c4 105 rfl rfl
theorem wd_918 : (Jvm.Cond.static ({ cls := "BitDesk", name := "reachedFrom", desc := "([III)I" } : Jvm.MethodName)) ∈ WS := ws_c4 104 rfl rfl
theorem lk_X0_46 : LkSN RX0 46 jX6_reachedFrom 3 := ⟨⟨⟨_, wn_m4⟩, ⟨rfl, (by rw [cwd_nil rfl]; exact wd_919)⟩, wd_95, ⟨by decide +kernel, by decide +kernel⟩, by decide +kernel⟩, wd_918⟩
theorem wd_895 : (Jvm.Cond.code ({ cls := "BitDesk$Closure", name := "nodesTo", desc := "(II)I" } : Jvm.MethodName) prog_2_method_3_code (3 : Nat) (Option.some Jvm.ClassFile.FieldType.int)) ∈ WS := ws_c4 81 rfl rfl
theorem wd_920 : (Jvm.Cond.methodLink "BitDesk$Closure" (49 : Nat) ({ cls := "BitDesk$Closure", name := "nodesTo", desc := "(II)I" } : Jvm.MethodName)) ∈ WS := ws_c4 106 rfl rfl
theorem wd_893 : (Jvm.Cond.instanceMethod ({ cls := "BitDesk$Closure", name := "nodesTo", desc := "(II)I" } : Jvm.MethodName)) ∈ WS := ws_c4 79 rfl rfl
theorem wd_894 : (Jvm.Cond.selects "BitDesk$Closure" ({ cls := "BitDesk$Closure", name := "nodesTo", desc := "(II)I" } : Jvm.MethodName) ({ cls := "BitDesk$Closure", name := "nodesTo", desc := "(II)I" } : Jvm.MethodName)) ∈ WS := ws_c4 80 rfl rfl
theorem lk_X0_49 : LkV RX0 49 jX0_nodesTo 2 := ⟨⟨wd_920, ⟨rfl, (by rw [cwd_nil rfl]; exact wd_895)⟩, wd_99, ⟨by decide +kernel, by decide +kernel⟩, by decide +kernel⟩, wd_893, wd_894⟩
theorem wd_273 : (Jvm.Cond.methodLink "BitDesk$Elimination" (3 : Nat) ({ cls := "java/lang/Object", name := "<init>", desc := "()V" } : Jvm.MethodName)) ∈ WS := ws_c1 179 rfl rfl
theorem wd_274 : (Jvm.Cond.fieldLink "BitDesk$Elimination" (9 : Nat) "BitDesk$Elimination" "left" "[I") ∈ WS := ws_c1 180 rfl rfl
theorem fp_X1_9 : FP RX1 9 1 0 (.array .int) true := ⟨RX1, TX1, 4, tyX1, rfl, by decide, rfl, rfl, (Or.inl wd_274), inW1, tyX1_ok, nmX1, rfl, tyX1_ok 0 (by decide), rfl⟩
theorem wd_275 : (Jvm.Cond.fieldLink "BitDesk$Elimination" (15 : Nat) "BitDesk$Elimination" "right" "[I") ∈ WS := ws_c1 181 rfl rfl
theorem fp_X1_15 : FP RX1 15 1 1 (.array .int) true := ⟨RX1, TX1, 4, tyX1, rfl, by decide, rfl, rfl, (Or.inl wd_275), inW1, tyX1_ok, nmX1, rfl, tyX1_ok 1 (by decide), rfl⟩
theorem wd_277 : (Jvm.Cond.fieldLink "BitDesk$Elimination" (18 : Nat) "BitDesk$Elimination" "pivots" "[I") ∈ WS := ws_c1 183 rfl rfl
theorem fp_X1_18 : FP RX1 18 1 2 (.array .int) true := ⟨RX1, TX1, 4, tyX1, rfl, by decide, rfl, rfl, (Or.inl wd_277), inW1, tyX1_ok, nmX1, rfl, tyX1_ok 2 (by decide), rfl⟩
theorem fk_X1_15 : FK RX1 15 1 1 (.array .int) := ⟨RX1, TX1, 4, rfl, by decide, rfl, rfl, (Or.inl wd_275), inW1⟩
theorem wd_959 : (Jvm.Cond.code ({ cls := "BitDesk$Elimination", name := "eliminateAll", desc := "([II)V" } : Jvm.MethodName) prog_3_method_7_code (5 : Nat) (Option.none : Option Jvm.ClassFile.FieldType)) ∈ WS := ws_c4 145 rfl rfl
theorem wd_956 : (Jvm.Cond.methodLink "BitDesk$Elimination" (21 : Nat) ({ cls := "BitDesk$Elimination", name := "eliminateAll", desc := "([II)V" } : Jvm.MethodName)) ∈ WS := ws_c4 142 rfl rfl
theorem wd_958 : (Jvm.Cond.instanceMethod ({ cls := "BitDesk$Elimination", name := "eliminateAll", desc := "([II)V" } : Jvm.MethodName)) ∈ WS := ws_c4 144 rfl rfl
theorem wd_33 : (Jvm.Cond.selects "BitDesk$Elimination" (⟨"BitDesk$Elimination", "eliminateAll", "([II)V"⟩ : Jvm.MethodName) (⟨"BitDesk$Elimination", "eliminateAll", "([II)V"⟩ : Jvm.MethodName)) ∈ WS := ws_c0 33 rfl rfl
theorem lk_X1_21 : LkV RX1 21 jX1_eliminateAll 2 := ⟨⟨wd_956, ⟨rfl, (by rw [cwd_nil rfl]; exact wd_959)⟩, wd_101, ⟨by decide +kernel, by decide +kernel⟩, by decide +kernel⟩, wd_958, wd_33⟩
theorem wd_278 : (Jvm.Cond.fieldLink "BitDesk$Elimination" (25 : Nat) "BitDesk$Elimination" "pivotCount" "I") ∈ WS := ws_c1 184 rfl rfl
theorem fk_X1_25 : FK RX1 25 1 3 (.int) := ⟨RX1, TX1, 4, rfl, by decide, rfl, rfl, (Or.inl wd_278), inW1⟩
theorem fk_X1_18 : FK RX1 18 1 2 (.array .int) := ⟨RX1, TX1, 4, rfl, by decide, rfl, rfl, (Or.inl wd_277), inW1⟩
theorem fk_X1_9 : FK RX1 9 1 0 (.array .int) := ⟨RX1, TX1, 4, rfl, by decide, rfl, rfl, (Or.inl wd_274), inW1⟩
theorem wd_960 : (Jvm.Cond.methodLink "BitDesk$Elimination" (29 : Nat) ({ cls := "java/lang/System", name := "arraycopy", desc := "(Ljava/lang/Object;ILjava/lang/Object;II)V" } : Jvm.MethodName)) ∈ WS := ws_c4 146 rfl rfl
theorem fp_X1_25 : FP RX1 25 1 3 (.int) false := ⟨RX1, TX1, 4, tyX1, rfl, by decide, rfl, rfl, (Or.inl wd_278), inW1, tyX1_ok, nmX1, rfl, tyX1_ok 3 (by decide), rfl⟩
theorem wd_964 : (Jvm.Cond.code ({ cls := "BitDesk$Elimination", name := "rowNotTaken", desc := "(II)I" } : Jvm.MethodName) prog_3_method_8_code (4 : Nat) (Option.some Jvm.ClassFile.FieldType.int)) ∈ WS := ws_c4 150 rfl rfl
theorem wd_961 : (Jvm.Cond.methodLink "BitDesk$Elimination" (35 : Nat) ({ cls := "BitDesk$Elimination", name := "rowNotTaken", desc := "(II)I" } : Jvm.MethodName)) ∈ WS := ws_c4 147 rfl rfl
theorem wd_963 : (Jvm.Cond.instanceMethod ({ cls := "BitDesk$Elimination", name := "rowNotTaken", desc := "(II)I" } : Jvm.MethodName)) ∈ WS := ws_c4 149 rfl rfl
theorem wd_34 : (Jvm.Cond.selects "BitDesk$Elimination" (⟨"BitDesk$Elimination", "rowNotTaken", "(II)I"⟩ : Jvm.MethodName) (⟨"BitDesk$Elimination", "rowNotTaken", "(II)I"⟩ : Jvm.MethodName)) ∈ WS := ws_c0 34 rfl rfl
theorem lk_X1_35 : LkV RX1 35 jX1_rowNotTaken 2 := ⟨⟨wd_961, ⟨rfl, (by rw [cwd_nil rfl]; exact wd_964)⟩, wd_101, ⟨by decide +kernel, by decide +kernel⟩, by decide +kernel⟩, wd_963, wd_34⟩
theorem wd_969 : (Jvm.Cond.code ({ cls := "BitDesk$Elimination", name := "swapRows", desc := "(II)V" } : Jvm.MethodName) prog_3_method_9_code (5 : Nat) (Option.none : Option Jvm.ClassFile.FieldType)) ∈ WS := ws_c4 155 rfl rfl
theorem wd_966 : (Jvm.Cond.methodLink "BitDesk$Elimination" (39 : Nat) ({ cls := "BitDesk$Elimination", name := "swapRows", desc := "(II)V" } : Jvm.MethodName)) ∈ WS := ws_c4 152 rfl rfl
theorem wd_968 : (Jvm.Cond.instanceMethod ({ cls := "BitDesk$Elimination", name := "swapRows", desc := "(II)V" } : Jvm.MethodName)) ∈ WS := ws_c4 154 rfl rfl
theorem wd_35 : (Jvm.Cond.selects "BitDesk$Elimination" (⟨"BitDesk$Elimination", "swapRows", "(II)V"⟩ : Jvm.MethodName) (⟨"BitDesk$Elimination", "swapRows", "(II)V"⟩ : Jvm.MethodName)) ∈ WS := ws_c0 35 rfl rfl
theorem lk_X1_39 : LkV RX1 39 jX1_swapRows 2 := ⟨⟨wd_966, ⟨rfl, (by rw [cwd_nil rfl]; exact wd_969)⟩, wd_101, ⟨by decide +kernel, by decide +kernel⟩, by decide +kernel⟩, wd_968, wd_35⟩
theorem wd_973 : (Jvm.Cond.code ({ cls := "BitDesk$Elimination", name := "clearOthers", desc := "(III)V" } : Jvm.MethodName) prog_3_method_10_code (5 : Nat) (Option.none : Option Jvm.ClassFile.FieldType)) ∈ WS := ws_c4 159 rfl rfl
theorem wd_970 : (Jvm.Cond.methodLink "BitDesk$Elimination" (43 : Nat) ({ cls := "BitDesk$Elimination", name := "clearOthers", desc := "(III)V" } : Jvm.MethodName)) ∈ WS := ws_c4 156 rfl rfl
theorem wd_972 : (Jvm.Cond.instanceMethod ({ cls := "BitDesk$Elimination", name := "clearOthers", desc := "(III)V" } : Jvm.MethodName)) ∈ WS := ws_c4 158 rfl rfl
theorem wd_36 : (Jvm.Cond.selects "BitDesk$Elimination" (⟨"BitDesk$Elimination", "clearOthers", "(III)V"⟩ : Jvm.MethodName) (⟨"BitDesk$Elimination", "clearOthers", "(III)V"⟩ : Jvm.MethodName)) ∈ WS := ws_c0 36 rfl rfl
theorem lk_X1_43 : LkV RX1 43 jX1_clearOthers 3 := ⟨⟨wd_970, ⟨rfl, (by rw [cwd_nil rfl]; exact wd_973)⟩, wd_101, ⟨by decide +kernel, by decide +kernel⟩, by decide +kernel⟩, wd_972, wd_36⟩
theorem lk_X1_47 : LkSN RX1 47 jX6_hasOne 2 := ⟨⟨⟨_, wn_m5⟩, ⟨rfl, (by rw [cwd_nil rfl]; exact wd_661)⟩, wd_95, ⟨by decide +kernel, by decide +kernel⟩, by decide +kernel⟩, wd_660⟩
theorem wd_167 : (Jvm.Cond.methodLink "BitDesk$Matrix" (3 : Nat) ({ cls := "java/lang/Object", name := "<init>", desc := "()V" } : Jvm.MethodName)) ∈ WS := ws_c1 73 rfl rfl
theorem wd_168 : (Jvm.Cond.fieldLink "BitDesk$Matrix" (9 : Nat) "BitDesk$Matrix" "rows" "[I") ∈ WS := ws_c1 74 rfl rfl
theorem fp_X2_9 : FP RX2 9 2 0 (.array .int) true := ⟨RX2, TX2, 5, tyX2, rfl, by decide, rfl, rfl, (Or.inl wd_168), inW2, tyX2_ok, nmX2, rfl, tyX2_ok 0 (by decide), rfl⟩
theorem fk_X2_9 : FK RX2 9 2 0 (.array .int) := ⟨RX2, TX2, 5, rfl, by decide, rfl, rfl, (Or.inl wd_168), inW2⟩
theorem wd_171 : (Jvm.Cond.fieldLink "BitDesk$Matrix" (15 : Nat) "BitDesk$Matrix" "isKept" "Z") ∈ WS := ws_c1 77 rfl rfl
theorem fp_X2_15 : FP RX2 15 2 1 (.boolean) false := ⟨RX2, TX2, 5, tyX2, rfl, by decide, rfl, rfl, (Or.inl wd_171), inW2, tyX2_ok, nmX2, rfl, tyX2_ok 1 (by decide), rfl⟩
theorem wd_174 : (Jvm.Cond.fieldLink "BitDesk$Matrix" (19 : Nat) "BitDesk$Matrix" "lookedLately" "I") ∈ WS := ws_c1 80 rfl rfl
theorem fp_X2_19 : FP RX2 19 2 2 (.int) false := ⟨RX2, TX2, 5, tyX2, rfl, by decide, rfl, rfl, (Or.inl wd_174), inW2, tyX2_ok, nmX2, rfl, tyX2_ok 2 (by decide), rfl⟩
theorem wd_176 : (Jvm.Cond.fieldLink "BitDesk$Matrix" (23 : Nat) "BitDesk$Matrix" "lookedInAll" "I") ∈ WS := ws_c1 82 rfl rfl
theorem fp_X2_23 : FP RX2 23 2 3 (.int) false := ⟨RX2, TX2, 5, tyX2, rfl, by decide, rfl, rfl, (Or.inl wd_176), inW2, tyX2_ok, nmX2, rfl, tyX2_ok 3 (by decide), rfl⟩
theorem wd_178 : (Jvm.Cond.fieldLink "BitDesk$Matrix" (26 : Nat) "BitDesk$Matrix" "timesMadeAnew" "I") ∈ WS := ws_c1 84 rfl rfl
theorem fp_X2_26 : FP RX2 26 2 4 (.int) false := ⟨RX2, TX2, 5, tyX2, rfl, by decide, rfl, rfl, (Or.inl wd_178), inW2, tyX2_ok, nmX2, rfl, tyX2_ok 4 (by decide), rfl⟩
theorem wd_508 : (Jvm.Cond.methodLink "BitDesk$Matrix" (29 : Nat) ({ cls := "java/lang/System", name := "arraycopy", desc := "(Ljava/lang/Object;ILjava/lang/Object;II)V" } : Jvm.MethodName)) ∈ WS := ws_c2 174 rfl rfl
theorem fk_X2_15 : FK RX2 15 2 1 (.boolean) := ⟨RX2, TX2, 5, rfl, by decide, rfl, rfl, (Or.inl wd_171), inW2⟩
theorem fk_X2_19 : FK RX2 19 2 2 (.int) := ⟨RX2, TX2, 5, rfl, by decide, rfl, rfl, (Or.inl wd_174), inW2⟩
theorem fk_X2_23 : FK RX2 23 2 3 (.int) := ⟨RX2, TX2, 5, rfl, by decide, rfl, rfl, (Or.inl wd_176), inW2⟩
theorem fk_X2_26 : FK RX2 26 2 4 (.int) := ⟨RX2, TX2, 5, rfl, by decide, rfl, rfl, (Or.inl wd_178), inW2⟩
theorem wd_495 : (Jvm.Cond.code ({ cls := "BitDesk$Matrix", name := "noteLooked", desc := "(I)V" } : Jvm.MethodName) prog_4_method_4_code (2 : Nat) (Option.none : Option Jvm.ClassFile.FieldType)) ∈ WS := ws_c2 161 rfl rfl
theorem wd_492 : (Jvm.Cond.methodLink "BitDesk$Matrix" (35 : Nat) ({ cls := "BitDesk$Matrix", name := "noteLooked", desc := "(I)V" } : Jvm.MethodName)) ∈ WS := ws_c2 158 rfl rfl
theorem wd_493 : (Jvm.Cond.instanceMethod ({ cls := "BitDesk$Matrix", name := "noteLooked", desc := "(I)V" } : Jvm.MethodName)) ∈ WS := ws_c2 159 rfl rfl
theorem wd_494 : (Jvm.Cond.selects "BitDesk$Matrix" ({ cls := "BitDesk$Matrix", name := "noteLooked", desc := "(I)V" } : Jvm.MethodName) ({ cls := "BitDesk$Matrix", name := "noteLooked", desc := "(I)V" } : Jvm.MethodName)) ∈ WS := ws_c2 160 rfl rfl
theorem lk_X2_35 : LkV RX2 35 jX2_noteLooked 1 := ⟨⟨wd_492, ⟨rfl, (by rw [cwd_nil rfl]; exact wd_495)⟩, wd_98, ⟨by decide +kernel, by decide +kernel⟩, by decide +kernel⟩, wd_493, wd_494⟩
theorem wd_240 : (Jvm.Cond.methodLink "BitDesk$Multiplier" (3 : Nat) ({ cls := "java/lang/Object", name := "<init>", desc := "()V" } : Jvm.MethodName)) ∈ WS := ws_c1 146 rfl rfl
theorem wd_241 : (Jvm.Cond.fieldLink "BitDesk$Multiplier" (9 : Nat) "BitDesk$Multiplier" "table" "[I") ∈ WS := ws_c1 147 rfl rfl
theorem fp_X3_9 : FP RX3 9 3 0 (.array .int) true := ⟨RX3, TX3, 8, tyX3, rfl, by decide, rfl, rfl, (Or.inl wd_241), inW3, tyX3_ok, nmX3, rfl, tyX3_ok 0 (by decide), rfl⟩
theorem wd_242 : (Jvm.Cond.fieldLink "BitDesk$Multiplier" (15 : Nat) "BitDesk$Multiplier" "first" "[I") ∈ WS := ws_c1 148 rfl rfl
theorem fp_X3_15 : FP RX3 15 3 1 (.array .int) true := ⟨RX3, TX3, 8, tyX3, rfl, by decide, rfl, rfl, (Or.inl wd_242), inW3, tyX3_ok, nmX3, rfl, tyX3_ok 1 (by decide), rfl⟩
theorem wd_243 : (Jvm.Cond.fieldLink "BitDesk$Multiplier" (18 : Nat) "BitDesk$Multiplier" "second" "[I") ∈ WS := ws_c1 149 rfl rfl
theorem fp_X3_18 : FP RX3 18 3 2 (.array .int) true := ⟨RX3, TX3, 8, tyX3, rfl, by decide, rfl, rfl, (Or.inl wd_243), inW3, tyX3_ok, nmX3, rfl, tyX3_ok 2 (by decide), rfl⟩
theorem fk_X3_21 : FK RX3 21 5 1 (.int) := ⟨RX5, TX5, 5, rfl, by decide, rfl, rfl, (Or.inr ⟨_, wn_f12⟩), inW5⟩
theorem wd_244 : (Jvm.Cond.fieldLink "BitDesk$Multiplier" (27 : Nat) "BitDesk$Multiplier" "size" "I") ∈ WS := ws_c1 150 rfl rfl
theorem fp_X3_27 : FP RX3 27 3 3 (.int) false := ⟨RX3, TX3, 8, tyX3, rfl, by decide, rfl, rfl, (Or.inl wd_244), inW3, tyX3_ok, nmX3, rfl, tyX3_ok 3 (by decide), rfl⟩
theorem fk_X3_28 : FK RX3 28 5 2 (.int) := ⟨RX5, TX5, 5, rfl, by decide, rfl, rfl, (Or.inr ⟨_, wn_f15⟩), inW5⟩
theorem wd_245 : (Jvm.Cond.fieldLink "BitDesk$Multiplier" (31 : Nat) "BitDesk$Multiplier" "block" "I") ∈ WS := ws_c1 151 rfl rfl
theorem fp_X3_31 : FP RX3 31 3 4 (.int) false := ⟨RX3, TX3, 8, tyX3, rfl, by decide, rfl, rfl, (Or.inl wd_245), inW3, tyX3_ok, nmX3, rfl, tyX3_ok 4 (by decide), rfl⟩
theorem wd_246 : (Jvm.Cond.fieldLink "BitDesk$Multiplier" (32 : Nat) "BitDesk$Multiplier" "isField" "Z") ∈ WS := ws_c1 152 rfl rfl
theorem fp_X3_32 : FP RX3 32 3 5 (.boolean) false := ⟨RX3, TX3, 8, tyX3, rfl, by decide, rfl, rfl, (Or.inl wd_246), inW3, tyX3_ok, nmX3, rfl, tyX3_ok 5 (by decide), rfl⟩
theorem wd_247 : (Jvm.Cond.fieldLink "BitDesk$Multiplier" (36 : Nat) "BitDesk$Multiplier" "entriesMade" "I") ∈ WS := ws_c1 153 rfl rfl
theorem fp_X3_36 : FP RX3 36 3 6 (.int) false := ⟨RX3, TX3, 8, tyX3, rfl, by decide, rfl, rfl, (Or.inl wd_247), inW3, tyX3_ok, nmX3, rfl, tyX3_ok 6 (by decide), rfl⟩
theorem wd_249 : (Jvm.Cond.fieldLink "BitDesk$Multiplier" (39 : Nat) "BitDesk$Multiplier" "entriesTaken" "I") ∈ WS := ws_c1 155 rfl rfl
theorem fp_X3_39 : FP RX3 39 3 7 (.int) false := ⟨RX3, TX3, 8, tyX3, rfl, by decide, rfl, rfl, (Or.inl wd_249), inW3, tyX3_ok, nmX3, rfl, tyX3_ok 7 (by decide), rfl⟩
theorem fk_X3_27 : FK RX3 27 3 3 (.int) := ⟨RX3, TX3, 8, rfl, by decide, rfl, rfl, (Or.inl wd_244), inW3⟩
theorem fk_X3_31 : FK RX3 31 3 4 (.int) := ⟨RX3, TX3, 8, rfl, by decide, rfl, rfl, (Or.inl wd_245), inW3⟩
theorem wd_431 : (Jvm.Cond.code ({ cls := "java/lang/Math", name := "min", desc := "(II)I" } : Jvm.MethodName) prog_14_method_69_code (2 : Nat) (Option.some Jvm.ClassFile.FieldType.int)) ∈ WS := ws_c2 97 rfl rfl
theorem wd_1085 : (Jvm.Cond.methodLink "BitDesk$Multiplier" (42 : Nat) ({ cls := "java/lang/Math", name := "min", desc := "(II)I" } : Jvm.MethodName)) ∈ WS := ws_c5 31 rfl rfl
theorem wd_430 : (Jvm.Cond.static ({ cls := "java/lang/Math", name := "min", desc := "(II)I" } : Jvm.MethodName)) ∈ WS := ws_c2 96 rfl rfl
theorem lk_X3_42 : LkS RX3 42 jJ9_min_7cf53 2 := ⟨⟨wd_1085, ⟨rfl, (by rw [cwd_nil rfl]; exact wd_431)⟩, wd_107, ⟨by decide +kernel, by decide +kernel⟩, by decide +kernel⟩, wd_430⟩
theorem wd_1089 : (Jvm.Cond.code ({ cls := "BitDesk$Multiplier", name := "fillTable", desc := "([III)V" } : Jvm.MethodName) prog_5_method_5_code (7 : Nat) (Option.none : Option Jvm.ClassFile.FieldType)) ∈ WS := ws_c5 35 rfl rfl
theorem wd_1086 : (Jvm.Cond.methodLink "BitDesk$Multiplier" (48 : Nat) ({ cls := "BitDesk$Multiplier", name := "fillTable", desc := "([III)V" } : Jvm.MethodName)) ∈ WS := ws_c5 32 rfl rfl
theorem wd_1088 : (Jvm.Cond.instanceMethod ({ cls := "BitDesk$Multiplier", name := "fillTable", desc := "([III)V" } : Jvm.MethodName)) ∈ WS := ws_c5 34 rfl rfl
theorem wd_40 : (Jvm.Cond.selects "BitDesk$Multiplier" (⟨"BitDesk$Multiplier", "fillTable", "([III)V"⟩ : Jvm.MethodName) (⟨"BitDesk$Multiplier", "fillTable", "([III)V"⟩ : Jvm.MethodName)) ∈ WS := ws_c0 40 rfl rfl
theorem lk_X3_48 : LkV RX3 48 jX3_fillTable 3 := ⟨⟨wd_1086, ⟨rfl, (by rw [cwd_nil rfl]; exact wd_1089)⟩, wd_100, ⟨by decide +kernel, by decide +kernel⟩, by decide +kernel⟩, wd_1088, wd_40⟩
theorem wd_1097 : (Jvm.Cond.code ({ cls := "BitDesk$Multiplier", name := "takeEntries", desc := "([I[III)V" } : Jvm.MethodName) prog_5_method_6_code (7 : Nat) (Option.none : Option Jvm.ClassFile.FieldType)) ∈ WS := ws_c5 43 rfl rfl
theorem wd_1094 : (Jvm.Cond.methodLink "BitDesk$Multiplier" (52 : Nat) ({ cls := "BitDesk$Multiplier", name := "takeEntries", desc := "([I[III)V" } : Jvm.MethodName)) ∈ WS := ws_c5 40 rfl rfl
theorem wd_1096 : (Jvm.Cond.instanceMethod ({ cls := "BitDesk$Multiplier", name := "takeEntries", desc := "([I[III)V" } : Jvm.MethodName)) ∈ WS := ws_c5 42 rfl rfl
theorem wd_42 : (Jvm.Cond.selects "BitDesk$Multiplier" (⟨"BitDesk$Multiplier", "takeEntries", "([I[III)V"⟩ : Jvm.MethodName) (⟨"BitDesk$Multiplier", "takeEntries", "([I[III)V"⟩ : Jvm.MethodName)) ∈ WS := ws_c0 42 rfl rfl
theorem lk_X3_52 : LkV RX3 52 jX3_takeEntries 4 := ⟨⟨wd_1094, ⟨rfl, (by rw [cwd_nil rfl]; exact wd_1097)⟩, wd_100, ⟨by decide +kernel, by decide +kernel⟩, by decide +kernel⟩, wd_1096, wd_42⟩
theorem fk_X3_15 : FK RX3 15 3 1 (.array .int) := ⟨RX3, TX3, 8, rfl, by decide, rfl, rfl, (Or.inl wd_242), inW3⟩
theorem fk_X3_18 : FK RX3 18 3 2 (.array .int) := ⟨RX3, TX3, 8, rfl, by decide, rfl, rfl, (Or.inl wd_243), inW3⟩
theorem wd_1084 : (Jvm.Cond.code ({ cls := "BitDesk$Multiplier", name := "multiply", desc := "([I[I[I)V" } : Jvm.MethodName) prog_5_method_3_code (6 : Nat) (Option.none : Option Jvm.ClassFile.FieldType)) ∈ WS := ws_c5 30 rfl rfl
theorem wd_1115 : (Jvm.Cond.methodLink "BitDesk$Multiplier" (56 : Nat) ({ cls := "BitDesk$Multiplier", name := "multiply", desc := "([I[I[I)V" } : Jvm.MethodName)) ∈ WS := ws_c5 61 rfl rfl
theorem wd_1082 : (Jvm.Cond.instanceMethod ({ cls := "BitDesk$Multiplier", name := "multiply", desc := "([I[I[I)V" } : Jvm.MethodName)) ∈ WS := ws_c5 28 rfl rfl
theorem wd_1083 : (Jvm.Cond.selects "BitDesk$Multiplier" ({ cls := "BitDesk$Multiplier", name := "multiply", desc := "([I[I[I)V" } : Jvm.MethodName) ({ cls := "BitDesk$Multiplier", name := "multiply", desc := "([I[I[I)V" } : Jvm.MethodName)) ∈ WS := ws_c5 29 rfl rfl
theorem lk_X3_56 : LkV RX3 56 jX3_multiply 3 := ⟨⟨wd_1115, ⟨rfl, (by rw [cwd_nil rfl]; exact wd_1084)⟩, wd_100, ⟨by decide +kernel, by decide +kernel⟩, by decide +kernel⟩, wd_1082, wd_1083⟩
theorem lk_X3_60 : LkSN RX3 60 jX6_hasOne 2 := ⟨⟨⟨_, wn_m7⟩, ⟨rfl, (by rw [cwd_nil rfl]; exact wd_661)⟩, wd_95, ⟨by decide +kernel, by decide +kernel⟩, by decide +kernel⟩, wd_660⟩
theorem fk_X3_9 : FK RX3 9 3 0 (.array .int) := ⟨RX3, TX3, 8, rfl, by decide, rfl, rfl, (Or.inl wd_241), inW3⟩
theorem wd_1093 : (Jvm.Cond.code ({ cls := "BitDesk$Multiplier", name := "joined", desc := "(II)I" } : Jvm.MethodName) prog_5_method_7_code (3 : Nat) (Option.some Jvm.ClassFile.FieldType.int)) ∈ WS := ws_c5 39 rfl rfl
theorem wd_1090 : (Jvm.Cond.methodLink "BitDesk$Multiplier" (64 : Nat) ({ cls := "BitDesk$Multiplier", name := "joined", desc := "(II)I" } : Jvm.MethodName)) ∈ WS := ws_c5 36 rfl rfl
theorem wd_1092 : (Jvm.Cond.instanceMethod ({ cls := "BitDesk$Multiplier", name := "joined", desc := "(II)I" } : Jvm.MethodName)) ∈ WS := ws_c5 38 rfl rfl
theorem wd_41 : (Jvm.Cond.selects "BitDesk$Multiplier" (⟨"BitDesk$Multiplier", "joined", "(II)I"⟩ : Jvm.MethodName) (⟨"BitDesk$Multiplier", "joined", "(II)I"⟩ : Jvm.MethodName)) ∈ WS := ws_c0 41 rfl rfl
theorem lk_X3_64 : LkV RX3 64 jX3_joined 2 := ⟨⟨wd_1090, ⟨rfl, (by rw [cwd_nil rfl]; exact wd_1093)⟩, wd_100, ⟨by decide +kernel, by decide +kernel⟩, by decide +kernel⟩, wd_1092, wd_41⟩
theorem fk_X3_36 : FK RX3 36 3 6 (.int) := ⟨RX3, TX3, 8, rfl, by decide, rfl, rfl, (Or.inl wd_247), inW3⟩
theorem wd_479 : (Jvm.Cond.code ({ cls := "BitDesk", name := "lowest", desc := "(I)I" } : Jvm.MethodName) prog_1_method_86_code (1 : Nat) (Option.some Jvm.ClassFile.FieldType.int)) ∈ WS := ws_c2 145 rfl rfl
theorem wd_478 : (Jvm.Cond.static ({ cls := "BitDesk", name := "lowest", desc := "(I)I" } : Jvm.MethodName)) ∈ WS := ws_c2 144 rfl rfl
theorem lk_X3_67 : LkSN RX3 67 jX6_lowest 1 := ⟨⟨⟨_, wn_m6⟩, ⟨rfl, (by rw [cwd_nil rfl]; exact wd_479)⟩, wd_95, ⟨by decide +kernel, by decide +kernel⟩, by decide +kernel⟩, wd_478⟩
theorem fk_X3_39 : FK RX3 39 3 7 (.int) := ⟨RX3, TX3, 8, rfl, by decide, rfl, rfl, (Or.inl wd_249), inW3⟩
theorem fk_X3_32 : FK RX3 32 3 5 (.boolean) := ⟨RX3, TX3, 8, rfl, by decide, rfl, rfl, (Or.inl wd_246), inW3⟩
theorem wd_128 : (Jvm.Cond.methodLink "BitDesk$Reader" (3 : Nat) ({ cls := "java/lang/Object", name := "<init>", desc := "()V" } : Jvm.MethodName)) ∈ WS := ws_c1 34 rfl rfl
theorem wd_129 : (Jvm.Cond.fieldLink "BitDesk$Reader" (9 : Nat) "BitDesk$Reader" "text" "[I") ∈ WS := ws_c1 35 rfl rfl
theorem fp_X4_9 : FP RX4 9 4 0 (.array .int) true := ⟨RX4, TX4, 7, tyX4, rfl, by decide, rfl, rfl, (Or.inl wd_129), inW4, tyX4_ok, nmX4, rfl, tyX4_ok 0 (by decide), rfl⟩
theorem wd_343 : (Jvm.Cond.constantLong "BitDesk$Reader" (15 : Nat) (255 : Int64)) ∈ WS := ws_c2 9 rfl rfl
theorem wd_130 : (Jvm.Cond.fieldLink "BitDesk$Reader" (17 : Nat) "BitDesk$Reader" "length" "I") ∈ WS := ws_c1 36 rfl rfl
theorem fk_X4_17 : FK RX4 17 4 1 (.int) := ⟨RX4, TX4, 7, rfl, by decide, rfl, rfl, (Or.inl wd_130), inW4⟩
theorem fk_X4_9 : FK RX4 9 4 0 (.array .int) := ⟨RX4, TX4, 7, rfl, by decide, rfl, rfl, (Or.inl wd_129), inW4⟩
theorem fp_X4_17 : FP RX4 17 4 1 (.int) false := ⟨RX4, TX4, 7, tyX4, rfl, by decide, rfl, rfl, (Or.inl wd_130), inW4, tyX4_ok, nmX4, rfl, tyX4_ok 1 (by decide), rfl⟩
theorem wd_131 : (Jvm.Cond.fieldLink "BitDesk$Reader" (21 : Nat) "BitDesk$Reader" "position" "I") ∈ WS := ws_c1 37 rfl rfl
theorem fp_X4_21 : FP RX4 21 4 2 (.int) false := ⟨RX4, TX4, 7, tyX4, rfl, by decide, rfl, rfl, (Or.inl wd_131), inW4, tyX4_ok, nmX4, rfl, tyX4_ok 2 (by decide), rfl⟩
theorem wd_133 : (Jvm.Cond.fieldLink "BitDesk$Reader" (24 : Nat) "BitDesk$Reader" "statement" "I") ∈ WS := ws_c1 39 rfl rfl
theorem fp_X4_24 : FP RX4 24 4 4 (.int) false := ⟨RX4, TX4, 7, tyX4, rfl, by decide, rfl, rfl, (Or.inl wd_133), inW4, tyX4_ok, nmX4, rfl, tyX4_ok 4 (by decide), rfl⟩
theorem wd_135 : (Jvm.Cond.fieldLink "BitDesk$Reader" (27 : Nat) "BitDesk$Reader" "error" "I") ∈ WS := ws_c1 41 rfl rfl
theorem fp_X4_27 : FP RX4 27 4 5 (.int) false := ⟨RX4, TX4, 7, tyX4, rfl, by decide, rfl, rfl, (Or.inl wd_135), inW4, tyX4_ok, nmX4, rfl, tyX4_ok 5 (by decide), rfl⟩
theorem wd_137 : (Jvm.Cond.fieldLink "BitDesk$Reader" (30 : Nat) "BitDesk$Reader" "errorPosition" "I") ∈ WS := ws_c1 43 rfl rfl
theorem fp_X4_30 : FP RX4 30 4 6 (.int) false := ⟨RX4, TX4, 7, tyX4, rfl, by decide, rfl, rfl, (Or.inl wd_137), inW4, tyX4_ok, nmX4, rfl, tyX4_ok 6 (by decide), rfl⟩
theorem wd_355 : (Jvm.Cond.code ({ cls := "BitDesk$Reader", name := "readSize", desc := "(LBitDesk$State;)V" } : Jvm.MethodName) prog_6_method_4_code (2 : Nat) (Option.none : Option Jvm.ClassFile.FieldType)) ∈ WS := ws_c2 21 rfl rfl
theorem wd_352 : (Jvm.Cond.methodLink "BitDesk$Reader" (33 : Nat) ({ cls := "BitDesk$Reader", name := "readSize", desc := "(LBitDesk$State;)V" } : Jvm.MethodName)) ∈ WS := ws_c2 18 rfl rfl
theorem wd_354 : (Jvm.Cond.instanceMethod ({ cls := "BitDesk$Reader", name := "readSize", desc := "(LBitDesk$State;)V" } : Jvm.MethodName)) ∈ WS := ws_c2 20 rfl rfl
theorem wd_0 : (Jvm.Cond.selects "BitDesk$Reader" (⟨"BitDesk$Reader", "readSize", "(LBitDesk$State;)V"⟩ : Jvm.MethodName) (⟨"BitDesk$Reader", "readSize", "(LBitDesk$State;)V"⟩ : Jvm.MethodName)) ∈ WS := ws_c0 0 rfl rfl
theorem lk_X4_33 : LkV RX4 33 jX4_readSize 1 := ⟨⟨wd_352, ⟨rfl, (by rw [cwd_nil rfl]; exact wd_355)⟩, wd_96, ⟨by decide +kernel, by decide +kernel⟩, by decide +kernel⟩, wd_354, wd_0⟩
theorem wd_443 : (Jvm.Cond.code ({ cls := "BitDesk$Reader", name := "hasMore", desc := "()Z" } : Jvm.MethodName) prog_6_method_11_code (1 : Nat) (Option.some Jvm.ClassFile.FieldType.boolean)) ∈ WS := ws_c2 109 rfl rfl
theorem wd_440 : (Jvm.Cond.methodLink "BitDesk$Reader" (37 : Nat) ({ cls := "BitDesk$Reader", name := "hasMore", desc := "()Z" } : Jvm.MethodName)) ∈ WS := ws_c2 106 rfl rfl
theorem wd_442 : (Jvm.Cond.instanceMethod ({ cls := "BitDesk$Reader", name := "hasMore", desc := "()Z" } : Jvm.MethodName)) ∈ WS := ws_c2 108 rfl rfl
theorem wd_7 : (Jvm.Cond.selects "BitDesk$Reader" (⟨"BitDesk$Reader", "hasMore", "()Z"⟩ : Jvm.MethodName) (⟨"BitDesk$Reader", "hasMore", "()Z"⟩ : Jvm.MethodName)) ∈ WS := ws_c0 7 rfl rfl
theorem lk_X4_37 : LkV RX4 37 jX4_hasMore 0 := ⟨⟨wd_440, ⟨rfl, (by rw [cwd_nil rfl]; exact wd_443)⟩, wd_96, ⟨by decide +kernel, by decide +kernel⟩, by decide +kernel⟩, wd_442, wd_7⟩
theorem wd_447 : (Jvm.Cond.code ({ cls := "BitDesk$Reader", name := "takeSemicolon", desc := "()V" } : Jvm.MethodName) prog_6_method_12_code (1 : Nat) (Option.none : Option Jvm.ClassFile.FieldType)) ∈ WS := ws_c2 113 rfl rfl
theorem wd_444 : (Jvm.Cond.methodLink "BitDesk$Reader" (41 : Nat) ({ cls := "BitDesk$Reader", name := "takeSemicolon", desc := "()V" } : Jvm.MethodName)) ∈ WS := ws_c2 110 rfl rfl
theorem wd_446 : (Jvm.Cond.instanceMethod ({ cls := "BitDesk$Reader", name := "takeSemicolon", desc := "()V" } : Jvm.MethodName)) ∈ WS := ws_c2 112 rfl rfl
theorem wd_8 : (Jvm.Cond.selects "BitDesk$Reader" (⟨"BitDesk$Reader", "takeSemicolon", "()V"⟩ : Jvm.MethodName) (⟨"BitDesk$Reader", "takeSemicolon", "()V"⟩ : Jvm.MethodName)) ∈ WS := ws_c0 8 rfl rfl
theorem lk_X4_41 : LkV RX4 41 jX4_takeSemicolon 0 := ⟨⟨wd_444, ⟨rfl, (by rw [cwd_nil rfl]; exact wd_447)⟩, wd_96, ⟨by decide +kernel, by decide +kernel⟩, by decide +kernel⟩, wd_446, wd_8⟩
theorem fk_X4_27 : FK RX4 27 4 5 (.int) := ⟨RX4, TX4, 7, rfl, by decide, rfl, rfl, (Or.inl wd_135), inW4⟩
theorem wd_451 : (Jvm.Cond.code ({ cls := "BitDesk$Reader", name := "readStatement", desc := "(LBitDesk$State;)V" } : Jvm.MethodName) prog_6_method_5_code (2 : Nat) (Option.none : Option Jvm.ClassFile.FieldType)) ∈ WS := ws_c2 117 rfl rfl
theorem wd_448 : (Jvm.Cond.methodLink "BitDesk$Reader" (44 : Nat) ({ cls := "BitDesk$Reader", name := "readStatement", desc := "(LBitDesk$State;)V" } : Jvm.MethodName)) ∈ WS := ws_c2 114 rfl rfl
theorem wd_450 : (Jvm.Cond.instanceMethod ({ cls := "BitDesk$Reader", name := "readStatement", desc := "(LBitDesk$State;)V" } : Jvm.MethodName)) ∈ WS := ws_c2 116 rfl rfl
theorem wd_9 : (Jvm.Cond.selects "BitDesk$Reader" (⟨"BitDesk$Reader", "readStatement", "(LBitDesk$State;)V"⟩ : Jvm.MethodName) (⟨"BitDesk$Reader", "readStatement", "(LBitDesk$State;)V"⟩ : Jvm.MethodName)) ∈ WS := ws_c0 9 rfl rfl
theorem lk_X4_44 : LkV RX4 44 jX4_readStatement 1 := ⟨⟨wd_448, ⟨rfl, (by rw [cwd_nil rfl]; exact wd_451)⟩, wd_96, ⟨by decide +kernel, by decide +kernel⟩, by decide +kernel⟩, wd_450, wd_9⟩
theorem fk_X4_47 : FK RX4 47 5 0 (.array (.object "BitDesk$Matrix")) := ⟨RX5, TX5, 5, rfl, by decide, rfl, rfl, (Or.inr ⟨_, wn_f10⟩), inW5⟩
theorem fk_X4_53 : FK RX4 53 5 1 (.int) := ⟨RX5, TX5, 5, rfl, by decide, rfl, rfl, (Or.inr ⟨_, wn_f14⟩), inW5⟩
theorem wd_491 : (Jvm.Cond.code ({ cls := "BitDesk$Matrix", name := "noteMadeAnew", desc := "(I)V" } : Jvm.MethodName) prog_4_method_5_code (2 : Nat) (Option.none : Option Jvm.ClassFile.FieldType)) ∈ WS := ws_c2 157 rfl rfl
theorem wd_488 : (Jvm.Cond.methodLink "BitDesk$Reader" (56 : Nat) ({ cls := "BitDesk$Matrix", name := "noteMadeAnew", desc := "(I)V" } : Jvm.MethodName)) ∈ WS := ws_c2 154 rfl rfl
theorem wd_489 : (Jvm.Cond.instanceMethod ({ cls := "BitDesk$Matrix", name := "noteMadeAnew", desc := "(I)V" } : Jvm.MethodName)) ∈ WS := ws_c2 155 rfl rfl
theorem wd_490 : (Jvm.Cond.selects "BitDesk$Matrix" ({ cls := "BitDesk$Matrix", name := "noteMadeAnew", desc := "(I)V" } : Jvm.MethodName) ({ cls := "BitDesk$Matrix", name := "noteMadeAnew", desc := "(I)V" } : Jvm.MethodName)) ∈ WS := ws_c2 156 rfl rfl
theorem lk_X4_56 : LkV RX4 56 jX2_noteMadeAnew 1 := ⟨⟨wd_488, ⟨rfl, (by rw [cwd_nil rfl]; exact wd_491)⟩, wd_98, ⟨by decide +kernel, by decide +kernel⟩, by decide +kernel⟩, wd_489, wd_490⟩
theorem wd_359 : (Jvm.Cond.code ({ cls := "BitDesk$Reader", name := "takeWord", desc := "()V" } : Jvm.MethodName) prog_6_method_13_code (1 : Nat) (Option.none : Option Jvm.ClassFile.FieldType)) ∈ WS := ws_c2 25 rfl rfl
theorem wd_356 : (Jvm.Cond.methodLink "BitDesk$Reader" (62 : Nat) ({ cls := "BitDesk$Reader", name := "takeWord", desc := "()V" } : Jvm.MethodName)) ∈ WS := ws_c2 22 rfl rfl
theorem wd_358 : (Jvm.Cond.instanceMethod ({ cls := "BitDesk$Reader", name := "takeWord", desc := "()V" } : Jvm.MethodName)) ∈ WS := ws_c2 24 rfl rfl
theorem wd_1 : (Jvm.Cond.selects "BitDesk$Reader" (⟨"BitDesk$Reader", "takeWord", "()V"⟩ : Jvm.MethodName) (⟨"BitDesk$Reader", "takeWord", "()V"⟩ : Jvm.MethodName)) ∈ WS := ws_c0 1 rfl rfl
theorem lk_X4_62 : LkV RX4 62 jX4_takeWord 0 := ⟨⟨wd_356, ⟨rfl, (by rw [cwd_nil rfl]; exact wd_359)⟩, wd_96, ⟨by decide +kernel, by decide +kernel⟩, by decide +kernel⟩, wd_358, wd_1⟩
theorem wd_368 : (Jvm.Cond.code ({ cls := "BitDesk$Reader", name := "isWord", desc := "(Ljava/lang/String;)Z" } : Jvm.MethodName) prog_6_method_18_code (3 : Nat) (Option.some Jvm.ClassFile.FieldType.boolean)) ∈ WS := ws_c2 34 rfl rfl
theorem wd_365 : (Jvm.Cond.methodLink "BitDesk$Reader" (66 : Nat) ({ cls := "BitDesk$Reader", name := "isWord", desc := "(Ljava/lang/String;)Z" } : Jvm.MethodName)) ∈ WS := ws_c2 31 rfl rfl
theorem wd_367 : (Jvm.Cond.instanceMethod ({ cls := "BitDesk$Reader", name := "isWord", desc := "(Ljava/lang/String;)Z" } : Jvm.MethodName)) ∈ WS := ws_c2 33 rfl rfl
theorem wd_3 : (Jvm.Cond.selects "BitDesk$Reader" (⟨"BitDesk$Reader", "isWord", "(Ljava/lang/String;)Z"⟩ : Jvm.MethodName) (⟨"BitDesk$Reader", "isWord", "(Ljava/lang/String;)Z"⟩ : Jvm.MethodName)) ∈ WS := ws_c0 3 rfl rfl
theorem lk_X4_66 : LkV RX4 66 jX4_isWord 1 := ⟨⟨wd_365, ⟨rfl, (by rw [cwd_nil rfl]; exact wd_368)⟩, wd_96, ⟨by decide +kernel, by decide +kernel⟩, by decide +kernel⟩, wd_367, wd_3⟩
theorem wd_132 : (Jvm.Cond.fieldLink "BitDesk$Reader" (70 : Nat) "BitDesk$Reader" "start" "I") ∈ WS := ws_c1 38 rfl rfl
theorem fk_X4_70 : FK RX4 70 4 3 (.int) := ⟨RX4, TX4, 7, rfl, by decide, rfl, rfl, (Or.inl wd_132), inW4⟩
theorem wd_420 : (Jvm.Cond.code ({ cls := "BitDesk$Reader", name := "fail", desc := "(II)V" } : Jvm.MethodName) prog_6_method_19_code (3 : Nat) (Option.none : Option Jvm.ClassFile.FieldType)) ∈ WS := ws_c2 86 rfl rfl
theorem wd_417 : (Jvm.Cond.methodLink "BitDesk$Reader" (73 : Nat) ({ cls := "BitDesk$Reader", name := "fail", desc := "(II)V" } : Jvm.MethodName)) ∈ WS := ws_c2 83 rfl rfl
theorem wd_419 : (Jvm.Cond.instanceMethod ({ cls := "BitDesk$Reader", name := "fail", desc := "(II)V" } : Jvm.MethodName)) ∈ WS := ws_c2 85 rfl rfl
theorem wd_4 : (Jvm.Cond.selects "BitDesk$Reader" (⟨"BitDesk$Reader", "fail", "(II)V"⟩ : Jvm.MethodName) (⟨"BitDesk$Reader", "fail", "(II)V"⟩ : Jvm.MethodName)) ∈ WS := ws_c0 4 rfl rfl
theorem lk_X4_73 : LkV RX4 73 jX4_fail 2 := ⟨⟨wd_417, ⟨rfl, (by rw [cwd_nil rfl]; exact wd_420)⟩, wd_96, ⟨by decide +kernel, by decide +kernel⟩, by decide +kernel⟩, wd_419, wd_4⟩
theorem wd_424 : (Jvm.Cond.code ({ cls := "BitDesk$Reader", name := "takeNumber", desc := "(II)I" } : Jvm.MethodName) prog_6_method_15_code (5 : Nat) (Option.some Jvm.ClassFile.FieldType.int)) ∈ WS := ws_c2 90 rfl rfl
theorem wd_421 : (Jvm.Cond.methodLink "BitDesk$Reader" (77 : Nat) ({ cls := "BitDesk$Reader", name := "takeNumber", desc := "(II)I" } : Jvm.MethodName)) ∈ WS := ws_c2 87 rfl rfl
theorem wd_423 : (Jvm.Cond.instanceMethod ({ cls := "BitDesk$Reader", name := "takeNumber", desc := "(II)I" } : Jvm.MethodName)) ∈ WS := ws_c2 89 rfl rfl
theorem wd_5 : (Jvm.Cond.selects "BitDesk$Reader" (⟨"BitDesk$Reader", "takeNumber", "(II)I"⟩ : Jvm.MethodName) (⟨"BitDesk$Reader", "takeNumber", "(II)I"⟩ : Jvm.MethodName)) ∈ WS := ws_c0 5 rfl rfl
theorem lk_X4_77 : LkV RX4 77 jX4_takeNumber 2 := ⟨⟨wd_421, ⟨rfl, (by rw [cwd_nil rfl]; exact wd_424)⟩, wd_96, ⟨by decide +kernel, by decide +kernel⟩, by decide +kernel⟩, wd_423, wd_5⟩
theorem wd_435 : (Jvm.Cond.code ({ cls := "BitDesk$State", name := "makeEmpty", desc := "(I)V" } : Jvm.MethodName) prog_7_method_2_code (3 : Nat) (Option.none : Option Jvm.ClassFile.FieldType)) ∈ WS := ws_c2 101 rfl rfl
theorem wd_432 : (Jvm.Cond.methodLink "BitDesk$Reader" (81 : Nat) ({ cls := "BitDesk$State", name := "makeEmpty", desc := "(I)V" } : Jvm.MethodName)) ∈ WS := ws_c2 98 rfl rfl
theorem wd_433 : (Jvm.Cond.instanceMethod ({ cls := "BitDesk$State", name := "makeEmpty", desc := "(I)V" } : Jvm.MethodName)) ∈ WS := ws_c2 99 rfl rfl
theorem wd_434 : (Jvm.Cond.selects "BitDesk$State" ({ cls := "BitDesk$State", name := "makeEmpty", desc := "(I)V" } : Jvm.MethodName) ({ cls := "BitDesk$State", name := "makeEmpty", desc := "(I)V" } : Jvm.MethodName)) ∈ WS := ws_c2 100 rfl rfl
theorem lk_X4_81 : LkV RX4 81 jX5_makeEmpty 1 := ⟨⟨wd_432, ⟨rfl, (by rw [cwd_nil rfl]; exact wd_435)⟩, wd_97, ⟨by decide +kernel, by decide +kernel⟩, by decide +kernel⟩, wd_433, wd_434⟩
theorem wd_456 : (Jvm.Cond.code ({ cls := "BitDesk$Reader", name := "readEdge", desc := "(LBitDesk$State;)V" } : Jvm.MethodName) prog_6_method_6_code (5 : Nat) (Option.none : Option Jvm.ClassFile.FieldType)) ∈ WS := ws_c2 122 rfl rfl
theorem wd_453 : (Jvm.Cond.methodLink "BitDesk$Reader" (86 : Nat) ({ cls := "BitDesk$Reader", name := "readEdge", desc := "(LBitDesk$State;)V" } : Jvm.MethodName)) ∈ WS := ws_c2 119 rfl rfl
theorem wd_455 : (Jvm.Cond.instanceMethod ({ cls := "BitDesk$Reader", name := "readEdge", desc := "(LBitDesk$State;)V" } : Jvm.MethodName)) ∈ WS := ws_c2 121 rfl rfl
theorem wd_10 : (Jvm.Cond.selects "BitDesk$Reader" (⟨"BitDesk$Reader", "readEdge", "(LBitDesk$State;)V"⟩ : Jvm.MethodName) (⟨"BitDesk$Reader", "readEdge", "(LBitDesk$State;)V"⟩ : Jvm.MethodName)) ∈ WS := ws_c0 10 rfl rfl
theorem lk_X4_86 : LkV RX4 86 jX4_readEdge 1 := ⟨⟨wd_453, ⟨rfl, (by rw [cwd_nil rfl]; exact wd_456)⟩, wd_96, ⟨by decide +kernel, by decide +kernel⟩, by decide +kernel⟩, wd_455, wd_10⟩
theorem wd_461 : (Jvm.Cond.code ({ cls := "BitDesk$Reader", name := "readRow", desc := "(LBitDesk$State;)V" } : Jvm.MethodName) prog_6_method_7_code (4 : Nat) (Option.none : Option Jvm.ClassFile.FieldType)) ∈ WS := ws_c2 127 rfl rfl
theorem wd_458 : (Jvm.Cond.methodLink "BitDesk$Reader" (91 : Nat) ({ cls := "BitDesk$Reader", name := "readRow", desc := "(LBitDesk$State;)V" } : Jvm.MethodName)) ∈ WS := ws_c2 124 rfl rfl
theorem wd_460 : (Jvm.Cond.instanceMethod ({ cls := "BitDesk$Reader", name := "readRow", desc := "(LBitDesk$State;)V" } : Jvm.MethodName)) ∈ WS := ws_c2 126 rfl rfl
theorem wd_11 : (Jvm.Cond.selects "BitDesk$Reader" (⟨"BitDesk$Reader", "readRow", "(LBitDesk$State;)V"⟩ : Jvm.MethodName) (⟨"BitDesk$Reader", "readRow", "(LBitDesk$State;)V"⟩ : Jvm.MethodName)) ∈ WS := ws_c0 11 rfl rfl
theorem lk_X4_91 : LkV RX4 91 jX4_readRow 1 := ⟨⟨wd_458, ⟨rfl, (by rw [cwd_nil rfl]; exact wd_461)⟩, wd_96, ⟨by decide +kernel, by decide +kernel⟩, by decide +kernel⟩, wd_460, wd_11⟩
theorem wd_470 : (Jvm.Cond.code ({ cls := "BitDesk$Reader", name := "readFill", desc := "(LBitDesk$State;)V" } : Jvm.MethodName) prog_6_method_9_code (4 : Nat) (Option.none : Option Jvm.ClassFile.FieldType)) ∈ WS := ws_c2 136 rfl rfl
theorem wd_467 : (Jvm.Cond.methodLink "BitDesk$Reader" (96 : Nat) ({ cls := "BitDesk$Reader", name := "readFill", desc := "(LBitDesk$State;)V" } : Jvm.MethodName)) ∈ WS := ws_c2 133 rfl rfl
theorem wd_469 : (Jvm.Cond.instanceMethod ({ cls := "BitDesk$Reader", name := "readFill", desc := "(LBitDesk$State;)V" } : Jvm.MethodName)) ∈ WS := ws_c2 135 rfl rfl
theorem wd_13 : (Jvm.Cond.selects "BitDesk$Reader" (⟨"BitDesk$Reader", "readFill", "(LBitDesk$State;)V"⟩ : Jvm.MethodName) (⟨"BitDesk$Reader", "readFill", "(LBitDesk$State;)V"⟩ : Jvm.MethodName)) ∈ WS := ws_c0 13 rfl rfl
theorem lk_X4_96 : LkV RX4 96 jX4_readFill 1 := ⟨⟨wd_467, ⟨rfl, (by rw [cwd_nil rfl]; exact wd_470)⟩, wd_96, ⟨by decide +kernel, by decide +kernel⟩, by decide +kernel⟩, wd_469, wd_13⟩
theorem wd_486 : (Jvm.Cond.code ({ cls := "BitDesk$Reader", name := "readKeep", desc := "(LBitDesk$State;)V" } : Jvm.MethodName) prog_6_method_8_code (3 : Nat) (Option.none : Option Jvm.ClassFile.FieldType)) ∈ WS := ws_c2 152 rfl rfl
theorem wd_483 : (Jvm.Cond.methodLink "BitDesk$Reader" (101 : Nat) ({ cls := "BitDesk$Reader", name := "readKeep", desc := "(LBitDesk$State;)V" } : Jvm.MethodName)) ∈ WS := ws_c2 149 rfl rfl
theorem wd_485 : (Jvm.Cond.instanceMethod ({ cls := "BitDesk$Reader", name := "readKeep", desc := "(LBitDesk$State;)V" } : Jvm.MethodName)) ∈ WS := ws_c2 151 rfl rfl
theorem wd_15 : (Jvm.Cond.selects "BitDesk$Reader" (⟨"BitDesk$Reader", "readKeep", "(LBitDesk$State;)V"⟩ : Jvm.MethodName) (⟨"BitDesk$Reader", "readKeep", "(LBitDesk$State;)V"⟩ : Jvm.MethodName)) ∈ WS := ws_c0 15 rfl rfl
theorem lk_X4_101 : LkV RX4 101 jX4_readKeep 1 := ⟨⟨wd_483, ⟨rfl, (by rw [cwd_nil rfl]; exact wd_486)⟩, wd_96, ⟨by decide +kernel, by decide +kernel⟩, by decide +kernel⟩, wd_485, wd_15⟩
theorem fp_X4_106 : FP RX4 106 5 2 (.int) false := ⟨RX5, TX5, 5, tyX5, rfl, by decide, rfl, rfl, (Or.inr ⟨_, wn_f16⟩), inW5, tyX5_ok, nmX5, rfl, tyX5_ok 2 (by decide), rfl⟩
theorem fk_X4_108 : FK RX4 108 2 0 (.array .int) := ⟨RX2, TX2, 5, rfl, by decide, rfl, rfl, (Or.inr ⟨_, wn_f3⟩), inW2⟩
theorem wd_465 : (Jvm.Cond.code ({ cls := "BitDesk$Reader", name := "takeBits", desc := "(I)I" } : Jvm.MethodName) prog_6_method_16_code (5 : Nat) (Option.some Jvm.ClassFile.FieldType.int)) ∈ WS := ws_c2 131 rfl rfl
theorem wd_462 : (Jvm.Cond.methodLink "BitDesk$Reader" (111 : Nat) ({ cls := "BitDesk$Reader", name := "takeBits", desc := "(I)I" } : Jvm.MethodName)) ∈ WS := ws_c2 128 rfl rfl
theorem wd_464 : (Jvm.Cond.instanceMethod ({ cls := "BitDesk$Reader", name := "takeBits", desc := "(I)I" } : Jvm.MethodName)) ∈ WS := ws_c2 130 rfl rfl
theorem wd_12 : (Jvm.Cond.selects "BitDesk$Reader" (⟨"BitDesk$Reader", "takeBits", "(I)I"⟩ : Jvm.MethodName) (⟨"BitDesk$Reader", "takeBits", "(I)I"⟩ : Jvm.MethodName)) ∈ WS := ws_c0 12 rfl rfl
theorem lk_X4_111 : LkV RX4 111 jX4_takeBits 1 := ⟨⟨wd_462, ⟨rfl, (by rw [cwd_nil rfl]; exact wd_465)⟩, wd_96, ⟨by decide +kernel, by decide +kernel⟩, by decide +kernel⟩, wd_464, wd_12⟩
theorem fk_X4_115 : FK RX4 115 2 1 (.boolean) := ⟨RX2, TX2, 5, rfl, by decide, rfl, rfl, (Or.inr ⟨_, wn_f5⟩), inW2⟩
theorem fp_X4_115 : FP RX4 115 2 1 (.boolean) false := ⟨RX2, TX2, 5, tyX2, rfl, by decide, rfl, rfl, (Or.inr ⟨_, wn_f5⟩), inW2, tyX2_ok, nmX2, rfl, tyX2_ok 1 (by decide), rfl⟩
theorem wd_474 : (Jvm.Cond.code ({ cls := "BitDesk$Reader", name := "rowOfKind", desc := "(II)I" } : Jvm.MethodName) prog_6_method_10_code (3 : Nat) (Option.some Jvm.ClassFile.FieldType.int)) ∈ WS := ws_c2 140 rfl rfl
theorem wd_471 : (Jvm.Cond.methodLink "BitDesk$Reader" (119 : Nat) ({ cls := "BitDesk$Reader", name := "rowOfKind", desc := "(II)I" } : Jvm.MethodName)) ∈ WS := ws_c2 137 rfl rfl
theorem wd_473 : (Jvm.Cond.instanceMethod ({ cls := "BitDesk$Reader", name := "rowOfKind", desc := "(II)I" } : Jvm.MethodName)) ∈ WS := ws_c2 139 rfl rfl
theorem wd_14 : (Jvm.Cond.selects "BitDesk$Reader" (⟨"BitDesk$Reader", "rowOfKind", "(II)I"⟩ : Jvm.MethodName) (⟨"BitDesk$Reader", "rowOfKind", "(II)I"⟩ : Jvm.MethodName)) ∈ WS := ws_c0 14 rfl rfl
theorem lk_X4_119 : LkV RX4 119 jX4_rowOfKind 2 := ⟨⟨wd_471, ⟨rfl, (by rw [cwd_nil rfl]; exact wd_474)⟩, wd_96, ⟨by decide +kernel, by decide +kernel⟩, by decide +kernel⟩, wd_473, wd_14⟩
theorem lk_X4_126 : LkSN RX4 126 jX6_lowest 1 := ⟨⟨⟨_, wn_m0⟩, ⟨rfl, (by rw [cwd_nil rfl]; exact wd_479)⟩, wd_95, ⟨by decide +kernel, by decide +kernel⟩, by decide +kernel⟩, wd_478⟩
theorem wd_363 : (Jvm.Cond.code ({ cls := "BitDesk$Reader", name := "skipSpaces", desc := "()V" } : Jvm.MethodName) prog_6_method_17_code (1 : Nat) (Option.none : Option Jvm.ClassFile.FieldType)) ∈ WS := ws_c2 29 rfl rfl
theorem wd_360 : (Jvm.Cond.methodLink "BitDesk$Reader" (133 : Nat) ({ cls := "BitDesk$Reader", name := "skipSpaces", desc := "()V" } : Jvm.MethodName)) ∈ WS := ws_c2 26 rfl rfl
theorem wd_362 : (Jvm.Cond.instanceMethod ({ cls := "BitDesk$Reader", name := "skipSpaces", desc := "()V" } : Jvm.MethodName)) ∈ WS := ws_c2 28 rfl rfl
theorem wd_2 : (Jvm.Cond.selects "BitDesk$Reader" (⟨"BitDesk$Reader", "skipSpaces", "()V"⟩ : Jvm.MethodName) (⟨"BitDesk$Reader", "skipSpaces", "()V"⟩ : Jvm.MethodName)) ∈ WS := ws_c0 2 rfl rfl
theorem lk_X4_133 : LkV RX4 133 jX4_skipSpaces 0 := ⟨⟨wd_360, ⟨rfl, (by rw [cwd_nil rfl]; exact wd_363)⟩, wd_96, ⟨by decide +kernel, by decide +kernel⟩, by decide +kernel⟩, wd_362, wd_2⟩
theorem fk_X4_21 : FK RX4 21 4 2 (.int) := ⟨RX4, TX4, 7, rfl, by decide, rfl, rfl, (Or.inl wd_131), inW4⟩
theorem fk_X4_24 : FK RX4 24 4 4 (.int) := ⟨RX4, TX4, 7, rfl, by decide, rfl, rfl, (Or.inl wd_133), inW4⟩
theorem fp_X4_70 : FP RX4 70 4 3 (.int) false := ⟨RX4, TX4, 7, tyX4, rfl, by decide, rfl, rfl, (Or.inl wd_132), inW4, tyX4_ok, nmX4, rfl, tyX4_ok 3 (by decide), rfl⟩
theorem wd_428 : (Jvm.Cond.code ({ cls := "BitDesk$Reader", name := "takeDigits", desc := "()V" } : Jvm.MethodName) prog_6_method_14_code (1 : Nat) (Option.none : Option Jvm.ClassFile.FieldType)) ∈ WS := ws_c2 94 rfl rfl
theorem wd_425 : (Jvm.Cond.methodLink "BitDesk$Reader" (136 : Nat) ({ cls := "BitDesk$Reader", name := "takeDigits", desc := "()V" } : Jvm.MethodName)) ∈ WS := ws_c2 91 rfl rfl
theorem wd_427 : (Jvm.Cond.instanceMethod ({ cls := "BitDesk$Reader", name := "takeDigits", desc := "()V" } : Jvm.MethodName)) ∈ WS := ws_c2 93 rfl rfl
theorem wd_6 : (Jvm.Cond.selects "BitDesk$Reader" (⟨"BitDesk$Reader", "takeDigits", "()V"⟩ : Jvm.MethodName) (⟨"BitDesk$Reader", "takeDigits", "()V"⟩ : Jvm.MethodName)) ∈ WS := ws_c0 6 rfl rfl
theorem lk_X4_136 : LkV RX4 136 jX4_takeDigits 0 := ⟨⟨wd_425, ⟨rfl, (by rw [cwd_nil rfl]; exact wd_428)⟩, wd_96, ⟨by decide +kernel, by decide +kernel⟩, by decide +kernel⟩, wd_427, wd_6⟩
theorem wd_429 : (Jvm.Cond.methodLink "BitDesk$Reader" (139 : Nat) ({ cls := "java/lang/Math", name := "min", desc := "(II)I" } : Jvm.MethodName)) ∈ WS := ws_c2 95 rfl rfl
theorem lk_X4_139 : LkS RX4 139 jJ9_min_7cf53 2 := ⟨⟨wd_429, ⟨rfl, (by rw [cwd_nil rfl]; exact wd_431)⟩, wd_107, ⟨by decide +kernel, by decide +kernel⟩, by decide +kernel⟩, wd_430⟩
theorem wd_372 : (Jvm.Cond.code ({ cls := "java/lang/String", name := "length", desc := "()I" } : Jvm.MethodName) prog_16_method_54_code (1 : Nat) (Option.some Jvm.ClassFile.FieldType.int)) ∈ WS := ws_c2 38 rfl rfl
theorem wd_369 : (Jvm.Cond.methodLink "BitDesk$Reader" (144 : Nat) ({ cls := "java/lang/String", name := "length", desc := "()I" } : Jvm.MethodName)) ∈ WS := ws_c2 35 rfl rfl
theorem wd_370 : (Jvm.Cond.instanceMethod ({ cls := "java/lang/String", name := "length", desc := "()I" } : Jvm.MethodName)) ∈ WS := ws_c2 36 rfl rfl
theorem wd_371 : (Jvm.Cond.selects "java/lang/String" ({ cls := "java/lang/String", name := "length", desc := "()I" } : Jvm.MethodName) ({ cls := "java/lang/String", name := "length", desc := "()I" } : Jvm.MethodName)) ∈ WS := ws_c2 37 rfl rfl
theorem lk_X4_144 : LkV RX4 144 jJ0_length_8abf5 0 := ⟨⟨wd_369, ⟨rfl, (by rw [cwd_nil rfl]; exact wd_372)⟩, wd_103, ⟨by decide +kernel, by decide +kernel⟩, by decide +kernel⟩, wd_370, wd_371⟩
theorem wd_382 : (Jvm.Cond.code ({ cls := "java/lang/String", name := "charAt", desc := "(I)C" } : Jvm.MethodName) prog_16_method_56_code (2 : Nat) (Option.some Jvm.ClassFile.FieldType.char)) ∈ WS := ws_c2 48 rfl rfl
theorem wd_379 : (Jvm.Cond.methodLink "BitDesk$Reader" (149 : Nat) ({ cls := "java/lang/String", name := "charAt", desc := "(I)C" } : Jvm.MethodName)) ∈ WS := ws_c2 45 rfl rfl
theorem wd_380 : (Jvm.Cond.instanceMethod ({ cls := "java/lang/String", name := "charAt", desc := "(I)C" } : Jvm.MethodName)) ∈ WS := ws_c2 46 rfl rfl
theorem wd_381 : (Jvm.Cond.selects "java/lang/String" ({ cls := "java/lang/String", name := "charAt", desc := "(I)C" } : Jvm.MethodName) ({ cls := "java/lang/String", name := "charAt", desc := "(I)C" } : Jvm.MethodName)) ∈ WS := ws_c2 47 rfl rfl
theorem lk_X4_149 : LkV RX4 149 jJ0_charAt_5068e 1 := ⟨⟨wd_379, ⟨rfl, (by rw [cwd_nil rfl]; exact wd_382)⟩, wd_103, ⟨by decide +kernel, by decide +kernel⟩, by decide +kernel⟩, wd_380, wd_381⟩
theorem wd_160 : (Jvm.Cond.methodLink "BitDesk$State" (3 : Nat) ({ cls := "java/lang/Object", name := "<init>", desc := "()V" } : Jvm.MethodName)) ∈ WS := ws_c1 66 rfl rfl
theorem wd_161 : (Jvm.Cond.classLink "BitDesk$State" (9 : Nat) "BitDesk$Matrix") ∈ WS := ws_c1 67 rfl rfl
theorem wd_191 : (Jvm.Cond.fieldLink "BitDesk$State" (11 : Nat) "BitDesk$State" "slots" "[LBitDesk$Matrix;") ∈ WS := ws_c1 97 rfl rfl
theorem fp_X5_11 : FP RX5 11 5 0 (.array (.object "BitDesk$Matrix")) true := ⟨RX5, TX5, 5, tyX5, rfl, by decide, rfl, rfl, (Or.inl wd_191), inW5, tyX5_ok, nmX5, rfl, tyX5_ok 0 (by decide), rfl⟩
theorem fk_X5_11 : FK RX5 11 5 0 (.array (.object "BitDesk$Matrix")) := ⟨RX5, TX5, 5, rfl, by decide, rfl, rfl, (Or.inl wd_191), inW5⟩
theorem wd_163 : (Jvm.Cond.instantiable "BitDesk$Matrix" (5 : Nat)) ∈ WS := ws_c1 69 rfl rfl
theorem wd_166 : (Jvm.Cond.code ({ cls := "BitDesk$Matrix", name := "<init>", desc := "()V" } : Jvm.MethodName) prog_4_method_1_code (1 : Nat) (Option.none : Option Jvm.ClassFile.FieldType)) ∈ WS := ws_c1 72 rfl rfl
theorem wd_164 : (Jvm.Cond.methodLink "BitDesk$State" (17 : Nat) ({ cls := "BitDesk$Matrix", name := "<init>", desc := "()V" } : Jvm.MethodName)) ∈ WS := ws_c1 70 rfl rfl
theorem wd_165 : (Jvm.Cond.instanceMethod ({ cls := "BitDesk$Matrix", name := "<init>", desc := "()V" } : Jvm.MethodName)) ∈ WS := ws_c1 71 rfl rfl
theorem lk_X5_17 : LkI RX5 17 jX2_init 0 := ⟨⟨wd_164, ⟨rfl, (by rw [cwd_nil rfl]; exact wd_166)⟩, wd_98, ⟨by decide +kernel, by decide +kernel⟩, by decide +kernel⟩, wd_165, rfl, rfl⟩
theorem wd_194 : (Jvm.Cond.fieldLink "BitDesk$State" (18 : Nat) "BitDesk$State" "size" "I") ∈ WS := ws_c1 100 rfl rfl
theorem fp_X5_18 : FP RX5 18 5 1 (.int) false := ⟨RX5, TX5, 5, tyX5, rfl, by decide, rfl, rfl, (Or.inl wd_194), inW5, tyX5_ok, nmX5, rfl, tyX5_ok 1 (by decide), rfl⟩
theorem wd_198 : (Jvm.Cond.fieldLink "BitDesk$State" (22 : Nat) "BitDesk$State" "block" "I") ∈ WS := ws_c1 104 rfl rfl
theorem fp_X5_22 : FP RX5 22 5 2 (.int) false := ⟨RX5, TX5, 5, tyX5, rfl, by decide, rfl, rfl, (Or.inl wd_198), inW5, tyX5_ok, nmX5, rfl, tyX5_ok 2 (by decide), rfl⟩
theorem wd_439 : (Jvm.Cond.code ({ cls := "BitDesk$Matrix", name := "makeEmpty", desc := "()V" } : Jvm.MethodName) prog_4_method_2_code (2 : Nat) (Option.none : Option Jvm.ClassFile.FieldType)) ∈ WS := ws_c2 105 rfl rfl
theorem wd_436 : (Jvm.Cond.methodLink "BitDesk$State" (25 : Nat) ({ cls := "BitDesk$Matrix", name := "makeEmpty", desc := "()V" } : Jvm.MethodName)) ∈ WS := ws_c2 102 rfl rfl
theorem wd_437 : (Jvm.Cond.instanceMethod ({ cls := "BitDesk$Matrix", name := "makeEmpty", desc := "()V" } : Jvm.MethodName)) ∈ WS := ws_c2 103 rfl rfl
theorem wd_438 : (Jvm.Cond.selects "BitDesk$Matrix" ({ cls := "BitDesk$Matrix", name := "makeEmpty", desc := "()V" } : Jvm.MethodName) ({ cls := "BitDesk$Matrix", name := "makeEmpty", desc := "()V" } : Jvm.MethodName)) ∈ WS := ws_c2 104 rfl rfl
theorem lk_X5_25 : LkV RX5 25 jX2_makeEmpty 0 := ⟨⟨wd_436, ⟨rfl, (by rw [cwd_nil rfl]; exact wd_439)⟩, wd_98, ⟨by decide +kernel, by decide +kernel⟩, by decide +kernel⟩, wd_437, wd_438⟩
theorem wd_202 : (Jvm.Cond.fieldLink "BitDesk$State" (28 : Nat) "BitDesk$State" "entriesMade" "I") ∈ WS := ws_c1 108 rfl rfl
theorem fp_X5_28 : FP RX5 28 5 3 (.int) false := ⟨RX5, TX5, 5, tyX5, rfl, by decide, rfl, rfl, (Or.inl wd_202), inW5, tyX5_ok, nmX5, rfl, tyX5_ok 3 (by decide), rfl⟩
theorem wd_204 : (Jvm.Cond.fieldLink "BitDesk$State" (31 : Nat) "BitDesk$State" "entriesTaken" "I") ∈ WS := ws_c1 110 rfl rfl
theorem fp_X5_31 : FP RX5 31 5 4 (.int) false := ⟨RX5, TX5, 5, tyX5, rfl, by decide, rfl, rfl, (Or.inl wd_204), inW5, tyX5_ok, nmX5, rfl, tyX5_ok 4 (by decide), rfl⟩
theorem wd_507 : (Jvm.Cond.code ({ cls := "BitDesk$Matrix", name := "takeFrom", desc := "(LBitDesk$Matrix;)V" } : Jvm.MethodName) prog_4_method_3_code (2 : Nat) (Option.none : Option Jvm.ClassFile.FieldType)) ∈ WS := ws_c2 173 rfl rfl
theorem wd_504 : (Jvm.Cond.methodLink "BitDesk$State" (34 : Nat) ({ cls := "BitDesk$Matrix", name := "takeFrom", desc := "(LBitDesk$Matrix;)V" } : Jvm.MethodName)) ∈ WS := ws_c2 170 rfl rfl
theorem wd_505 : (Jvm.Cond.instanceMethod ({ cls := "BitDesk$Matrix", name := "takeFrom", desc := "(LBitDesk$Matrix;)V" } : Jvm.MethodName)) ∈ WS := ws_c2 171 rfl rfl
theorem wd_506 : (Jvm.Cond.selects "BitDesk$Matrix" ({ cls := "BitDesk$Matrix", name := "takeFrom", desc := "(LBitDesk$Matrix;)V" } : Jvm.MethodName) ({ cls := "BitDesk$Matrix", name := "takeFrom", desc := "(LBitDesk$Matrix;)V" } : Jvm.MethodName)) ∈ WS := ws_c2 172 rfl rfl
theorem lk_X5_34 : LkV RX5 34 jX2_takeFrom 1 := ⟨⟨wd_504, ⟨rfl, (by rw [cwd_nil rfl]; exact wd_507)⟩, wd_98, ⟨by decide +kernel, by decide +kernel⟩, by decide +kernel⟩, wd_505, wd_506⟩
theorem fk_X5_18 : FK RX5 18 5 1 (.int) := ⟨RX5, TX5, 5, rfl, by decide, rfl, rfl, (Or.inl wd_194), inW5⟩
theorem fk_X5_22 : FK RX5 22 5 2 (.int) := ⟨RX5, TX5, 5, rfl, by decide, rfl, rfl, (Or.inl wd_198), inW5⟩
theorem fk_X5_28 : FK RX5 28 5 3 (.int) := ⟨RX5, TX5, 5, rfl, by decide, rfl, rfl, (Or.inl wd_202), inW5⟩
theorem fk_X5_31 : FK RX5 31 5 4 (.int) := ⟨RX5, TX5, 5, rfl, by decide, rfl, rfl, (Or.inl wd_204), inW5⟩
theorem wd_120 : (Jvm.Cond.methodLink "BitDesk" (1 : Nat) ({ cls := "java/lang/Object", name := "<init>", desc := "()V" } : Jvm.MethodName)) ∈ WS := ws_c1 26 rfl rfl
theorem wd_123 : (Jvm.Cond.classLink "BitDesk" (7 : Nat) "BitDesk$Reader") ∈ WS := ws_c1 29 rfl rfl
theorem wd_124 : (Jvm.Cond.instantiable "BitDesk$Reader" (7 : Nat)) ∈ WS := ws_c1 30 rfl rfl
theorem wd_127 : (Jvm.Cond.code ({ cls := "BitDesk$Reader", name := "<init>", desc := "()V" } : Jvm.MethodName) prog_6_method_1_code (1 : Nat) (Option.none : Option Jvm.ClassFile.FieldType)) ∈ WS := ws_c1 33 rfl rfl
theorem wd_125 : (Jvm.Cond.methodLink "BitDesk" (9 : Nat) ({ cls := "BitDesk$Reader", name := "<init>", desc := "()V" } : Jvm.MethodName)) ∈ WS := ws_c1 31 rfl rfl
theorem wd_126 : (Jvm.Cond.instanceMethod ({ cls := "BitDesk$Reader", name := "<init>", desc := "()V" } : Jvm.MethodName)) ∈ WS := ws_c1 32 rfl rfl
theorem lk_X6_9 : LkI RX6 9 jX4_init 0 := ⟨⟨wd_125, ⟨rfl, (by rw [cwd_nil rfl]; exact wd_127)⟩, wd_96, ⟨by decide +kernel, by decide +kernel⟩, by decide +kernel⟩, wd_126, rfl, rfl⟩
theorem wd_289 : (Jvm.Cond.fieldLink "BitDesk" (10 : Nat) "BitDesk" "reader" "LBitDesk$Reader;") ∈ WS := ws_c1 195 rfl rfl
theorem fp_X6_10 : FP RX6 10 6 0 (.object "BitDesk$Reader") true := ⟨RX6, TX6, 15, tyX6, rfl, by decide, rfl, rfl, (Or.inl wd_289), inW6, tyX6_ok, nmX6, rfl, tyX6_ok 0 (by decide), rfl⟩
theorem wd_155 : (Jvm.Cond.classLink "BitDesk" (16 : Nat) "BitDesk$State") ∈ WS := ws_c1 61 rfl rfl
theorem wd_156 : (Jvm.Cond.instantiable "BitDesk$State" (5 : Nat)) ∈ WS := ws_c1 62 rfl rfl
theorem wd_159 : (Jvm.Cond.code ({ cls := "BitDesk$State", name := "<init>", desc := "()V" } : Jvm.MethodName) prog_7_method_1_code (2 : Nat) (Option.none : Option Jvm.ClassFile.FieldType)) ∈ WS := ws_c1 65 rfl rfl
theorem wd_157 : (Jvm.Cond.methodLink "BitDesk" (18 : Nat) ({ cls := "BitDesk$State", name := "<init>", desc := "()V" } : Jvm.MethodName)) ∈ WS := ws_c1 63 rfl rfl
theorem wd_158 : (Jvm.Cond.instanceMethod ({ cls := "BitDesk$State", name := "<init>", desc := "()V" } : Jvm.MethodName)) ∈ WS := ws_c1 64 rfl rfl
theorem lk_X6_18 : LkI RX6 18 jX5_init 0 := ⟨⟨wd_157, ⟨rfl, (by rw [cwd_nil rfl]; exact wd_159)⟩, wd_97, ⟨by decide +kernel, by decide +kernel⟩, by decide +kernel⟩, wd_158, rfl, rfl⟩
theorem wd_290 : (Jvm.Cond.fieldLink "BitDesk" (19 : Nat) "BitDesk" "state" "LBitDesk$State;") ∈ WS := ws_c1 196 rfl rfl
theorem fp_X6_19 : FP RX6 19 6 1 (.object "BitDesk$State") true := ⟨RX6, TX6, 15, tyX6, rfl, by decide, rfl, rfl, (Or.inl wd_290), inW6, tyX6_ok, nmX6, rfl, tyX6_ok 1 (by decide), rfl⟩
theorem wd_291 : (Jvm.Cond.fieldLink "BitDesk" (23 : Nat) "BitDesk" "described" "LBitDesk$State;") ∈ WS := ws_c1 197 rfl rfl
theorem fp_X6_23 : FP RX6 23 6 2 (.object "BitDesk$State") true := ⟨RX6, TX6, 15, tyX6, rfl, by decide, rfl, rfl, (Or.inl wd_291), inW6, tyX6_ok, nmX6, rfl, tyX6_ok 2 (by decide), rfl⟩
theorem wd_292 : (Jvm.Cond.fieldLink "BitDesk" (26 : Nat) "BitDesk" "past" "[LBitDesk$State;") ∈ WS := ws_c1 198 rfl rfl
theorem fp_X6_26 : FP RX6 26 6 3 (.array (.object "BitDesk$State")) true := ⟨RX6, TX6, 15, tyX6, rfl, by decide, rfl, rfl, (Or.inl wd_292), inW6, tyX6_ok, nmX6, rfl, tyX6_ok 3 (by decide), rfl⟩
theorem fk_X6_26 : FK RX6 26 6 3 (.array (.object "BitDesk$State")) := ⟨RX6, TX6, 15, rfl, by decide, rfl, rfl, (Or.inl wd_292), inW6⟩
theorem wd_295 : (Jvm.Cond.fieldLink "BitDesk" (30 : Nat) "BitDesk" "snapshots" "[LBitDesk$State;") ∈ WS := ws_c1 201 rfl rfl
theorem fp_X6_30 : FP RX6 30 6 6 (.array (.object "BitDesk$State")) true := ⟨RX6, TX6, 15, tyX6, rfl, by decide, rfl, rfl, (Or.inl wd_295), inW6, tyX6_ok, nmX6, rfl, tyX6_ok 6 (by decide), rfl⟩
theorem fk_X6_30 : FK RX6 30 6 6 (.array (.object "BitDesk$State")) := ⟨RX6, TX6, 15, rfl, by decide, rfl, rfl, (Or.inl wd_295), inW6⟩
theorem wd_296 : (Jvm.Cond.fieldLink "BitDesk" (33 : Nat) "BitDesk" "isSaved" "[Z") ∈ WS := ws_c1 202 rfl rfl
theorem fp_X6_33 : FP RX6 33 6 7 (.array .boolean) true := ⟨RX6, TX6, 15, tyX6, rfl, by decide, rfl, rfl, (Or.inl wd_296), inW6, tyX6_ok, nmX6, rfl, tyX6_ok 7 (by decide), rfl⟩
theorem wd_218 : (Jvm.Cond.classLink "BitDesk" (37 : Nat) "BitDesk$Closure") ∈ WS := ws_c1 124 rfl rfl
theorem wd_297 : (Jvm.Cond.fieldLink "BitDesk" (39 : Nat) "BitDesk" "closures" "[LBitDesk$Closure;") ∈ WS := ws_c1 203 rfl rfl
theorem fp_X6_39 : FP RX6 39 6 8 (.array (.object "BitDesk$Closure")) true := ⟨RX6, TX6, 15, tyX6, rfl, by decide, rfl, rfl, (Or.inl wd_297), inW6, tyX6_ok, nmX6, rfl, tyX6_ok 8 (by decide), rfl⟩
theorem fk_X6_39 : FK RX6 39 6 8 (.array (.object "BitDesk$Closure")) := ⟨RX6, TX6, 15, rfl, by decide, rfl, rfl, (Or.inl wd_297), inW6⟩
theorem wd_220 : (Jvm.Cond.instantiable "BitDesk$Closure" (2 : Nat)) ∈ WS := ws_c1 126 rfl rfl
theorem wd_223 : (Jvm.Cond.code ({ cls := "BitDesk$Closure", name := "<init>", desc := "()V" } : Jvm.MethodName) prog_2_method_1_code (1 : Nat) (Option.none : Option Jvm.ClassFile.FieldType)) ∈ WS := ws_c1 129 rfl rfl
theorem wd_221 : (Jvm.Cond.methodLink "BitDesk" (43 : Nat) ({ cls := "BitDesk$Closure", name := "<init>", desc := "()V" } : Jvm.MethodName)) ∈ WS := ws_c1 127 rfl rfl
theorem wd_222 : (Jvm.Cond.instanceMethod ({ cls := "BitDesk$Closure", name := "<init>", desc := "()V" } : Jvm.MethodName)) ∈ WS := ws_c1 128 rfl rfl
theorem lk_X6_43 : LkI RX6 43 jX0_init 0 := ⟨⟨wd_221, ⟨rfl, (by rw [cwd_nil rfl]; exact wd_223)⟩, wd_99, ⟨by decide +kernel, by decide +kernel⟩, by decide +kernel⟩, wd_222, rfl, rfl⟩
theorem wd_235 : (Jvm.Cond.classLink "BitDesk" (44 : Nat) "BitDesk$Multiplier") ∈ WS := ws_c1 141 rfl rfl
theorem wd_236 : (Jvm.Cond.instantiable "BitDesk$Multiplier" (8 : Nat)) ∈ WS := ws_c1 142 rfl rfl
theorem wd_239 : (Jvm.Cond.code ({ cls := "BitDesk$Multiplier", name := "<init>", desc := "()V" } : Jvm.MethodName) prog_5_method_1_code (1 : Nat) (Option.none : Option Jvm.ClassFile.FieldType)) ∈ WS := ws_c1 145 rfl rfl
theorem wd_237 : (Jvm.Cond.methodLink "BitDesk" (46 : Nat) ({ cls := "BitDesk$Multiplier", name := "<init>", desc := "()V" } : Jvm.MethodName)) ∈ WS := ws_c1 143 rfl rfl
theorem wd_238 : (Jvm.Cond.instanceMethod ({ cls := "BitDesk$Multiplier", name := "<init>", desc := "()V" } : Jvm.MethodName)) ∈ WS := ws_c1 144 rfl rfl
theorem lk_X6_46 : LkI RX6 46 jX3_init 0 := ⟨⟨wd_237, ⟨rfl, (by rw [cwd_nil rfl]; exact wd_239)⟩, wd_100, ⟨by decide +kernel, by decide +kernel⟩, by decide +kernel⟩, wd_238, rfl, rfl⟩
theorem wd_298 : (Jvm.Cond.fieldLink "BitDesk" (47 : Nat) "BitDesk" "multiplier" "LBitDesk$Multiplier;") ∈ WS := ws_c1 204 rfl rfl
theorem fp_X6_47 : FP RX6 47 6 9 (.object "BitDesk$Multiplier") true := ⟨RX6, TX6, 15, tyX6, rfl, by decide, rfl, rfl, (Or.inl wd_298), inW6, tyX6_ok, nmX6, rfl, tyX6_ok 9 (by decide), rfl⟩
theorem wd_268 : (Jvm.Cond.classLink "BitDesk" (51 : Nat) "BitDesk$Elimination") ∈ WS := ws_c1 174 rfl rfl
theorem wd_269 : (Jvm.Cond.instantiable "BitDesk$Elimination" (4 : Nat)) ∈ WS := ws_c1 175 rfl rfl
theorem wd_272 : (Jvm.Cond.code ({ cls := "BitDesk$Elimination", name := "<init>", desc := "()V" } : Jvm.MethodName) prog_3_method_1_code (1 : Nat) (Option.none : Option Jvm.ClassFile.FieldType)) ∈ WS := ws_c1 178 rfl rfl
theorem wd_270 : (Jvm.Cond.methodLink "BitDesk" (53 : Nat) ({ cls := "BitDesk$Elimination", name := "<init>", desc := "()V" } : Jvm.MethodName)) ∈ WS := ws_c1 176 rfl rfl
theorem wd_271 : (Jvm.Cond.instanceMethod ({ cls := "BitDesk$Elimination", name := "<init>", desc := "()V" } : Jvm.MethodName)) ∈ WS := ws_c1 177 rfl rfl
theorem lk_X6_53 : LkI RX6 53 jX1_init 0 := ⟨⟨wd_270, ⟨rfl, (by rw [cwd_nil rfl]; exact wd_272)⟩, wd_101, ⟨by decide +kernel, by decide +kernel⟩, by decide +kernel⟩, wd_271, rfl, rfl⟩
theorem wd_299 : (Jvm.Cond.fieldLink "BitDesk" (54 : Nat) "BitDesk" "elimination" "LBitDesk$Elimination;") ∈ WS := ws_c1 205 rfl rfl
theorem fp_X6_54 : FP RX6 54 6 10 (.object "BitDesk$Elimination") true := ⟨RX6, TX6, 15, tyX6, rfl, by decide, rfl, rfl, (Or.inl wd_299), inW6, tyX6_ok, nmX6, rfl, tyX6_ok 10 (by decide), rfl⟩
theorem wd_300 : (Jvm.Cond.fieldLink "BitDesk" (58 : Nat) "BitDesk" "made" "[I") ∈ WS := ws_c1 206 rfl rfl
theorem fp_X6_58 : FP RX6 58 6 11 (.array .int) true := ⟨RX6, TX6, 15, tyX6, rfl, by decide, rfl, rfl, (Or.inl wd_300), inW6, tyX6_ok, nmX6, rfl, tyX6_ok 11 (by decide), rfl⟩
theorem wd_301 : (Jvm.Cond.fieldLink "BitDesk" (62 : Nat) "BitDesk" "levels" "[I") ∈ WS := ws_c1 207 rfl rfl
theorem fp_X6_62 : FP RX6 62 6 12 (.array .int) true := ⟨RX6, TX6, 15, tyX6, rfl, by decide, rfl, rfl, (Or.inl wd_301), inW6, tyX6_ok, nmX6, rfl, tyX6_ok 12 (by decide), rfl⟩
theorem wd_302 : (Jvm.Cond.fieldLink "BitDesk" (65 : Nat) "BitDesk" "output" "[I") ∈ WS := ws_c1 208 rfl rfl
theorem fp_X6_65 : FP RX6 65 6 13 (.array .int) true := ⟨RX6, TX6, 15, tyX6, rfl, by decide, rfl, rfl, (Or.inl wd_302), inW6, tyX6_ok, nmX6, rfl, tyX6_ok 13 (by decide), rfl⟩
theorem fk_X6_10 : FK RX6 10 6 0 (.object "BitDesk$Reader") := ⟨RX6, TX6, 15, rfl, by decide, rfl, rfl, (Or.inl wd_289), inW6⟩
theorem wd_342 : (Jvm.Cond.code ({ cls := "BitDesk$Reader", name := "addBytes", desc := "(J)I" } : Jvm.MethodName) prog_6_method_2_code (6 : Nat) (Option.some Jvm.ClassFile.FieldType.int)) ∈ WS := ws_c2 8 rfl rfl
theorem wd_339 : (Jvm.Cond.methodLink "BitDesk" (68 : Nat) ({ cls := "BitDesk$Reader", name := "addBytes", desc := "(J)I" } : Jvm.MethodName)) ∈ WS := ws_c2 5 rfl rfl
theorem wd_340 : (Jvm.Cond.instanceMethod ({ cls := "BitDesk$Reader", name := "addBytes", desc := "(J)I" } : Jvm.MethodName)) ∈ WS := ws_c2 6 rfl rfl
theorem wd_341 : (Jvm.Cond.selects "BitDesk$Reader" ({ cls := "BitDesk$Reader", name := "addBytes", desc := "(J)I" } : Jvm.MethodName) ({ cls := "BitDesk$Reader", name := "addBytes", desc := "(J)I" } : Jvm.MethodName)) ∈ WS := ws_c2 7 rfl rfl
theorem lk_X6_68 : LkV RX6 68 jX4_addBytes 1 := ⟨⟨wd_339, ⟨rfl, (by rw [cwd_nil rfl]; exact wd_342)⟩, wd_96, ⟨by decide +kernel, by decide +kernel⟩, by decide +kernel⟩, wd_340, wd_341⟩
theorem fk_X6_23 : FK RX6 23 6 2 (.object "BitDesk$State") := ⟨RX6, TX6, 15, rfl, by decide, rfl, rfl, (Or.inl wd_291), inW6⟩
theorem wd_351 : (Jvm.Cond.code ({ cls := "BitDesk$Reader", name := "readInto", desc := "(LBitDesk$State;)V" } : Jvm.MethodName) prog_6_method_3_code (3 : Nat) (Option.none : Option Jvm.ClassFile.FieldType)) ∈ WS := ws_c2 17 rfl rfl
theorem wd_348 : (Jvm.Cond.methodLink "BitDesk" (72 : Nat) ({ cls := "BitDesk$Reader", name := "readInto", desc := "(LBitDesk$State;)V" } : Jvm.MethodName)) ∈ WS := ws_c2 14 rfl rfl
theorem wd_349 : (Jvm.Cond.instanceMethod ({ cls := "BitDesk$Reader", name := "readInto", desc := "(LBitDesk$State;)V" } : Jvm.MethodName)) ∈ WS := ws_c2 15 rfl rfl
theorem wd_350 : (Jvm.Cond.selects "BitDesk$Reader" ({ cls := "BitDesk$Reader", name := "readInto", desc := "(LBitDesk$State;)V" } : Jvm.MethodName) ({ cls := "BitDesk$Reader", name := "readInto", desc := "(LBitDesk$State;)V" } : Jvm.MethodName)) ∈ WS := ws_c2 16 rfl rfl
theorem lk_X6_72 : LkV RX6 72 jX4_readInto 1 := ⟨⟨wd_348, ⟨rfl, (by rw [cwd_nil rfl]; exact wd_351)⟩, wd_96, ⟨by decide +kernel, by decide +kernel⟩, by decide +kernel⟩, wd_349, wd_350⟩
theorem fk_X6_76 : FK RX6 76 4 5 (.int) := ⟨RX4, TX4, 7, rfl, by decide, rfl, rfl, (Or.inr ⟨_, wn_f1⟩), inW4⟩
theorem fk_X6_80 : FK RX6 80 4 6 (.int) := ⟨RX4, TX4, 7, rfl, by decide, rfl, rfl, (Or.inr ⟨_, wn_f2⟩), inW4⟩
theorem wd_499 : (Jvm.Cond.code ({ cls := "BitDesk", name := "replaceState", desc := "(LBitDesk$State;)V" } : Jvm.MethodName) prog_1_method_68_code (2 : Nat) (Option.none : Option Jvm.ClassFile.FieldType)) ∈ WS := ws_c2 165 rfl rfl
theorem wd_496 : (Jvm.Cond.methodLink "BitDesk" (83 : Nat) ({ cls := "BitDesk", name := "replaceState", desc := "(LBitDesk$State;)V" } : Jvm.MethodName)) ∈ WS := ws_c2 162 rfl rfl
theorem wd_498 : (Jvm.Cond.instanceMethod ({ cls := "BitDesk", name := "replaceState", desc := "(LBitDesk$State;)V" } : Jvm.MethodName)) ∈ WS := ws_c2 164 rfl rfl
theorem wd_16 : (Jvm.Cond.selects "BitDesk" (⟨"BitDesk", "replaceState", "(LBitDesk$State;)V"⟩ : Jvm.MethodName) (⟨"BitDesk", "replaceState", "(LBitDesk$State;)V"⟩ : Jvm.MethodName)) ∈ WS := ws_c0 16 rfl rfl
theorem lk_X6_83 : LkV RX6 83 jX6_replaceState 1 := ⟨⟨wd_496, ⟨rfl, (by rw [cwd_nil rfl]; exact wd_499)⟩, wd_95, ⟨by decide +kernel, by decide +kernel⟩, by decide +kernel⟩, wd_498, wd_16⟩
theorem wd_303 : (Jvm.Cond.fieldLink "BitDesk" (86 : Nat) "BitDesk" "outputLength" "I") ∈ WS := ws_c1 209 rfl rfl
theorem fp_X6_86 : FP RX6 86 6 14 (.int) false := ⟨RX6, TX6, 15, tyX6, rfl, by decide, rfl, rfl, (Or.inl wd_303), inW6, tyX6_ok, nmX6, rfl, tyX6_ok 14 (by decide), rfl⟩
theorem fk_X6_19 : FK RX6 19 6 1 (.object "BitDesk$State") := ⟨RX6, TX6, 15, rfl, by decide, rfl, rfl, (Or.inl wd_290), inW6⟩
theorem fk_X6_89 : FK RX6 89 5 1 (.int) := ⟨RX5, TX5, 5, rfl, by decide, rfl, rfl, (Or.inr ⟨_, wn_f13⟩), inW5⟩
theorem fk_X6_92 : FK RX6 92 4 4 (.int) := ⟨RX4, TX4, 7, rfl, by decide, rfl, rfl, (Or.inr ⟨_, wn_f0⟩), inW4⟩
theorem wd_543 : (Jvm.Cond.code ({ cls := "BitDesk", name := "needRange", desc := "(III)V" } : Jvm.MethodName) prog_1_method_64_code (4 : Nat) (Option.none : Option Jvm.ClassFile.FieldType)) ∈ WS := ws_c2 209 rfl rfl
theorem wd_540 : (Jvm.Cond.methodLink "BitDesk" (95 : Nat) ({ cls := "BitDesk", name := "needRange", desc := "(III)V" } : Jvm.MethodName)) ∈ WS := ws_c2 206 rfl rfl
theorem wd_542 : (Jvm.Cond.instanceMethod ({ cls := "BitDesk", name := "needRange", desc := "(III)V" } : Jvm.MethodName)) ∈ WS := ws_c2 208 rfl rfl
theorem wd_18 : (Jvm.Cond.selects "BitDesk" (⟨"BitDesk", "needRange", "(III)V"⟩ : Jvm.MethodName) (⟨"BitDesk", "needRange", "(III)V"⟩ : Jvm.MethodName)) ∈ WS := ws_c0 18 rfl rfl
theorem lk_X6_95 : LkV RX6 95 jX6_needRange 3 := ⟨⟨wd_540, ⟨rfl, (by rw [cwd_nil rfl]; exact wd_543)⟩, wd_95, ⟨by decide +kernel, by decide +kernel⟩, by decide +kernel⟩, wd_542, wd_18⟩
theorem fk_X6_99 : FK RX6 99 5 2 (.int) := ⟨RX5, TX5, 5, rfl, by decide, rfl, rfl, (Or.inr ⟨_, wn_f17⟩), inW5⟩
theorem wd_613 : (Jvm.Cond.code ({ cls := "BitDesk", name := "keptSlots", desc := "()I" } : Jvm.MethodName) prog_1_method_66_code (3 : Nat) (Option.some Jvm.ClassFile.FieldType.int)) ∈ WS := ws_c3 39 rfl rfl
theorem wd_610 : (Jvm.Cond.methodLink "BitDesk" (102 : Nat) ({ cls := "BitDesk", name := "keptSlots", desc := "()I" } : Jvm.MethodName)) ∈ WS := ws_c3 36 rfl rfl
theorem wd_612 : (Jvm.Cond.instanceMethod ({ cls := "BitDesk", name := "keptSlots", desc := "()I" } : Jvm.MethodName)) ∈ WS := ws_c3 38 rfl rfl
theorem wd_20 : (Jvm.Cond.selects "BitDesk" (⟨"BitDesk", "keptSlots", "()I"⟩ : Jvm.MethodName) (⟨"BitDesk", "keptSlots", "()I"⟩ : Jvm.MethodName)) ∈ WS := ws_c0 20 rfl rfl
theorem lk_X6_102 : LkV RX6 102 jX6_keptSlots 0 := ⟨⟨wd_610, ⟨rfl, (by rw [cwd_nil rfl]; exact wd_613)⟩, wd_95, ⟨by decide +kernel, by decide +kernel⟩, by decide +kernel⟩, wd_612, wd_20⟩
theorem wd_294 : (Jvm.Cond.fieldLink "BitDesk" (106 : Nat) "BitDesk" "pastCount" "I") ∈ WS := ws_c1 200 rfl rfl
theorem fk_X6_106 : FK RX6 106 6 5 (.int) := ⟨RX6, TX6, 15, rfl, by decide, rfl, rfl, (Or.inl wd_294), inW6⟩
theorem wd_625 : (Jvm.Cond.code ({ cls := "BitDesk", name := "needCell", desc := "(III)V" } : Jvm.MethodName) prog_1_method_63_code (4 : Nat) (Option.none : Option Jvm.ClassFile.FieldType)) ∈ WS := ws_c3 51 rfl rfl
theorem wd_622 : (Jvm.Cond.methodLink "BitDesk" (109 : Nat) ({ cls := "BitDesk", name := "needCell", desc := "(III)V" } : Jvm.MethodName)) ∈ WS := ws_c3 48 rfl rfl
theorem wd_624 : (Jvm.Cond.instanceMethod ({ cls := "BitDesk", name := "needCell", desc := "(III)V" } : Jvm.MethodName)) ∈ WS := ws_c3 50 rfl rfl
theorem wd_21 : (Jvm.Cond.selects "BitDesk" (⟨"BitDesk", "needCell", "(III)V"⟩ : Jvm.MethodName) (⟨"BitDesk", "needCell", "(III)V"⟩ : Jvm.MethodName)) ∈ WS := ws_c0 21 rfl rfl
theorem lk_X6_109 : LkV RX6 109 jX6_needCell 3 := ⟨⟨wd_622, ⟨rfl, (by rw [cwd_nil rfl]; exact wd_625)⟩, wd_95, ⟨by decide +kernel, by decide +kernel⟩, by decide +kernel⟩, wd_624, wd_21⟩
theorem wd_658 : (Jvm.Cond.code ({ cls := "BitDesk", name := "rowsOf", desc := "(I)[I" } : Jvm.MethodName) prog_1_method_65_code (2 : Nat) (Option.some (Jvm.ClassFile.FieldType.array Jvm.ClassFile.FieldType.int))) ∈ WS := ws_c3 84 rfl rfl
theorem wd_655 : (Jvm.Cond.methodLink "BitDesk" (112 : Nat) ({ cls := "BitDesk", name := "rowsOf", desc := "(I)[I" } : Jvm.MethodName)) ∈ WS := ws_c3 81 rfl rfl
theorem wd_657 : (Jvm.Cond.instanceMethod ({ cls := "BitDesk", name := "rowsOf", desc := "(I)[I" } : Jvm.MethodName)) ∈ WS := ws_c3 83 rfl rfl
theorem wd_25 : (Jvm.Cond.selects "BitDesk" (⟨"BitDesk", "rowsOf", "(I)[I"⟩ : Jvm.MethodName) (⟨"BitDesk", "rowsOf", "(I)[I"⟩ : Jvm.MethodName)) ∈ WS := ws_c0 25 rfl rfl
theorem lk_X6_112 : LkV RX6 112 jX6_rowsOf 1 := ⟨⟨wd_655, ⟨rfl, (by rw [cwd_nil rfl]; exact wd_658)⟩, wd_95, ⟨by decide +kernel, by decide +kernel⟩, by decide +kernel⟩, wd_657, wd_25⟩
theorem wd_659 : (Jvm.Cond.methodLink "BitDesk" (116 : Nat) ({ cls := "BitDesk", name := "hasOne", desc := "(II)Z" } : Jvm.MethodName)) ∈ WS := ws_c3 85 rfl rfl
theorem lk_X6_116 : LkS RX6 116 jX6_hasOne 2 := ⟨⟨wd_659, ⟨rfl, (by rw [cwd_nil rfl]; exact wd_661)⟩, wd_95, ⟨by decide +kernel, by decide +kernel⟩, by decide +kernel⟩, wd_660⟩
theorem wd_629 : (Jvm.Cond.code ({ cls := "BitDesk", name := "needRow", desc := "(II)V" } : Jvm.MethodName) prog_1_method_62_code (3 : Nat) (Option.none : Option Jvm.ClassFile.FieldType)) ∈ WS := ws_c3 55 rfl rfl
theorem wd_626 : (Jvm.Cond.methodLink "BitDesk" (120 : Nat) ({ cls := "BitDesk", name := "needRow", desc := "(II)V" } : Jvm.MethodName)) ∈ WS := ws_c3 52 rfl rfl
theorem wd_628 : (Jvm.Cond.instanceMethod ({ cls := "BitDesk", name := "needRow", desc := "(II)V" } : Jvm.MethodName)) ∈ WS := ws_c3 54 rfl rfl
theorem wd_22 : (Jvm.Cond.selects "BitDesk" (⟨"BitDesk", "needRow", "(II)V"⟩ : Jvm.MethodName) (⟨"BitDesk", "needRow", "(II)V"⟩ : Jvm.MethodName)) ∈ WS := ws_c0 22 rfl rfl
theorem lk_X6_120 : LkV RX6 120 jX6_needRow 2 := ⟨⟨wd_626, ⟨rfl, (by rw [cwd_nil rfl]; exact wd_629)⟩, wd_95, ⟨by decide +kernel, by decide +kernel⟩, by decide +kernel⟩, wd_628, wd_22⟩
theorem wd_671 : (Jvm.Cond.code ({ cls := "BitDesk", name := "unsigned", desc := "(I)J" } : Jvm.MethodName) prog_1_method_84_code (1 : Nat) (Option.some Jvm.ClassFile.FieldType.long)) ∈ WS := ws_c3 97 rfl rfl
theorem wd_669 : (Jvm.Cond.methodLink "BitDesk" (124 : Nat) ({ cls := "BitDesk", name := "unsigned", desc := "(I)J" } : Jvm.MethodName)) ∈ WS := ws_c3 95 rfl rfl
theorem wd_670 : (Jvm.Cond.static ({ cls := "BitDesk", name := "unsigned", desc := "(I)J" } : Jvm.MethodName)) ∈ WS := ws_c3 96 rfl rfl
theorem lk_X6_124 : LkS RX6 124 jX6_unsigned 1 := ⟨⟨wd_669, ⟨rfl, (by rw [cwd_nil rfl]; exact wd_671)⟩, wd_95, ⟨by decide +kernel, by decide +kernel⟩, by decide +kernel⟩, wd_670⟩
theorem wd_680 : (Jvm.Cond.methodLink "BitDesk" (128 : Nat) ({ cls := "BitDesk", name := "lowest", desc := "(I)I" } : Jvm.MethodName)) ∈ WS := ws_c3 106 rfl rfl
theorem lk_X6_128 : LkS RX6 128 jX6_lowest 1 := ⟨⟨wd_680, ⟨rfl, (by rw [cwd_nil rfl]; exact wd_479)⟩, wd_95, ⟨by decide +kernel, by decide +kernel⟩, by decide +kernel⟩, wd_478⟩
theorem wd_681 : (Jvm.Cond.methodLink "BitDesk" (132 : Nat) ({ cls := "java/lang/Integer", name := "bitCount", desc := "(I)I" } : Jvm.MethodName)) ∈ WS := ws_c3 107 rfl rfl
theorem lk_X6_132 : LkS RX6 132 jJ6_bitCount_0f7a4 1 := ⟨⟨wd_681, ⟨rfl, (by rw [cwd_nil rfl]; exact wd_683)⟩, wd_114, ⟨by decide +kernel, by decide +kernel⟩, by decide +kernel⟩, wd_682⟩
theorem wd_696 : (Jvm.Cond.code ({ cls := "BitDesk", name := "oneAt", desc := "(II)I" } : Jvm.MethodName) prog_1_method_88_code (4 : Nat) (Option.some Jvm.ClassFile.FieldType.int)) ∈ WS := ws_c3 122 rfl rfl
theorem wd_694 : (Jvm.Cond.methodLink "BitDesk" (137 : Nat) ({ cls := "BitDesk", name := "oneAt", desc := "(II)I" } : Jvm.MethodName)) ∈ WS := ws_c3 120 rfl rfl
theorem wd_695 : (Jvm.Cond.static ({ cls := "BitDesk", name := "oneAt", desc := "(II)I" } : Jvm.MethodName)) ∈ WS := ws_c3 121 rfl rfl
theorem lk_X6_137 : LkS RX6 137 jX6_oneAt 2 := ⟨⟨wd_694, ⟨rfl, (by rw [cwd_nil rfl]; exact wd_696)⟩, wd_95, ⟨by decide +kernel, by decide +kernel⟩, by decide +kernel⟩, wd_695⟩
theorem wd_633 : (Jvm.Cond.code ({ cls := "BitDesk", name := "needSlot", desc := "(I)V" } : Jvm.MethodName) prog_1_method_60_code (2 : Nat) (Option.none : Option Jvm.ClassFile.FieldType)) ∈ WS := ws_c3 59 rfl rfl
theorem wd_630 : (Jvm.Cond.methodLink "BitDesk" (141 : Nat) ({ cls := "BitDesk", name := "needSlot", desc := "(I)V" } : Jvm.MethodName)) ∈ WS := ws_c3 56 rfl rfl
theorem wd_632 : (Jvm.Cond.instanceMethod ({ cls := "BitDesk", name := "needSlot", desc := "(I)V" } : Jvm.MethodName)) ∈ WS := ws_c3 58 rfl rfl
theorem wd_23 : (Jvm.Cond.selects "BitDesk" (⟨"BitDesk", "needSlot", "(I)V"⟩ : Jvm.MethodName) (⟨"BitDesk", "needSlot", "(I)V"⟩ : Jvm.MethodName)) ∈ WS := ws_c0 23 rfl rfl
theorem lk_X6_141 : LkV RX6 141 jX6_needSlot 1 := ⟨⟨wd_630, ⟨rfl, (by rw [cwd_nil rfl]; exact wd_633)⟩, wd_95, ⟨by decide +kernel, by decide +kernel⟩, by decide +kernel⟩, wd_632, wd_23⟩
theorem wd_706 : (Jvm.Cond.code ({ cls := "BitDesk", name := "onesOf", desc := "([II)I" } : Jvm.MethodName) prog_1_method_89_code (4 : Nat) (Option.some Jvm.ClassFile.FieldType.int)) ∈ WS := ws_c3 132 rfl rfl
theorem wd_704 : (Jvm.Cond.methodLink "BitDesk" (145 : Nat) ({ cls := "BitDesk", name := "onesOf", desc := "([II)I" } : Jvm.MethodName)) ∈ WS := ws_c3 130 rfl rfl
theorem wd_705 : (Jvm.Cond.static ({ cls := "BitDesk", name := "onesOf", desc := "([II)I" } : Jvm.MethodName)) ∈ WS := ws_c3 131 rfl rfl
theorem lk_X6_145 : LkS RX6 145 jX6_onesOf 2 := ⟨⟨wd_704, ⟨rfl, (by rw [cwd_nil rfl]; exact wd_706)⟩, wd_95, ⟨by decide +kernel, by decide +kernel⟩, by decide +kernel⟩, wd_705⟩
theorem wd_714 : (Jvm.Cond.methodLink "BitDesk" (149 : Nat) ({ cls := "BitDesk", name := "columnOf", desc := "([III)I" } : Jvm.MethodName)) ∈ WS := ws_c3 140 rfl rfl
theorem lk_X6_149 : LkS RX6 149 jX6_columnOf 3 := ⟨⟨wd_714, ⟨rfl, (by rw [cwd_nil rfl]; exact wd_716)⟩, wd_95, ⟨by decide +kernel, by decide +kernel⟩, by decide +kernel⟩, wd_715⟩
theorem wd_727 : (Jvm.Cond.code ({ cls := "BitDesk", name := "firstEqual", desc := "([II)I" } : Jvm.MethodName) prog_1_method_74_code (4 : Nat) (Option.some Jvm.ClassFile.FieldType.int)) ∈ WS := ws_c3 153 rfl rfl
theorem wd_724 : (Jvm.Cond.methodLink "BitDesk" (153 : Nat) ({ cls := "BitDesk", name := "firstEqual", desc := "([II)I" } : Jvm.MethodName)) ∈ WS := ws_c3 150 rfl rfl
theorem wd_726 : (Jvm.Cond.instanceMethod ({ cls := "BitDesk", name := "firstEqual", desc := "([II)I" } : Jvm.MethodName)) ∈ WS := ws_c3 152 rfl rfl
theorem wd_26 : (Jvm.Cond.selects "BitDesk" (⟨"BitDesk", "firstEqual", "([II)I"⟩ : Jvm.MethodName) (⟨"BitDesk", "firstEqual", "([II)I"⟩ : Jvm.MethodName)) ∈ WS := ws_c0 26 rfl rfl
theorem lk_X6_153 : LkV RX6 153 jX6_firstEqual 2 := ⟨⟨wd_724, ⟨rfl, (by rw [cwd_nil rfl]; exact wd_727)⟩, wd_95, ⟨by decide +kernel, by decide +kernel⟩, by decide +kernel⟩, wd_726, wd_26⟩
theorem wd_738 : (Jvm.Cond.code ({ cls := "BitDesk", name := "firstRows", desc := "([II)I" } : Jvm.MethodName) prog_1_method_75_code (5 : Nat) (Option.some Jvm.ClassFile.FieldType.int)) ∈ WS := ws_c3 164 rfl rfl
theorem wd_735 : (Jvm.Cond.methodLink "BitDesk" (156 : Nat) ({ cls := "BitDesk", name := "firstRows", desc := "([II)I" } : Jvm.MethodName)) ∈ WS := ws_c3 161 rfl rfl
theorem wd_737 : (Jvm.Cond.instanceMethod ({ cls := "BitDesk", name := "firstRows", desc := "([II)I" } : Jvm.MethodName)) ∈ WS := ws_c3 163 rfl rfl
theorem wd_27 : (Jvm.Cond.selects "BitDesk" (⟨"BitDesk", "firstRows", "([II)I"⟩ : Jvm.MethodName) (⟨"BitDesk", "firstRows", "([II)I"⟩ : Jvm.MethodName)) ∈ WS := ws_c0 27 rfl rfl
theorem lk_X6_156 : LkV RX6 156 jX6_firstRows 2 := ⟨⟨wd_735, ⟨rfl, (by rw [cwd_nil rfl]; exact wd_738)⟩, wd_95, ⟨by decide +kernel, by decide +kernel⟩, by decide +kernel⟩, wd_737, wd_27⟩
theorem wd_703 : (Jvm.Cond.code ({ cls := "BitDesk", name := "ones", desc := "(I)I" } : Jvm.MethodName) prog_1_method_11_code (2 : Nat) (Option.some Jvm.ClassFile.FieldType.int)) ∈ WS := ws_c3 129 rfl rfl
theorem wd_767 : (Jvm.Cond.methodLink "BitDesk" (159 : Nat) ({ cls := "BitDesk", name := "ones", desc := "(I)I" } : Jvm.MethodName)) ∈ WS := ws_c3 193 rfl rfl
theorem wd_701 : (Jvm.Cond.instanceMethod ({ cls := "BitDesk", name := "ones", desc := "(I)I" } : Jvm.MethodName)) ∈ WS := ws_c3 127 rfl rfl
theorem wd_702 : (Jvm.Cond.selects "BitDesk" ({ cls := "BitDesk", name := "ones", desc := "(I)I" } : Jvm.MethodName) ({ cls := "BitDesk", name := "ones", desc := "(I)I" } : Jvm.MethodName)) ∈ WS := ws_c3 128 rfl rfl
theorem lk_X6_159 : LkV RX6 159 jX6_ones 1 := ⟨⟨wd_767, ⟨rfl, (by rw [cwd_nil rfl]; exact wd_703)⟩, wd_95, ⟨by decide +kernel, by decide +kernel⟩, by decide +kernel⟩, wd_701, wd_702⟩
theorem wd_785 : (Jvm.Cond.code ({ cls := "BitDesk", name := "closureOf", desc := "(I)LBitDesk$Closure;" } : Jvm.MethodName) prog_1_method_70_code (3 : Nat) (Option.some (Jvm.ClassFile.FieldType.object "BitDesk$Closure"))) ∈ WS := ws_c3 211 rfl rfl
theorem wd_782 : (Jvm.Cond.methodLink "BitDesk" (162 : Nat) ({ cls := "BitDesk", name := "closureOf", desc := "(I)LBitDesk$Closure;" } : Jvm.MethodName)) ∈ WS := ws_c3 208 rfl rfl
theorem wd_784 : (Jvm.Cond.instanceMethod ({ cls := "BitDesk", name := "closureOf", desc := "(I)LBitDesk$Closure;" } : Jvm.MethodName)) ∈ WS := ws_c3 210 rfl rfl
theorem wd_28 : (Jvm.Cond.selects "BitDesk" (⟨"BitDesk", "closureOf", "(I)LBitDesk$Closure;"⟩ : Jvm.MethodName) (⟨"BitDesk", "closureOf", "(I)LBitDesk$Closure;"⟩ : Jvm.MethodName)) ∈ WS := ws_c0 28 rfl rfl
theorem lk_X6_162 : LkV RX6 162 jX6_closureOf 1 := ⟨⟨wd_782, ⟨rfl, (by rw [cwd_nil rfl]; exact wd_785)⟩, wd_95, ⟨by decide +kernel, by decide +kernel⟩, by decide +kernel⟩, wd_784, wd_28⟩
theorem fk_X6_166 : FK RX6 166 0 0 (.array .int) := ⟨RX0, TX0, 2, rfl, by decide, rfl, rfl, (Or.inr ⟨_, wn_f20⟩), inW0⟩
theorem wd_805 : (Jvm.Cond.code ({ cls := "BitDesk", name := "pairs", desc := "(I)I" } : Jvm.MethodName) prog_1_method_22_code (2 : Nat) (Option.some Jvm.ClassFile.FieldType.int)) ∈ WS := ws_c3 231 rfl rfl
theorem wd_813 : (Jvm.Cond.methodLink "BitDesk" (169 : Nat) ({ cls := "BitDesk", name := "pairs", desc := "(I)I" } : Jvm.MethodName)) ∈ WS := ws_c3 239 rfl rfl
theorem wd_803 : (Jvm.Cond.instanceMethod ({ cls := "BitDesk", name := "pairs", desc := "(I)I" } : Jvm.MethodName)) ∈ WS := ws_c3 229 rfl rfl
theorem wd_804 : (Jvm.Cond.selects "BitDesk" ({ cls := "BitDesk", name := "pairs", desc := "(I)I" } : Jvm.MethodName) ({ cls := "BitDesk", name := "pairs", desc := "(I)I" } : Jvm.MethodName)) ∈ WS := ws_c3 230 rfl rfl
theorem lk_X6_169 : LkV RX6 169 jX6_pairs 1 := ⟨⟨wd_813, ⟨rfl, (by rw [cwd_nil rfl]; exact wd_805)⟩, wd_95, ⟨by decide +kernel, by decide +kernel⟩, by decide +kernel⟩, wd_803, wd_804⟩
theorem wd_824 : (Jvm.Cond.code ({ cls := "BitDesk$Closure", name := "lowestMutual", desc := "(II)I" } : Jvm.MethodName) prog_2_method_4_code (3 : Nat) (Option.some Jvm.ClassFile.FieldType.int)) ∈ WS := ws_c4 10 rfl rfl
theorem wd_821 : (Jvm.Cond.methodLink "BitDesk" (172 : Nat) ({ cls := "BitDesk$Closure", name := "lowestMutual", desc := "(II)I" } : Jvm.MethodName)) ∈ WS := ws_c4 7 rfl rfl
theorem wd_822 : (Jvm.Cond.instanceMethod ({ cls := "BitDesk$Closure", name := "lowestMutual", desc := "(II)I" } : Jvm.MethodName)) ∈ WS := ws_c4 8 rfl rfl
theorem wd_823 : (Jvm.Cond.selects "BitDesk$Closure" ({ cls := "BitDesk$Closure", name := "lowestMutual", desc := "(II)I" } : Jvm.MethodName) ({ cls := "BitDesk$Closure", name := "lowestMutual", desc := "(II)I" } : Jvm.MethodName)) ∈ WS := ws_c4 9 rfl rfl
theorem lk_X6_172 : LkV RX6 172 jX0_lowestMutual 2 := ⟨⟨wd_821, ⟨rfl, (by rw [cwd_nil rfl]; exact wd_824)⟩, wd_99, ⟨by decide +kernel, by decide +kernel⟩, by decide +kernel⟩, wd_822, wd_823⟩
theorem wd_846 : (Jvm.Cond.code ({ cls := "BitDesk", name := "fewestEdges", desc := "([III)I" } : Jvm.MethodName) prog_1_method_77_code (6 : Nat) (Option.some Jvm.ClassFile.FieldType.int)) ∈ WS := ws_c4 32 rfl rfl
theorem wd_843 : (Jvm.Cond.methodLink "BitDesk" (175 : Nat) ({ cls := "BitDesk", name := "fewestEdges", desc := "([III)I" } : Jvm.MethodName)) ∈ WS := ws_c4 29 rfl rfl
theorem wd_845 : (Jvm.Cond.instanceMethod ({ cls := "BitDesk", name := "fewestEdges", desc := "([III)I" } : Jvm.MethodName)) ∈ WS := ws_c4 31 rfl rfl
theorem wd_29 : (Jvm.Cond.selects "BitDesk" (⟨"BitDesk", "fewestEdges", "([III)I"⟩ : Jvm.MethodName) (⟨"BitDesk", "fewestEdges", "([III)I"⟩ : Jvm.MethodName)) ∈ WS := ws_c0 29 rfl rfl
theorem lk_X6_175 : LkV RX6 175 jX6_fewestEdges 3 := ⟨⟨wd_843, ⟨rfl, (by rw [cwd_nil rfl]; exact wd_846)⟩, wd_95, ⟨by decide +kernel, by decide +kernel⟩, by decide +kernel⟩, wd_845, wd_29⟩
theorem wd_842 : (Jvm.Cond.code ({ cls := "BitDesk", name := "distance", desc := "(III)I" } : Jvm.MethodName) prog_1_method_26_code (4 : Nat) (Option.some Jvm.ClassFile.FieldType.int)) ∈ WS := ws_c4 28 rfl rfl
theorem wd_858 : (Jvm.Cond.methodLink "BitDesk" (178 : Nat) ({ cls := "BitDesk", name := "distance", desc := "(III)I" } : Jvm.MethodName)) ∈ WS := ws_c4 44 rfl rfl
theorem wd_840 : (Jvm.Cond.instanceMethod ({ cls := "BitDesk", name := "distance", desc := "(III)I" } : Jvm.MethodName)) ∈ WS := ws_c4 26 rfl rfl
theorem wd_841 : (Jvm.Cond.selects "BitDesk" ({ cls := "BitDesk", name := "distance", desc := "(III)I" } : Jvm.MethodName) ({ cls := "BitDesk", name := "distance", desc := "(III)I" } : Jvm.MethodName)) ∈ WS := ws_c4 27 rfl rfl
theorem lk_X6_178 : LkV RX6 178 jX6_distance 3 := ⟨⟨wd_858, ⟨rfl, (by rw [cwd_nil rfl]; exact wd_842)⟩, wd_95, ⟨by decide +kernel, by decide +kernel⟩, by decide +kernel⟩, wd_840, wd_841⟩
theorem wd_862 : (Jvm.Cond.code ({ cls := "BitDesk", name := "fillLevels", desc := "([III)V" } : Jvm.MethodName) prog_1_method_78_code (7 : Nat) (Option.none : Option Jvm.ClassFile.FieldType)) ∈ WS := ws_c4 48 rfl rfl
theorem wd_859 : (Jvm.Cond.methodLink "BitDesk" (182 : Nat) ({ cls := "BitDesk", name := "fillLevels", desc := "([III)V" } : Jvm.MethodName)) ∈ WS := ws_c4 45 rfl rfl
theorem wd_861 : (Jvm.Cond.instanceMethod ({ cls := "BitDesk", name := "fillLevels", desc := "([III)V" } : Jvm.MethodName)) ∈ WS := ws_c4 47 rfl rfl
theorem wd_31 : (Jvm.Cond.selects "BitDesk" (⟨"BitDesk", "fillLevels", "([III)V"⟩ : Jvm.MethodName) (⟨"BitDesk", "fillLevels", "([III)V"⟩ : Jvm.MethodName)) ∈ WS := ws_c0 31 rfl rfl
theorem lk_X6_182 : LkV RX6 182 jX6_fillLevels 3 := ⟨⟨wd_859, ⟨rfl, (by rw [cwd_nil rfl]; exact wd_862)⟩, wd_95, ⟨by decide +kernel, by decide +kernel⟩, by decide +kernel⟩, wd_861, wd_31⟩
theorem fk_X6_62 : FK RX6 62 6 12 (.array .int) := ⟨RX6, TX6, 15, rfl, by decide, rfl, rfl, (Or.inl wd_301), inW6⟩
theorem wd_863 : (Jvm.Cond.methodLink "BitDesk" (186 : Nat) ({ cls := "BitDesk", name := "lowestOne", desc := "(I)I" } : Jvm.MethodName)) ∈ WS := ws_c4 49 rfl rfl
theorem lk_X6_186 : LkS RX6 186 jX6_lowestOne 1 := ⟨⟨wd_863, ⟨rfl, (by rw [cwd_nil rfl]; exact wd_828)⟩, wd_95, ⟨by decide +kernel, by decide +kernel⟩, by decide +kernel⟩, wd_827⟩
theorem wd_850 : (Jvm.Cond.code ({ cls := "BitDesk", name := "joinedRows", desc := "([II)I" } : Jvm.MethodName) prog_1_method_76_code (5 : Nat) (Option.some Jvm.ClassFile.FieldType.int)) ∈ WS := ws_c4 36 rfl rfl
theorem wd_847 : (Jvm.Cond.methodLink "BitDesk" (189 : Nat) ({ cls := "BitDesk", name := "joinedRows", desc := "([II)I" } : Jvm.MethodName)) ∈ WS := ws_c4 33 rfl rfl
theorem wd_849 : (Jvm.Cond.instanceMethod ({ cls := "BitDesk", name := "joinedRows", desc := "([II)I" } : Jvm.MethodName)) ∈ WS := ws_c4 35 rfl rfl
theorem wd_30 : (Jvm.Cond.selects "BitDesk" (⟨"BitDesk", "joinedRows", "([II)I"⟩ : Jvm.MethodName) (⟨"BitDesk", "joinedRows", "([II)I"⟩ : Jvm.MethodName)) ∈ WS := ws_c0 30 rfl rfl
theorem lk_X6_189 : LkV RX6 189 jX6_joinedRows 2 := ⟨⟨wd_847, ⟨rfl, (by rw [cwd_nil rfl]; exact wd_850)⟩, wd_95, ⟨by decide +kernel, by decide +kernel⟩, by decide +kernel⟩, wd_849, wd_30⟩
theorem wd_892 : (Jvm.Cond.methodLink "BitDesk" (192 : Nat) ({ cls := "BitDesk$Closure", name := "nodesTo", desc := "(II)I" } : Jvm.MethodName)) ∈ WS := ws_c4 78 rfl rfl
theorem lk_X6_192 : LkV RX6 192 jX0_nodesTo 2 := ⟨⟨wd_892, ⟨rfl, (by rw [cwd_nil rfl]; exact wd_895)⟩, wd_99, ⟨by decide +kernel, by decide +kernel⟩, by decide +kernel⟩, wd_893, wd_894⟩
theorem wd_896 : (Jvm.Cond.methodLink "BitDesk" (195 : Nat) ({ cls := "BitDesk$Closure", name := "gainWith", desc := "(III)I" } : Jvm.MethodName)) ∈ WS := ws_c4 82 rfl rfl
theorem lk_X6_195 : LkV RX6 195 jX0_gainWith 3 := ⟨⟨wd_896, ⟨rfl, (by rw [cwd_nil rfl]; exact wd_899)⟩, wd_99, ⟨by decide +kernel, by decide +kernel⟩, by decide +kernel⟩, wd_897, wd_898⟩
theorem wd_911 : (Jvm.Cond.code ({ cls := "BitDesk", name := "lossWithout", desc := "(III)I" } : Jvm.MethodName) prog_1_method_79_code (4 : Nat) (Option.some Jvm.ClassFile.FieldType.int)) ∈ WS := ws_c4 97 rfl rfl
theorem wd_908 : (Jvm.Cond.methodLink "BitDesk" (198 : Nat) ({ cls := "BitDesk", name := "lossWithout", desc := "(III)I" } : Jvm.MethodName)) ∈ WS := ws_c4 94 rfl rfl
theorem wd_910 : (Jvm.Cond.instanceMethod ({ cls := "BitDesk", name := "lossWithout", desc := "(III)I" } : Jvm.MethodName)) ∈ WS := ws_c4 96 rfl rfl
theorem wd_32 : (Jvm.Cond.selects "BitDesk" (⟨"BitDesk", "lossWithout", "(III)I"⟩ : Jvm.MethodName) (⟨"BitDesk", "lossWithout", "(III)I"⟩ : Jvm.MethodName)) ∈ WS := ws_c0 32 rfl rfl
theorem lk_X6_198 : LkV RX6 198 jX6_lossWithout 3 := ⟨⟨wd_908, ⟨rfl, (by rw [cwd_nil rfl]; exact wd_911)⟩, wd_95, ⟨by decide +kernel, by decide +kernel⟩, by decide +kernel⟩, wd_910, wd_32⟩
theorem wd_930 : (Jvm.Cond.code ({ cls := "BitDesk", name := "edgeNumber", desc := "(II)I" } : Jvm.MethodName) prog_1_method_83_code (2 : Nat) (Option.some Jvm.ClassFile.FieldType.int)) ∈ WS := ws_c4 116 rfl rfl
theorem wd_928 : (Jvm.Cond.methodLink "BitDesk" (201 : Nat) ({ cls := "BitDesk", name := "edgeNumber", desc := "(II)I" } : Jvm.MethodName)) ∈ WS := ws_c4 114 rfl rfl
theorem wd_929 : (Jvm.Cond.static ({ cls := "BitDesk", name := "edgeNumber", desc := "(II)I" } : Jvm.MethodName)) ∈ WS := ws_c4 115 rfl rfl
theorem lk_X6_201 : LkS RX6 201 jX6_edgeNumber 2 := ⟨⟨wd_928, ⟨rfl, (by rw [cwd_nil rfl]; exact wd_930)⟩, wd_95, ⟨by decide +kernel, by decide +kernel⟩, by decide +kernel⟩, wd_929⟩
theorem fk_X6_54 : FK RX6 54 6 10 (.object "BitDesk$Elimination") := ⟨RX6, TX6, 15, rfl, by decide, rfl, rfl, (Or.inl wd_299), inW6⟩
theorem wd_955 : (Jvm.Cond.code ({ cls := "BitDesk$Elimination", name := "eliminate", desc := "([III)V" } : Jvm.MethodName) prog_3_method_2_code (5 : Nat) (Option.none : Option Jvm.ClassFile.FieldType)) ∈ WS := ws_c4 141 rfl rfl
theorem wd_952 : (Jvm.Cond.methodLink "BitDesk" (204 : Nat) ({ cls := "BitDesk$Elimination", name := "eliminate", desc := "([III)V" } : Jvm.MethodName)) ∈ WS := ws_c4 138 rfl rfl
theorem wd_953 : (Jvm.Cond.instanceMethod ({ cls := "BitDesk$Elimination", name := "eliminate", desc := "([III)V" } : Jvm.MethodName)) ∈ WS := ws_c4 139 rfl rfl
theorem wd_954 : (Jvm.Cond.selects "BitDesk$Elimination" ({ cls := "BitDesk$Elimination", name := "eliminate", desc := "([III)V" } : Jvm.MethodName) ({ cls := "BitDesk$Elimination", name := "eliminate", desc := "([III)V" } : Jvm.MethodName)) ∈ WS := ws_c4 140 rfl rfl
theorem lk_X6_204 : LkV RX6 204 jX1_eliminate 3 := ⟨⟨wd_952, ⟨rfl, (by rw [cwd_nil rfl]; exact wd_955)⟩, wd_101, ⟨by decide +kernel, by decide +kernel⟩, by decide +kernel⟩, wd_953, wd_954⟩
theorem fk_X6_207 : FK RX6 207 1 3 (.int) := ⟨RX1, TX1, 4, rfl, by decide, rfl, rfl, (Or.inr ⟨_, wn_f25⟩), inW1⟩
theorem wd_984 : (Jvm.Cond.code ({ cls := "BitDesk$Elimination", name := "isSolvable", desc := "(I)Z" } : Jvm.MethodName) prog_3_method_4_code (3 : Nat) (Option.some Jvm.ClassFile.FieldType.boolean)) ∈ WS := ws_c4 170 rfl rfl
theorem wd_981 : (Jvm.Cond.methodLink "BitDesk" (210 : Nat) ({ cls := "BitDesk$Elimination", name := "isSolvable", desc := "(I)Z" } : Jvm.MethodName)) ∈ WS := ws_c4 167 rfl rfl
theorem wd_982 : (Jvm.Cond.instanceMethod ({ cls := "BitDesk$Elimination", name := "isSolvable", desc := "(I)Z" } : Jvm.MethodName)) ∈ WS := ws_c4 168 rfl rfl
theorem wd_983 : (Jvm.Cond.selects "BitDesk$Elimination" ({ cls := "BitDesk$Elimination", name := "isSolvable", desc := "(I)Z" } : Jvm.MethodName) ({ cls := "BitDesk$Elimination", name := "isSolvable", desc := "(I)Z" } : Jvm.MethodName)) ∈ WS := ws_c4 169 rfl rfl
theorem lk_X6_210 : LkV RX6 210 jX1_isSolvable 1 := ⟨⟨wd_981, ⟨rfl, (by rw [cwd_nil rfl]; exact wd_984)⟩, wd_101, ⟨by decide +kernel, by decide +kernel⟩, by decide +kernel⟩, wd_982, wd_983⟩
theorem wd_988 : (Jvm.Cond.code ({ cls := "BitDesk$Elimination", name := "solution", desc := "()I" } : Jvm.MethodName) prog_3_method_5_code (3 : Nat) (Option.some Jvm.ClassFile.FieldType.int)) ∈ WS := ws_c4 174 rfl rfl
theorem wd_985 : (Jvm.Cond.methodLink "BitDesk" (214 : Nat) ({ cls := "BitDesk$Elimination", name := "solution", desc := "()I" } : Jvm.MethodName)) ∈ WS := ws_c4 171 rfl rfl
theorem wd_986 : (Jvm.Cond.instanceMethod ({ cls := "BitDesk$Elimination", name := "solution", desc := "()I" } : Jvm.MethodName)) ∈ WS := ws_c4 172 rfl rfl
theorem wd_987 : (Jvm.Cond.selects "BitDesk$Elimination" ({ cls := "BitDesk$Elimination", name := "solution", desc := "()I" } : Jvm.MethodName) ({ cls := "BitDesk$Elimination", name := "solution", desc := "()I" } : Jvm.MethodName)) ∈ WS := ws_c4 173 rfl rfl
theorem lk_X6_214 : LkV RX6 214 jX1_solution 0 := ⟨⟨wd_985, ⟨rfl, (by rw [cwd_nil rfl]; exact wd_988)⟩, wd_101, ⟨by decide +kernel, by decide +kernel⟩, by decide +kernel⟩, wd_986, wd_987⟩
theorem wd_989 : (Jvm.Cond.constantLong "BitDesk" (217 : Nat) (-1 : Int64)) ∈ WS := ws_c4 175 rfl rfl
theorem wd_1007 : (Jvm.Cond.code ({ cls := "BitDesk$Elimination", name := "pivotAt", desc := "(I)I" } : Jvm.MethodName) prog_3_method_6_code (2 : Nat) (Option.some Jvm.ClassFile.FieldType.int)) ∈ WS := ws_c4 193 rfl rfl
theorem wd_1004 : (Jvm.Cond.methodLink "BitDesk" (219 : Nat) ({ cls := "BitDesk$Elimination", name := "pivotAt", desc := "(I)I" } : Jvm.MethodName)) ∈ WS := ws_c4 190 rfl rfl
theorem wd_1005 : (Jvm.Cond.instanceMethod ({ cls := "BitDesk$Elimination", name := "pivotAt", desc := "(I)I" } : Jvm.MethodName)) ∈ WS := ws_c4 191 rfl rfl
theorem wd_1006 : (Jvm.Cond.selects "BitDesk$Elimination" ({ cls := "BitDesk$Elimination", name := "pivotAt", desc := "(I)I" } : Jvm.MethodName) ({ cls := "BitDesk$Elimination", name := "pivotAt", desc := "(I)I" } : Jvm.MethodName)) ∈ WS := ws_c4 192 rfl rfl
theorem lk_X6_219 : LkV RX6 219 jX1_pivotAt 1 := ⟨⟨wd_1004, ⟨rfl, (by rw [cwd_nil rfl]; exact wd_1007)⟩, wd_101, ⟨by decide +kernel, by decide +kernel⟩, by decide +kernel⟩, wd_1005, wd_1006⟩
theorem wd_1018 : (Jvm.Cond.code ({ cls := "BitDesk", name := "remember", desc := "()V" } : Jvm.MethodName) prog_1_method_67_code (1 : Nat) (Option.none : Option Jvm.ClassFile.FieldType)) ∈ WS := ws_c4 204 rfl rfl
theorem wd_1015 : (Jvm.Cond.methodLink "BitDesk" (222 : Nat) ({ cls := "BitDesk", name := "remember", desc := "()V" } : Jvm.MethodName)) ∈ WS := ws_c4 201 rfl rfl
theorem wd_1017 : (Jvm.Cond.instanceMethod ({ cls := "BitDesk", name := "remember", desc := "()V" } : Jvm.MethodName)) ∈ WS := ws_c4 203 rfl rfl
theorem wd_37 : (Jvm.Cond.selects "BitDesk" (⟨"BitDesk", "remember", "()V"⟩ : Jvm.MethodName) (⟨"BitDesk", "remember", "()V"⟩ : Jvm.MethodName)) ∈ WS := ws_c0 37 rfl rfl
theorem lk_X6_222 : LkV RX6 222 jX6_remember 0 := ⟨⟨wd_1015, ⟨rfl, (by rw [cwd_nil rfl]; exact wd_1018)⟩, wd_95, ⟨by decide +kernel, by decide +kernel⟩, by decide +kernel⟩, wd_1017, wd_37⟩
theorem fk_X6_225 : FK RX6 225 5 0 (.array (.object "BitDesk$Matrix")) := ⟨RX5, TX5, 5, rfl, by decide, rfl, rfl, (Or.inr ⟨_, wn_f11⟩), inW5⟩
theorem fk_X6_229 : FK RX6 229 2 0 (.array .int) := ⟨RX2, TX2, 5, rfl, by decide, rfl, rfl, (Or.inr ⟨_, wn_f4⟩), inW2⟩
theorem wd_1020 : (Jvm.Cond.methodLink "BitDesk" (234 : Nat) ({ cls := "BitDesk$Matrix", name := "noteLooked", desc := "(I)V" } : Jvm.MethodName)) ∈ WS := ws_c4 206 rfl rfl
theorem lk_X6_234 : LkV RX6 234 jX2_noteLooked 1 := ⟨⟨wd_1020, ⟨rfl, (by rw [cwd_nil rfl]; exact wd_495)⟩, wd_98, ⟨by decide +kernel, by decide +kernel⟩, by decide +kernel⟩, wd_493, wd_494⟩
theorem wd_1024 : (Jvm.Cond.code ({ cls := "BitDesk$Closure", name := "extend", desc := "(III)I" } : Jvm.MethodName) prog_2_method_6_code (7 : Nat) (Option.some Jvm.ClassFile.FieldType.int)) ∈ WS := ws_c4 210 rfl rfl
theorem wd_1021 : (Jvm.Cond.methodLink "BitDesk" (237 : Nat) ({ cls := "BitDesk$Closure", name := "extend", desc := "(III)I" } : Jvm.MethodName)) ∈ WS := ws_c4 207 rfl rfl
theorem wd_1022 : (Jvm.Cond.instanceMethod ({ cls := "BitDesk$Closure", name := "extend", desc := "(III)I" } : Jvm.MethodName)) ∈ WS := ws_c4 208 rfl rfl
theorem wd_1023 : (Jvm.Cond.selects "BitDesk$Closure" ({ cls := "BitDesk$Closure", name := "extend", desc := "(III)I" } : Jvm.MethodName) ({ cls := "BitDesk$Closure", name := "extend", desc := "(III)I" } : Jvm.MethodName)) ∈ WS := ws_c4 209 rfl rfl
theorem lk_X6_237 : LkV RX6 237 jX0_extend 3 := ⟨⟨wd_1021, ⟨rfl, (by rw [cwd_nil rfl]; exact wd_1024)⟩, wd_99, ⟨by decide +kernel, by decide +kernel⟩, by decide +kernel⟩, wd_1022, wd_1023⟩
theorem wd_1029 : (Jvm.Cond.code ({ cls := "BitDesk$Closure", name := "mend", desc := "(I[II)I" } : Jvm.MethodName) prog_2_method_7_code (7 : Nat) (Option.some Jvm.ClassFile.FieldType.int)) ∈ WS := ws_c4 215 rfl rfl
theorem wd_1026 : (Jvm.Cond.methodLink "BitDesk" (240 : Nat) ({ cls := "BitDesk$Closure", name := "mend", desc := "(I[II)I" } : Jvm.MethodName)) ∈ WS := ws_c4 212 rfl rfl
theorem wd_1027 : (Jvm.Cond.instanceMethod ({ cls := "BitDesk$Closure", name := "mend", desc := "(I[II)I" } : Jvm.MethodName)) ∈ WS := ws_c4 213 rfl rfl
theorem wd_1028 : (Jvm.Cond.selects "BitDesk$Closure" ({ cls := "BitDesk$Closure", name := "mend", desc := "(I[II)I" } : Jvm.MethodName) ({ cls := "BitDesk$Closure", name := "mend", desc := "(I[II)I" } : Jvm.MethodName)) ∈ WS := ws_c4 214 rfl rfl
theorem lk_X6_240 : LkV RX6 240 jX0_mend 3 := ⟨⟨wd_1026, ⟨rfl, (by rw [cwd_nil rfl]; exact wd_1029)⟩, wd_99, ⟨by decide +kernel, by decide +kernel⟩, by decide +kernel⟩, wd_1027, wd_1028⟩
theorem wd_1040 : (Jvm.Cond.code ({ cls := "BitDesk", name := "noteChange", desc := "(I)V" } : Jvm.MethodName) prog_1_method_72_code (2 : Nat) (Option.none : Option Jvm.ClassFile.FieldType)) ∈ WS := ws_c4 226 rfl rfl
theorem wd_1037 : (Jvm.Cond.methodLink "BitDesk" (244 : Nat) ({ cls := "BitDesk", name := "noteChange", desc := "(I)V" } : Jvm.MethodName)) ∈ WS := ws_c4 223 rfl rfl
theorem wd_1039 : (Jvm.Cond.instanceMethod ({ cls := "BitDesk", name := "noteChange", desc := "(I)V" } : Jvm.MethodName)) ∈ WS := ws_c4 225 rfl rfl
theorem wd_38 : (Jvm.Cond.selects "BitDesk" (⟨"BitDesk", "noteChange", "(I)V"⟩ : Jvm.MethodName) (⟨"BitDesk", "noteChange", "(I)V"⟩ : Jvm.MethodName)) ∈ WS := ws_c0 38 rfl rfl
theorem lk_X6_244 : LkV RX6 244 jX6_noteChange 1 := ⟨⟨wd_1037, ⟨rfl, (by rw [cwd_nil rfl]; exact wd_1040)⟩, wd_95, ⟨by decide +kernel, by decide +kernel⟩, by decide +kernel⟩, wd_1039, wd_38⟩
theorem wd_1052 : (Jvm.Cond.code ({ cls := "BitDesk", name := "store", desc := "([II)I" } : Jvm.MethodName) prog_1_method_71_code (3 : Nat) (Option.some Jvm.ClassFile.FieldType.int)) ∈ WS := ws_c4 238 rfl rfl
theorem wd_1049 : (Jvm.Cond.methodLink "BitDesk" (247 : Nat) ({ cls := "BitDesk", name := "store", desc := "([II)I" } : Jvm.MethodName)) ∈ WS := ws_c4 235 rfl rfl
theorem wd_1051 : (Jvm.Cond.instanceMethod ({ cls := "BitDesk", name := "store", desc := "([II)I" } : Jvm.MethodName)) ∈ WS := ws_c4 237 rfl rfl
theorem wd_39 : (Jvm.Cond.selects "BitDesk" (⟨"BitDesk", "store", "([II)I"⟩ : Jvm.MethodName) (⟨"BitDesk", "store", "([II)I"⟩ : Jvm.MethodName)) ∈ WS := ws_c0 39 rfl rfl
theorem lk_X6_247 : LkV RX6 247 jX6_store 2 := ⟨⟨wd_1049, ⟨rfl, (by rw [cwd_nil rfl]; exact wd_1052)⟩, wd_95, ⟨by decide +kernel, by decide +kernel⟩, by decide +kernel⟩, wd_1051, wd_39⟩
theorem fk_X6_58 : FK RX6 58 6 11 (.array .int) := ⟨RX6, TX6, 15, rfl, by decide, rfl, rfl, (Or.inl wd_300), inW6⟩
theorem wd_1069 : (Jvm.Cond.code ({ cls := "BitDesk", name := "combined", desc := "(III)I" } : Jvm.MethodName) prog_1_method_81_code (3 : Nat) (Option.some Jvm.ClassFile.FieldType.int)) ∈ WS := ws_c5 15 rfl rfl
theorem wd_1067 : (Jvm.Cond.methodLink "BitDesk" (250 : Nat) ({ cls := "BitDesk", name := "combined", desc := "(III)I" } : Jvm.MethodName)) ∈ WS := ws_c5 13 rfl rfl
theorem wd_1068 : (Jvm.Cond.static ({ cls := "BitDesk", name := "combined", desc := "(III)I" } : Jvm.MethodName)) ∈ WS := ws_c5 14 rfl rfl
theorem lk_X6_250 : LkS RX6 250 jX6_combined 3 := ⟨⟨wd_1067, ⟨rfl, (by rw [cwd_nil rfl]; exact wd_1069)⟩, wd_95, ⟨by decide +kernel, by decide +kernel⟩, by decide +kernel⟩, wd_1068⟩
theorem fk_X6_47 : FK RX6 47 6 9 (.object "BitDesk$Multiplier") := ⟨RX6, TX6, 15, rfl, by decide, rfl, rfl, (Or.inl wd_298), inW6⟩
theorem wd_1080 : (Jvm.Cond.code ({ cls := "BitDesk$Multiplier", name := "begin", desc := "(LBitDesk$State;Z)V" } : Jvm.MethodName) prog_5_method_2_code (3 : Nat) (Option.none : Option Jvm.ClassFile.FieldType)) ∈ WS := ws_c5 26 rfl rfl
theorem wd_1077 : (Jvm.Cond.methodLink "BitDesk" (253 : Nat) ({ cls := "BitDesk$Multiplier", name := "begin", desc := "(LBitDesk$State;Z)V" } : Jvm.MethodName)) ∈ WS := ws_c5 23 rfl rfl
theorem wd_1078 : (Jvm.Cond.instanceMethod ({ cls := "BitDesk$Multiplier", name := "begin", desc := "(LBitDesk$State;Z)V" } : Jvm.MethodName)) ∈ WS := ws_c5 24 rfl rfl
theorem wd_1079 : (Jvm.Cond.selects "BitDesk$Multiplier" ({ cls := "BitDesk$Multiplier", name := "begin", desc := "(LBitDesk$State;Z)V" } : Jvm.MethodName) ({ cls := "BitDesk$Multiplier", name := "begin", desc := "(LBitDesk$State;Z)V" } : Jvm.MethodName)) ∈ WS := ws_c5 25 rfl rfl
theorem lk_X6_253 : LkV RX6 253 jX3_begin 2 := ⟨⟨wd_1077, ⟨rfl, (by rw [cwd_nil rfl]; exact wd_1080)⟩, wd_100, ⟨by decide +kernel, by decide +kernel⟩, by decide +kernel⟩, wd_1078, wd_1079⟩
theorem wd_1081 : (Jvm.Cond.methodLink "BitDesk" (257 : Nat) ({ cls := "BitDesk$Multiplier", name := "multiply", desc := "([I[I[I)V" } : Jvm.MethodName)) ∈ WS := ws_c5 27 rfl rfl
theorem lk_X6_257 : LkV RX6 257 jX3_multiply 3 := ⟨⟨wd_1081, ⟨rfl, (by rw [cwd_nil rfl]; exact wd_1084)⟩, wd_100, ⟨by decide +kernel, by decide +kernel⟩, by decide +kernel⟩, wd_1082, wd_1083⟩
theorem wd_1102 : (Jvm.Cond.code ({ cls := "BitDesk", name := "noteWork", desc := "()V" } : Jvm.MethodName) prog_1_method_73_code (1 : Nat) (Option.none : Option Jvm.ClassFile.FieldType)) ∈ WS := ws_c5 48 rfl rfl
theorem wd_1099 : (Jvm.Cond.methodLink "BitDesk" (261 : Nat) ({ cls := "BitDesk", name := "noteWork", desc := "()V" } : Jvm.MethodName)) ∈ WS := ws_c5 45 rfl rfl
theorem wd_1101 : (Jvm.Cond.instanceMethod ({ cls := "BitDesk", name := "noteWork", desc := "()V" } : Jvm.MethodName)) ∈ WS := ws_c5 47 rfl rfl
theorem wd_43 : (Jvm.Cond.selects "BitDesk" (⟨"BitDesk", "noteWork", "()V"⟩ : Jvm.MethodName) (⟨"BitDesk", "noteWork", "()V"⟩ : Jvm.MethodName)) ∈ WS := ws_c0 43 rfl rfl
theorem lk_X6_261 : LkV RX6 261 jX6_noteWork 0 := ⟨⟨wd_1099, ⟨rfl, (by rw [cwd_nil rfl]; exact wd_1102)⟩, wd_95, ⟨by decide +kernel, by decide +kernel⟩, by decide +kernel⟩, wd_1101, wd_43⟩
theorem wd_1110 : (Jvm.Cond.constant "BitDesk" (264 : Nat) (1000000 : Int32)) ∈ WS := ws_c5 56 rfl rfl
theorem wd_1114 : (Jvm.Cond.code ({ cls := "BitDesk$Multiplier", name := "raise", desc := "([II)[I" } : Jvm.MethodName) prog_5_method_4_code (7 : Nat) (Option.some (Jvm.ClassFile.FieldType.array Jvm.ClassFile.FieldType.int))) ∈ WS := ws_c5 60 rfl rfl
theorem wd_1111 : (Jvm.Cond.methodLink "BitDesk" (265 : Nat) ({ cls := "BitDesk$Multiplier", name := "raise", desc := "([II)[I" } : Jvm.MethodName)) ∈ WS := ws_c5 57 rfl rfl
theorem wd_1112 : (Jvm.Cond.instanceMethod ({ cls := "BitDesk$Multiplier", name := "raise", desc := "([II)[I" } : Jvm.MethodName)) ∈ WS := ws_c5 58 rfl rfl
theorem wd_1113 : (Jvm.Cond.selects "BitDesk$Multiplier" ({ cls := "BitDesk$Multiplier", name := "raise", desc := "([II)[I" } : Jvm.MethodName) ({ cls := "BitDesk$Multiplier", name := "raise", desc := "([II)[I" } : Jvm.MethodName)) ∈ WS := ws_c5 59 rfl rfl
theorem lk_X6_265 : LkV RX6 265 jX3_raise 2 := ⟨⟨wd_1111, ⟨rfl, (by rw [cwd_nil rfl]; exact wd_1114)⟩, wd_100, ⟨by decide +kernel, by decide +kernel⟩, by decide +kernel⟩, wd_1112, wd_1113⟩
theorem wd_1127 : (Jvm.Cond.code ({ cls := "BitDesk$Elimination", name := "eliminateBesideUnit", desc := "([II)V" } : Jvm.MethodName) prog_3_method_3_code (4 : Nat) (Option.none : Option Jvm.ClassFile.FieldType)) ∈ WS := ws_c5 73 rfl rfl
theorem wd_1124 : (Jvm.Cond.methodLink "BitDesk" (269 : Nat) ({ cls := "BitDesk$Elimination", name := "eliminateBesideUnit", desc := "([II)V" } : Jvm.MethodName)) ∈ WS := ws_c5 70 rfl rfl
theorem wd_1125 : (Jvm.Cond.instanceMethod ({ cls := "BitDesk$Elimination", name := "eliminateBesideUnit", desc := "([II)V" } : Jvm.MethodName)) ∈ WS := ws_c5 71 rfl rfl
theorem wd_1126 : (Jvm.Cond.selects "BitDesk$Elimination" ({ cls := "BitDesk$Elimination", name := "eliminateBesideUnit", desc := "([II)V" } : Jvm.MethodName) ({ cls := "BitDesk$Elimination", name := "eliminateBesideUnit", desc := "([II)V" } : Jvm.MethodName)) ∈ WS := ws_c5 72 rfl rfl
theorem lk_X6_269 : LkV RX6 269 jX1_eliminateBesideUnit 2 := ⟨⟨wd_1124, ⟨rfl, (by rw [cwd_nil rfl]; exact wd_1127)⟩, wd_101, ⟨by decide +kernel, by decide +kernel⟩, by decide +kernel⟩, wd_1125, wd_1126⟩
theorem fk_X6_273 : FK RX6 273 1 1 (.array .int) := ⟨RX1, TX1, 4, rfl, by decide, rfl, rfl, (Or.inr ⟨_, wn_f24⟩), inW1⟩
theorem wd_912 : (Jvm.Cond.methodLink "BitDesk" (276 : Nat) ({ cls := "java/lang/System", name := "arraycopy", desc := "(Ljava/lang/Object;ILjava/lang/Object;II)V" } : Jvm.MethodName)) ∈ WS := ws_c4 98 rfl rfl
theorem wd_1145 : (Jvm.Cond.code ({ cls := "BitDesk", name := "dropNeedless", desc := "([II)V" } : Jvm.MethodName) prog_1_method_80_code (5 : Nat) (Option.none : Option Jvm.ClassFile.FieldType)) ∈ WS := ws_c5 91 rfl rfl
theorem wd_1142 : (Jvm.Cond.methodLink "BitDesk" (282 : Nat) ({ cls := "BitDesk", name := "dropNeedless", desc := "([II)V" } : Jvm.MethodName)) ∈ WS := ws_c5 88 rfl rfl
theorem wd_1144 : (Jvm.Cond.instanceMethod ({ cls := "BitDesk", name := "dropNeedless", desc := "([II)V" } : Jvm.MethodName)) ∈ WS := ws_c5 90 rfl rfl
theorem wd_44 : (Jvm.Cond.selects "BitDesk" (⟨"BitDesk", "dropNeedless", "([II)V"⟩ : Jvm.MethodName) (⟨"BitDesk", "dropNeedless", "([II)V"⟩ : Jvm.MethodName)) ∈ WS := ws_c0 44 rfl rfl
theorem lk_X6_282 : LkV RX6 282 jX6_dropNeedless 2 := ⟨⟨wd_1142, ⟨rfl, (by rw [cwd_nil rfl]; exact wd_1145)⟩, wd_95, ⟨by decide +kernel, by decide +kernel⟩, by decide +kernel⟩, wd_1144, wd_44⟩
theorem wd_1156 : (Jvm.Cond.code ({ cls := "BitDesk", name := "exchanged", desc := "(III)I" } : Jvm.MethodName) prog_1_method_82_code (3 : Nat) (Option.some Jvm.ClassFile.FieldType.int)) ∈ WS := ws_c5 102 rfl rfl
theorem wd_1154 : (Jvm.Cond.methodLink "BitDesk" (285 : Nat) ({ cls := "BitDesk", name := "exchanged", desc := "(III)I" } : Jvm.MethodName)) ∈ WS := ws_c5 100 rfl rfl
theorem wd_1155 : (Jvm.Cond.static ({ cls := "BitDesk", name := "exchanged", desc := "(III)I" } : Jvm.MethodName)) ∈ WS := ws_c5 101 rfl rfl
theorem lk_X6_285 : LkS RX6 285 jX6_exchanged 3 := ⟨⟨wd_1154, ⟨rfl, (by rw [cwd_nil rfl]; exact wd_1156)⟩, wd_95, ⟨by decide +kernel, by decide +kernel⟩, by decide +kernel⟩, wd_1155⟩
theorem fp_X6_288 : FP RX6 288 2 1 (.boolean) false := ⟨RX2, TX2, 5, tyX2, rfl, by decide, rfl, rfl, (Or.inr ⟨_, wn_f6⟩), inW2, tyX2_ok, nmX2, rfl, tyX2_ok 1 (by decide), rfl⟩
theorem wd_1041 : (Jvm.Cond.methodLink "BitDesk" (292 : Nat) ({ cls := "BitDesk$Matrix", name := "noteMadeAnew", desc := "(I)V" } : Jvm.MethodName)) ∈ WS := ws_c4 227 rfl rfl
theorem lk_X6_292 : LkV RX6 292 jX2_noteMadeAnew 1 := ⟨⟨wd_1041, ⟨rfl, (by rw [cwd_nil rfl]; exact wd_491)⟩, wd_98, ⟨by decide +kernel, by decide +kernel⟩, by decide +kernel⟩, wd_489, wd_490⟩
theorem fp_X6_99 : FP RX6 99 5 2 (.int) false := ⟨RX5, TX5, 5, tyX5, rfl, by decide, rfl, rfl, (Or.inr ⟨_, wn_f17⟩), inW5, tyX5_ok, nmX5, rfl, tyX5_ok 2 (by decide), rfl⟩
theorem fk_X6_288 : FK RX6 288 2 1 (.boolean) := ⟨RX2, TX2, 5, rfl, by decide, rfl, rfl, (Or.inr ⟨_, wn_f6⟩), inW2⟩
theorem fk_X6_295 : FK RX6 295 2 2 (.int) := ⟨RX2, TX2, 5, rfl, by decide, rfl, rfl, (Or.inr ⟨_, wn_f7⟩), inW2⟩
theorem fk_X6_298 : FK RX6 298 2 3 (.int) := ⟨RX2, TX2, 5, rfl, by decide, rfl, rfl, (Or.inr ⟨_, wn_f8⟩), inW2⟩
theorem fk_X6_301 : FK RX6 301 2 4 (.int) := ⟨RX2, TX2, 5, rfl, by decide, rfl, rfl, (Or.inr ⟨_, wn_f9⟩), inW2⟩
theorem fk_X6_304 : FK RX6 304 5 3 (.int) := ⟨RX5, TX5, 5, rfl, by decide, rfl, rfl, (Or.inr ⟨_, wn_f18⟩), inW5⟩
theorem fk_X6_307 : FK RX6 307 5 4 (.int) := ⟨RX5, TX5, 5, rfl, by decide, rfl, rfl, (Or.inr ⟨_, wn_f19⟩), inW5⟩
theorem fk_X6_86 : FK RX6 86 6 14 (.int) := ⟨RX6, TX6, 15, rfl, by decide, rfl, rfl, (Or.inl wd_303), inW6⟩
theorem fk_X6_65 : FK RX6 65 6 13 (.array .int) := ⟨RX6, TX6, 15, rfl, by decide, rfl, rfl, (Or.inl wd_302), inW6⟩
theorem fp_X6_106 : FP RX6 106 6 5 (.int) false := ⟨RX6, TX6, 15, tyX6, rfl, by decide, rfl, rfl, (Or.inl wd_294), inW6, tyX6_ok, nmX6, rfl, tyX6_ok 5 (by decide), rfl⟩
theorem wd_293 : (Jvm.Cond.fieldLink "BitDesk" (310 : Nat) "BitDesk" "pastNext" "I") ∈ WS := ws_c1 199 rfl rfl
theorem fk_X6_310 : FK RX6 310 6 4 (.int) := ⟨RX6, TX6, 15, rfl, by decide, rfl, rfl, (Or.inl wd_293), inW6⟩
theorem fp_X6_310 : FP RX6 310 6 4 (.int) false := ⟨RX6, TX6, 15, tyX6, rfl, by decide, rfl, rfl, (Or.inl wd_293), inW6, tyX6_ok, nmX6, rfl, tyX6_ok 4 (by decide), rfl⟩
theorem wd_503 : (Jvm.Cond.code ({ cls := "BitDesk$State", name := "takeFrom", desc := "(LBitDesk$State;)V" } : Jvm.MethodName) prog_7_method_3_code (3 : Nat) (Option.none : Option Jvm.ClassFile.FieldType)) ∈ WS := ws_c2 169 rfl rfl
theorem wd_500 : (Jvm.Cond.methodLink "BitDesk" (313 : Nat) ({ cls := "BitDesk$State", name := "takeFrom", desc := "(LBitDesk$State;)V" } : Jvm.MethodName)) ∈ WS := ws_c2 166 rfl rfl
theorem wd_501 : (Jvm.Cond.instanceMethod ({ cls := "BitDesk$State", name := "takeFrom", desc := "(LBitDesk$State;)V" } : Jvm.MethodName)) ∈ WS := ws_c2 167 rfl rfl
theorem wd_502 : (Jvm.Cond.selects "BitDesk$State" ({ cls := "BitDesk$State", name := "takeFrom", desc := "(LBitDesk$State;)V" } : Jvm.MethodName) ({ cls := "BitDesk$State", name := "takeFrom", desc := "(LBitDesk$State;)V" } : Jvm.MethodName)) ∈ WS := ws_c2 168 rfl rfl
theorem lk_X6_313 : LkV RX6 313 jX5_takeFrom 1 := ⟨⟨wd_500, ⟨rfl, (by rw [cwd_nil rfl]; exact wd_503)⟩, wd_97, ⟨by decide +kernel, by decide +kernel⟩, by decide +kernel⟩, wd_501, wd_502⟩
theorem wd_514 : (Jvm.Cond.code ({ cls := "BitDesk", name := "dropClosures", desc := "()V" } : Jvm.MethodName) prog_1_method_69_code (2 : Nat) (Option.none : Option Jvm.ClassFile.FieldType)) ∈ WS := ws_c2 180 rfl rfl
theorem wd_511 : (Jvm.Cond.methodLink "BitDesk" (316 : Nat) ({ cls := "BitDesk", name := "dropClosures", desc := "()V" } : Jvm.MethodName)) ∈ WS := ws_c2 177 rfl rfl
theorem wd_513 : (Jvm.Cond.instanceMethod ({ cls := "BitDesk", name := "dropClosures", desc := "()V" } : Jvm.MethodName)) ∈ WS := ws_c2 179 rfl rfl
theorem wd_17 : (Jvm.Cond.selects "BitDesk" (⟨"BitDesk", "dropClosures", "()V"⟩ : Jvm.MethodName) (⟨"BitDesk", "dropClosures", "()V"⟩ : Jvm.MethodName)) ∈ WS := ws_c0 17 rfl rfl
theorem lk_X6_316 : LkV RX6 316 jX6_dropClosures 0 := ⟨⟨wd_511, ⟨rfl, (by rw [cwd_nil rfl]; exact wd_514)⟩, wd_95, ⟨by decide +kernel, by decide +kernel⟩, by decide +kernel⟩, wd_513, wd_17⟩
theorem fk_X6_33 : FK RX6 33 6 7 (.array .boolean) := ⟨RX6, TX6, 15, rfl, by decide, rfl, rfl, (Or.inl wd_296), inW6⟩
theorem wd_634 : (Jvm.Cond.classLink "BitDesk" (319 : Nat) "java/lang/IndexOutOfBoundsException") ∈ WS := ws_c3 60 rfl rfl
theorem wd_653 : (Jvm.Cond.code ({ cls := "BitDesk", name := "needNode", desc := "(I)V" } : Jvm.MethodName) prog_1_method_61_code (2 : Nat) (Option.none : Option Jvm.ClassFile.FieldType)) ∈ WS := ws_c3 79 rfl rfl
theorem wd_650 : (Jvm.Cond.methodLink "BitDesk" (328 : Nat) ({ cls := "BitDesk", name := "needNode", desc := "(I)V" } : Jvm.MethodName)) ∈ WS := ws_c3 76 rfl rfl
theorem wd_652 : (Jvm.Cond.instanceMethod ({ cls := "BitDesk", name := "needNode", desc := "(I)V" } : Jvm.MethodName)) ∈ WS := ws_c3 78 rfl rfl
theorem wd_24 : (Jvm.Cond.selects "BitDesk" (⟨"BitDesk", "needNode", "(I)V"⟩ : Jvm.MethodName) (⟨"BitDesk", "needNode", "(I)V"⟩ : Jvm.MethodName)) ∈ WS := ws_c0 24 rfl rfl
theorem lk_X6_328 : LkV RX6 328 jX6_needNode 1 := ⟨⟨wd_650, ⟨rfl, (by rw [cwd_nil rfl]; exact wd_653)⟩, wd_95, ⟨by decide +kernel, by decide +kernel⟩, by decide +kernel⟩, wd_652, wd_24⟩
theorem wd_544 : (Jvm.Cond.classLink "BitDesk" (331 : Nat) "java/lang/IllegalArgumentException") ∈ WS := ws_c2 210 rfl rfl
theorem wd_1019 : (Jvm.Cond.methodLink "BitDesk" (336 : Nat) ({ cls := "java/lang/Math", name := "min", desc := "(II)I" } : Jvm.MethodName)) ∈ WS := ws_c4 205 rfl rfl
theorem lk_X6_336 : LkS RX6 336 jJ9_min_7cf53 2 := ⟨⟨wd_1019, ⟨rfl, (by rw [cwd_nil rfl]; exact wd_431)⟩, wd_107, ⟨by decide +kernel, by decide +kernel⟩, by decide +kernel⟩, wd_430⟩
theorem fp_X6_341 : FP RX6 341 0 1 (.boolean) false := ⟨RX0, TX0, 2, tyX0, rfl, by decide, rfl, rfl, (Or.inr ⟨_, wn_f21⟩), inW0, tyX0_ok, nmX0, rfl, tyX0_ok 1 (by decide), rfl⟩
theorem fk_X6_341 : FK RX6 341 0 1 (.boolean) := ⟨RX0, TX0, 2, rfl, by decide, rfl, rfl, (Or.inr ⟨_, wn_f21⟩), inW0⟩
theorem wd_789 : (Jvm.Cond.code ({ cls := "BitDesk$Closure", name := "makeFrom", desc := "([II)V" } : Jvm.MethodName) prog_2_method_2_code (5 : Nat) (Option.none : Option Jvm.ClassFile.FieldType)) ∈ WS := ws_c3 215 rfl rfl
theorem wd_786 : (Jvm.Cond.methodLink "BitDesk" (344 : Nat) ({ cls := "BitDesk$Closure", name := "makeFrom", desc := "([II)V" } : Jvm.MethodName)) ∈ WS := ws_c3 212 rfl rfl
theorem wd_787 : (Jvm.Cond.instanceMethod ({ cls := "BitDesk$Closure", name := "makeFrom", desc := "([II)V" } : Jvm.MethodName)) ∈ WS := ws_c3 213 rfl rfl
theorem wd_788 : (Jvm.Cond.selects "BitDesk$Closure" ({ cls := "BitDesk$Closure", name := "makeFrom", desc := "([II)V" } : Jvm.MethodName) ({ cls := "BitDesk$Closure", name := "makeFrom", desc := "([II)V" } : Jvm.MethodName)) ∈ WS := ws_c3 214 rfl rfl
theorem lk_X6_344 : LkV RX6 344 jX0_makeFrom 2 := ⟨⟨wd_786, ⟨rfl, (by rw [cwd_nil rfl]; exact wd_789)⟩, wd_99, ⟨by decide +kernel, by decide +kernel⟩, by decide +kernel⟩, wd_787, wd_788⟩
theorem fk_X6_347 : FK RX6 347 3 6 (.int) := ⟨RX3, TX3, 8, rfl, by decide, rfl, rfl, (Or.inr ⟨_, wn_f22⟩), inW3⟩
theorem fp_X6_304 : FP RX6 304 5 3 (.int) false := ⟨RX5, TX5, 5, tyX5, rfl, by decide, rfl, rfl, (Or.inr ⟨_, wn_f18⟩), inW5, tyX5_ok, nmX5, rfl, tyX5_ok 3 (by decide), rfl⟩
theorem fk_X6_348 : FK RX6 348 3 7 (.int) := ⟨RX3, TX3, 8, rfl, by decide, rfl, rfl, (Or.inr ⟨_, wn_f23⟩), inW3⟩
theorem fp_X6_307 : FP RX6 307 5 4 (.int) false := ⟨RX5, TX5, 5, tyX5, rfl, by decide, rfl, rfl, (Or.inr ⟨_, wn_f19⟩), inW5, tyX5_ok, nmX5, rfl, tyX5_ok 4 (by decide), rfl⟩
theorem wd_916 : (Jvm.Cond.code ({ cls := "BitDesk$Closure", name := "lossBy", desc := "([IIII)I" } : Jvm.MethodName) prog_2_method_8_code (8 : Nat) (Option.some Jvm.ClassFile.FieldType.int)) ∈ WS := ws_c4 102 rfl rfl
theorem wd_913 : (Jvm.Cond.methodLink "BitDesk" (349 : Nat) ({ cls := "BitDesk$Closure", name := "lossBy", desc := "([IIII)I" } : Jvm.MethodName)) ∈ WS := ws_c4 99 rfl rfl
theorem wd_914 : (Jvm.Cond.instanceMethod ({ cls := "BitDesk$Closure", name := "lossBy", desc := "([IIII)I" } : Jvm.MethodName)) ∈ WS := ws_c4 100 rfl rfl
theorem wd_915 : (Jvm.Cond.selects "BitDesk$Closure" ({ cls := "BitDesk$Closure", name := "lossBy", desc := "([IIII)I" } : Jvm.MethodName) ({ cls := "BitDesk$Closure", name := "lossBy", desc := "([IIII)I" } : Jvm.MethodName)) ∈ WS := ws_c4 101 rfl rfl
theorem lk_X6_349 : LkV RX6 349 jX0_lossBy 4 := ⟨⟨wd_913, ⟨rfl, (by rw [cwd_nil rfl]; exact wd_916)⟩, wd_99, ⟨by decide +kernel, by decide +kernel⟩, by decide +kernel⟩, wd_914, wd_915⟩
theorem wd_1146 : (Jvm.Cond.methodLink "BitDesk" (353 : Nat) ({ cls := "BitDesk", name := "reachedFrom", desc := "([III)I" } : Jvm.MethodName)) ∈ WS := ws_c5 92 rfl rfl
theorem lk_X6_353 : LkS RX6 353 jX6_reachedFrom 3 := ⟨⟨wd_1146, ⟨rfl, (by rw [cwd_nil rfl]; exact wd_919)⟩, wd_95, ⟨by decide +kernel, by decide +kernel⟩, by decide +kernel⟩, wd_918⟩
theorem wd_672 : (Jvm.Cond.constantLong "BitDesk" (356 : Nat) (4294967295 : Int64)) ∈ WS := ws_c3 98 rfl rfl
theorem wd_1211 : (Jvm.Cond.methodLink "BitDeskModel" (3 : Nat) ({ cls := "java/lang/Object", name := "<init>", desc := "()V" } : Jvm.MethodName)) ∈ WS := ws_c5 157 rfl rfl
theorem wd_1216 : (Jvm.Cond.fieldLink "BitDeskModel" (9 : Nat) "BitDeskModel" "now" "[J") ∈ WS := ws_c5 162 rfl rfl
theorem fp_X7_9 : FP RX7 9 7 0 (.array .long) true := ⟨RX7, TX7, 25, tyX7, rfl, by decide, rfl, rfl, (Or.inl wd_1216), inW7, tyX7_ok, nmX7, rfl, tyX7_ok 0 (by decide), rfl⟩
theorem wd_1217 : (Jvm.Cond.fieldLink "BitDeskModel" (13 : Nat) "BitDeskModel" "read" "[J") ∈ WS := ws_c5 163 rfl rfl
theorem fp_X7_13 : FP RX7 13 7 1 (.array .long) true := ⟨RX7, TX7, 25, tyX7, rfl, by decide, rfl, rfl, (Or.inl wd_1217), inW7, tyX7_ok, nmX7, rfl, tyX7_ok 1 (by decide), rfl⟩
theorem wd_1218 : (Jvm.Cond.fieldLink "BitDeskModel" (16 : Nat) "BitDeskModel" "past" "[J") ∈ WS := ws_c5 164 rfl rfl
theorem fp_X7_16 : FP RX7 16 7 2 (.array .long) true := ⟨RX7, TX7, 25, tyX7, rfl, by decide, rfl, rfl, (Or.inl wd_1218), inW7, tyX7_ok, nmX7, rfl, tyX7_ok 2 (by decide), rfl⟩
theorem wd_1219 : (Jvm.Cond.fieldLink "BitDeskModel" (19 : Nat) "BitDeskModel" "copies" "[J") ∈ WS := ws_c5 165 rfl rfl
theorem fp_X7_19 : FP RX7 19 7 3 (.array .long) true := ⟨RX7, TX7, 25, tyX7, rfl, by decide, rfl, rfl, (Or.inl wd_1219), inW7, tyX7_ok, nmX7, rfl, tyX7_ok 3 (by decide), rfl⟩
theorem wd_1220 : (Jvm.Cond.fieldLink "BitDeskModel" (22 : Nat) "BitDeskModel" "isSaved" "[Z") ∈ WS := ws_c5 166 rfl rfl
theorem fp_X7_22 : FP RX7 22 7 4 (.array .boolean) true := ⟨RX7, TX7, 25, tyX7, rfl, by decide, rfl, rfl, (Or.inl wd_1220), inW7, tyX7_ok, nmX7, rfl, tyX7_ok 4 (by decide), rfl⟩
theorem wd_1223 : (Jvm.Cond.fieldLink "BitDeskModel" (26 : Nat) "BitDeskModel" "buffer" "[B") ∈ WS := ws_c5 169 rfl rfl
theorem fp_X7_26 : FP RX7 26 7 7 (.array .byte) true := ⟨RX7, TX7, 25, tyX7, rfl, by decide, rfl, rfl, (Or.inl wd_1223), inW7, tyX7_ok, nmX7, rfl, tyX7_ok 7 (by decide), rfl⟩
theorem wd_1231 : (Jvm.Cond.fieldLink "BitDeskModel" (30 : Nat) "BitDeskModel" "lastStatement" "I") ∈ WS := ws_c5 177 rfl rfl
theorem fp_X7_30 : FP RX7 30 7 15 (.int) false := ⟨RX7, TX7, 25, tyX7, rfl, by decide, rfl, rfl, (Or.inl wd_1231), inW7, tyX7_ok, nmX7, rfl, tyX7_ok 15 (by decide), rfl⟩
theorem wd_1232 : (Jvm.Cond.fieldLink "BitDeskModel" (34 : Nat) "BitDeskModel" "hand" "[J") ∈ WS := ws_c5 178 rfl rfl
theorem fp_X7_34 : FP RX7 34 7 16 (.array .long) true := ⟨RX7, TX7, 25, tyX7, rfl, by decide, rfl, rfl, (Or.inl wd_1232), inW7, tyX7_ok, nmX7, rfl, tyX7_ok 16 (by decide), rfl⟩
theorem wd_1233 : (Jvm.Cond.fieldLink "BitDeskModel" (37 : Nat) "BitDeskModel" "other" "[J") ∈ WS := ws_c5 179 rfl rfl
theorem fp_X7_37 : FP RX7 37 7 17 (.array .long) true := ⟨RX7, TX7, 25, tyX7, rfl, by decide, rfl, rfl, (Or.inl wd_1233), inW7, tyX7_ok, nmX7, rfl, tyX7_ok 17 (by decide), rfl⟩
theorem wd_1234 : (Jvm.Cond.fieldLink "BitDeskModel" (40 : Nat) "BitDeskModel" "third" "[J") ∈ WS := ws_c5 180 rfl rfl
theorem fp_X7_40 : FP RX7 40 7 18 (.array .long) true := ⟨RX7, TX7, 25, tyX7, rfl, by decide, rfl, rfl, (Or.inl wd_1234), inW7, tyX7_ok, nmX7, rfl, tyX7_ok 18 (by decide), rfl⟩
theorem wd_1235 : (Jvm.Cond.fieldLink "BitDeskModel" (43 : Nat) "BitDeskModel" "far" "[I") ∈ WS := ws_c5 181 rfl rfl
theorem fp_X7_43 : FP RX7 43 7 19 (.array .int) true := ⟨RX7, TX7, 25, tyX7, rfl, by decide, rfl, rfl, (Or.inl wd_1235), inW7, tyX7_ok, nmX7, rfl, tyX7_ok 19 (by decide), rfl⟩
theorem wd_1236 : (Jvm.Cond.fieldLink "BitDeskModel" (47 : Nat) "BitDeskModel" "beside" "[J") ∈ WS := ws_c5 182 rfl rfl
theorem fp_X7_47 : FP RX7 47 7 20 (.array .long) true := ⟨RX7, TX7, 25, tyX7, rfl, by decide, rfl, rfl, (Or.inl wd_1236), inW7, tyX7_ok, nmX7, rfl, tyX7_ok 20 (by decide), rfl⟩
theorem wd_1237 : (Jvm.Cond.fieldLink "BitDeskModel" (50 : Nat) "BitDeskModel" "pivots" "[I") ∈ WS := ws_c5 183 rfl rfl
theorem fp_X7_50 : FP RX7 50 7 21 (.array .int) true := ⟨RX7, TX7, 25, tyX7, rfl, by decide, rfl, rfl, (Or.inl wd_1237), inW7, tyX7_ok, nmX7, rfl, tyX7_ok 21 (by decide), rfl⟩
theorem wd_1239 : (Jvm.Cond.fieldLink "BitDeskModel" (53 : Nat) "BitDeskModel" "output" "[B") ∈ WS := ws_c5 185 rfl rfl
theorem fp_X7_53 : FP RX7 53 7 23 (.array .byte) true := ⟨RX7, TX7, 25, tyX7, rfl, by decide, rfl, rfl, (Or.inl wd_1239), inW7, tyX7_ok, nmX7, rfl, tyX7_ok 23 (by decide), rfl⟩
theorem fk_X7_9 : FK RX7 9 7 0 (.array .long) := ⟨RX7, TX7, 25, rfl, by decide, rfl, rfl, (Or.inl wd_1216), inW7⟩
theorem wd_1214 : (Jvm.Cond.code ({ cls := "BitDeskModel", name := "begins", desc := "([JI)V" } : Jvm.MethodName) prog_9_method_5_code (3 : Nat) (Option.none : Option Jvm.ClassFile.FieldType)) ∈ WS := ws_c5 160 rfl rfl
theorem wd_1212 : (Jvm.Cond.methodLink "BitDeskModel" (56 : Nat) ({ cls := "BitDeskModel", name := "begins", desc := "([JI)V" } : Jvm.MethodName)) ∈ WS := ws_c5 158 rfl rfl
theorem wd_1213 : (Jvm.Cond.static ({ cls := "BitDeskModel", name := "begins", desc := "([JI)V" } : Jvm.MethodName)) ∈ WS := ws_c5 159 rfl rfl
theorem lk_X7_56 : LkS RX7 56 jX7_begins 2 := ⟨⟨wd_1212, ⟨rfl, (by rw [cwd_nil rfl]; exact wd_1214)⟩, wd_102, ⟨by decide +kernel, by decide +kernel⟩, by decide +kernel⟩, wd_1213⟩
theorem wd_1215 : (Jvm.Cond.constantLong "BitDeskModel" (63 : Nat) (4 : Int64)) ∈ WS := ws_c5 161 rfl rfl
theorem wd_1222 : (Jvm.Cond.fieldLink "BitDeskModel" (60 : Nat) "BitDeskModel" "thrown" "I") ∈ WS := ws_c5 168 rfl rfl
theorem fp_X7_60 : FP RX7 60 7 6 (.int) false := ⟨RX7, TX7, 25, tyX7, rfl, by decide, rfl, rfl, (Or.inl wd_1222), inW7, tyX7_ok, nmX7, rfl, tyX7_ok 6 (by decide), rfl⟩
theorem wd_1444 : (Jvm.Cond.constantLong "BitDeskModel" (65 : Nat) (5 : Int64)) ∈ WS := ws_c6 146 rfl rfl
theorem wd_1329 : (Jvm.Cond.code ({ cls := "BitDeskModel", name := "in", desc := "(JJJ)Z" } : Jvm.MethodName) prog_9_method_3_code (6 : Nat) (Option.some Jvm.ClassFile.FieldType.boolean)) ∈ WS := ws_c6 31 rfl rfl
theorem wd_1327 : (Jvm.Cond.methodLink "BitDeskModel" (67 : Nat) ({ cls := "BitDeskModel", name := "in", desc := "(JJJ)Z" } : Jvm.MethodName)) ∈ WS := ws_c6 29 rfl rfl
theorem wd_1328 : (Jvm.Cond.static ({ cls := "BitDeskModel", name := "in", desc := "(JJJ)Z" } : Jvm.MethodName)) ∈ WS := ws_c6 30 rfl rfl
theorem lk_X7_67 : LkS RX7 67 jX7_in 3 := ⟨⟨wd_1327, ⟨rfl, (by rw [cwd_nil rfl]; exact wd_1329)⟩, wd_102, ⟨by decide +kernel, by decide +kernel⟩, by decide +kernel⟩, wd_1328⟩
theorem wd_1407 : (Jvm.Cond.code ({ cls := "BitDeskModel", name := "size", desc := "()I" } : Jvm.MethodName) prog_9_method_7_code (1 : Nat) (Option.some Jvm.ClassFile.FieldType.int)) ∈ WS := ws_c6 109 rfl rfl
theorem wd_1404 : (Jvm.Cond.methodLink "BitDeskModel" (71 : Nat) ({ cls := "BitDeskModel", name := "size", desc := "()I" } : Jvm.MethodName)) ∈ WS := ws_c6 106 rfl rfl
theorem wd_1406 : (Jvm.Cond.instanceMethod ({ cls := "BitDeskModel", name := "size", desc := "()I" } : Jvm.MethodName)) ∈ WS := ws_c6 108 rfl rfl
theorem wd_62 : (Jvm.Cond.selects "BitDeskModel" (⟨"BitDeskModel", "size", "()I"⟩ : Jvm.MethodName) (⟨"BitDeskModel", "size", "()I"⟩ : Jvm.MethodName)) ∈ WS := ws_c0 62 rfl rfl
theorem lk_X7_71 : LkV RX7 71 jX7_size 0 := ⟨⟨wd_1404, ⟨rfl, (by rw [cwd_nil rfl]; exact wd_1407)⟩, wd_102, ⟨by decide +kernel, by decide +kernel⟩, by decide +kernel⟩, wd_1406, wd_62⟩
theorem wd_1304 : (Jvm.Cond.constantLong "BitDeskModel" (75 : Nat) (255 : Int64)) ∈ WS := ws_c6 6 rfl rfl
theorem wd_1303 : (Jvm.Cond.code ({ cls := "BitDeskModel", name := "byteOf", desc := "(JI)I" } : Jvm.MethodName) prog_9_method_15_code (3 : Nat) (Option.some Jvm.ClassFile.FieldType.int)) ∈ WS := ws_c6 5 rfl rfl
theorem wd_1301 : (Jvm.Cond.methodLink "BitDeskModel" (77 : Nat) ({ cls := "BitDeskModel", name := "byteOf", desc := "(JI)I" } : Jvm.MethodName)) ∈ WS := ws_c6 3 rfl rfl
theorem wd_1302 : (Jvm.Cond.static ({ cls := "BitDeskModel", name := "byteOf", desc := "(JI)I" } : Jvm.MethodName)) ∈ WS := ws_c6 4 rfl rfl
theorem lk_X7_77 : LkS RX7 77 jX7_byteOf 2 := ⟨⟨wd_1301, ⟨rfl, (by rw [cwd_nil rfl]; exact wd_1303)⟩, wd_102, ⟨by decide +kernel, by decide +kernel⟩, by decide +kernel⟩, wd_1302⟩
theorem wd_1224 : (Jvm.Cond.fieldLink "BitDeskModel" (81 : Nat) "BitDeskModel" "length" "I") ∈ WS := ws_c5 170 rfl rfl
theorem fk_X7_81 : FK RX7 81 7 8 (.int) := ⟨RX7, TX7, 25, rfl, by decide, rfl, rfl, (Or.inl wd_1224), inW7⟩
theorem fk_X7_26 : FK RX7 26 7 7 (.array .byte) := ⟨RX7, TX7, 25, rfl, by decide, rfl, rfl, (Or.inl wd_1223), inW7⟩
theorem fp_X7_81 : FP RX7 81 7 8 (.int) false := ⟨RX7, TX7, 25, tyX7, rfl, by decide, rfl, rfl, (Or.inl wd_1224), inW7, tyX7_ok, nmX7, rfl, tyX7_ok 8 (by decide), rfl⟩
theorem wd_1225 : (Jvm.Cond.fieldLink "BitDeskModel" (84 : Nat) "BitDeskModel" "at" "I") ∈ WS := ws_c5 171 rfl rfl
theorem fk_X7_84 : FK RX7 84 7 9 (.int) := ⟨RX7, TX7, 25, rfl, by decide, rfl, rfl, (Or.inl wd_1225), inW7⟩
theorem wd_1324 : (Jvm.Cond.code ({ cls := "BitDeskModel", name := "here", desc := "()I" } : Jvm.MethodName) prog_9_method_17_code (1 : Nat) (Option.some Jvm.ClassFile.FieldType.int)) ∈ WS := ws_c6 26 rfl rfl
theorem wd_1321 : (Jvm.Cond.methodLink "BitDeskModel" (87 : Nat) ({ cls := "BitDeskModel", name := "here", desc := "()I" } : Jvm.MethodName)) ∈ WS := ws_c6 23 rfl rfl
theorem wd_1323 : (Jvm.Cond.instanceMethod ({ cls := "BitDeskModel", name := "here", desc := "()I" } : Jvm.MethodName)) ∈ WS := ws_c6 25 rfl rfl
theorem wd_48 : (Jvm.Cond.selects "BitDeskModel" (⟨"BitDeskModel", "here", "()I"⟩ : Jvm.MethodName) (⟨"BitDeskModel", "here", "()I"⟩ : Jvm.MethodName)) ∈ WS := ws_c0 48 rfl rfl
theorem lk_X7_87 : LkV RX7 87 jX7_here 0 := ⟨⟨wd_1321, ⟨rfl, (by rw [cwd_nil rfl]; exact wd_1324)⟩, wd_102, ⟨by decide +kernel, by decide +kernel⟩, by decide +kernel⟩, wd_1323, wd_48⟩
theorem fp_X7_84 : FP RX7 84 7 9 (.int) false := ⟨RX7, TX7, 25, tyX7, rfl, by decide, rfl, rfl, (Or.inl wd_1225), inW7, tyX7_ok, nmX7, rfl, tyX7_ok 9 (by decide), rfl⟩
theorem wd_1226 : (Jvm.Cond.fieldLink "BitDeskModel" (90 : Nat) "BitDeskModel" "begin" "I") ∈ WS := ws_c5 172 rfl rfl
theorem fp_X7_90 : FP RX7 90 7 10 (.int) false := ⟨RX7, TX7, 25, tyX7, rfl, by decide, rfl, rfl, (Or.inl wd_1226), inW7, tyX7_ok, nmX7, rfl, tyX7_ok 10 (by decide), rfl⟩
theorem wd_1227 : (Jvm.Cond.fieldLink "BitDeskModel" (93 : Nat) "BitDeskModel" "error" "I") ∈ WS := ws_c5 173 rfl rfl
theorem fk_X7_93 : FK RX7 93 7 11 (.int) := ⟨RX7, TX7, 25, rfl, by decide, rfl, rfl, (Or.inl wd_1227), inW7⟩
theorem fp_X7_93 : FP RX7 93 7 11 (.int) false := ⟨RX7, TX7, 25, tyX7, rfl, by decide, rfl, rfl, (Or.inl wd_1227), inW7, tyX7_ok, nmX7, rfl, tyX7_ok 11 (by decide), rfl⟩
theorem fk_X7_90 : FK RX7 90 7 10 (.int) := ⟨RX7, TX7, 25, rfl, by decide, rfl, rfl, (Or.inl wd_1226), inW7⟩
theorem wd_1228 : (Jvm.Cond.fieldLink "BitDeskModel" (96 : Nat) "BitDeskModel" "errorAt" "I") ∈ WS := ws_c5 174 rfl rfl
theorem fp_X7_96 : FP RX7 96 7 12 (.int) false := ⟨RX7, TX7, 25, tyX7, rfl, by decide, rfl, rfl, (Or.inl wd_1228), inW7, tyX7_ok, nmX7, rfl, tyX7_ok 12 (by decide), rfl⟩
theorem wd_1320 : (Jvm.Cond.code ({ cls := "BitDeskModel", name := "next", desc := "()I" } : Jvm.MethodName) prog_9_method_18_code (1 : Nat) (Option.some Jvm.ClassFile.FieldType.int)) ∈ WS := ws_c6 22 rfl rfl
theorem wd_1317 : (Jvm.Cond.methodLink "BitDeskModel" (99 : Nat) ({ cls := "BitDeskModel", name := "next", desc := "()I" } : Jvm.MethodName)) ∈ WS := ws_c6 19 rfl rfl
theorem wd_1319 : (Jvm.Cond.instanceMethod ({ cls := "BitDeskModel", name := "next", desc := "()I" } : Jvm.MethodName)) ∈ WS := ws_c6 21 rfl rfl
theorem wd_47 : (Jvm.Cond.selects "BitDeskModel" (⟨"BitDeskModel", "next", "()I"⟩ : Jvm.MethodName) (⟨"BitDeskModel", "next", "()I"⟩ : Jvm.MethodName)) ∈ WS := ws_c0 47 rfl rfl
theorem lk_X7_99 : LkV RX7 99 jX7_next 0 := ⟨⟨wd_1317, ⟨rfl, (by rw [cwd_nil rfl]; exact wd_1320)⟩, wd_102, ⟨by decide +kernel, by decide +kernel⟩, by decide +kernel⟩, wd_1319, wd_47⟩
theorem wd_1325 : (Jvm.Cond.constantLong "BitDeskModel" (102 : Nat) (97 : Int64)) ∈ WS := ws_c6 27 rfl rfl
theorem wd_1326 : (Jvm.Cond.constantLong "BitDeskModel" (104 : Nat) (122 : Int64)) ∈ WS := ws_c6 28 rfl rfl
theorem wd_1335 : (Jvm.Cond.methodLink "BitDeskModel" (106 : Nat) ({ cls := "java/lang/String", name := "length", desc := "()I" } : Jvm.MethodName)) ∈ WS := ws_c6 37 rfl rfl
theorem lk_X7_106 : LkV RX7 106 jJ0_length_8abf5 0 := ⟨⟨wd_1335, ⟨rfl, (by rw [cwd_nil rfl]; exact wd_372)⟩, wd_103, ⟨by decide +kernel, by decide +kernel⟩, by decide +kernel⟩, wd_370, wd_371⟩
theorem wd_1336 : (Jvm.Cond.methodLink "BitDeskModel" (110 : Nat) ({ cls := "java/lang/String", name := "charAt", desc := "(I)C" } : Jvm.MethodName)) ∈ WS := ws_c6 38 rfl rfl
theorem lk_X7_110 : LkV RX7 110 jJ0_charAt_5068e 1 := ⟨⟨wd_1336, ⟨rfl, (by rw [cwd_nil rfl]; exact wd_382)⟩, wd_103, ⟨by decide +kernel, by decide +kernel⟩, by decide +kernel⟩, wd_380, wd_381⟩
theorem wd_1345 : (Jvm.Cond.constantLong "BitDeskModel" (114 : Nat) (48 : Int64)) ∈ WS := ws_c6 47 rfl rfl
theorem wd_1346 : (Jvm.Cond.constantLong "BitDeskModel" (116 : Nat) (57 : Int64)) ∈ WS := ws_c6 48 rfl rfl
theorem wd_1340 : (Jvm.Cond.code ({ cls := "BitDeskModel", name := "fails", desc := "(I)V" } : Jvm.MethodName) prog_9_method_19_code (2 : Nat) (Option.none : Option Jvm.ClassFile.FieldType)) ∈ WS := ws_c6 42 rfl rfl
theorem wd_1337 : (Jvm.Cond.methodLink "BitDeskModel" (118 : Nat) ({ cls := "BitDeskModel", name := "fails", desc := "(I)V" } : Jvm.MethodName)) ∈ WS := ws_c6 39 rfl rfl
theorem wd_1339 : (Jvm.Cond.instanceMethod ({ cls := "BitDeskModel", name := "fails", desc := "(I)V" } : Jvm.MethodName)) ∈ WS := ws_c6 41 rfl rfl
theorem wd_50 : (Jvm.Cond.selects "BitDeskModel" (⟨"BitDeskModel", "fails", "(I)V"⟩ : Jvm.MethodName) (⟨"BitDeskModel", "fails", "(I)V"⟩ : Jvm.MethodName)) ∈ WS := ws_c0 50 rfl rfl
theorem lk_X7_118 : LkV RX7 118 jX7_fails 1 := ⟨⟨wd_1337, ⟨rfl, (by rw [cwd_nil rfl]; exact wd_1340)⟩, wd_102, ⟨by decide +kernel, by decide +kernel⟩, by decide +kernel⟩, wd_1339, wd_50⟩
theorem wd_1347 : (Jvm.Cond.constant "BitDeskModel" (122 : Nat) (10000000 : Int32)) ∈ WS := ws_c6 49 rfl rfl
theorem wd_1348 : (Jvm.Cond.methodLink "BitDeskModel" (123 : Nat) ({ cls := "java/lang/Math", name := "min", desc := "(II)I" } : Jvm.MethodName)) ∈ WS := ws_c6 50 rfl rfl
theorem lk_X7_123 : LkS RX7 123 jJ9_min_7cf53 2 := ⟨⟨wd_1348, ⟨rfl, (by rw [cwd_nil rfl]; exact wd_431)⟩, wd_107, ⟨by decide +kernel, by decide +kernel⟩, by decide +kernel⟩, wd_430⟩
theorem wd_1344 : (Jvm.Cond.code ({ cls := "BitDeskModel", name := "number", desc := "(II)I" } : Jvm.MethodName) prog_9_method_22_code (4 : Nat) (Option.some Jvm.ClassFile.FieldType.int)) ∈ WS := ws_c6 46 rfl rfl
theorem wd_1341 : (Jvm.Cond.methodLink "BitDeskModel" (129 : Nat) ({ cls := "BitDeskModel", name := "number", desc := "(II)I" } : Jvm.MethodName)) ∈ WS := ws_c6 43 rfl rfl
theorem wd_1343 : (Jvm.Cond.instanceMethod ({ cls := "BitDeskModel", name := "number", desc := "(II)I" } : Jvm.MethodName)) ∈ WS := ws_c6 45 rfl rfl
theorem wd_51 : (Jvm.Cond.selects "BitDeskModel" (⟨"BitDeskModel", "number", "(II)I"⟩ : Jvm.MethodName) (⟨"BitDeskModel", "number", "(II)I"⟩ : Jvm.MethodName)) ∈ WS := ws_c0 51 rfl rfl
theorem lk_X7_129 : LkV RX7 129 jX7_number 2 := ⟨⟨wd_1341, ⟨rfl, (by rw [cwd_nil rfl]; exact wd_1344)⟩, wd_102, ⟨by decide +kernel, by decide +kernel⟩, by decide +kernel⟩, wd_1343, wd_51⟩
theorem fk_X7_13 : FK RX7 13 7 1 (.array .long) := ⟨RX7, TX7, 25, rfl, by decide, rfl, rfl, (Or.inl wd_1217), inW7⟩
theorem wd_1316 : (Jvm.Cond.code ({ cls := "BitDeskModel", name := "reads", desc := "()V" } : Jvm.MethodName) prog_9_method_20_code (1 : Nat) (Option.none : Option Jvm.ClassFile.FieldType)) ∈ WS := ws_c6 18 rfl rfl
theorem wd_1313 : (Jvm.Cond.methodLink "BitDeskModel" (132 : Nat) ({ cls := "BitDeskModel", name := "reads", desc := "()V" } : Jvm.MethodName)) ∈ WS := ws_c6 15 rfl rfl
theorem wd_1315 : (Jvm.Cond.instanceMethod ({ cls := "BitDeskModel", name := "reads", desc := "()V" } : Jvm.MethodName)) ∈ WS := ws_c6 17 rfl rfl
theorem wd_46 : (Jvm.Cond.selects "BitDeskModel" (⟨"BitDeskModel", "reads", "()V"⟩ : Jvm.MethodName) (⟨"BitDeskModel", "reads", "()V"⟩ : Jvm.MethodName)) ∈ WS := ws_c0 46 rfl rfl
theorem lk_X7_132 : LkV RX7 132 jX7_reads 0 := ⟨⟨wd_1313, ⟨rfl, (by rw [cwd_nil rfl]; exact wd_1316)⟩, wd_102, ⟨by decide +kernel, by decide +kernel⟩, by decide +kernel⟩, wd_1315, wd_46⟩
theorem wd_1334 : (Jvm.Cond.code ({ cls := "BitDeskModel", name := "isWord", desc := "(Ljava/lang/String;)Z" } : Jvm.MethodName) prog_9_method_21_code (4 : Nat) (Option.some Jvm.ClassFile.FieldType.boolean)) ∈ WS := ws_c6 36 rfl rfl
theorem wd_1331 : (Jvm.Cond.methodLink "BitDeskModel" (136 : Nat) ({ cls := "BitDeskModel", name := "isWord", desc := "(Ljava/lang/String;)Z" } : Jvm.MethodName)) ∈ WS := ws_c6 33 rfl rfl
theorem wd_1333 : (Jvm.Cond.instanceMethod ({ cls := "BitDeskModel", name := "isWord", desc := "(Ljava/lang/String;)Z" } : Jvm.MethodName)) ∈ WS := ws_c6 35 rfl rfl
theorem wd_49 : (Jvm.Cond.selects "BitDeskModel" (⟨"BitDeskModel", "isWord", "(Ljava/lang/String;)Z"⟩ : Jvm.MethodName) (⟨"BitDeskModel", "isWord", "(Ljava/lang/String;)Z"⟩ : Jvm.MethodName)) ∈ WS := ws_c0 49 rfl rfl
theorem lk_X7_136 : LkV RX7 136 jX7_isWord 1 := ⟨⟨wd_1331, ⟨rfl, (by rw [cwd_nil rfl]; exact wd_1334)⟩, wd_102, ⟨by decide +kernel, by decide +kernel⟩, by decide +kernel⟩, wd_1333, wd_49⟩
theorem wd_1365 : (Jvm.Cond.code ({ cls := "BitDeskModel", name := "readSlot", desc := "()I" } : Jvm.MethodName) prog_9_method_23_code (1 : Nat) (Option.some Jvm.ClassFile.FieldType.int)) ∈ WS := ws_c6 67 rfl rfl
theorem wd_1362 : (Jvm.Cond.methodLink "BitDeskModel" (140 : Nat) ({ cls := "BitDeskModel", name := "readSlot", desc := "()I" } : Jvm.MethodName)) ∈ WS := ws_c6 64 rfl rfl
theorem wd_1364 : (Jvm.Cond.instanceMethod ({ cls := "BitDeskModel", name := "readSlot", desc := "()I" } : Jvm.MethodName)) ∈ WS := ws_c6 66 rfl rfl
theorem wd_55 : (Jvm.Cond.selects "BitDeskModel" (⟨"BitDeskModel", "readSlot", "()I"⟩ : Jvm.MethodName) (⟨"BitDeskModel", "readSlot", "()I"⟩ : Jvm.MethodName)) ∈ WS := ws_c0 55 rfl rfl
theorem lk_X7_140 : LkV RX7 140 jX7_readSlot 0 := ⟨⟨wd_1362, ⟨rfl, (by rw [cwd_nil rfl]; exact wd_1365)⟩, wd_102, ⟨by decide +kernel, by decide +kernel⟩, by decide +kernel⟩, wd_1364, wd_55⟩
theorem wd_1369 : (Jvm.Cond.code ({ cls := "BitDeskModel", name := "readNode", desc := "()I" } : Jvm.MethodName) prog_9_method_24_code (1 : Nat) (Option.some Jvm.ClassFile.FieldType.int)) ∈ WS := ws_c6 71 rfl rfl
theorem wd_1366 : (Jvm.Cond.methodLink "BitDeskModel" (143 : Nat) ({ cls := "BitDeskModel", name := "readNode", desc := "()I" } : Jvm.MethodName)) ∈ WS := ws_c6 68 rfl rfl
theorem wd_1368 : (Jvm.Cond.instanceMethod ({ cls := "BitDeskModel", name := "readNode", desc := "()I" } : Jvm.MethodName)) ∈ WS := ws_c6 70 rfl rfl
theorem wd_56 : (Jvm.Cond.selects "BitDeskModel" (⟨"BitDeskModel", "readNode", "()I"⟩ : Jvm.MethodName) (⟨"BitDeskModel", "readNode", "()I"⟩ : Jvm.MethodName)) ∈ WS := ws_c0 56 rfl rfl
theorem lk_X7_143 : LkV RX7 143 jX7_readNode 0 := ⟨⟨wd_1366, ⟨rfl, (by rw [cwd_nil rfl]; exact wd_1369)⟩, wd_102, ⟨by decide +kernel, by decide +kernel⟩, by decide +kernel⟩, wd_1368, wd_56⟩
theorem wd_1383 : (Jvm.Cond.code ({ cls := "BitDeskModel", name := "kindHere", desc := "()I" } : Jvm.MethodName) prog_9_method_29_code (1 : Nat) (Option.some Jvm.ClassFile.FieldType.int)) ∈ WS := ws_c6 85 rfl rfl
theorem wd_1380 : (Jvm.Cond.methodLink "BitDeskModel" (154 : Nat) ({ cls := "BitDeskModel", name := "kindHere", desc := "()I" } : Jvm.MethodName)) ∈ WS := ws_c6 82 rfl rfl
theorem wd_1382 : (Jvm.Cond.instanceMethod ({ cls := "BitDeskModel", name := "kindHere", desc := "()I" } : Jvm.MethodName)) ∈ WS := ws_c6 84 rfl rfl
theorem wd_59 : (Jvm.Cond.selects "BitDeskModel" (⟨"BitDeskModel", "kindHere", "()I"⟩ : Jvm.MethodName) (⟨"BitDeskModel", "kindHere", "()I"⟩ : Jvm.MethodName)) ∈ WS := ws_c0 59 rfl rfl
theorem lk_X7_154 : LkV RX7 154 jX7_kindHere 0 := ⟨⟨wd_1380, ⟨rfl, (by rw [cwd_nil rfl]; exact wd_1383)⟩, wd_102, ⟨by decide +kernel, by decide +kernel⟩, by decide +kernel⟩, wd_1382, wd_59⟩
theorem wd_1390 : (Jvm.Cond.code ({ cls := "BitDeskModel", name := "filled", desc := "(III)J" } : Jvm.MethodName) prog_9_method_28_code (5 : Nat) (Option.some Jvm.ClassFile.FieldType.long)) ∈ WS := ws_c6 92 rfl rfl
theorem wd_1388 : (Jvm.Cond.methodLink "BitDeskModel" (157 : Nat) ({ cls := "BitDeskModel", name := "filled", desc := "(III)J" } : Jvm.MethodName)) ∈ WS := ws_c6 90 rfl rfl
theorem wd_1389 : (Jvm.Cond.static ({ cls := "BitDeskModel", name := "filled", desc := "(III)J" } : Jvm.MethodName)) ∈ WS := ws_c6 91 rfl rfl
theorem lk_X7_157 : LkS RX7 157 jX7_filled 3 := ⟨⟨wd_1388, ⟨rfl, (by rw [cwd_nil rfl]; exact wd_1390)⟩, wd_102, ⟨by decide +kernel, by decide +kernel⟩, by decide +kernel⟩, wd_1389⟩
theorem wd_1361 : (Jvm.Cond.code ({ cls := "BitDeskModel", name := "edgePart", desc := "()V" } : Jvm.MethodName) prog_9_method_26_code (4 : Nat) (Option.none : Option Jvm.ClassFile.FieldType)) ∈ WS := ws_c6 63 rfl rfl
theorem wd_1358 : (Jvm.Cond.methodLink "BitDeskModel" (163 : Nat) ({ cls := "BitDeskModel", name := "edgePart", desc := "()V" } : Jvm.MethodName)) ∈ WS := ws_c6 60 rfl rfl
theorem wd_1360 : (Jvm.Cond.instanceMethod ({ cls := "BitDeskModel", name := "edgePart", desc := "()V" } : Jvm.MethodName)) ∈ WS := ws_c6 62 rfl rfl
theorem wd_54 : (Jvm.Cond.selects "BitDeskModel" (⟨"BitDeskModel", "edgePart", "()V"⟩ : Jvm.MethodName) (⟨"BitDeskModel", "edgePart", "()V"⟩ : Jvm.MethodName)) ∈ WS := ws_c0 54 rfl rfl
theorem lk_X7_163 : LkV RX7 163 jX7_edgePart 0 := ⟨⟨wd_1358, ⟨rfl, (by rw [cwd_nil rfl]; exact wd_1361)⟩, wd_102, ⟨by decide +kernel, by decide +kernel⟩, by decide +kernel⟩, wd_1360, wd_54⟩
theorem wd_1374 : (Jvm.Cond.code ({ cls := "BitDeskModel", name := "rowPart", desc := "()V" } : Jvm.MethodName) prog_9_method_27_code (7 : Nat) (Option.none : Option Jvm.ClassFile.FieldType)) ∈ WS := ws_c6 76 rfl rfl
theorem wd_1371 : (Jvm.Cond.methodLink "BitDeskModel" (168 : Nat) ({ cls := "BitDeskModel", name := "rowPart", desc := "()V" } : Jvm.MethodName)) ∈ WS := ws_c6 73 rfl rfl
theorem wd_1373 : (Jvm.Cond.instanceMethod ({ cls := "BitDeskModel", name := "rowPart", desc := "()V" } : Jvm.MethodName)) ∈ WS := ws_c6 75 rfl rfl
theorem wd_57 : (Jvm.Cond.selects "BitDeskModel" (⟨"BitDeskModel", "rowPart", "()V"⟩ : Jvm.MethodName) (⟨"BitDeskModel", "rowPart", "()V"⟩ : Jvm.MethodName)) ∈ WS := ws_c0 57 rfl rfl
theorem lk_X7_168 : LkV RX7 168 jX7_rowPart 0 := ⟨⟨wd_1371, ⟨rfl, (by rw [cwd_nil rfl]; exact wd_1374)⟩, wd_102, ⟨by decide +kernel, by decide +kernel⟩, by decide +kernel⟩, wd_1373, wd_57⟩
theorem wd_1379 : (Jvm.Cond.code ({ cls := "BitDeskModel", name := "fillPart", desc := "()V" } : Jvm.MethodName) prog_9_method_30_code (5 : Nat) (Option.none : Option Jvm.ClassFile.FieldType)) ∈ WS := ws_c6 81 rfl rfl
theorem wd_1376 : (Jvm.Cond.methodLink "BitDeskModel" (173 : Nat) ({ cls := "BitDeskModel", name := "fillPart", desc := "()V" } : Jvm.MethodName)) ∈ WS := ws_c6 78 rfl rfl
theorem wd_1378 : (Jvm.Cond.instanceMethod ({ cls := "BitDeskModel", name := "fillPart", desc := "()V" } : Jvm.MethodName)) ∈ WS := ws_c6 80 rfl rfl
theorem wd_58 : (Jvm.Cond.selects "BitDeskModel" (⟨"BitDeskModel", "fillPart", "()V"⟩ : Jvm.MethodName) (⟨"BitDeskModel", "fillPart", "()V"⟩ : Jvm.MethodName)) ∈ WS := ws_c0 58 rfl rfl
theorem lk_X7_173 : LkV RX7 173 jX7_fillPart 0 := ⟨⟨wd_1376, ⟨rfl, (by rw [cwd_nil rfl]; exact wd_1379)⟩, wd_102, ⟨by decide +kernel, by decide +kernel⟩, by decide +kernel⟩, wd_1378, wd_58⟩
theorem wd_1395 : (Jvm.Cond.code ({ cls := "BitDeskModel", name := "keepPart", desc := "()V" } : Jvm.MethodName) prog_9_method_31_code (2 : Nat) (Option.none : Option Jvm.ClassFile.FieldType)) ∈ WS := ws_c6 97 rfl rfl
theorem wd_1392 : (Jvm.Cond.methodLink "BitDeskModel" (178 : Nat) ({ cls := "BitDeskModel", name := "keepPart", desc := "()V" } : Jvm.MethodName)) ∈ WS := ws_c6 94 rfl rfl
theorem wd_1394 : (Jvm.Cond.instanceMethod ({ cls := "BitDeskModel", name := "keepPart", desc := "()V" } : Jvm.MethodName)) ∈ WS := ws_c6 96 rfl rfl
theorem wd_60 : (Jvm.Cond.selects "BitDeskModel" (⟨"BitDeskModel", "keepPart", "()V"⟩ : Jvm.MethodName) (⟨"BitDeskModel", "keepPart", "()V"⟩ : Jvm.MethodName)) ∈ WS := ws_c0 60 rfl rfl
theorem lk_X7_178 : LkV RX7 178 jX7_keepPart 0 := ⟨⟨wd_1392, ⟨rfl, (by rw [cwd_nil rfl]; exact wd_1395)⟩, wd_102, ⟨by decide +kernel, by decide +kernel⟩, by decide +kernel⟩, wd_1394, wd_60⟩
theorem wd_1229 : (Jvm.Cond.fieldLink "BitDeskModel" (183 : Nat) "BitDeskModel" "statement" "I") ∈ WS := ws_c5 175 rfl rfl
theorem fk_X7_183 : FK RX7 183 7 13 (.int) := ⟨RX7, TX7, 25, rfl, by decide, rfl, rfl, (Or.inl wd_1229), inW7⟩
theorem fp_X7_183 : FP RX7 183 7 13 (.int) false := ⟨RX7, TX7, 25, tyX7, rfl, by decide, rfl, rfl, (Or.inl wd_1229), inW7, tyX7_ok, nmX7, rfl, tyX7_ok 13 (by decide), rfl⟩
theorem wd_1312 : (Jvm.Cond.code ({ cls := "BitDeskModel", name := "sizePart", desc := "()V" } : Jvm.MethodName) prog_9_method_25_code (1 : Nat) (Option.none : Option Jvm.ClassFile.FieldType)) ∈ WS := ws_c6 14 rfl rfl
theorem wd_1309 : (Jvm.Cond.methodLink "BitDeskModel" (186 : Nat) ({ cls := "BitDeskModel", name := "sizePart", desc := "()V" } : Jvm.MethodName)) ∈ WS := ws_c6 11 rfl rfl
theorem wd_1311 : (Jvm.Cond.instanceMethod ({ cls := "BitDeskModel", name := "sizePart", desc := "()V" } : Jvm.MethodName)) ∈ WS := ws_c6 13 rfl rfl
theorem wd_45 : (Jvm.Cond.selects "BitDeskModel" (⟨"BitDeskModel", "sizePart", "()V"⟩ : Jvm.MethodName) (⟨"BitDeskModel", "sizePart", "()V"⟩ : Jvm.MethodName)) ∈ WS := ws_c0 45 rfl rfl
theorem lk_X7_186 : LkV RX7 186 jX7_sizePart 0 := ⟨⟨wd_1309, ⟨rfl, (by rw [cwd_nil rfl]; exact wd_1312)⟩, wd_102, ⟨by decide +kernel, by decide +kernel⟩, by decide +kernel⟩, wd_1311, wd_45⟩
theorem wd_1352 : (Jvm.Cond.code ({ cls := "BitDeskModel", name := "isMore", desc := "()Z" } : Jvm.MethodName) prog_9_method_33_code (1 : Nat) (Option.some Jvm.ClassFile.FieldType.boolean)) ∈ WS := ws_c6 54 rfl rfl
theorem wd_1349 : (Jvm.Cond.methodLink "BitDeskModel" (189 : Nat) ({ cls := "BitDeskModel", name := "isMore", desc := "()Z" } : Jvm.MethodName)) ∈ WS := ws_c6 51 rfl rfl
theorem wd_1351 : (Jvm.Cond.instanceMethod ({ cls := "BitDeskModel", name := "isMore", desc := "()Z" } : Jvm.MethodName)) ∈ WS := ws_c6 53 rfl rfl
theorem wd_52 : (Jvm.Cond.selects "BitDeskModel" (⟨"BitDeskModel", "isMore", "()Z"⟩ : Jvm.MethodName) (⟨"BitDeskModel", "isMore", "()Z"⟩ : Jvm.MethodName)) ∈ WS := ws_c0 52 rfl rfl
theorem lk_X7_189 : LkV RX7 189 jX7_isMore 0 := ⟨⟨wd_1349, ⟨rfl, (by rw [cwd_nil rfl]; exact wd_1352)⟩, wd_102, ⟨by decide +kernel, by decide +kernel⟩, by decide +kernel⟩, wd_1351, wd_52⟩
theorem wd_1356 : (Jvm.Cond.code ({ cls := "BitDeskModel", name := "statement", desc := "()V" } : Jvm.MethodName) prog_9_method_32_code (1 : Nat) (Option.none : Option Jvm.ClassFile.FieldType)) ∈ WS := ws_c6 58 rfl rfl
theorem wd_1353 : (Jvm.Cond.methodLink "BitDeskModel" (193 : Nat) ({ cls := "BitDeskModel", name := "statement", desc := "()V" } : Jvm.MethodName)) ∈ WS := ws_c6 55 rfl rfl
theorem wd_1355 : (Jvm.Cond.instanceMethod ({ cls := "BitDeskModel", name := "statement", desc := "()V" } : Jvm.MethodName)) ∈ WS := ws_c6 57 rfl rfl
theorem wd_53 : (Jvm.Cond.selects "BitDeskModel" (⟨"BitDeskModel", "statement", "()V"⟩ : Jvm.MethodName) (⟨"BitDeskModel", "statement", "()V"⟩ : Jvm.MethodName)) ∈ WS := ws_c0 53 rfl rfl
theorem lk_X7_193 : LkV RX7 193 jX7_statement 0 := ⟨⟨wd_1353, ⟨rfl, (by rw [cwd_nil rfl]; exact wd_1356)⟩, wd_102, ⟨by decide +kernel, by decide +kernel⟩, by decide +kernel⟩, wd_1355, wd_53⟩
theorem wd_1230 : (Jvm.Cond.fieldLink "BitDeskModel" (195 : Nat) "BitDeskModel" "lastError" "I") ∈ WS := ws_c5 176 rfl rfl
theorem fp_X7_195 : FP RX7 195 7 14 (.int) false := ⟨RX7, TX7, 25, tyX7, rfl, by decide, rfl, rfl, (Or.inl wd_1230), inW7, tyX7_ok, nmX7, rfl, tyX7_ok 14 (by decide), rfl⟩
theorem fk_X7_96 : FK RX7 96 7 12 (.int) := ⟨RX7, TX7, 25, rfl, by decide, rfl, rfl, (Or.inl wd_1228), inW7⟩
theorem wd_1399 : (Jvm.Cond.code ({ cls := "BitDeskModel", name := "copies", desc := "([JI[JI)V" } : Jvm.MethodName) prog_9_method_4_code (5 : Nat) (Option.none : Option Jvm.ClassFile.FieldType)) ∈ WS := ws_c6 101 rfl rfl
theorem wd_1397 : (Jvm.Cond.methodLink "BitDeskModel" (198 : Nat) ({ cls := "BitDeskModel", name := "copies", desc := "([JI[JI)V" } : Jvm.MethodName)) ∈ WS := ws_c6 99 rfl rfl
theorem wd_1398 : (Jvm.Cond.static ({ cls := "BitDeskModel", name := "copies", desc := "([JI[JI)V" } : Jvm.MethodName)) ∈ WS := ws_c6 100 rfl rfl
theorem lk_X7_198 : LkS RX7 198 jX7_copies 4 := ⟨⟨wd_1397, ⟨rfl, (by rw [cwd_nil rfl]; exact wd_1399)⟩, wd_102, ⟨by decide +kernel, by decide +kernel⟩, by decide +kernel⟩, wd_1398⟩
theorem wd_1221 : (Jvm.Cond.fieldLink "BitDeskModel" (201 : Nat) "BitDeskModel" "pastMany" "I") ∈ WS := ws_c5 167 rfl rfl
theorem fp_X7_201 : FP RX7 201 7 5 (.int) false := ⟨RX7, TX7, 25, tyX7, rfl, by decide, rfl, rfl, (Or.inl wd_1221), inW7, tyX7_ok, nmX7, rfl, tyX7_ok 5 (by decide), rfl⟩
theorem wd_1403 : (Jvm.Cond.code ({ cls := "BitDeskModel", name := "madeAnew", desc := "(I)V" } : Jvm.MethodName) prog_9_method_93_code (2 : Nat) (Option.none : Option Jvm.ClassFile.FieldType)) ∈ WS := ws_c6 105 rfl rfl
theorem wd_1400 : (Jvm.Cond.methodLink "BitDeskModel" (204 : Nat) ({ cls := "BitDeskModel", name := "madeAnew", desc := "(I)V" } : Jvm.MethodName)) ∈ WS := ws_c6 102 rfl rfl
theorem wd_1402 : (Jvm.Cond.instanceMethod ({ cls := "BitDeskModel", name := "madeAnew", desc := "(I)V" } : Jvm.MethodName)) ∈ WS := ws_c6 104 rfl rfl
theorem wd_61 : (Jvm.Cond.selects "BitDeskModel" (⟨"BitDeskModel", "madeAnew", "(I)V"⟩ : Jvm.MethodName) (⟨"BitDeskModel", "madeAnew", "(I)V"⟩ : Jvm.MethodName)) ∈ WS := ws_c0 61 rfl rfl
theorem lk_X7_204 : LkV RX7 204 jX7_madeAnew 1 := ⟨⟨wd_1400, ⟨rfl, (by rw [cwd_nil rfl]; exact wd_1403)⟩, wd_102, ⟨by decide +kernel, by decide +kernel⟩, by decide +kernel⟩, wd_1402, wd_61⟩
theorem fk_X7_195 : FK RX7 195 7 14 (.int) := ⟨RX7, TX7, 25, rfl, by decide, rfl, rfl, (Or.inl wd_1230), inW7⟩
theorem fk_X7_30 : FK RX7 30 7 15 (.int) := ⟨RX7, TX7, 25, rfl, by decide, rfl, rfl, (Or.inl wd_1231), inW7⟩
theorem wd_1424 : (Jvm.Cond.constantLong "BitDeskModel" (207 : Nat) (3 : Int64)) ∈ WS := ws_c6 126 rfl rfl
theorem wd_1428 : (Jvm.Cond.code ({ cls := "BitDeskModel", name := "isThrown", desc := "(ZI)Z" } : Jvm.MethodName) prog_9_method_6_code (3 : Nat) (Option.some Jvm.ClassFile.FieldType.boolean)) ∈ WS := ws_c6 130 rfl rfl
theorem wd_1425 : (Jvm.Cond.methodLink "BitDeskModel" (209 : Nat) ({ cls := "BitDeskModel", name := "isThrown", desc := "(ZI)Z" } : Jvm.MethodName)) ∈ WS := ws_c6 127 rfl rfl
theorem wd_1427 : (Jvm.Cond.instanceMethod ({ cls := "BitDeskModel", name := "isThrown", desc := "(ZI)Z" } : Jvm.MethodName)) ∈ WS := ws_c6 129 rfl rfl
theorem wd_64 : (Jvm.Cond.selects "BitDeskModel" (⟨"BitDeskModel", "isThrown", "(ZI)Z"⟩ : Jvm.MethodName) (⟨"BitDeskModel", "isThrown", "(ZI)Z"⟩ : Jvm.MethodName)) ∈ WS := ws_c0 64 rfl rfl
theorem lk_X7_209 : LkV RX7 209 jX7_isThrown 2 := ⟨⟨wd_1425, ⟨rfl, (by rw [cwd_nil rfl]; exact wd_1428)⟩, wd_102, ⟨by decide +kernel, by decide +kernel⟩, by decide +kernel⟩, wd_1427, wd_64⟩
theorem wd_1432 : (Jvm.Cond.code ({ cls := "BitDeskModel", name := "keptMany", desc := "()I" } : Jvm.MethodName) prog_9_method_37_code (3 : Nat) (Option.some Jvm.ClassFile.FieldType.int)) ∈ WS := ws_c6 134 rfl rfl
theorem wd_1429 : (Jvm.Cond.methodLink "BitDeskModel" (213 : Nat) ({ cls := "BitDeskModel", name := "keptMany", desc := "()I" } : Jvm.MethodName)) ∈ WS := ws_c6 131 rfl rfl
theorem wd_1431 : (Jvm.Cond.instanceMethod ({ cls := "BitDeskModel", name := "keptMany", desc := "()I" } : Jvm.MethodName)) ∈ WS := ws_c6 133 rfl rfl
theorem wd_65 : (Jvm.Cond.selects "BitDeskModel" (⟨"BitDeskModel", "keptMany", "()I"⟩ : Jvm.MethodName) (⟨"BitDeskModel", "keptMany", "()I"⟩ : Jvm.MethodName)) ∈ WS := ws_c0 65 rfl rfl
theorem lk_X7_213 : LkV RX7 213 jX7_keptMany 0 := ⟨⟨wd_1429, ⟨rfl, (by rw [cwd_nil rfl]; exact wd_1432)⟩, wd_102, ⟨by decide +kernel, by decide +kernel⟩, by decide +kernel⟩, wd_1431, wd_65⟩
theorem fk_X7_201 : FK RX7 201 7 5 (.int) := ⟨RX7, TX7, 25, rfl, by decide, rfl, rfl, (Or.inl wd_1221), inW7⟩
theorem wd_1443 : (Jvm.Cond.code ({ cls := "BitDeskModel", name := "isSlot", desc := "(I)Z" } : Jvm.MethodName) prog_9_method_8_code (1 : Nat) (Option.some Jvm.ClassFile.FieldType.boolean)) ∈ WS := ws_c6 145 rfl rfl
theorem wd_1441 : (Jvm.Cond.methodLink "BitDeskModel" (216 : Nat) ({ cls := "BitDeskModel", name := "isSlot", desc := "(I)Z" } : Jvm.MethodName)) ∈ WS := ws_c6 143 rfl rfl
theorem wd_1442 : (Jvm.Cond.static ({ cls := "BitDeskModel", name := "isSlot", desc := "(I)Z" } : Jvm.MethodName)) ∈ WS := ws_c6 144 rfl rfl
theorem lk_X7_216 : LkS RX7 216 jX7_isSlot 1 := ⟨⟨wd_1441, ⟨rfl, (by rw [cwd_nil rfl]; exact wd_1443)⟩, wd_102, ⟨by decide +kernel, by decide +kernel⟩, by decide +kernel⟩, wd_1442⟩
theorem wd_1448 : (Jvm.Cond.code ({ cls := "BitDeskModel", name := "isNode", desc := "(I)Z" } : Jvm.MethodName) prog_9_method_9_code (2 : Nat) (Option.some Jvm.ClassFile.FieldType.boolean)) ∈ WS := ws_c6 150 rfl rfl
theorem wd_1445 : (Jvm.Cond.methodLink "BitDeskModel" (220 : Nat) ({ cls := "BitDeskModel", name := "isNode", desc := "(I)Z" } : Jvm.MethodName)) ∈ WS := ws_c6 147 rfl rfl
theorem wd_1447 : (Jvm.Cond.instanceMethod ({ cls := "BitDeskModel", name := "isNode", desc := "(I)Z" } : Jvm.MethodName)) ∈ WS := ws_c6 149 rfl rfl
theorem wd_67 : (Jvm.Cond.selects "BitDeskModel" (⟨"BitDeskModel", "isNode", "(I)Z"⟩ : Jvm.MethodName) (⟨"BitDeskModel", "isNode", "(I)Z"⟩ : Jvm.MethodName)) ∈ WS := ws_c0 67 rfl rfl
theorem lk_X7_220 : LkV RX7 220 jX7_isNode 1 := ⟨⟨wd_1445, ⟨rfl, (by rw [cwd_nil rfl]; exact wd_1448)⟩, wd_102, ⟨by decide +kernel, by decide +kernel⟩, by decide +kernel⟩, wd_1447, wd_67⟩
theorem wd_1440 : (Jvm.Cond.code ({ cls := "BitDeskModel", name := "areIn", desc := "(II)Z" } : Jvm.MethodName) prog_9_method_39_code (3 : Nat) (Option.some Jvm.ClassFile.FieldType.boolean)) ∈ WS := ws_c6 142 rfl rfl
theorem wd_1437 : (Jvm.Cond.methodLink "BitDeskModel" (223 : Nat) ({ cls := "BitDeskModel", name := "areIn", desc := "(II)Z" } : Jvm.MethodName)) ∈ WS := ws_c6 139 rfl rfl
theorem wd_1439 : (Jvm.Cond.instanceMethod ({ cls := "BitDeskModel", name := "areIn", desc := "(II)Z" } : Jvm.MethodName)) ∈ WS := ws_c6 141 rfl rfl
theorem wd_66 : (Jvm.Cond.selects "BitDeskModel" (⟨"BitDeskModel", "areIn", "(II)Z"⟩ : Jvm.MethodName) (⟨"BitDeskModel", "areIn", "(II)Z"⟩ : Jvm.MethodName)) ∈ WS := ws_c0 66 rfl rfl
theorem lk_X7_223 : LkV RX7 223 jX7_areIn 2 := ⟨⟨wd_1437, ⟨rfl, (by rw [cwd_nil rfl]; exact wd_1440)⟩, wd_102, ⟨by decide +kernel, by decide +kernel⟩, by decide +kernel⟩, wd_1439, wd_66⟩
theorem wd_1452 : (Jvm.Cond.code ({ cls := "BitDeskModel", name := "rowOf", desc := "(II)J" } : Jvm.MethodName) prog_9_method_10_code (3 : Nat) (Option.some Jvm.ClassFile.FieldType.long)) ∈ WS := ws_c6 154 rfl rfl
theorem wd_1449 : (Jvm.Cond.methodLink "BitDeskModel" (227 : Nat) ({ cls := "BitDeskModel", name := "rowOf", desc := "(II)J" } : Jvm.MethodName)) ∈ WS := ws_c6 151 rfl rfl
theorem wd_1451 : (Jvm.Cond.instanceMethod ({ cls := "BitDeskModel", name := "rowOf", desc := "(II)J" } : Jvm.MethodName)) ∈ WS := ws_c6 153 rfl rfl
theorem wd_68 : (Jvm.Cond.selects "BitDeskModel" (⟨"BitDeskModel", "rowOf", "(II)J"⟩ : Jvm.MethodName) (⟨"BitDeskModel", "rowOf", "(II)J"⟩ : Jvm.MethodName)) ∈ WS := ws_c0 68 rfl rfl
theorem lk_X7_227 : LkV RX7 227 jX7_rowOf 2 := ⟨⟨wd_1449, ⟨rfl, (by rw [cwd_nil rfl]; exact wd_1452)⟩, wd_102, ⟨by decide +kernel, by decide +kernel⟩, by decide +kernel⟩, wd_1451, wd_68⟩
theorem wd_1455 : (Jvm.Cond.code ({ cls := "BitDeskModel", name := "one", desc := "(JI)I" } : Jvm.MethodName) prog_9_method_12_code (3 : Nat) (Option.some Jvm.ClassFile.FieldType.int)) ∈ WS := ws_c6 157 rfl rfl
theorem wd_1453 : (Jvm.Cond.methodLink "BitDeskModel" (231 : Nat) ({ cls := "BitDeskModel", name := "one", desc := "(JI)I" } : Jvm.MethodName)) ∈ WS := ws_c6 155 rfl rfl
theorem wd_1454 : (Jvm.Cond.static ({ cls := "BitDeskModel", name := "one", desc := "(JI)I" } : Jvm.MethodName)) ∈ WS := ws_c6 156 rfl rfl
theorem lk_X7_231 : LkS RX7 231 jX7_one 2 := ⟨⟨wd_1453, ⟨rfl, (by rw [cwd_nil rfl]; exact wd_1455)⟩, wd_102, ⟨by decide +kernel, by decide +kernel⟩, by decide +kernel⟩, wd_1454⟩
theorem wd_1466 : (Jvm.Cond.code ({ cls := "BitDeskModel", name := "bitsOf", desc := "(J)I" } : Jvm.MethodName) prog_9_method_13_code (5 : Nat) (Option.some Jvm.ClassFile.FieldType.int)) ∈ WS := ws_c6 168 rfl rfl
theorem wd_1464 : (Jvm.Cond.methodLink "BitDeskModel" (234 : Nat) ({ cls := "BitDeskModel", name := "bitsOf", desc := "(J)I" } : Jvm.MethodName)) ∈ WS := ws_c6 166 rfl rfl
theorem wd_1465 : (Jvm.Cond.static ({ cls := "BitDeskModel", name := "bitsOf", desc := "(J)I" } : Jvm.MethodName)) ∈ WS := ws_c6 167 rfl rfl
theorem lk_X7_234 : LkS RX7 234 jX7_bitsOf 1 := ⟨⟨wd_1464, ⟨rfl, (by rw [cwd_nil rfl]; exact wd_1466)⟩, wd_102, ⟨by decide +kernel, by decide +kernel⟩, by decide +kernel⟩, wd_1465⟩
theorem wd_1478 : (Jvm.Cond.code ({ cls := "BitDeskModel", name := "onesOf", desc := "(I)I" } : Jvm.MethodName) prog_9_method_44_code (4 : Nat) (Option.some Jvm.ClassFile.FieldType.int)) ∈ WS := ws_c6 180 rfl rfl
theorem wd_1475 : (Jvm.Cond.methodLink "BitDeskModel" (238 : Nat) ({ cls := "BitDeskModel", name := "onesOf", desc := "(I)I" } : Jvm.MethodName)) ∈ WS := ws_c6 177 rfl rfl
theorem wd_1477 : (Jvm.Cond.instanceMethod ({ cls := "BitDeskModel", name := "onesOf", desc := "(I)I" } : Jvm.MethodName)) ∈ WS := ws_c6 179 rfl rfl
theorem wd_69 : (Jvm.Cond.selects "BitDeskModel" (⟨"BitDeskModel", "onesOf", "(I)I"⟩ : Jvm.MethodName) (⟨"BitDeskModel", "onesOf", "(I)I"⟩ : Jvm.MethodName)) ∈ WS := ws_c0 69 rfl rfl
theorem lk_X7_238 : LkV RX7 238 jX7_onesOf 1 := ⟨⟨wd_1475, ⟨rfl, (by rw [cwd_nil rfl]; exact wd_1478)⟩, wd_102, ⟨by decide +kernel, by decide +kernel⟩, by decide +kernel⟩, wd_1477, wd_69⟩
theorem wd_1490 : (Jvm.Cond.code ({ cls := "BitDeskModel", name := "firstAs", desc := "(II)I" } : Jvm.MethodName) prog_9_method_47_code (4 : Nat) (Option.some Jvm.ClassFile.FieldType.int)) ∈ WS := ws_c6 192 rfl rfl
theorem wd_1487 : (Jvm.Cond.methodLink "BitDeskModel" (242 : Nat) ({ cls := "BitDeskModel", name := "firstAs", desc := "(II)I" } : Jvm.MethodName)) ∈ WS := ws_c6 189 rfl rfl
theorem wd_1489 : (Jvm.Cond.instanceMethod ({ cls := "BitDeskModel", name := "firstAs", desc := "(II)I" } : Jvm.MethodName)) ∈ WS := ws_c6 191 rfl rfl
theorem wd_70 : (Jvm.Cond.selects "BitDeskModel" (⟨"BitDeskModel", "firstAs", "(II)I"⟩ : Jvm.MethodName) (⟨"BitDeskModel", "firstAs", "(II)I"⟩ : Jvm.MethodName)) ∈ WS := ws_c0 70 rfl rfl
theorem lk_X7_242 : LkV RX7 242 jX7_firstAs 2 := ⟨⟨wd_1487, ⟨rfl, (by rw [cwd_nil rfl]; exact wd_1490)⟩, wd_102, ⟨by decide +kernel, by decide +kernel⟩, by decide +kernel⟩, wd_1489, wd_70⟩
theorem wd_1498 : (Jvm.Cond.code ({ cls := "BitDeskModel", name := "all", desc := "()J" } : Jvm.MethodName) prog_9_method_14_code (1 : Nat) (Option.some Jvm.ClassFile.FieldType.long)) ∈ WS := ws_c6 200 rfl rfl
theorem wd_1495 : (Jvm.Cond.methodLink "BitDeskModel" (245 : Nat) ({ cls := "BitDeskModel", name := "all", desc := "()J" } : Jvm.MethodName)) ∈ WS := ws_c6 197 rfl rfl
theorem wd_1497 : (Jvm.Cond.instanceMethod ({ cls := "BitDeskModel", name := "all", desc := "()J" } : Jvm.MethodName)) ∈ WS := ws_c6 199 rfl rfl
theorem wd_71 : (Jvm.Cond.selects "BitDeskModel" (⟨"BitDeskModel", "all", "()J"⟩ : Jvm.MethodName) (⟨"BitDeskModel", "all", "()J"⟩ : Jvm.MethodName)) ∈ WS := ws_c0 71 rfl rfl
theorem lk_X7_245 : LkV RX7 245 jX7_all 0 := ⟨⟨wd_1495, ⟨rfl, (by rw [cwd_nil rfl]; exact wd_1498)⟩, wd_102, ⟨by decide +kernel, by decide +kernel⟩, by decide +kernel⟩, wd_1497, wd_71⟩
theorem wd_1506 : (Jvm.Cond.code ({ cls := "BitDeskModel", name := "classesAhead", desc := "(II)I" } : Jvm.MethodName) prog_9_method_50_code (5 : Nat) (Option.some Jvm.ClassFile.FieldType.int)) ∈ WS := ws_c6 208 rfl rfl
theorem wd_1503 : (Jvm.Cond.methodLink "BitDeskModel" (249 : Nat) ({ cls := "BitDeskModel", name := "classesAhead", desc := "(II)I" } : Jvm.MethodName)) ∈ WS := ws_c6 205 rfl rfl
theorem wd_1505 : (Jvm.Cond.instanceMethod ({ cls := "BitDeskModel", name := "classesAhead", desc := "(II)I" } : Jvm.MethodName)) ∈ WS := ws_c6 207 rfl rfl
theorem wd_72 : (Jvm.Cond.selects "BitDeskModel" (⟨"BitDeskModel", "classesAhead", "(II)I"⟩ : Jvm.MethodName) (⟨"BitDeskModel", "classesAhead", "(II)I"⟩ : Jvm.MethodName)) ∈ WS := ws_c0 72 rfl rfl
theorem lk_X7_249 : LkV RX7 249 jX7_classesAhead 2 := ⟨⟨wd_1503, ⟨rfl, (by rw [cwd_nil rfl]; exact wd_1506)⟩, wd_102, ⟨by decide +kernel, by decide +kernel⟩, by decide +kernel⟩, wd_1505, wd_72⟩
theorem fk_X7_34 : FK RX7 34 7 16 (.array .long) := ⟨RX7, TX7, 25, rfl, by decide, rfl, rfl, (Or.inl wd_1232), inW7⟩
theorem wd_1534 : (Jvm.Cond.code ({ cls := "BitDeskModel", name := "takes", desc := "(I[J)V" } : Jvm.MethodName) prog_9_method_56_code (4 : Nat) (Option.none : Option Jvm.ClassFile.FieldType)) ∈ WS := ws_c6 236 rfl rfl
theorem wd_1531 : (Jvm.Cond.methodLink "BitDeskModel" (252 : Nat) ({ cls := "BitDeskModel", name := "takes", desc := "(I[J)V" } : Jvm.MethodName)) ∈ WS := ws_c6 233 rfl rfl
theorem wd_1533 : (Jvm.Cond.instanceMethod ({ cls := "BitDeskModel", name := "takes", desc := "(I[J)V" } : Jvm.MethodName)) ∈ WS := ws_c6 235 rfl rfl
theorem wd_74 : (Jvm.Cond.selects "BitDeskModel" (⟨"BitDeskModel", "takes", "(I[J)V"⟩ : Jvm.MethodName) (⟨"BitDeskModel", "takes", "(I[J)V"⟩ : Jvm.MethodName)) ∈ WS := ws_c0 74 rfl rfl
theorem lk_X7_252 : LkV RX7 252 jX7_takes 2 := ⟨⟨wd_1531, ⟨rfl, (by rw [cwd_nil rfl]; exact wd_1534)⟩, wd_102, ⟨by decide +kernel, by decide +kernel⟩, by decide +kernel⟩, wd_1533, wd_74⟩
theorem wd_1538 : (Jvm.Cond.code ({ cls := "BitDeskModel", name := "closes", desc := "([J)V" } : Jvm.MethodName) prog_9_method_57_code (4 : Nat) (Option.none : Option Jvm.ClassFile.FieldType)) ∈ WS := ws_c7 0 rfl rfl
theorem wd_1535 : (Jvm.Cond.methodLink "BitDeskModel" (256 : Nat) ({ cls := "BitDeskModel", name := "closes", desc := "([J)V" } : Jvm.MethodName)) ∈ WS := ws_c6 237 rfl rfl
theorem wd_1537 : (Jvm.Cond.instanceMethod ({ cls := "BitDeskModel", name := "closes", desc := "([J)V" } : Jvm.MethodName)) ∈ WS := ws_c6 239 rfl rfl
theorem wd_75 : (Jvm.Cond.selects "BitDeskModel" (⟨"BitDeskModel", "closes", "([J)V"⟩ : Jvm.MethodName) (⟨"BitDeskModel", "closes", "([J)V"⟩ : Jvm.MethodName)) ∈ WS := ws_c0 75 rfl rfl
theorem lk_X7_256 : LkV RX7 256 jX7_closes 1 := ⟨⟨wd_1535, ⟨rfl, (by rw [cwd_nil rfl]; exact wd_1538)⟩, wd_102, ⟨by decide +kernel, by decide +kernel⟩, by decide +kernel⟩, wd_1537, wd_75⟩
theorem wd_1530 : (Jvm.Cond.code ({ cls := "BitDeskModel", name := "closure", desc := "(I)V" } : Jvm.MethodName) prog_9_method_58_code (2 : Nat) (Option.none : Option Jvm.ClassFile.FieldType)) ∈ WS := ws_c6 232 rfl rfl
theorem wd_1527 : (Jvm.Cond.methodLink "BitDeskModel" (260 : Nat) ({ cls := "BitDeskModel", name := "closure", desc := "(I)V" } : Jvm.MethodName)) ∈ WS := ws_c6 229 rfl rfl
theorem wd_1529 : (Jvm.Cond.instanceMethod ({ cls := "BitDeskModel", name := "closure", desc := "(I)V" } : Jvm.MethodName)) ∈ WS := ws_c6 231 rfl rfl
theorem wd_73 : (Jvm.Cond.selects "BitDeskModel" (⟨"BitDeskModel", "closure", "(I)V"⟩ : Jvm.MethodName) (⟨"BitDeskModel", "closure", "(I)V"⟩ : Jvm.MethodName)) ∈ WS := ws_c0 73 rfl rfl
theorem lk_X7_260 : LkV RX7 260 jX7_closure 1 := ⟨⟨wd_1527, ⟨rfl, (by rw [cwd_nil rfl]; exact wd_1530)⟩, wd_102, ⟨by decide +kernel, by decide +kernel⟩, by decide +kernel⟩, wd_1529, wd_73⟩
theorem wd_1554 : (Jvm.Cond.code ({ cls := "BitDeskModel", name := "sumOf", desc := "([J)I" } : Jvm.MethodName) prog_9_method_59_code (4 : Nat) (Option.some Jvm.ClassFile.FieldType.int)) ∈ WS := ws_c7 16 rfl rfl
theorem wd_1551 : (Jvm.Cond.methodLink "BitDeskModel" (263 : Nat) ({ cls := "BitDeskModel", name := "sumOf", desc := "([J)I" } : Jvm.MethodName)) ∈ WS := ws_c7 13 rfl rfl
theorem wd_1553 : (Jvm.Cond.instanceMethod ({ cls := "BitDeskModel", name := "sumOf", desc := "([J)I" } : Jvm.MethodName)) ∈ WS := ws_c7 15 rfl rfl
theorem wd_77 : (Jvm.Cond.selects "BitDeskModel" (⟨"BitDeskModel", "sumOf", "([J)I"⟩ : Jvm.MethodName) (⟨"BitDeskModel", "sumOf", "([J)I"⟩ : Jvm.MethodName)) ∈ WS := ws_c0 77 rfl rfl
theorem lk_X7_263 : LkV RX7 263 jX7_sumOf 1 := ⟨⟨wd_1551, ⟨rfl, (by rw [cwd_nil rfl]; exact wd_1554)⟩, wd_102, ⟨by decide +kernel, by decide +kernel⟩, by decide +kernel⟩, wd_1553, wd_77⟩
theorem wd_1550 : (Jvm.Cond.code ({ cls := "BitDeskModel", name := "pairsOf", desc := "(I)I" } : Jvm.MethodName) prog_9_method_62_code (2 : Nat) (Option.some Jvm.ClassFile.FieldType.int)) ∈ WS := ws_c7 12 rfl rfl
theorem wd_1547 : (Jvm.Cond.methodLink "BitDeskModel" (267 : Nat) ({ cls := "BitDeskModel", name := "pairsOf", desc := "(I)I" } : Jvm.MethodName)) ∈ WS := ws_c7 9 rfl rfl
theorem wd_1549 : (Jvm.Cond.instanceMethod ({ cls := "BitDeskModel", name := "pairsOf", desc := "(I)I" } : Jvm.MethodName)) ∈ WS := ws_c7 11 rfl rfl
theorem wd_76 : (Jvm.Cond.selects "BitDeskModel" (⟨"BitDeskModel", "pairsOf", "(I)I"⟩ : Jvm.MethodName) (⟨"BitDeskModel", "pairsOf", "(I)I"⟩ : Jvm.MethodName)) ∈ WS := ws_c0 76 rfl rfl
theorem lk_X7_267 : LkV RX7 267 jX7_pairsOf 1 := ⟨⟨wd_1547, ⟨rfl, (by rw [cwd_nil rfl]; exact wd_1550)⟩, wd_102, ⟨by decide +kernel, by decide +kernel⟩, by decide +kernel⟩, wd_1549, wd_76⟩
theorem wd_1566 : (Jvm.Cond.code ({ cls := "BitDeskModel", name := "componentOf", desc := "(I)I" } : Jvm.MethodName) prog_9_method_65_code (3 : Nat) (Option.some Jvm.ClassFile.FieldType.int)) ∈ WS := ws_c7 28 rfl rfl
theorem wd_1563 : (Jvm.Cond.methodLink "BitDeskModel" (270 : Nat) ({ cls := "BitDeskModel", name := "componentOf", desc := "(I)I" } : Jvm.MethodName)) ∈ WS := ws_c7 25 rfl rfl
theorem wd_1565 : (Jvm.Cond.instanceMethod ({ cls := "BitDeskModel", name := "componentOf", desc := "(I)I" } : Jvm.MethodName)) ∈ WS := ws_c7 27 rfl rfl
theorem wd_78 : (Jvm.Cond.selects "BitDeskModel" (⟨"BitDeskModel", "componentOf", "(I)I"⟩ : Jvm.MethodName) (⟨"BitDeskModel", "componentOf", "(I)I"⟩ : Jvm.MethodName)) ∈ WS := ws_c0 78 rfl rfl
theorem lk_X7_270 : LkV RX7 270 jX7_componentOf 1 := ⟨⟨wd_1563, ⟨rfl, (by rw [cwd_nil rfl]; exact wd_1566)⟩, wd_102, ⟨by decide +kernel, by decide +kernel⟩, by decide +kernel⟩, wd_1565, wd_78⟩
theorem fk_X7_43 : FK RX7 43 7 19 (.array .int) := ⟨RX7, TX7, 25, rfl, by decide, rfl, rfl, (Or.inl wd_1235), inW7⟩
theorem wd_1578 : (Jvm.Cond.code ({ cls := "BitDeskModel", name := "measures", desc := "(II)V" } : Jvm.MethodName) prog_9_method_68_code (6 : Nat) (Option.none : Option Jvm.ClassFile.FieldType)) ∈ WS := ws_c7 40 rfl rfl
theorem wd_1575 : (Jvm.Cond.methodLink "BitDeskModel" (273 : Nat) ({ cls := "BitDeskModel", name := "measures", desc := "(II)V" } : Jvm.MethodName)) ∈ WS := ws_c7 37 rfl rfl
theorem wd_1577 : (Jvm.Cond.instanceMethod ({ cls := "BitDeskModel", name := "measures", desc := "(II)V" } : Jvm.MethodName)) ∈ WS := ws_c7 39 rfl rfl
theorem wd_79 : (Jvm.Cond.selects "BitDeskModel" (⟨"BitDeskModel", "measures", "(II)V"⟩ : Jvm.MethodName) (⟨"BitDeskModel", "measures", "(II)V"⟩ : Jvm.MethodName)) ∈ WS := ws_c0 79 rfl rfl
theorem lk_X7_273 : LkV RX7 273 jX7_measures 2 := ⟨⟨wd_1575, ⟨rfl, (by rw [cwd_nil rfl]; exact wd_1578)⟩, wd_102, ⟨by decide +kernel, by decide +kernel⟩, by decide +kernel⟩, wd_1577, wd_79⟩
theorem wd_1590 : (Jvm.Cond.code ({ cls := "BitDeskModel", name := "aroundOf", desc := "(II)I" } : Jvm.MethodName) prog_9_method_71_code (5 : Nat) (Option.some Jvm.ClassFile.FieldType.int)) ∈ WS := ws_c7 52 rfl rfl
theorem wd_1587 : (Jvm.Cond.methodLink "BitDeskModel" (277 : Nat) ({ cls := "BitDeskModel", name := "aroundOf", desc := "(II)I" } : Jvm.MethodName)) ∈ WS := ws_c7 49 rfl rfl
theorem wd_1589 : (Jvm.Cond.instanceMethod ({ cls := "BitDeskModel", name := "aroundOf", desc := "(II)I" } : Jvm.MethodName)) ∈ WS := ws_c7 51 rfl rfl
theorem wd_80 : (Jvm.Cond.selects "BitDeskModel" (⟨"BitDeskModel", "aroundOf", "(II)I"⟩ : Jvm.MethodName) (⟨"BitDeskModel", "aroundOf", "(II)I"⟩ : Jvm.MethodName)) ∈ WS := ws_c0 80 rfl rfl
theorem lk_X7_277 : LkV RX7 277 jX7_aroundOf 2 := ⟨⟨wd_1587, ⟨rfl, (by rw [cwd_nil rfl]; exact wd_1590)⟩, wd_102, ⟨by decide +kernel, by decide +kernel⟩, by decide +kernel⟩, wd_1589, wd_80⟩
theorem wd_1602 : (Jvm.Cond.code ({ cls := "BitDeskModel", name := "free", desc := "(IJ)I" } : Jvm.MethodName) prog_9_method_74_code (7 : Nat) (Option.some Jvm.ClassFile.FieldType.int)) ∈ WS := ws_c7 64 rfl rfl
theorem wd_1599 : (Jvm.Cond.methodLink "BitDeskModel" (280 : Nat) ({ cls := "BitDeskModel", name := "free", desc := "(IJ)I" } : Jvm.MethodName)) ∈ WS := ws_c7 61 rfl rfl
theorem wd_1601 : (Jvm.Cond.instanceMethod ({ cls := "BitDeskModel", name := "free", desc := "(IJ)I" } : Jvm.MethodName)) ∈ WS := ws_c7 63 rfl rfl
theorem wd_81 : (Jvm.Cond.selects "BitDeskModel" (⟨"BitDeskModel", "free", "(IJ)I"⟩ : Jvm.MethodName) (⟨"BitDeskModel", "free", "(IJ)I"⟩ : Jvm.MethodName)) ∈ WS := ws_c0 81 rfl rfl
theorem lk_X7_280 : LkV RX7 280 jX7_free 2 := ⟨⟨wd_1599, ⟨rfl, (by rw [cwd_nil rfl]; exact wd_1602)⟩, wd_102, ⟨by decide +kernel, by decide +kernel⟩, by decide +kernel⟩, wd_1601, wd_81⟩
theorem wd_1610 : (Jvm.Cond.code ({ cls := "BitDeskModel", name := "pairsTurned", desc := "(III)I" } : Jvm.MethodName) prog_9_method_76_code (4 : Nat) (Option.some Jvm.ClassFile.FieldType.int)) ∈ WS := ws_c7 72 rfl rfl
theorem wd_1607 : (Jvm.Cond.methodLink "BitDeskModel" (284 : Nat) ({ cls := "BitDeskModel", name := "pairsTurned", desc := "(III)I" } : Jvm.MethodName)) ∈ WS := ws_c7 69 rfl rfl
theorem wd_1609 : (Jvm.Cond.instanceMethod ({ cls := "BitDeskModel", name := "pairsTurned", desc := "(III)I" } : Jvm.MethodName)) ∈ WS := ws_c7 71 rfl rfl
theorem wd_82 : (Jvm.Cond.selects "BitDeskModel" (⟨"BitDeskModel", "pairsTurned", "(III)I"⟩ : Jvm.MethodName) (⟨"BitDeskModel", "pairsTurned", "(III)I"⟩ : Jvm.MethodName)) ∈ WS := ws_c0 82 rfl rfl
theorem lk_X7_284 : LkV RX7 284 jX7_pairsTurned 3 := ⟨⟨wd_1607, ⟨rfl, (by rw [cwd_nil rfl]; exact wd_1610)⟩, wd_102, ⟨by decide +kernel, by decide +kernel⟩, by decide +kernel⟩, wd_1609, wd_82⟩
theorem wd_1625 : (Jvm.Cond.code ({ cls := "java/lang/Math", name := "abs", desc := "(I)I" } : Jvm.MethodName) prog_14_method_59_code (1 : Nat) (Option.some Jvm.ClassFile.FieldType.int)) ∈ WS := ws_c7 87 rfl rfl
theorem wd_1623 : (Jvm.Cond.methodLink "BitDeskModel" (288 : Nat) ({ cls := "java/lang/Math", name := "abs", desc := "(I)I" } : Jvm.MethodName)) ∈ WS := ws_c7 85 rfl rfl
theorem wd_1624 : (Jvm.Cond.static ({ cls := "java/lang/Math", name := "abs", desc := "(I)I" } : Jvm.MethodName)) ∈ WS := ws_c7 86 rfl rfl
theorem lk_X7_288 : LkS RX7 288 jJ9_abs_0f7a4 1 := ⟨⟨wd_1623, ⟨rfl, (by rw [cwd_nil rfl]; exact wd_1625)⟩, wd_107, ⟨by decide +kernel, by decide +kernel⟩, by decide +kernel⟩, wd_1624⟩
theorem wd_1628 : (Jvm.Cond.code ({ cls := "java/lang/Math", name := "max", desc := "(II)I" } : Jvm.MethodName) prog_14_method_65_code (2 : Nat) (Option.some Jvm.ClassFile.FieldType.int)) ∈ WS := ws_c7 90 rfl rfl
theorem wd_1626 : (Jvm.Cond.methodLink "BitDeskModel" (291 : Nat) ({ cls := "java/lang/Math", name := "max", desc := "(II)I" } : Jvm.MethodName)) ∈ WS := ws_c7 88 rfl rfl
theorem wd_1627 : (Jvm.Cond.static ({ cls := "java/lang/Math", name := "max", desc := "(II)I" } : Jvm.MethodName)) ∈ WS := ws_c7 89 rfl rfl
theorem lk_X7_291 : LkS RX7 291 jJ9_max_7cf53 2 := ⟨⟨wd_1626, ⟨rfl, (by rw [cwd_nil rfl]; exact wd_1628)⟩, wd_107, ⟨by decide +kernel, by decide +kernel⟩, by decide +kernel⟩, wd_1627⟩
theorem wd_1622 : (Jvm.Cond.code ({ cls := "BitDeskModel", name := "mostTurned", desc := "(II)I" } : Jvm.MethodName) prog_9_method_79_code (8 : Nat) (Option.some Jvm.ClassFile.FieldType.int)) ∈ WS := ws_c7 84 rfl rfl
theorem wd_1619 : (Jvm.Cond.methodLink "BitDeskModel" (294 : Nat) ({ cls := "BitDeskModel", name := "mostTurned", desc := "(II)I" } : Jvm.MethodName)) ∈ WS := ws_c7 81 rfl rfl
theorem wd_1621 : (Jvm.Cond.instanceMethod ({ cls := "BitDeskModel", name := "mostTurned", desc := "(II)I" } : Jvm.MethodName)) ∈ WS := ws_c7 83 rfl rfl
theorem wd_83 : (Jvm.Cond.selects "BitDeskModel" (⟨"BitDeskModel", "mostTurned", "(II)I"⟩ : Jvm.MethodName) (⟨"BitDeskModel", "mostTurned", "(II)I"⟩ : Jvm.MethodName)) ∈ WS := ws_c0 83 rfl rfl
theorem lk_X7_294 : LkV RX7 294 jX7_mostTurned 2 := ⟨⟨wd_1619, ⟨rfl, (by rw [cwd_nil rfl]; exact wd_1622)⟩, wd_102, ⟨by decide +kernel, by decide +kernel⟩, by decide +kernel⟩, wd_1621, wd_83⟩
theorem fk_X7_47 : FK RX7 47 7 20 (.array .long) := ⟨RX7, TX7, 25, rfl, by decide, rfl, rfl, (Or.inl wd_1236), inW7⟩
theorem wd_1238 : (Jvm.Cond.fieldLink "BitDeskModel" (297 : Nat) "BitDeskModel" "pivotMany" "I") ∈ WS := ws_c5 184 rfl rfl
theorem fp_X7_297 : FP RX7 297 7 22 (.int) false := ⟨RX7, TX7, 25, tyX7, rfl, by decide, rfl, rfl, (Or.inl wd_1238), inW7, tyX7_ok, nmX7, rfl, tyX7_ok 22 (by decide), rfl⟩
theorem fk_X7_297 : FK RX7 297 7 22 (.int) := ⟨RX7, TX7, 25, rfl, by decide, rfl, rfl, (Or.inl wd_1238), inW7⟩
theorem wd_1648 : (Jvm.Cond.code ({ cls := "BitDeskModel", name := "changes", desc := "(II)V" } : Jvm.MethodName) prog_9_method_83_code (7 : Nat) (Option.none : Option Jvm.ClassFile.FieldType)) ∈ WS := ws_c7 110 rfl rfl
theorem wd_1645 : (Jvm.Cond.methodLink "BitDeskModel" (300 : Nat) ({ cls := "BitDeskModel", name := "changes", desc := "(II)V" } : Jvm.MethodName)) ∈ WS := ws_c7 107 rfl rfl
theorem wd_1647 : (Jvm.Cond.instanceMethod ({ cls := "BitDeskModel", name := "changes", desc := "(II)V" } : Jvm.MethodName)) ∈ WS := ws_c7 109 rfl rfl
theorem wd_85 : (Jvm.Cond.selects "BitDeskModel" (⟨"BitDeskModel", "changes", "(II)V"⟩ : Jvm.MethodName) (⟨"BitDeskModel", "changes", "(II)V"⟩ : Jvm.MethodName)) ∈ WS := ws_c0 85 rfl rfl
theorem lk_X7_300 : LkV RX7 300 jX7_changes 2 := ⟨⟨wd_1645, ⟨rfl, (by rw [cwd_nil rfl]; exact wd_1648)⟩, wd_102, ⟨by decide +kernel, by decide +kernel⟩, by decide +kernel⟩, wd_1647, wd_85⟩
theorem fk_X7_50 : FK RX7 50 7 21 (.array .int) := ⟨RX7, TX7, 25, rfl, by decide, rfl, rfl, (Or.inl wd_1237), inW7⟩
theorem wd_1644 : (Jvm.Cond.code ({ cls := "BitDeskModel", name := "reduces", desc := "(I)V" } : Jvm.MethodName) prog_9_method_84_code (5 : Nat) (Option.none : Option Jvm.ClassFile.FieldType)) ∈ WS := ws_c7 106 rfl rfl
theorem wd_1641 : (Jvm.Cond.methodLink "BitDeskModel" (303 : Nat) ({ cls := "BitDeskModel", name := "reduces", desc := "(I)V" } : Jvm.MethodName)) ∈ WS := ws_c7 103 rfl rfl
theorem wd_1643 : (Jvm.Cond.instanceMethod ({ cls := "BitDeskModel", name := "reduces", desc := "(I)V" } : Jvm.MethodName)) ∈ WS := ws_c7 105 rfl rfl
theorem wd_84 : (Jvm.Cond.selects "BitDeskModel" (⟨"BitDeskModel", "reduces", "(I)V"⟩ : Jvm.MethodName) (⟨"BitDeskModel", "reduces", "(I)V"⟩ : Jvm.MethodName)) ∈ WS := ws_c0 84 rfl rfl
theorem lk_X7_303 : LkV RX7 303 jX7_reduces 1 := ⟨⟨wd_1641, ⟨rfl, (by rw [cwd_nil rfl]; exact wd_1644)⟩, wd_102, ⟨by decide +kernel, by decide +kernel⟩, by decide +kernel⟩, wd_1643, wd_84⟩
theorem wd_1657 : (Jvm.Cond.constantLong "BitDeskModel" (306 : Nat) (-1 : Int64)) ∈ WS := ws_c7 119 rfl rfl
theorem wd_1656 : (Jvm.Cond.code ({ cls := "BitDeskModel", name := "solved", desc := "(IJ)J" } : Jvm.MethodName) prog_9_method_86_code (7 : Nat) (Option.some Jvm.ClassFile.FieldType.long)) ∈ WS := ws_c7 118 rfl rfl
theorem wd_1653 : (Jvm.Cond.methodLink "BitDeskModel" (308 : Nat) ({ cls := "BitDeskModel", name := "solved", desc := "(IJ)J" } : Jvm.MethodName)) ∈ WS := ws_c7 115 rfl rfl
theorem wd_1655 : (Jvm.Cond.instanceMethod ({ cls := "BitDeskModel", name := "solved", desc := "(IJ)J" } : Jvm.MethodName)) ∈ WS := ws_c7 117 rfl rfl
theorem wd_86 : (Jvm.Cond.selects "BitDeskModel" (⟨"BitDeskModel", "solved", "(IJ)J"⟩ : Jvm.MethodName) (⟨"BitDeskModel", "solved", "(IJ)J"⟩ : Jvm.MethodName)) ∈ WS := ws_c0 86 rfl rfl
theorem lk_X7_308 : LkV RX7 308 jX7_solved 2 := ⟨⟨wd_1653, ⟨rfl, (by rw [cwd_nil rfl]; exact wd_1656)⟩, wd_102, ⟨by decide +kernel, by decide +kernel⟩, by decide +kernel⟩, wd_1655, wd_86⟩
theorem fk_X7_16 : FK RX7 16 7 2 (.array .long) := ⟨RX7, TX7, 25, rfl, by decide, rfl, rfl, (Or.inl wd_1218), inW7⟩
theorem wd_1411 : (Jvm.Cond.code ({ cls := "BitDeskModel", name := "looks", desc := "(II)V" } : Jvm.MethodName) prog_9_method_92_code (3 : Nat) (Option.none : Option Jvm.ClassFile.FieldType)) ∈ WS := ws_c6 113 rfl rfl
theorem wd_1408 : (Jvm.Cond.methodLink "BitDeskModel" (312 : Nat) ({ cls := "BitDeskModel", name := "looks", desc := "(II)V" } : Jvm.MethodName)) ∈ WS := ws_c6 110 rfl rfl
theorem wd_1410 : (Jvm.Cond.instanceMethod ({ cls := "BitDeskModel", name := "looks", desc := "(II)V" } : Jvm.MethodName)) ∈ WS := ws_c6 112 rfl rfl
theorem wd_63 : (Jvm.Cond.selects "BitDeskModel" (⟨"BitDeskModel", "looks", "(II)V"⟩ : Jvm.MethodName) (⟨"BitDeskModel", "looks", "(II)V"⟩ : Jvm.MethodName)) ∈ WS := ws_c0 63 rfl rfl
theorem lk_X7_312 : LkV RX7 312 jX7_looks 2 := ⟨⟨wd_1408, ⟨rfl, (by rw [cwd_nil rfl]; exact wd_1411)⟩, wd_102, ⟨by decide +kernel, by decide +kernel⟩, by decide +kernel⟩, wd_1410, wd_63⟩
theorem wd_1677 : (Jvm.Cond.code ({ cls := "BitDeskModel", name := "keeps", desc := "()V" } : Jvm.MethodName) prog_9_method_90_code (2 : Nat) (Option.none : Option Jvm.ClassFile.FieldType)) ∈ WS := ws_c7 139 rfl rfl
theorem wd_1674 : (Jvm.Cond.methodLink "BitDeskModel" (315 : Nat) ({ cls := "BitDeskModel", name := "keeps", desc := "()V" } : Jvm.MethodName)) ∈ WS := ws_c7 136 rfl rfl
theorem wd_1676 : (Jvm.Cond.instanceMethod ({ cls := "BitDeskModel", name := "keeps", desc := "()V" } : Jvm.MethodName)) ∈ WS := ws_c7 138 rfl rfl
theorem wd_87 : (Jvm.Cond.selects "BitDeskModel" (⟨"BitDeskModel", "keeps", "()V"⟩ : Jvm.MethodName) (⟨"BitDeskModel", "keeps", "()V"⟩ : Jvm.MethodName)) ∈ WS := ws_c0 87 rfl rfl
theorem lk_X7_315 : LkV RX7 315 jX7_keeps 0 := ⟨⟨wd_1674, ⟨rfl, (by rw [cwd_nil rfl]; exact wd_1677)⟩, wd_102, ⟨by decide +kernel, by decide +kernel⟩, by decide +kernel⟩, wd_1676, wd_87⟩
theorem fk_X7_37 : FK RX7 37 7 17 (.array .long) := ⟨RX7, TX7, 25, rfl, by decide, rfl, rfl, (Or.inl wd_1233), inW7⟩
theorem wd_1681 : (Jvm.Cond.code ({ cls := "BitDeskModel", name := "setsRow", desc := "(IIJ)V" } : Jvm.MethodName) prog_9_method_11_code (5 : Nat) (Option.none : Option Jvm.ClassFile.FieldType)) ∈ WS := ws_c7 143 rfl rfl
theorem wd_1678 : (Jvm.Cond.methodLink "BitDeskModel" (318 : Nat) ({ cls := "BitDeskModel", name := "setsRow", desc := "(IIJ)V" } : Jvm.MethodName)) ∈ WS := ws_c7 140 rfl rfl
theorem wd_1680 : (Jvm.Cond.instanceMethod ({ cls := "BitDeskModel", name := "setsRow", desc := "(IIJ)V" } : Jvm.MethodName)) ∈ WS := ws_c7 142 rfl rfl
theorem wd_88 : (Jvm.Cond.selects "BitDeskModel" (⟨"BitDeskModel", "setsRow", "(IIJ)V"⟩ : Jvm.MethodName) (⟨"BitDeskModel", "setsRow", "(IIJ)V"⟩ : Jvm.MethodName)) ∈ WS := ws_c0 88 rfl rfl
theorem lk_X7_318 : LkV RX7 318 jX7_setsRow 3 := ⟨⟨wd_1678, ⟨rfl, (by rw [cwd_nil rfl]; exact wd_1681)⟩, wd_102, ⟨by decide +kernel, by decide +kernel⟩, by decide +kernel⟩, wd_1680, wd_88⟩
theorem wd_1693 : (Jvm.Cond.code ({ cls := "BitDeskModel", name := "lays", desc := "([JI)I" } : Jvm.MethodName) prog_9_method_96_code (4 : Nat) (Option.some Jvm.ClassFile.FieldType.int)) ∈ WS := ws_c7 155 rfl rfl
theorem wd_1690 : (Jvm.Cond.methodLink "BitDeskModel" (322 : Nat) ({ cls := "BitDeskModel", name := "lays", desc := "([JI)I" } : Jvm.MethodName)) ∈ WS := ws_c7 152 rfl rfl
theorem wd_1692 : (Jvm.Cond.instanceMethod ({ cls := "BitDeskModel", name := "lays", desc := "([JI)I" } : Jvm.MethodName)) ∈ WS := ws_c7 154 rfl rfl
theorem wd_89 : (Jvm.Cond.selects "BitDeskModel" (⟨"BitDeskModel", "lays", "([JI)I"⟩ : Jvm.MethodName) (⟨"BitDeskModel", "lays", "([JI)I"⟩ : Jvm.MethodName)) ∈ WS := ws_c0 89 rfl rfl
theorem lk_X7_322 : LkV RX7 322 jX7_lays 2 := ⟨⟨wd_1690, ⟨rfl, (by rw [cwd_nil rfl]; exact wd_1693)⟩, wd_102, ⟨by decide +kernel, by decide +kernel⟩, by decide +kernel⟩, wd_1692, wd_89⟩
theorem wd_1704 : (Jvm.Cond.code ({ cls := "BitDeskModel", name := "combined", desc := "(JJI)J" } : Jvm.MethodName) prog_9_method_99_code (5 : Nat) (Option.some Jvm.ClassFile.FieldType.long)) ∈ WS := ws_c7 166 rfl rfl
theorem wd_1702 : (Jvm.Cond.methodLink "BitDeskModel" (326 : Nat) ({ cls := "BitDeskModel", name := "combined", desc := "(JJI)J" } : Jvm.MethodName)) ∈ WS := ws_c7 164 rfl rfl
theorem wd_1703 : (Jvm.Cond.static ({ cls := "BitDeskModel", name := "combined", desc := "(JJI)J" } : Jvm.MethodName)) ∈ WS := ws_c7 165 rfl rfl
theorem lk_X7_326 : LkS RX7 326 jX7_combined 3 := ⟨⟨wd_1702, ⟨rfl, (by rw [cwd_nil rfl]; exact wd_1704)⟩, wd_102, ⟨by decide +kernel, by decide +kernel⟩, by decide +kernel⟩, wd_1703⟩
theorem wd_1716 : (Jvm.Cond.code ({ cls := "BitDeskModel", name := "counts", desc := "([J)V" } : Jvm.MethodName) prog_9_method_101_code (8 : Nat) (Option.none : Option Jvm.ClassFile.FieldType)) ∈ WS := ws_c7 178 rfl rfl
theorem wd_1713 : (Jvm.Cond.methodLink "BitDeskModel" (330 : Nat) ({ cls := "BitDeskModel", name := "counts", desc := "([J)V" } : Jvm.MethodName)) ∈ WS := ws_c7 175 rfl rfl
theorem wd_1715 : (Jvm.Cond.instanceMethod ({ cls := "BitDeskModel", name := "counts", desc := "([J)V" } : Jvm.MethodName)) ∈ WS := ws_c7 177 rfl rfl
theorem wd_91 : (Jvm.Cond.selects "BitDeskModel" (⟨"BitDeskModel", "counts", "([J)V"⟩ : Jvm.MethodName) (⟨"BitDeskModel", "counts", "([J)V"⟩ : Jvm.MethodName)) ∈ WS := ws_c0 91 rfl rfl
theorem lk_X7_330 : LkV RX7 330 jX7_counts 1 := ⟨⟨wd_1713, ⟨rfl, (by rw [cwd_nil rfl]; exact wd_1716)⟩, wd_102, ⟨by decide +kernel, by decide +kernel⟩, by decide +kernel⟩, wd_1715, wd_91⟩
theorem fk_X7_40 : FK RX7 40 7 18 (.array .long) := ⟨RX7, TX7, 25, rfl, by decide, rfl, rfl, (Or.inl wd_1234), inW7⟩
theorem wd_1712 : (Jvm.Cond.code ({ cls := "BitDeskModel", name := "multiplies", desc := "([J[J[JZ)V" } : Jvm.MethodName) prog_9_method_102_code (9 : Nat) (Option.none : Option Jvm.ClassFile.FieldType)) ∈ WS := ws_c7 174 rfl rfl
theorem wd_1709 : (Jvm.Cond.methodLink "BitDeskModel" (333 : Nat) ({ cls := "BitDeskModel", name := "multiplies", desc := "([J[J[JZ)V" } : Jvm.MethodName)) ∈ WS := ws_c7 171 rfl rfl
theorem wd_1711 : (Jvm.Cond.instanceMethod ({ cls := "BitDeskModel", name := "multiplies", desc := "([J[J[JZ)V" } : Jvm.MethodName)) ∈ WS := ws_c7 173 rfl rfl
theorem wd_90 : (Jvm.Cond.selects "BitDeskModel" (⟨"BitDeskModel", "multiplies", "([J[J[JZ)V"⟩ : Jvm.MethodName) (⟨"BitDeskModel", "multiplies", "([J[J[JZ)V"⟩ : Jvm.MethodName)) ∈ WS := ws_c0 90 rfl rfl
theorem lk_X7_333 : LkV RX7 333 jX7_multiplies 4 := ⟨⟨wd_1709, ⟨rfl, (by rw [cwd_nil rfl]; exact wd_1712)⟩, wd_102, ⟨by decide +kernel, by decide +kernel⟩, by decide +kernel⟩, wd_1711, wd_90⟩
theorem wd_1721 : (Jvm.Cond.constantLong "BitDeskModel" (337 : Nat) (1000000 : Int64)) ∈ WS := ws_c7 183 rfl rfl
theorem wd_1725 : (Jvm.Cond.code ({ cls := "BitDeskModel", name := "moves", desc := "([J[J)V" } : Jvm.MethodName) prog_9_method_104_code (4 : Nat) (Option.none : Option Jvm.ClassFile.FieldType)) ∈ WS := ws_c7 187 rfl rfl
theorem wd_1722 : (Jvm.Cond.methodLink "BitDeskModel" (339 : Nat) ({ cls := "BitDeskModel", name := "moves", desc := "([J[J)V" } : Jvm.MethodName)) ∈ WS := ws_c7 184 rfl rfl
theorem wd_1724 : (Jvm.Cond.instanceMethod ({ cls := "BitDeskModel", name := "moves", desc := "([J[J)V" } : Jvm.MethodName)) ∈ WS := ws_c7 186 rfl rfl
theorem wd_92 : (Jvm.Cond.selects "BitDeskModel" (⟨"BitDeskModel", "moves", "([J[J)V"⟩ : Jvm.MethodName) (⟨"BitDeskModel", "moves", "([J[J)V"⟩ : Jvm.MethodName)) ∈ WS := ws_c0 92 rfl rfl
theorem lk_X7_339 : LkV RX7 339 jX7_moves 2 := ⟨⟨wd_1722, ⟨rfl, (by rw [cwd_nil rfl]; exact wd_1725)⟩, wd_102, ⟨by decide +kernel, by decide +kernel⟩, by decide +kernel⟩, wd_1724, wd_92⟩
theorem wd_1741 : (Jvm.Cond.code ({ cls := "BitDeskModel", name := "isSame", desc := "([J[J)Z" } : Jvm.MethodName) prog_9_method_108_code (4 : Nat) (Option.some Jvm.ClassFile.FieldType.boolean)) ∈ WS := ws_c7 203 rfl rfl
theorem wd_1738 : (Jvm.Cond.methodLink "BitDeskModel" (343 : Nat) ({ cls := "BitDeskModel", name := "isSame", desc := "([J[J)Z" } : Jvm.MethodName)) ∈ WS := ws_c7 200 rfl rfl
theorem wd_1740 : (Jvm.Cond.instanceMethod ({ cls := "BitDeskModel", name := "isSame", desc := "([J[J)Z" } : Jvm.MethodName)) ∈ WS := ws_c7 202 rfl rfl
theorem wd_93 : (Jvm.Cond.selects "BitDeskModel" (⟨"BitDeskModel", "isSame", "([J[J)Z"⟩ : Jvm.MethodName) (⟨"BitDeskModel", "isSame", "([J[J)Z"⟩ : Jvm.MethodName)) ∈ WS := ws_c0 93 rfl rfl
theorem lk_X7_343 : LkV RX7 343 jX7_isSame 2 := ⟨⟨wd_1738, ⟨rfl, (by rw [cwd_nil rfl]; exact wd_1741)⟩, wd_102, ⟨by decide +kernel, by decide +kernel⟩, by decide +kernel⟩, wd_1740, wd_93⟩
theorem wd_1748 : (Jvm.Cond.code ({ cls := "BitDeskModel", name := "exchanged", desc := "(JII)J" } : Jvm.MethodName) prog_9_method_110_code (5 : Nat) (Option.some Jvm.ClassFile.FieldType.long)) ∈ WS := ws_c7 210 rfl rfl
theorem wd_1746 : (Jvm.Cond.methodLink "BitDeskModel" (347 : Nat) ({ cls := "BitDeskModel", name := "exchanged", desc := "(JII)J" } : Jvm.MethodName)) ∈ WS := ws_c7 208 rfl rfl
theorem wd_1747 : (Jvm.Cond.static ({ cls := "BitDeskModel", name := "exchanged", desc := "(JII)J" } : Jvm.MethodName)) ∈ WS := ws_c7 209 rfl rfl
theorem lk_X7_347 : LkS RX7 347 jX7_exchanged 3 := ⟨⟨wd_1746, ⟨rfl, (by rw [cwd_nil rfl]; exact wd_1748)⟩, wd_102, ⟨by decide +kernel, by decide +kernel⟩, by decide +kernel⟩, wd_1747⟩
theorem wd_1757 : (Jvm.Cond.constantLong "BitDeskModel" (351 : Nat) (8 : Int64)) ∈ WS := ws_c7 219 rfl rfl
theorem wd_1762 : (Jvm.Cond.constantLong "BitDeskModel" (353 : Nat) (2 : Int64)) ∈ WS := ws_c7 224 rfl rfl
theorem wd_1240 : (Jvm.Cond.fieldLink "BitDeskModel" (355 : Nat) "BitDeskModel" "written" "I") ∈ WS := ws_c5 186 rfl rfl
theorem fp_X7_355 : FP RX7 355 7 24 (.int) false := ⟨RX7, TX7, 25, tyX7, rfl, by decide, rfl, rfl, (Or.inl wd_1240), inW7, tyX7_ok, nmX7, rfl, tyX7_ok 24 (by decide), rfl⟩
theorem fk_X7_355 : FK RX7 355 7 24 (.int) := ⟨RX7, TX7, 25, rfl, by decide, rfl, rfl, (Or.inl wd_1240), inW7⟩
theorem fk_X7_53 : FK RX7 53 7 23 (.array .byte) := ⟨RX7, TX7, 25, rfl, by decide, rfl, rfl, (Or.inl wd_1239), inW7⟩
theorem fk_X7_19 : FK RX7 19 7 3 (.array .long) := ⟨RX7, TX7, 25, rfl, by decide, rfl, rfl, (Or.inl wd_1219), inW7⟩
theorem fk_X7_22 : FK RX7 22 7 4 (.array .boolean) := ⟨RX7, TX7, 25, rfl, by decide, rfl, rfl, (Or.inl wd_1220), inW7⟩
theorem wd_684 : (Jvm.Cond.constant "java/lang/Integer" (265 : Nat) (1431655765 : Int32)) ∈ WS := ws_c3 110 rfl rfl
theorem wd_685 : (Jvm.Cond.constant "java/lang/Integer" (266 : Nat) (858993459 : Int32)) ∈ WS := ws_c3 111 rfl rfl
theorem wd_686 : (Jvm.Cond.constant "java/lang/Integer" (267 : Nat) (252645135 : Int32)) ∈ WS := ws_c3 112 rfl rfl
theorem wd_1786 : (Jvm.Cond.fieldLink "java/lang/String" (9 : Nat) "java/lang/String" "value" "[B") ∈ WS := ws_c8 8 rfl rfl
theorem wd_376 : (Jvm.Cond.code ({ cls := "java/lang/String", name := "coder", desc := "()B" } : Jvm.MethodName) prog_16_method_152_code (1 : Nat) (Option.some Jvm.ClassFile.FieldType.byte)) ∈ WS := ws_c2 42 rfl rfl
theorem wd_373 : (Jvm.Cond.methodLink "java/lang/String" (335 : Nat) ({ cls := "java/lang/String", name := "coder", desc := "()B" } : Jvm.MethodName)) ∈ WS := ws_c2 39 rfl rfl
theorem wd_374 : (Jvm.Cond.instanceMethod ({ cls := "java/lang/String", name := "coder", desc := "()B" } : Jvm.MethodName)) ∈ WS := ws_c2 40 rfl rfl
theorem wd_375 : (Jvm.Cond.selects "java/lang/String" ({ cls := "java/lang/String", name := "coder", desc := "()B" } : Jvm.MethodName) ({ cls := "java/lang/String", name := "coder", desc := "()B" } : Jvm.MethodName)) ∈ WS := ws_c2 41 rfl rfl
theorem lk_J0_335 : LkV RJ0 335 jJ0_coder_7d493 0 := ⟨⟨wd_373, ⟨rfl, (by rw [cwd_nil rfl]; exact wd_376)⟩, wd_103, ⟨by decide +kernel, by decide +kernel⟩, by decide +kernel⟩, wd_374, wd_375⟩
theorem wd_386 : (Jvm.Cond.code ({ cls := "java/lang/String", name := "isLatin1", desc := "()Z" } : Jvm.MethodName) prog_16_method_154_code (1 : Nat) (Option.some Jvm.ClassFile.FieldType.boolean)) ∈ WS := ws_c2 52 rfl rfl
theorem wd_383 : (Jvm.Cond.methodLink "java/lang/String" (492 : Nat) ({ cls := "java/lang/String", name := "isLatin1", desc := "()Z" } : Jvm.MethodName)) ∈ WS := ws_c2 49 rfl rfl
theorem wd_384 : (Jvm.Cond.instanceMethod ({ cls := "java/lang/String", name := "isLatin1", desc := "()Z" } : Jvm.MethodName)) ∈ WS := ws_c2 50 rfl rfl
theorem wd_385 : (Jvm.Cond.selects "java/lang/String" ({ cls := "java/lang/String", name := "isLatin1", desc := "()Z" } : Jvm.MethodName) ({ cls := "java/lang/String", name := "isLatin1", desc := "()Z" } : Jvm.MethodName)) ∈ WS := ws_c2 51 rfl rfl
theorem lk_J0_492 : LkV RJ0 492 jJ0_isLatin1_aae02 0 := ⟨⟨wd_383, ⟨rfl, (by rw [cwd_nil rfl]; exact wd_386)⟩, wd_103, ⟨by decide +kernel, by decide +kernel⟩, by decide +kernel⟩, wd_384, wd_385⟩
theorem wd_389 : (Jvm.Cond.code ({ cls := "java/lang/StringLatin1", name := "charAt", desc := "([BI)C" } : Jvm.MethodName) prog_17_method_2_code (2 : Nat) (Option.some Jvm.ClassFile.FieldType.char)) ∈ WS := ws_c2 55 rfl rfl
theorem wd_387 : (Jvm.Cond.methodLink "java/lang/String" (495 : Nat) ({ cls := "java/lang/StringLatin1", name := "charAt", desc := "([BI)C" } : Jvm.MethodName)) ∈ WS := ws_c2 53 rfl rfl
theorem wd_388 : (Jvm.Cond.static ({ cls := "java/lang/StringLatin1", name := "charAt", desc := "([BI)C" } : Jvm.MethodName)) ∈ WS := ws_c2 54 rfl rfl
theorem lk_J0_495 : LkS RJ0 495 jJ1_charAt_3b067 2 := ⟨⟨wd_387, ⟨rfl, (by rw [cwd_nil rfl]; exact wd_389)⟩, wd_104, ⟨by decide +kernel, by decide +kernel⟩, by decide +kernel⟩, wd_388⟩
theorem wd_400 : (Jvm.Cond.code ({ cls := "java/lang/StringUTF16", name := "charAt", desc := "([BI)C" } : Jvm.MethodName) prog_18_method_83_code (2 : Nat) (Option.some Jvm.ClassFile.FieldType.char)) ∈ WS := ws_c2 66 rfl rfl
theorem wd_398 : (Jvm.Cond.methodLink "java/lang/String" (498 : Nat) ({ cls := "java/lang/StringUTF16", name := "charAt", desc := "([BI)C" } : Jvm.MethodName)) ∈ WS := ws_c2 64 rfl rfl
theorem wd_399 : (Jvm.Cond.static ({ cls := "java/lang/StringUTF16", name := "charAt", desc := "([BI)C" } : Jvm.MethodName)) ∈ WS := ws_c2 65 rfl rfl
theorem lk_J0_498 : LkS RJ0 498 jJ2_charAt_3b067 2 := ⟨⟨wd_398, ⟨rfl, (by rw [cwd_nil rfl]; exact wd_400)⟩, wd_106, ⟨by decide +kernel, by decide +kernel⟩, by decide +kernel⟩, wd_399⟩
theorem wd_377 : (Jvm.Cond.fieldLink "java/lang/String" (38 : Nat) "java/lang/String" "COMPACT_STRINGS" "Z") ∈ WS := ws_c2 43 rfl rfl
theorem wd_1787 : (Jvm.Cond.fieldLink "java/lang/String" (15 : Nat) "java/lang/String" "coder" "B") ∈ WS := ws_c8 9 rfl rfl
theorem wd_393 : (Jvm.Cond.fieldLink "java/lang/String" (1053 : Nat) "jdk/internal/util/Preconditions" "SIOOBE_FORMATTER" "Ljava/util/function/BiFunction;") ∈ WS := ws_c2 59 rfl rfl
theorem wd_397 : (Jvm.Cond.code ({ cls := "jdk/internal/util/Preconditions", name := "checkIndex", desc := "(IILjava/util/function/BiFunction;)I" } : Jvm.MethodName) prog_21_method_11_code (3 : Nat) (Option.some Jvm.ClassFile.FieldType.int)) ∈ WS := ws_c2 63 rfl rfl
theorem wd_395 : (Jvm.Cond.methodLink "java/lang/String" (1059 : Nat) ({ cls := "jdk/internal/util/Preconditions", name := "checkIndex", desc := "(IILjava/util/function/BiFunction;)I" } : Jvm.MethodName)) ∈ WS := ws_c2 61 rfl rfl
theorem wd_396 : (Jvm.Cond.static ({ cls := "jdk/internal/util/Preconditions", name := "checkIndex", desc := "(IILjava/util/function/BiFunction;)I" } : Jvm.MethodName)) ∈ WS := ws_c2 62 rfl rfl
theorem lk_J0_1059 : LkS RJ0 1059 jJ3_checkIndex_8e157 3 := ⟨⟨wd_395, ⟨rfl, (by rw [cwd_nil rfl]; exact wd_397)⟩, wd_105, ⟨by decide +kernel, by decide +kernel⟩, by decide +kernel⟩, wd_396⟩
theorem wd_392 : (Jvm.Cond.code ({ cls := "java/lang/String", name := "checkIndex", desc := "(II)V" } : Jvm.MethodName) prog_16_method_155_code (2 : Nat) (Option.none : Option Jvm.ClassFile.FieldType)) ∈ WS := ws_c2 58 rfl rfl
theorem wd_390 : (Jvm.Cond.methodLink "java/lang/StringLatin1" (9 : Nat) ({ cls := "java/lang/String", name := "checkIndex", desc := "(II)V" } : Jvm.MethodName)) ∈ WS := ws_c2 56 rfl rfl
theorem wd_391 : (Jvm.Cond.static ({ cls := "java/lang/String", name := "checkIndex", desc := "(II)V" } : Jvm.MethodName)) ∈ WS := ws_c2 57 rfl rfl
theorem lk_J1_9 : LkS RJ1 9 jJ0_checkIndex_df160 2 := ⟨⟨wd_390, ⟨rfl, (by rw [cwd_nil rfl]; exact wd_392)⟩, wd_103, ⟨by decide +kernel, by decide +kernel⟩, by decide +kernel⟩, wd_391⟩
theorem wd_411 : (Jvm.Cond.fieldLink "java/lang/StringUTF16" (44 : Nat) "java/lang/StringUTF16" "$assertionsDisabled" "Z") ∈ WS := ws_c2 77 rfl rfl
theorem wd_406 : (Jvm.Cond.code ({ cls := "java/lang/StringUTF16", name := "length", desc := "([B)I" } : Jvm.MethodName) prog_18_method_6_code (1 : Nat) (Option.some Jvm.ClassFile.FieldType.int)) ∈ WS := ws_c2 72 rfl rfl
theorem wd_404 : (Jvm.Cond.methodLink "java/lang/StringUTF16" (48 : Nat) ({ cls := "java/lang/StringUTF16", name := "length", desc := "([B)I" } : Jvm.MethodName)) ∈ WS := ws_c2 70 rfl rfl
theorem wd_405 : (Jvm.Cond.static ({ cls := "java/lang/StringUTF16", name := "length", desc := "([B)I" } : Jvm.MethodName)) ∈ WS := ws_c2 71 rfl rfl
theorem lk_J2_48 : LkS RJ2 48 jJ2_length_9d52b 1 := ⟨⟨wd_404, ⟨rfl, (by rw [cwd_nil rfl]; exact wd_406)⟩, wd_106, ⟨by decide +kernel, by decide +kernel⟩, by decide +kernel⟩, wd_405⟩
theorem wd_413 : (Jvm.Cond.fieldLink "java/lang/StringUTF16" (59 : Nat) "java/lang/StringUTF16" "HI_BYTE_SHIFT" "I") ∈ WS := ws_c2 79 rfl rfl
theorem wd_415 : (Jvm.Cond.fieldLink "java/lang/StringUTF16" (63 : Nat) "java/lang/StringUTF16" "LO_BYTE_SHIFT" "I") ∈ WS := ws_c2 81 rfl rfl
theorem wd_403 : (Jvm.Cond.code ({ cls := "java/lang/StringUTF16", name := "checkIndex", desc := "(I[B)V" } : Jvm.MethodName) prog_18_method_91_code (2 : Nat) (Option.none : Option Jvm.ClassFile.FieldType)) ∈ WS := ws_c2 69 rfl rfl
theorem wd_401 : (Jvm.Cond.methodLink "java/lang/StringUTF16" (67 : Nat) ({ cls := "java/lang/StringUTF16", name := "checkIndex", desc := "(I[B)V" } : Jvm.MethodName)) ∈ WS := ws_c2 67 rfl rfl
theorem wd_402 : (Jvm.Cond.static ({ cls := "java/lang/StringUTF16", name := "checkIndex", desc := "(I[B)V" } : Jvm.MethodName)) ∈ WS := ws_c2 68 rfl rfl
theorem lk_J2_67 : LkS RJ2 67 jJ2_checkIndex_2214a 2 := ⟨⟨wd_401, ⟨rfl, (by rw [cwd_nil rfl]; exact wd_403)⟩, wd_106, ⟨by decide +kernel, by decide +kernel⟩, by decide +kernel⟩, wd_402⟩
theorem wd_410 : (Jvm.Cond.code ({ cls := "java/lang/StringUTF16", name := "getChar", desc := "([BI)C" } : Jvm.MethodName) prog_18_method_5_code (2 : Nat) (Option.some Jvm.ClassFile.FieldType.char)) ∈ WS := ws_c2 76 rfl rfl
theorem wd_408 : (Jvm.Cond.methodLink "java/lang/StringUTF16" (71 : Nat) ({ cls := "java/lang/StringUTF16", name := "getChar", desc := "([BI)C" } : Jvm.MethodName)) ∈ WS := ws_c2 74 rfl rfl
theorem wd_409 : (Jvm.Cond.static ({ cls := "java/lang/StringUTF16", name := "getChar", desc := "([BI)C" } : Jvm.MethodName)) ∈ WS := ws_c2 75 rfl rfl
theorem lk_J2_71 : LkS RJ2 71 jJ2_getChar_3b067 2 := ⟨⟨wd_408, ⟨rfl, (by rw [cwd_nil rfl]; exact wd_410)⟩, wd_106, ⟨by decide +kernel, by decide +kernel⟩, by decide +kernel⟩, wd_409⟩
theorem wd_407 : (Jvm.Cond.methodLink "java/lang/StringUTF16" (414 : Nat) ({ cls := "java/lang/String", name := "checkIndex", desc := "(II)V" } : Jvm.MethodName)) ∈ WS := ws_c2 73 rfl rfl
theorem lk_J2_414 : LkS RJ2 414 jJ0_checkIndex_df160 2 := ⟨⟨wd_407, ⟨rfl, (by rw [cwd_nil rfl]; exact wd_392)⟩, wd_103, ⟨by decide +kernel, by decide +kernel⟩, by decide +kernel⟩, wd_391⟩
end
-- 09.shape
section
/-! loops, calls whose end is known, the shape of the memory -/
section
variable {l : Launch} {J : Jm} {F L MC MS : Nat} {Q : Res → Mem → Prop} {pc : Nat} {lv : List (Nat × Value)} {st : List Value} {k n : Nat} {M : Mem}
/-- a loop that counts: A i, MM i at its head before round i -/
theorem go_loop (N : Nat) (A : Nat → List (Nat × Value)) (MM : Nat → Mem) (hA : lvSub lv (A 0)) (hM : M = MM 0)
    (hs : ∀ i, i < N → Go l J F L MC MS Q pc (A (i + 1)) [] k n (MM (i + 1)) → Go l J F L MC MS Q pc (A i) [] k n (MM i)) (hx : Go l J F L MC MS Q pc (A N) [] k n (MM N)) : Go l J F L MC MS Q pc lv [] k n M := by
  refine g_sub hA ?_
  rw [hM]
  have key : ∀ d i, i + d = N → Go l J F L MC MS Q pc (A i) [] k n (MM i) := by
    intro d
    induction d with
    | zero => intro i hi; rw [Nat.add_zero] at hi; rw [hi]; exact hx
    | succ d ih => intro i hi; exact hs i (by omega) (ih (i + 1) (by omega))
  exact key N 0 (Nat.zero_add N)
/-- a loop with a measure -/
theorem go_while {σ : Type} (I : σ → Prop) (μ : σ → Nat) (A : σ → List (Nat × Value)) (MM : σ → Mem) (s0 : σ) (hA : lvSub lv (A s0)) (hM : M = MM s0) (h0 : I s0)
    (hs : ∀ s, I s → (∀ s', I s' → μ s' < μ s → Go l J F L MC MS Q pc (A s') [] k n (MM s')) → Go l J F L MC MS Q pc (A s) [] k n (MM s)) : Go l J F L MC MS Q pc lv [] k n M := by
  refine g_sub hA ?_
  rw [hM]
  have key : ∀ d s, I s → μ s ≤ d → Go l J F L MC MS Q pc (A s) [] k n (MM s) := by
    intro d
    induction d with
    | zero => intro s h1 h2; exact hs s h1 (fun s' _ h4 => absurd h4 (by omega))
    | succ d ih => intro s h1 h2; exact hs s h1 (fun s' h3 h4 => ih s' h3 (by omega))
  exact key (μ s0) s0 h0 (Nat.le_refl _)
/-- a call's end is known -/
def EvR (l : Launch) (J : Jm) (F L mc ms : Nat) (As : List Value) (M : Mem) (r : Res) (M' : Mem) : Prop := Ev l J F L mc ms As M (fun r' M9 => r' = r ∧ M9 = M')
theorem ev_mono {J : Jm} {F L mc ms : Nat} {As : List Value} {Q Q' : Res → Mem → Prop} (h : Ev l J F L mc ms As M Q) (hq : ∀ r M', Q r M' → Q' r M') : Ev l J F L mc ms As M Q' := by
  intro G p e ha hc hk s m args below h1 h2 h3 h4
  obtain ⟨t, o, a1, a2, a3, a4⟩ := h G p e ha hc hk s m args below h1 h2 h3 h4
  refine ⟨t, o, a1, a2, a3, ?_⟩
  rcases a4 with ⟨⟨⟨v, M', b1, b2, b3⟩, b4⟩, b5⟩ | ⟨q, b1, E, ce, L9, ⟨⟨M', c1, c2⟩, c3⟩, c4⟩
  · exact Or.inl ⟨⟨⟨v, M', b1, hq _ _ b2, b3⟩, b4⟩, b5⟩
  · exact Or.inr ⟨q, b1, E, ce, L9, ⟨⟨M', hq _ _ c1, c2⟩, c3⟩, c4⟩
theorem g_invV_r {ix nA F' L' mc' ms' : Nat} {J' : Jm} {As rest : List Value} {id ci : Nat} {q0 : vw_C} {k0 n0 : Nat} {v : Option Value} {M' : Mem} (hd : decode J.2.1 pc = .ok (.invokevirtual ix, 3)) (hst : st = As.reverse ++ .ref id :: rest) (hE : EvR l J' F' L' mc' ms' (.ref id :: As) M (.inl v) M') (hk9 : k0 = k + mc') (hn9 : n0 = n + ms') (hk : (mK M)[id]? = some (.inr ci)) (hc0 : vwCl[ci]? = some q0) (hq0 : q0.1 = J'.1.cls) (hlk : LkV J.1.cls ix J' nA) (hn : As.length = nA) (hcat : (rest.map fun v => v.category).sum ≤ 8) (hF : F' + 1 ≤ F ∧ 8 + (J'.2.2.1 + 11) + L' ≤ L) (hh : J.2.2.2.2 = []) (kk : Go l J F L MC MS Q (pc + 3) lv (v.toList ++ rest) k n M') : Go l J F L MC MS Q pc lv st k0 n0 M := by
  subst hk9; subst hn9
  exact g_invV hd hlk hn hcat hF hE hst hk hc0 hq0 hh (fun v1 M1 h => by obtain ⟨h1, h2⟩ := h; cases h1; subst h2; exact kk) (fun E M1 h => by cases h.1)
theorem g_invV_x {ix nA F' L' mc' ms' : Nat} {J' : Jm} {As rest : List Value} {id ci : Nat} {q0 : vw_C} {k0 n0 : Nat} {E : String} {M' : Mem} (hd : decode J.2.1 pc = .ok (.invokevirtual ix, 3)) (hst : st = As.reverse ++ .ref id :: rest) (hE : EvR l J' F' L' mc' ms' (.ref id :: As) M (.inr E) M') (hk9 : k0 = k + mc') (hn9 : n0 = n + ms') (hk : (mK M)[id]? = some (.inr ci)) (hc0 : vwCl[ci]? = some q0) (hq0 : q0.1 = J'.1.cls) (hlk : LkV J.1.cls ix J' nA) (hn : As.length = nA) (hcat : (rest.map fun v => v.category).sum ≤ 8) (hF : F' + 1 ≤ F ∧ 8 + (J'.2.2.1 + 11) + L' ≤ L) (hh : J.2.2.2.2 = []) (kk : Q (.inr E) M') : Go l J F L MC MS Q pc lv st k0 n0 M := by
  subst hk9; subst hn9
  exact g_invV hd hlk hn hcat hF hE hst hk hc0 hq0 hh (fun v1 M1 h => by cases h.1) (fun E1 M1 h => by obtain ⟨h1, h2⟩ := h; cases h1; subst h2; exact kk)
theorem g_invS_r {ix nA F' L' mc' ms' : Nat} {J' : Jm} {As rest : List Value} {k0 n0 : Nat} {v : Option Value} {M' : Mem} (hd : decode J.2.1 pc = .ok (.invokestatic ix, 3)) (hst : st = As.reverse ++ rest) (hE : EvR l J' F' L' mc' ms' As M (.inl v) M') (hk9 : k0 = k + mc') (hn9 : n0 = n + ms') (hlk : LkS J.1.cls ix J' nA) (hn : As.length = nA) (hcat : (rest.map fun v => v.category).sum ≤ 8) (hF : F' + 1 ≤ F ∧ 8 + (J'.2.2.1 + 11) + L' ≤ L) (hh : J.2.2.2.2 = []) (kk : Go l J F L MC MS Q (pc + 3) lv (v.toList ++ rest) k n M') : Go l J F L MC MS Q pc lv st k0 n0 M := by
  subst hk9; subst hn9
  exact g_invS hd hlk hn hcat hF hE hst hh (fun v1 M1 h => by obtain ⟨h1, h2⟩ := h; cases h1; subst h2; exact kk) (fun E M1 h => by cases h.1)
theorem g_invS_x {ix nA F' L' mc' ms' : Nat} {J' : Jm} {As rest : List Value} {k0 n0 : Nat} {E : String} {M' : Mem} (hd : decode J.2.1 pc = .ok (.invokestatic ix, 3)) (hst : st = As.reverse ++ rest) (hE : EvR l J' F' L' mc' ms' As M (.inr E) M') (hk9 : k0 = k + mc') (hn9 : n0 = n + ms') (hlk : LkS J.1.cls ix J' nA) (hn : As.length = nA) (hcat : (rest.map fun v => v.category).sum ≤ 8) (hF : F' + 1 ≤ F ∧ 8 + (J'.2.2.1 + 11) + L' ≤ L) (hh : J.2.2.2.2 = []) (kk : Q (.inr E) M') : Go l J F L MC MS Q pc lv st k0 n0 M := by
  subst hk9; subst hn9
  exact g_invS hd hlk hn hcat hF hE hst hh (fun v1 M1 h => by cases h.1) (fun E1 M1 h => by obtain ⟨h1, h2⟩ := h; cases h1; subst h2; exact kk)
theorem g_invSN_r {ix nA F' L' mc' ms' : Nat} {J' : Jm} {As rest : List Value} {k0 n0 : Nat} {v : Option Value} {M' : Mem} (hd : decode J.2.1 pc = .ok (.invokestatic ix, 3)) (hst : st = As.reverse ++ rest) (hE : EvR l J' F' L' mc' ms' As M (.inl v) M') (hk9 : k0 = k + mc') (hn9 : n0 = n + ms') (hlk : LkSN J.1.cls ix J' nA) (hn : As.length = nA) (hcat : (rest.map fun v => v.category).sum ≤ 8) (hF : F' + 1 ≤ F ∧ 8 + (J'.2.2.1 + 11) + L' ≤ L) (hh : J.2.2.2.2 = []) (kk : Go l J F L MC MS Q (pc + 3) lv (v.toList ++ rest) k n M') : Go l J F L MC MS Q pc lv st k0 n0 M := by
  subst hk9; subst hn9
  exact g_invSN hd hlk hn hcat hF hE hst hh (fun v1 M1 h => by obtain ⟨h1, h2⟩ := h; cases h1; subst h2; exact kk) (fun E M1 h => by cases h.1)
theorem g_invSN_x {ix nA F' L' mc' ms' : Nat} {J' : Jm} {As rest : List Value} {k0 n0 : Nat} {E : String} {M' : Mem} (hd : decode J.2.1 pc = .ok (.invokestatic ix, 3)) (hst : st = As.reverse ++ rest) (hE : EvR l J' F' L' mc' ms' As M (.inr E) M') (hk9 : k0 = k + mc') (hn9 : n0 = n + ms') (hlk : LkSN J.1.cls ix J' nA) (hn : As.length = nA) (hcat : (rest.map fun v => v.category).sum ≤ 8) (hF : F' + 1 ≤ F ∧ 8 + (J'.2.2.1 + 11) + L' ≤ L) (hh : J.2.2.2.2 = []) (kk : Q (.inr E) M') : Go l J F L MC MS Q pc lv st k0 n0 M := by
  subst hk9; subst hn9
  exact g_invSN hd hlk hn hcat hF hE hst hh (fun v1 M1 h => by cases h.1) (fun E1 M1 h => by obtain ⟨h1, h2⟩ := h; cases h1; subst h2; exact kk)
theorem g_invI_r {ix nA F' L' mc' ms' : Nat} {J' : Jm} {As rest : List Value} {id ci : Nat} {q0 : vw_C} {k0 n0 : Nat} {v : Option Value} {M' : Mem} (hd : decode J.2.1 pc = .ok (.invokespecial ix, 3)) (hst : st = As.reverse ++ .ref id :: rest) (hE : EvR l J' F' L' mc' ms' (.ref id :: As) M (.inl v) M') (hk9 : k0 = k + mc') (hn9 : n0 = n + ms') (hk : (mK M)[id]? = some (.inr ci)) (hc0 : vwCl[ci]? = some q0) (hq0 : q0.1 = J'.1.cls) (hlk : LkI J.1.cls ix J' nA) (hn : As.length = nA) (hcat : (rest.map fun v => v.category).sum ≤ 8) (hF : F' + 1 ≤ F ∧ 8 + (J'.2.2.1 + 11) + L' ≤ L) (hh : J.2.2.2.2 = []) (kk : Go l J F L MC MS Q (pc + 3) lv (v.toList ++ rest) k n M') : Go l J F L MC MS Q pc lv st k0 n0 M := by
  subst hk9; subst hn9
  exact g_invI hd hlk hn hcat hF hE hst hk hc0 hq0 hh (fun v1 M1 h => by obtain ⟨h1, h2⟩ := h; cases h1; subst h2; exact kk) (fun E M1 h => by cases h.1)
theorem g_invI_x {ix nA F' L' mc' ms' : Nat} {J' : Jm} {As rest : List Value} {id ci : Nat} {q0 : vw_C} {k0 n0 : Nat} {E : String} {M' : Mem} (hd : decode J.2.1 pc = .ok (.invokespecial ix, 3)) (hst : st = As.reverse ++ .ref id :: rest) (hE : EvR l J' F' L' mc' ms' (.ref id :: As) M (.inr E) M') (hk9 : k0 = k + mc') (hn9 : n0 = n + ms') (hk : (mK M)[id]? = some (.inr ci)) (hc0 : vwCl[ci]? = some q0) (hq0 : q0.1 = J'.1.cls) (hlk : LkI J.1.cls ix J' nA) (hn : As.length = nA) (hcat : (rest.map fun v => v.category).sum ≤ 8) (hF : F' + 1 ≤ F ∧ 8 + (J'.2.2.1 + 11) + L' ≤ L) (hh : J.2.2.2.2 = []) (kk : Q (.inr E) M') : Go l J F L MC MS Q pc lv st k0 n0 M := by
  subst hk9; subst hn9
  exact g_invI hd hlk hn hcat hF hE hst hk hc0 hq0 hh (fun v1 M1 h => by cases h.1) (fun E1 M1 h => by obtain ⟨h1, h2⟩ := h; cases h1; subst h2; exact kk)
/-- LAYOUT: of the class's object (0 ..), the reference's (198 ..), the law's two arrays -/
abbrev kI (n : Nat) : Knd := .inl (.int, n)
abbrev kL (n : Nat) : Knd := .inl (.long, n)
abbrev kSt : String := "BitDesk$State"
abbrev kMx : String := "BitDesk$Matrix"
abbrev kCl : String := "BitDesk$Closure"
def laySt : List Knd := [.inr 5, .inl (.object kMx, 6), .inr 2, kI 32, .inr 2, kI 32, .inr 2, kI 32, .inr 2, kI 32, .inr 2, kI 32, .inr 2, kI 32]
def layC : List Knd := [.inr 6, .inr 4, kI 600] ++ laySt ++ laySt ++ [.inl (.object kSt, 8)] ++ laySt ++ laySt ++ laySt ++ laySt ++ laySt ++ laySt ++ laySt ++ laySt ++ [.inl (.object kSt, 2)] ++ laySt ++ laySt ++ [.inl (.boolean, 2), .inl (.object kCl, 6), .inr 0, kI 32, .inr 0, kI 32, .inr 0, kI 32, .inr 0, kI 32, .inr 0, kI 32, .inr 0, kI 32, .inr 3, kI 256, kI 32, kI 32, .inr 1, kI 32, kI 32, kI 32, kI 32, kI 32, kI 32]
def layM : List Knd := [.inr 7, kL 220, kL 220, kL 1760, kL 440, .inl (.boolean, 2), .inl (.byte, 600), kL 32, kL 32, kL 32, kI 32, kL 32, kI 32, .inl (.byte, 32)]
def layO : List Knd := [kL 1, .inl (.double, 1)]
def LAY : List Knd := layC ++ layM ++ layO
/-- references: state b: its slots' array b + 1, slot s at b + 2 + 2 s, its rows behind it -/
def refSt (b i j : Nat) : Option Nat := if i = b then (if j = 0 then some (b + 1) else none) else if i = b + 1 then (if j < 6 then some (b + 2 + 2 * j) else none) else if b + 2 ≤ i ∧ i < b + 14 ∧ j = 0 ∧ (i - b) % 2 = 0 then some (i + 1) else none
def ref0 (j : Nat) : Option Nat := [some 1, some 3, some 17, some 31, none, none, some 144, some 173, some 174, some 187, some 191, some 195, some 196, some 197, none].getD j none
def ref198 (j : Nat) : Option Nat := [some 199, some 200, some 201, some 202, some 203, none, none, some 204, none, none, none, none, none, none, none, none, some 205, some 206, some 207, some 208, some 209, some 210, none, some 211, none].getD j none
def REFT (i j : Nat) : Option Nat :=
  if i = 0 then ref0 j else if i = 1 then (if j = 0 then some 2 else none) else if i < 17 then refSt 3 i j else if i < 31 then refSt 17 i j
  else if i = 31 then (if j < 8 then some (32 + 14 * j) else none) else if i < 144 then refSt (32 + 14 * ((i - 32) / 14)) i j
  else if i = 144 then (if j < 2 then some (145 + 14 * j) else none) else if i < 159 then refSt 145 i j else if i < 173 then refSt 159 i j
  else if i = 174 then (if j < 6 then some (175 + 2 * j) else none) else if i < 175 then none else if i < 187 then (if j = 0 ∧ i % 2 = 1 then some (i + 1) else none)
  else if i = 187 then (if j < 3 then some (188 + j) else none) else if i = 191 then (if j < 3 then some (192 + j) else none) else if i = 198 then ref198 j else none
def Shp (M : Mem) : Prop := mK M = LAY ∧ mX M = false ∧ ∀ i j r, REFT i j = some r → mR M i j = some r
theorem shK {M : Mem} {i : Nat} {x : Knd} (h : Shp M) (e : LAY[i]? = some x) : (mK M)[i]? = some x := by rw [h.1]; exact e
theorem shR {M : Mem} {i j r : Nat} (h : Shp M) (e : REFT i j = some r) : mR M i j = some r := h.2.2 i j r e
theorem fv_obj {M : Mem} {i j r : Nat} {C : String} (h : mR M i j = some r) : ∀ G : Gl, fval G M i j (.object C) = cv G (.ref r) := fun G => by simp only [fval, h, cv, va_rf, Option.map]
theorem fv_arr {M : Mem} {i j r : Nat} {t : FieldType} (h : mR M i j = some r) : ∀ G : Gl, fval G M i j (.array t) = cv G (.ref r) := fun G => by simp only [fval, h, cv, va_rf, Option.map]
theorem new_df {M : Mem} {ci N : Nat} {ty0 : Nat → FieldType} (h : ∀ a, a < N → (ftyA ci)[a]? = some (ty0 a) ∧ ty0 a ≠ .float) : ∀ a, a < N → ∀ G : Gl, defaultValue (ty0 a) = vp_V (fvs G (nK M (.inr ci)) (mK M).length 0 (ftyA ci)) a := by
  intro a ha G
  have h1 := fvs_get G (nK M (.inr ci)) (mK M).length (ftyA ci) 0 a (ty0 a) (h a ha).1
  have h2 := (h a ha).2
  unfold vp_V
  rw [List.getD_eq_getElem?_getD, h1, Nat.zero_add]
  cases hty : ty0 a <;> first | exact absurd hty h2 | (simp [fval, nK, mI, mL, mR, mD, fs_self, va_rf] <;> rfl)
theorem new_df0 (M : Mem) : ∀ a, a < 2 → ∀ G : Gl, defaultValue (tyX0 a) = vp_V (fvs G (nK M (.inr 0)) (mK M).length 0 (ftyA 0)) a := new_df (by decide +kernel)
theorem new_df1 (M : Mem) : ∀ a, a < 4 → ∀ G : Gl, defaultValue (tyX1 a) = vp_V (fvs G (nK M (.inr 1)) (mK M).length 0 (ftyA 1)) a := new_df (by decide +kernel)
theorem new_df2 (M : Mem) : ∀ a, a < 5 → ∀ G : Gl, defaultValue (tyX2 a) = vp_V (fvs G (nK M (.inr 2)) (mK M).length 0 (ftyA 2)) a := new_df (by decide +kernel)
theorem new_df3 (M : Mem) : ∀ a, a < 8 → ∀ G : Gl, defaultValue (tyX3 a) = vp_V (fvs G (nK M (.inr 3)) (mK M).length 0 (ftyA 3)) a := new_df (by decide +kernel)
theorem new_df4 (M : Mem) : ∀ a, a < 7 → ∀ G : Gl, defaultValue (tyX4 a) = vp_V (fvs G (nK M (.inr 4)) (mK M).length 0 (ftyA 4)) a := new_df (by decide +kernel)
theorem new_df5 (M : Mem) : ∀ a, a < 5 → ∀ G : Gl, defaultValue (tyX5 a) = vp_V (fvs G (nK M (.inr 5)) (mK M).length 0 (ftyA 5)) a := new_df (by decide +kernel)
theorem new_df6 (M : Mem) : ∀ a, a < 15 → ∀ G : Gl, defaultValue (tyX6 a) = vp_V (fvs G (nK M (.inr 6)) (mK M).length 0 (ftyA 6)) a := new_df (by decide +kernel)
theorem new_df7 (M : Mem) : ∀ a, a < 25 → ∀ G : Gl, defaultValue (tyX7 a) = vp_V (fvs G (nK M (.inr 7)) (mK M).length 0 (ftyA 7)) a := new_df (by decide +kernel)
theorem nl {a b : Nat} (h : Nat.blt a b = true) : a < b := Nat.le_of_ble_eq_true h
theorem nb {a b : Nat} (h : Nat.ble a b = true) : a ≤ b := Nat.le_of_ble_eq_true h
end
end
-- 091.bits
section
/-! bits of ints and longs -/
def hb (x : Int32) (c : Nat) : Bool := x.toBitVec.getLsbD c
def hl (x : Int64) (c : Nat) : Bool := x.toBitVec.getLsbD c
def b1 (b : Bool) : Int32 := match b with
  | true => 1
  | false => 0
theorem sh31 : ∀ c, c < 32 → (nI c).toUInt32 &&& Int32.toUInt32 31 = UInt32.ofNat c := by decide +kernel
theorem ush32 (x : Int32) {c : Nat} (h : c < 32) : (x.toUInt32 >>> ((nI c).toUInt32 &&& Int32.toUInt32 31)).toInt32.toBitVec = x.toBitVec >>> c := by
  rw [sh31 c h]
  show x.toBitVec >>> ((UInt32.ofNat c).mod 32).toBitVec = _
  have e : ((UInt32.ofNat c).mod 32).toBitVec.toNat = c := by
    have h1 : ∀ c, c < 32 → ((UInt32.ofNat c).mod 32).toBitVec.toNat = c := by decide +kernel
    exact h1 c h
  show x.toBitVec >>> ((UInt32.ofNat c).mod 32).toBitVec.toNat = _
  rw [e]
/-- a bit taken out -/
theorem bit32 (x : Int32) {c : Nat} (h : c < 32) : (x.toUInt32 >>> ((nI c).toUInt32 &&& Int32.toUInt32 31)).toInt32 &&& 1 = b1 (hb x c) := by
  apply Int32.toBitVec_inj.mp
  rw [Int32.toBitVec_and, ush32 x h]
  apply BitVec.eq_of_getLsbD_eq
  intro i hi
  unfold hb
  cases hx : x.toBitVec.getLsbD c
  · simp only [b1, BitVec.getLsbD_and, BitVec.getLsbD_ushiftRight]
    rcases Nat.eq_zero_or_pos i with rfl | h0
    · simp [hx]
    · have : (1 : Int32).toBitVec.getLsbD i = false := by
        show (1#32).getLsbD i = false
        simp [BitVec.getLsbD_one]; omega
      rw [this]; simp
  · simp only [b1, BitVec.getLsbD_and, BitVec.getLsbD_ushiftRight]
    rcases Nat.eq_zero_or_pos i with rfl | h0
    · simp [hx]
    · have : (1 : Int32).toBitVec.getLsbD i = false := by
        show (1#32).getLsbD i = false
        simp [BitVec.getLsbD_one]; omega
      rw [this]; simp
theorem b1_0 (b : Bool) : (b1 b = 0) = (b = false) := by cases b <;> simp [b1]
end
-- 095.wr
section
/-! writes that go up an array -/
section
variable {l : Launch} {J : Jm} {F L MC MS : Nat} {Q : Res → Mem → Prop} {pc : Nat} {lv : List (Nat × Value)} {st : List Value} {k n : Nat} {M : Mem}
abbrev pI (M : Mem) (i k : Nat) (x : Int32) : Mem := sI M i (fun_set (mI M i) k x)
abbrev pL (M : Mem) (i k : Nat) (x : Int64) : Mem := sL M i (fun_set (mL M i) k x)
def wr {α : Type} (f x : Nat → α) (i : Nat) : Nat → α := fun k => if k < i then x k else f k
theorem wr_0 {α : Type} (f x : Nat → α) : wr f x 0 = f := by funext k; simp [wr]
theorem wr_s {α : Type} (f x : Nat → α) (i : Nat) : fun_set (wr f x i) i (x i) = wr f x (i + 1) := by
  funext k
  simp only [fun_set, wr]
  by_cases h : k = i
  · subst h; simp
  · by_cases h2 : k < i
    · rw [if_neg h, if_pos h2, if_pos (by omega)]
    · rw [if_neg h, if_neg h2, if_neg (by omega)]
theorem wr_lt {α : Type} {f x : Nat → α} {i k : Nat} (h : k < i) : wr f x i k = x k := by simp [wr, h]
theorem wr_ge {α : Type} {f x : Nat → α} {i k : Nat} (h : i ≤ k) : wr f x i k = f k := by simp [wr, Nat.not_lt.mpr h]
theorem cpy_wr {α : Type} (f g : Nat → α) (c : Nat) : va_cpy f g 0 0 c = wr g f c := by funext k; simp [va_cpy, wr]
theorem go_cast {M' : Mem} (e : M = M') (h : Go l J F L MC MS Q pc lv st k n M') : Go l J F L MC MS Q pc lv st k n M := by rw [e]; exact h
theorem sI_id (M : Mem) (a : Nat) : sI M a (mI M a) = M := by simp only [sI, mI, fs_same]
theorem sL_id (M : Mem) (a : Nat) : sL M a (mL M a) = M := by simp only [sL, mL, fs_same]
theorem sI_eq {M : Mem} {a : Nat} {f : Nat → Int32} (h : f = mI M a) : M = sI M a f := by rw [h, sI_id]
theorem sL_eq {M : Mem} {a : Nat} {f : Nat → Int64} (h : f = mL M a) : M = sL M a f := by rw [h, sL_id]
theorem sI_2 (M : Mem) (a : Nat) (f g : Nat → Int32) : sI (sI M a f) a g = sI M a g := by simp only [sI, fs_twice]
theorem sL_2 (M : Mem) (a : Nat) (f g : Nat → Int64) : sL (sL M a f) a g = sL M a g := by simp only [sL, fs_twice]
theorem sI_self (M : Mem) (a : Nat) (f : Nat → Int32) : mI (sI M a f) a = f := by simp only [sI, mI, fs_self]
theorem sL_self (M : Mem) (a : Nat) (f : Nat → Int64) : mL (sL M a f) a = f := by simp only [sL, mL, fs_self]
theorem sI_ne {M : Mem} {a b : Nat} {f : Nat → Int32} (h : b ≠ a) : mI (sI M a f) b = mI M b := by simp only [sI, mI, fs_ne _ _ h]
theorem sL_ne {M : Mem} {a b : Nat} {f : Nat → Int64} (h : b ≠ a) : mL (sL M a f) b = mL M b := by simp only [sL, mL, fs_ne _ _ h]
theorem sI_st {M : Mem} {a i : Nat} {g h : Nat → Int32} {x : Int32} (e : fun_set g i x = h) : pI (sI M a g) a i x = sI M a h := by
  simp only [pI, sI, mI, fs_self, fs_twice, e]
theorem sL_st {M : Mem} {a i : Nat} {g h : Nat → Int64} {x : Int64} (e : fun_set g i x = h) : pL (sL M a g) a i x = sL M a h := by
  simp only [pL, sL, mL, fs_self, fs_twice, e]
theorem pI_self (M : Mem) (i k : Nat) (x : Int32) : mI (pI M i k x) i k = x := by simp only [pI, sI, mI, fs_self]
theorem pI_k {M : Mem} {i k j : Nat} {x : Int32} (h : j ≠ k) : mI (pI M i k x) i j = mI M i j := by simp only [pI, sI, mI, fs_self, fs_ne _ _ h]
theorem pI_i {M : Mem} {i k j : Nat} {x : Int32} (h : j ≠ i) : mI (pI M i k x) j = mI M j := by simp only [pI, sI, mI, fs_ne _ _ h]
theorem pI_get (M : Mem) (i k j r : Nat) (x : Int32) : mI (pI M i k x) j r = if j = i ∧ r = k then x else mI M j r := by
  by_cases h : j = i
  · subst h
    by_cases h2 : r = k
    · subst h2; simp [pI_self]
    · rw [pI_k h2, if_neg (fun h => h2 h.2)]
  · rw [pI_i h, if_neg (fun h9 => h h9.1)]
theorem mem_extI {M M' : Mem} (h1 : mK M = mK M') (h2 : mX M = mX M') (h3 : mL M = mL M') (h4 : mR M = mR M') (h5 : mD M = mD M') (h6 : mS M = mS M') (h : ∀ i, mI M i = mI M' i) : M = M' := by
  obtain ⟨a1, a2, a3, a4, a5, a6, a7⟩ := M
  obtain ⟨b1, b2, b3, b4, b5, b6, b7⟩ := M'
  have h7 : a3 = b3 := funext h
  cases h1; cases h2; cases h3; cases h4; cases h5; cases h6; cases h7
  rfl
end
end
