/-! MY OWN MACHINE: a memory by numbers of cells, a judgement Go over the kit's W, a contract Ev over the kit's vx_Met. -/
def WS : List Cond := lw_tbl.filter goodWord
theorem ws_mem {w : Cond} (i : Nat) (h : lw_tbl[i]? = some w) (g : goodWord w = true) : w ∈ WS := List.mem_filter.mpr ⟨List.mem_of_getElem? h, g⟩
theorem ws_good {w : Cond} (h : w ∈ WS) : (w.onTables && w.keeps) = true ∨ ∃ ty, w = .arrayClass ty := good_of_word (List.mem_filter.mp h).2
abbrev Knd : Type := (FieldType × Nat) ⊕ Nat
/-- the memory: what each cell is; whether nothing else was made since; ints, longs, references, doubles by cell and place -/
abbrev Mem : Type := List Knd × Bool × (Nat → Nat → Int32) × (Nat → Nat → Int64) × (Nat → Nat → Option Nat) × (Nat → Nat → UInt64) × (Nat × (Nat → Int32))
abbrev mK (M : Mem) : List Knd := M.1
abbrev mX (M : Mem) : Bool := M.2.1
abbrev mI (M : Mem) : Nat → Nat → Int32 := M.2.2.1
abbrev mL (M : Mem) : Nat → Nat → Int64 := M.2.2.2.1
abbrev mR (M : Mem) : Nat → Nat → Option Nat := M.2.2.2.2.1
abbrev mD (M : Mem) : Nat → Nat → UInt64 := M.2.2.2.2.2.1
abbrev mS (M : Mem) : Nat × (Nat → Int32) := M.2.2.2.2.2.2
def fun_set {α : Type} (f : Nat → α) (i : Nat) (x : α) : Nat → α := fun j => if j = i then x else f j
abbrev sI (M : Mem) (i : Nat) (f : Nat → Int32) : Mem := (M.1, M.2.1, fun_set M.2.2.1 i f, M.2.2.2)
abbrev sL (M : Mem) (i : Nat) (f : Nat → Int64) : Mem := (M.1, M.2.1, M.2.2.1, fun_set M.2.2.2.1 i f, M.2.2.2.2)
abbrev sR (M : Mem) (i : Nat) (f : Nat → Option Nat) : Mem := (M.1, M.2.1, M.2.2.1, M.2.2.2.1, fun_set M.2.2.2.2.1 i f, M.2.2.2.2.2)
abbrev sD (M : Mem) (i : Nat) (f : Nat → UInt64) : Mem := (M.1, M.2.1, M.2.2.1, M.2.2.2.1, M.2.2.2.2.1, fun_set M.2.2.2.2.2.1 i f, M.2.2.2.2.2.2)
abbrev sX (M : Mem) : Mem := (M.1, false, M.2.2)
/-- a new cell: all 0 -/
def nK (M : Mem) (k : Knd) : Mem := (M.1 ++ [k], M.2.1, fun_set (mI M) M.1.length (fun _ => 0), fun_set (mL M) M.1.length (fun _ => 0), fun_set (mR M) M.1.length (fun _ => none), fun_set (mD M) M.1.length (fun _ => 0), mS M)
def ftyA : Nat → List FieldType := fun ci => match ci with
  | 0 => [.array .int, .boolean]
  | 1 => [.array .int, .array .int, .array .int, .int]
  | 2 => [.array .int, .boolean, .int, .int, .int]
  | 3 => [.array .int, .array .int, .array .int, .int, .int, .boolean, .int, .int]
  | 4 => [.array .int, .int, .int, .int, .int, .int, .int]
  | 5 => [.array (.object "BitDesk$Matrix"), .int, .int, .int, .int]
  | 6 => [.object "BitDesk$Reader", .object "BitDesk$State", .object "BitDesk$State", .array (.object "BitDesk$State"), .int, .int, .array (.object "BitDesk$State"), .array .boolean, .array (.object "BitDesk$Closure"), .object "BitDesk$Multiplier", .object "BitDesk$Elimination", .array .int, .array .int, .array .int, .int]
  | 7 => [.int, .int, .int, .int, .array (.array (.array .boolean)), .array .boolean, .array (.array .int)]
  | 8 => [.array .byte, .byte, .int, .boolean]
  | 9 => [.array .byte, .byte, .boolean, .int]
  | _ => [.int, .array (.object "java/lang/Object"), .int]
/-- the globals of a run: the base of the cells, the script's cell, its length and ints, the String constants' cells and their arrays', the classes of arrays, the kit's tables -/
abbrev Gl : Type := Nat × Nat × Nat × (Nat → Int32) × (Nat → Nat) × (Nat → Nat) × (FieldType → ClassId) × va_G × Value
abbrev gB (G : Gl) : Nat := G.1
abbrev gScr (G : Gl) : Nat := G.2.1
abbrev gLen (G : Gl) : Nat := G.2.2.1
abbrev gXs (G : Gl) : Nat → Int32 := G.2.2.2.1
abbrev gSK (G : Gl) : Nat → Nat := G.2.2.2.2.1
abbrev gSV (G : Gl) : Nat → Nat := G.2.2.2.2.2.1
abbrev gA (G : Gl) : FieldType → ClassId := G.2.2.2.2.2.2.1
abbrev gD (G : Gl) : va_G := G.2.2.2.2.2.2.2.1
/-- the formatter that String.checkIndex hands on: null or a cell -/
abbrev gFm (G : Gl) : Value := G.2.2.2.2.2.2.2.2
/-- a reference or null -/
def gFc : Value → Value
  | .ref a => .ref a
  | _ => .null
/-- values as the machine has them: a reference is a cell's number; retAddr 0 the script, 1 the formatter, 2 k + 2 the String constant k, 2 k + 3 its bytes -/
def cv (G : Gl) : Value → Value
  | .ref i => .ref (gB G + i)
  | .retAddr 0 => .ref (gScr G)
  | .retAddr 1 => gFc (gFm G)
  | .retAddr (k + 2) => if k % 2 = 0 then .ref (gSK G (k / 2)) else .ref (gSV G (k / 2))
  | v => v
/-- a reference's address: a cell, or (where the place's int is not 0) a thing that stands outside: a String constant, an array of the JDK's -/
def rfo (G : Gl) (r : Option Nat) (c : Int32) : Option Nat := match r with
  | some i => some (gB G + i)
  | none => if c = 0 then none else some (gSK G (c.toNatClampNeg - 1))
theorem rfo_s (G : Gl) (i : Nat) (c : Int32) : rfo G (some i) c = some (gB G + i) := rfl
theorem rfo_0 (G : Gl) : rfo G none 0 = none := by simp [rfo]
def fval (G : Gl) (M : Mem) (id k : Nat) : FieldType → Value
  | .long => .long (mL M id k)
  | .double => .double (mD M id k)
  | .object _ => va_rf (rfo G (mR M id k) (mI M id k))
  | .array _ => va_rf (rfo G (mR M id k) (mI M id k))
  | _ => .int (mI M id k)
def fvs (G : Gl) (M : Mem) (id : Nat) : Nat → List FieldType → List Value
  | _, [] => []
  | k, t :: ts => fval G M id k t :: fvs G M id (k + 1) ts
theorem fvs_get (G : Gl) (M : Mem) (id : Nat) : ∀ (ts : List FieldType) (k j : Nat) (t : FieldType), ts[j]? = some t → (fvs G M id k ts)[j]? = some (fval G M id (k + j) t)
  | [], k, j, t, h => by simp at h
  | u :: ts, k, 0, t, h => by simp at h; subst h; rfl
  | u :: ts, k, j + 1, t, h => by
    have := fvs_get G M id ts (k + 1) j t (by simpa using h)
    rw [show k + (j + 1) = k + 1 + j by omega]
    simpa [fvs] using this
theorem fvs_len (G : Gl) (M : Mem) (id : Nat) : ∀ (ts : List FieldType) (k : Nat), (fvs G M id k ts).length = ts.length
  | [], k => rfl
  | u :: ts, k => by simp [fvs, fvs_len G M id ts (k + 1)]
def adat (G : Gl) (M : Mem) (id : Nat) : FieldType → ((Nat → Int32) ⊕ (Nat → Int64) ⊕ (Nat → UInt32) ⊕ (Nat → UInt64) ⊕ (Nat → Option Nat))
  | .long => .inr (.inl (mL M id))
  | .double => .inr (.inr (.inr (.inl (mD M id))))
  | .object _ => .inr (.inr (.inr (.inr (fun k => rfo G (mR M id k) (mI M id k)))))
  | .array _ => .inr (.inr (.inr (.inr (fun k => rfo G (mR M id k) (mI M id k)))))
  | _ => .inl (mI M id)
def ent (G : Gl) (M : Mem) (id : Nat) : Knd → va_E
  | .inl (t, n) => .inl (gA G t, n, adat G M id t)
  | .inr ci => .inr (ci, fvs G M id 0 (ftyA ci))
def wl (G : Gl) (M : Mem) : va_W := (mK M).mapIdx (fun i k => (gB G + i, ent G M i k))
theorem wl_get {G : Gl} {M : Mem} {i : Nat} {k : Knd} (h : (mK M)[i]? = some k) : (wl G M)[i]? = some (gB G + i, ent G M i k) := by
  simp [wl, List.getElem?_mapIdx, h]
theorem wl_len (G : Gl) (M : Mem) : (wl G M).length = (mK M).length := by simp [wl]
theorem wl_D (G : Gl) (M : Mem) : va_D (fun q => gB G ≤ q) (wl G M) := by
  refine ⟨fun i j p q hp hq h => ?_, fun k q hq => ?_⟩
  · simp only [wl, List.getElem?_mapIdx, Option.map_eq_some_iff] at hp hq
    obtain ⟨a, -, rfl⟩ := hp
    obtain ⟨b, -, rfl⟩ := hq
    simp only at h
    omega
  · simp only [wl, List.getElem?_mapIdx, Option.map_eq_some_iff] at hq
    obtain ⟨b, -, rfl⟩ := hq
    simp
def Rel (G : Gl) (M : Mem) (H : Heap) : Prop := va_P (gD G) vwCl (wl G M) H ∧ (mX M = true → H.size = gB G + (mK M).length) ∧ gB G + (mK M).length ≤ H.size ∧ mS M = (gLen G, gXs G)
def tyl (G : Gl) : List (ClassId × FieldType) := [(gA G .int, .int), (gA G .long, .long), (gA G .byte, .byte), (gA G .boolean, .boolean), (gA G (.array .boolean), .array .boolean), (gA G (.object "BitDesk$State"), .object "BitDesk$State"), (gA G (.object "BitDesk$Matrix"), .object "BitDesk$Matrix"), (gA G (.object "BitDesk$Closure"), .object "BitDesk$Closure"), (gA G (.array (.array .boolean)), .array (.array .boolean)), (gA G (.array .int), .array .int), (gA G (.object "BitDeskLaw$Desk"), .object "BitDeskLaw$Desk"), (gA G (.object "java/lang/String"), .object "java/lang/String"), (gA G (.object "java/lang/Object"), .object "java/lang/Object")]
/-- writing one cell -/
theorem wl_set {G : Gl} {M M' : Mem} {i : Nat} {k : Knd} (h : (mK M)[i]? = some k) (hK : mK M' = mK M) (ho : ∀ j x, j ≠ i → (mK M)[j]? = some x → ent G M' j x = ent G M j x) : (wl G M).set i (gB G + i, ent G M' i k) = wl G M' := by
  apply List.ext_getElem?
  intro j
  rw [List.getElem?_set]
  by_cases hj : i = j
  · subst hj
    have hl : i < (wl G M).length := by rw [wl_len]; exact (List.getElem?_eq_some_iff.mp h).1
    rw [if_pos rfl, if_pos hl, wl_get (by rw [hK]; exact h)]
  · rw [if_neg hj]
    simp only [wl, List.getElem?_mapIdx, hK]
    cases hx : (mK M)[j]? with
    | none => rfl
    | some x => simp only [Option.map_some]; rw [ho j x (fun e => hj e.symm) hx]
abbrev Res : Type := Option Value ⊕ String
/-- a method: name, code, locals, what it returns, its handlers -/
abbrev Jm : Type := MethodName × ByteArray × Nat × Option FieldType × List (Nat × Nat × Nat × Nat)
def cwd (J : Jm) : Cond := if J.2.2.2.2 = [] then .code J.1 J.2.1 J.2.2.1 J.2.2.2.1 else .codeWith J.1 J.2.1 J.2.2.1 J.2.2.2.1 J.2.2.2.2
abbrev Go_A (G : Gl) : Nat → Prop := fun q => gB G ≤ q
def strT : List (String × Nat × String × List Int32) := [
  ("BitDesk$Reader", 65, "size", [115, 105, 122, 101]),
  ("BitDesk$Reader", 84, "edge", [101, 100, 103, 101]),
  ("BitDesk$Reader", 89, "row", [114, 111, 119]),
  ("BitDesk$Reader", 94, "fill", [102, 105, 108, 108]),
  ("BitDesk$Reader", 122, "unit", [117, 110, 105, 116]),
  ("BitDesk$Reader", 124, "ones", [111, 110, 101, 115]),
  ("BitDesk$Reader", 129, "ring", [114, 105, 110, 103]),
  ("BitDesk$Reader", 131, "lower", [108, 111, 119, 101, 114]),
  ("BitDesk$Reader", 99, "keep", [107, 101, 101, 112]),
  ("BitDesk$Reader", 104, "block", [98, 108, 111, 99, 107]),
  ("BitDesk", 333, "out of range", [111, 117, 116, 32, 111, 102, 32, 114, 97, 110, 103, 101]),
  ("BitDesk", 321, "no such slot", [110, 111, 32, 115, 117, 99, 104, 32, 115, 108, 111, 116]),
  ("BitDesk", 326, "no such row, column or node", [110, 111, 32, 115, 117, 99, 104, 32, 114, 111, 119, 44, 32, 99, 111, 108, 117, 109, 110, 32, 111, 114, 32, 110, 111, 100, 101]),
  ("BitDeskLaw", 38, "size ", [115, 105, 122, 101, 32]),
  ("BitDeskLaw", 56, "; edge ", [59, 32, 101, 100, 103, 101, 32]),
  ("BitDeskLaw", 61, ";row ", [59, 114, 111, 119, 32]),
  ("BitDeskLaw", 64, "unit", [117, 110, 105, 116]),
  ("BitDeskLaw", 66, "ones", [111, 110, 101, 115]),
  ("BitDeskLaw", 68, "ring", [114, 105, 110, 103]),
  ("BitDeskLaw", 70, "lower", [108, 111, 119, 101, 114]),
  ("BitDeskLaw", 72, " ;fill ", [32, 59, 102, 105, 108, 108, 32]),
  ("BitDeskLaw", 78, ";keep ", [59, 107, 101, 101, 112, 32]),
  ("BitDeskLaw", 83, ";block ", [59, 98, 108, 111, 99, 107, 32])]
def nwF : List (String × Nat × String × String × String × String) := [
  ("BitDesk", 92, "BitDesk$Reader", "statement", "I", "BitDesk"),
  ("BitDesk", 76, "BitDesk$Reader", "error", "I", "BitDesk"),
  ("BitDesk", 80, "BitDesk$Reader", "errorPosition", "I", "BitDesk"),
  ("BitDesk$Reader", 108, "BitDesk$Matrix", "rows", "[I", "BitDesk"),
  ("BitDesk", 229, "BitDesk$Matrix", "rows", "[I", "BitDesk"),
  ("BitDesk$Reader", 115, "BitDesk$Matrix", "isKept", "Z", "BitDesk"),
  ("BitDesk", 288, "BitDesk$Matrix", "isKept", "Z", "BitDesk"),
  ("BitDesk", 295, "BitDesk$Matrix", "lookedLately", "I", "BitDesk"),
  ("BitDesk", 298, "BitDesk$Matrix", "lookedInAll", "I", "BitDesk"),
  ("BitDesk", 301, "BitDesk$Matrix", "timesMadeAnew", "I", "BitDesk"),
  ("BitDesk$Reader", 47, "BitDesk$State", "slots", "[LBitDesk$Matrix;", "BitDesk"),
  ("BitDesk", 225, "BitDesk$State", "slots", "[LBitDesk$Matrix;", "BitDesk"),
  ("BitDesk$Multiplier", 21, "BitDesk$State", "size", "I", "BitDesk"),
  ("BitDesk", 89, "BitDesk$State", "size", "I", "BitDesk"),
  ("BitDesk$Reader", 53, "BitDesk$State", "size", "I", "BitDesk"),
  ("BitDesk$Multiplier", 28, "BitDesk$State", "block", "I", "BitDesk"),
  ("BitDesk$Reader", 106, "BitDesk$State", "block", "I", "BitDesk"),
  ("BitDesk", 99, "BitDesk$State", "block", "I", "BitDesk"),
  ("BitDesk", 304, "BitDesk$State", "entriesMade", "I", "BitDesk"),
  ("BitDesk", 307, "BitDesk$State", "entriesTaken", "I", "BitDesk"),
  ("BitDesk", 166, "BitDesk$Closure", "reach", "[I", "BitDesk"),
  ("BitDesk", 341, "BitDesk$Closure", "isCurrent", "Z", "BitDesk"),
  ("BitDesk", 347, "BitDesk$Multiplier", "entriesMade", "I", "BitDesk"),
  ("BitDesk", 348, "BitDesk$Multiplier", "entriesTaken", "I", "BitDesk"),
  ("BitDesk", 273, "BitDesk$Elimination", "right", "[I", "BitDesk"),
  ("BitDesk", 207, "BitDesk$Elimination", "pivotCount", "I", "BitDesk")]
def nwM : List (String × Nat × MethodName × String) := [
  ("BitDesk$Reader", 126, ⟨"BitDesk", "lowest", "(I)I"⟩, "BitDesk"),
  ("BitDesk$Closure", 21, ⟨"BitDesk", "hasOne", "(II)Z"⟩, "BitDesk"),
  ("BitDesk$Closure", 29, ⟨"BitDesk", "columnOf", "([III)I"⟩, "BitDesk"),
  ("BitDesk$Closure", 46, ⟨"BitDesk", "reachedFrom", "([III)I"⟩, "BitDesk"),
  ("BitDesk$Multiplier", 67, ⟨"BitDesk", "lowest", "(I)I"⟩, "BitDesk"),
  ("BitDesk$Multiplier", 60, ⟨"BitDesk", "hasOne", "(II)Z"⟩, "BitDesk"),
  ("BitDesk$Elimination", 47, ⟨"BitDesk", "hasOne", "(II)Z"⟩, "BitDesk")]
def NWL : List Cond := (nwF.map fun q => Cond.fieldLinkNest q.1 q.2.1 q.2.2.1 q.2.2.2.1 q.2.2.2.2.1 q.2.2.2.2.2) ++ nwM.map fun q => Cond.methodLinkNest q.1 q.2.1 q.2.2.1 q.2.2.2
def xDcl : List MethodName := [Bundle.initS "java/lang/RuntimeException", Bundle.initS "java/lang/Exception", Bundle.initS Bundle.tN]
/-- an array class over another array class -/
def ACx (ty : FieldType) (cA cE : ClassId) (U : State) : Prop := ∃ kA : Class, U.vm.classes[cA]? = some kA ∧ kA.kind = .array cE (.array ty)
theorem ACx.moved {ty : FieldType} {cA cE : ClassId} {u U : State} (hvm : u.vm.Alike U.vm) (h : ACx ty cA cE u) : ACx ty cA cE U := by
  obtain ⟨kA, h1, h2⟩ := h
  obtain ⟨k, hk, he⟩ := hvm.2.2 _ _ h1
  exact ⟨k, hk, by rw [he]; exact h2⟩
/-- words of the tables that no reader of steady words carries -/
def CX1 : List Cond := [.castable "[Z" "java/lang/Cloneable", .castable "[I" "java/lang/Cloneable", .castable "[B" "java/lang/Cloneable", .castable "BitDeskLaw$Desk" "java/lang/Object"]
/-- AbstractStringBuilder's private methods on a StringBuilder -/
def CX2 : List Cond := [⟨"java/lang/AbstractStringBuilder", "ensureCapacityInternal", "(I)V"⟩, ⟨"java/lang/AbstractStringBuilder", "newCapacity", "(I)I"⟩, ⟨"java/lang/AbstractStringBuilder", "putStringAt", "(ILjava/lang/String;)V"⟩, ⟨"java/lang/AbstractStringBuilder", "inflateIfNeededFor", "(Ljava/lang/String;)V"⟩].map fun y => Cond.selects "java/lang/StringBuilder" y y
theorem cx2_ok : ∀ w ∈ CX2, w.onTables = true ∧ w.keeps = true := by decide +kernel
/-- what the law asks of the tables and of the JDK's statics besides: 1000 is ArrayList's empty array, 1001 the table of the last digits -/
def Cx9 (G : Gl) (s : State) : Prop :=
  ((∀ w ∈ CX1, va_Nw w s) ∧ ∀ w ∈ CX2, va_Nw w s) ∧ va_AO "BitDeskLaw$Desk" s ∧ va_AO "java/lang/String" s ∧ va_AO "java/lang/Object" s ∧ ACx .boolean (gA G (.array .boolean)) (gA G .boolean) s ∧ ACx (.array .boolean) (gA G (.array (.array .boolean))) (gA G (.array .boolean)) s ∧ ACx .int (gA G (.array .int)) (gA G .int) s ∧
  (va_Z "java/util/ArrayList" "DEFAULTCAPACITY_EMPTY_ELEMENTDATA" "[Ljava/lang/Object;" (.ref (gSK G 1000)) (Go_A G) s s.heap ∧ va_T (.object "java/lang/Object") (gSK G 1000) 0 (fun _ => .null) (Go_A G) s s.heap) ∧
  (va_Z "java/lang/Integer" "DigitOnes" "[B" (.ref (gSK G 1001)) (Go_A G) s s.heap ∧ va_T .byte (gSK G 1001) 100 (fun j => .int (nI (48 + j % 10))) (Go_A G) s s.heap)
theorem Cx9.warm {G : Gl} {s U : State} (hW : s.WarmedH U.vm) (hk : ∀ q : Nat, q < s.heap.size → ¬ Go_A G q → U.heap[q]? = s.heap[q]?) (h : Cx9 G s) : Cx9 G U := by
  obtain ⟨h1, h2, h3, h4, h5, h6, h7, ⟨h8, h9⟩, ⟨h10, h11⟩⟩ := h
  have hA := hW.alike
  refine ⟨⟨fun w hw => ?_, fun w hw => word_at hW (Or.inl (by rw [(cx2_ok w hw).1, (cx2_ok w hw).2]; rfl)) (h1.2 w hw)⟩, h2.moved hA, h3.moved hA, h4.moved hA, h5.moved hA, h6.moved hA, h7.moved hA, ⟨(h8.moved hA).kept hk, (h9.moved hA).kept hk⟩, ⟨(h10.moved hA).kept hk, (h11.moved hA).kept hk⟩⟩
  have h0 := h1.1 w hw
  simp only [CX1, List.mem_cons, List.not_mem_nil, or_false] at hw
  rcases hw with rfl | rfl | rfl | rfl <;> exact h0.warmC hW
def Ctx (l : Launch) (G : Gl) (s : State) : Prop :=
  (l.stackTraces = false ∧ Cx9 G s) ∧ va_K (gD G) vwCl (tyl G) s ∧ (∀ w ∈ NWL, va_Nw w s) ∧
  vx_Zq Bundle.tN "UNASSIGNED_STACK" Bundle.steD (Go_A G) s s.heap ∧ vx_Zq Bundle.tN "SUPPRESSED_SENTINEL" Bundle.listD (Go_A G) s s.heap ∧
  (∀ (k : Nat) (q : String × Nat × String × List Int32), strT[k]? = some q → vk_R q.1 q.2.1 q.2.2.1 (gSK G k) s ∧ vk_S 1 [q.2.2.2.length] [q.2.2.2] (fun _ => gSK G k) (fun _ => gSV G k) (Go_A G) s s.heap) ∧
  va_Z "java/lang/String" "COMPACT_STRINGS" "Z" (.int 1) (Go_A G) s s.heap ∧
  (va_Z "jdk/internal/util/Preconditions" "SIOOBE_FORMATTER" "Ljava/util/function/BiFunction;" (gFm G) (Go_A G) s s.heap ∧ (gFm G = .null ∨ ∃ a, gFm G = .ref a)) ∧
  va_X (gScr G) (gLen G) (gXs G) s s.heap ∧ gScr G < gB G ∧ gB G ≤ s.heap.size ∧ va_Nw (.castable "java/lang/IndexOutOfBoundsException" "java/lang/IndexOutOfBoundsException") s ∧ va_Nw (.castable "java/lang/IllegalArgumentException" "java/lang/IllegalArgumentException") s ∧ va_Nc "java/lang/IllegalArgumentException" "java/lang/IndexOutOfBoundsException" s ∧ va_AO "BitDesk$State" s ∧ va_AO "BitDesk$Matrix" s ∧ va_AO "BitDesk$Closure" s ∧ ∀ x ∈ xDcl, va_Nw (.declares x) s
theorem Ctx.warm {l : Launch} {G : Gl} {s U : State} (hW : s.WarmedH U.vm) (hz : s.heap.size ≤ U.heap.size) (hk : ∀ q : Nat, q < s.heap.size → ¬ Go_A G q → U.heap[q]? = s.heap[q]?) (h : Ctx l G s) : Ctx l G U := by
  obtain ⟨h1, h2, h3, h4, h5, h6, h7, ⟨h8, h8'⟩, h9, h10, h11, h12, h13, h14, h15, h16, h17, h18⟩ := h
  have hA := hW.alike
  refine ⟨⟨h1.1, h1.2.warm hW hk⟩, va_K.moved hA h2, fun w hw => ?_, (h4.moved hA).kept hk, (h5.moved hA).kept hk, fun k q hq => ⟨(h6 k q hq).1.warm hW, ((h6 k q hq).2.moved hA).kept hk⟩, (h7.moved hA).kept hk, ⟨(h8.moved hA).kept hk, h8'⟩, (h9.moved hA).kept (hk _ (by omega) (by show ¬ gB G ≤ gScr G; omega)), h10, Nat.le_trans h11 hz, h12.warmC hW, h13.warmC hW, h14.moved hA, h15.moved hA, h16.moved hA, h17.moved hA, fun x hx => (h18 x hx).warmD hW⟩
  have h0 := h3 w hw
  unfold NWL at hw
  rcases List.mem_append.mp hw with h | h
  · obtain ⟨q, -, rfl⟩ := List.mem_map.mp h
    exact h0.warmF hW
  · obtain ⟨q, -, rfl⟩ := List.mem_map.mp h
    exact h0.warmM hW
def QcOf (G : Gl) (Q : Res → Mem → Prop) : Array Value → State → Outcome → State → Prop := fun _ st o t => (∃ (v : Option Value) (M' : Mem), o = .returned (v.map (cv G)) ∧ Q (.inl v) M' ∧ Rel G M' t.heap) ∧ va_F (Go_A G) st t
def XCOf (G : Gl) (Q : Res → Mem → Prop) : String → State → State → Prop := fun E st t => (∃ M' : Mem, Q (.inr E) M' ∧ Rel G M' t.heap) ∧ va_F (Go_A G) st t
def Stn (l : Launch) (J : Jm) (p : Program) (m : MethodId) (args : Array Value) (s : State) (meth : Method) (c : Code) : Prop :=
  CallFix p m c J.2.1 J.2.2.1 s args WS J.1.cls ∧ meth.sig.returnType = J.2.2.2.1 ∧ meth.locks = false ∧ c.exceptionTable.toList = tableOf J.2.2.2.2 ∧ meth.name = J.1.name
abbrev cvp (G : Gl) : Nat × Value → Nat × Value := fun q => (q.1, cv G q.2)
/-- from here the method comes to an end that Q knows; k cells of n slots may still be made -/
def Go (l : Launch) (J : Jm) (F L MC MS : Nat) (Q : Res → Mem → Prop) (pc : Nat) (lv : List (Nat × Value)) (st : List Value) (k n : Nat) (M : Mem) : Prop :=
  ∀ (p : Program) (e : Env) (s : State) (m : MethodId) (args : Array Value) (below : List Frame) (meth : Method) (c : Code) (G : Gl) (H : Heap) (locs : List Loc) (cells slots : Nat) (ls : Array Slot),
    Stn l J p m args s meth c → Ctx l G s → Rel G M H → va_S (Go_A G) s.heap H locs → lv_has ls J.2.2.1 (lv.map (cvp G)) → cells + k ≤ MC → slots + n ≤ MS →
    W p l e ({ frames := F, cells := MC, slots := MS, locals := L } : Room) s m args below meth c H locs cells slots (vx_MQ below (QcOf G Q) (XCOf G Q) args s MC MS (Go_A G)) (F0 m pc ls (st.map (cv G)))
/-- a method's contract -/
def Ev (l : Launch) (J : Jm) (F L mc ms : Nat) (As : List Value) (M : Mem) (Q : Res → Mem → Prop) : Prop :=
  ∀ G : Gl, vx_Met l J.1 (cwd J :: WS) ({ frames := F, cells := mc, slots := ms, locals := L } : Room) (va_Pc (As.map (cv G)) (fun s => Ctx l G s ∧ Rel G M s.heap)) (QcOf G Q) (XCOf G Q) mc ms (Go_A G)
theorem cv_cat (G : Gl) (v : Value) : (cv G v).category = v.category := by
  cases v with
  | retAddr k =>
    rcases k with _ | _ | k
    · rfl
    · show (gFc (gFm G)).category = _
      cases gFm G <;> rfl
    · show (if k % 2 = 0 then Value.ref (gSK G (k / 2)) else Value.ref (gSV G (k / 2))).category = _
      split <;> rfl
  | _ => rfl
theorem cv_cats (G : Gl) (st : List Value) : ((st.map (cv G)).map fun v => v.category).sum = (st.map fun v => v.category).sum := by
  rw [List.map_map]
  congr 1
  apply List.map_congr_left
  intro v _
  exact cv_cat G v
theorem lv_args_cv (G : Gl) : ∀ (vs : List Value) (i : Nat), lv_args i (vs.map (cv G)) = (lv_args i vs).map (cvp G)
  | [], i => rfl
  | v :: vs, i => by
    show (i, cv G v) :: lv_args (if (cv G v).category = 2 then i + 2 else i + 1) (vs.map (cv G)) = _
    rw [cv_cat, lv_args_cv G vs]
    rfl
theorem lg_sl_cv (G : Gl) : ∀ (vs : List Value), (lg_sl (vs.map (cv G))).length = (lg_sl vs).length
  | [] => rfl
  | v :: vs => by
    have ih := lg_sl_cv G vs
    simp only [lg_sl, List.map_cons, List.flatMap_cons, List.length_append, cv_cat] at ih ⊢
    rw [ih]
    congr 1
    by_cases h : v.category = 2 <;> simp [h]
theorem nwF_apart : ∀ q ∈ nwF, q.1 ≠ q.2.2.1 := by decide +kernel
