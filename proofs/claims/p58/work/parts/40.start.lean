/-! the start: what the Statement gives, as Ctx has it -/
def fN : List Cond := flatC (Jvm.Cond.and given_1 narrow_1)
theorem fN_list {ws : List Cond} (ps : List Nat) (hp : ws = ps.filterMap (fun i => fN[i]?)) : ∀ w ∈ ws, w ∈ fN := by
  intro w hw
  rw [hp] at hw
  obtain ⟨i, -, hi⟩ := List.mem_filterMap.mp hw
  exact List.mem_of_getElem? hi
theorem tb_list {ws : List Cond} (ps : List Nat) (hp : ws = ps.filterMap (fun i => lw_tbl[i]?)) : ∀ w ∈ ws, w ∈ lw_tbl := by
  intro w hw
  rw [hp] at hw
  obtain ⟨i, -, hi⟩ := List.mem_filterMap.mp hw
  exact List.mem_of_getElem? hi
abbrev sTm (q : String × Nat × String × List Int32) : Term := .string q.1 q.2.1
abbrev sVl (q : String × Nat × String × List Int32) : Term := .field (sTm q) "java/lang/String" "value" "[B"
def sNd (q : String × Nat × String × List Int32) : List Cond := [.exactly (sTm q) "java/lang/String", .eq (.field (sTm q) "java/lang/String" "coder" "B") (.int 0), .arrayOf (sVl q) .byte, .eq (.length (sVl q)) (.int (Int32.ofNat q.2.2.2.length))] ++ (List.range q.2.2.2.length).map (fun j => .eq (.elem (sVl q) (.int (Int32.ofNat j))) (.int (q.2.2.2.getD j 0)))
set_option maxRecDepth 20000 in
theorem sN_0 : ∀ w ∈ sNd ("BitDesk$Reader", 65, "size", [115, 105, 122, 101]), w ∈ fN := fN_list [62, 63, 64, 65, 66, 67, 68, 69] (by decide +kernel)
theorem sR_0 : (Jvm.Cond.stringRef "BitDesk$Reader" (65 : Nat) "size") ∈ lw_tbl := List.mem_of_getElem? (i := 364) (by decide +kernel)
set_option maxRecDepth 20000 in
theorem sN_1 : ∀ w ∈ sNd ("BitDesk$Reader", 84, "edge", [101, 100, 103, 101]), w ∈ fN := fN_list [70, 71, 72, 73, 74, 75, 76, 77] (by decide +kernel)
theorem sR_1 : (Jvm.Cond.stringRef "BitDesk$Reader" (84 : Nat) "edge") ∈ lw_tbl := List.mem_of_getElem? (i := 452) (by decide +kernel)
set_option maxRecDepth 20000 in
theorem sN_2 : ∀ w ∈ sNd ("BitDesk$Reader", 89, "row", [114, 111, 119]), w ∈ fN := fN_list [79, 80, 81, 82, 83, 84, 85] (by decide +kernel)
theorem sR_2 : (Jvm.Cond.stringRef "BitDesk$Reader" (89 : Nat) "row") ∈ lw_tbl := List.mem_of_getElem? (i := 457) (by decide +kernel)
set_option maxRecDepth 20000 in
theorem sN_3 : ∀ w ∈ sNd ("BitDesk$Reader", 94, "fill", [102, 105, 108, 108]), w ∈ fN := fN_list [88, 89, 90, 91, 92, 93, 94, 95] (by decide +kernel)
theorem sR_3 : (Jvm.Cond.stringRef "BitDesk$Reader" (94 : Nat) "fill") ∈ lw_tbl := List.mem_of_getElem? (i := 466) (by decide +kernel)
set_option maxRecDepth 20000 in
theorem sN_4 : ∀ w ∈ sNd ("BitDesk$Reader", 122, "unit", [117, 110, 105, 116]), w ∈ fN := fN_list [99, 100, 101, 102, 103, 104, 105, 106] (by decide +kernel)
theorem sR_4 : (Jvm.Cond.stringRef "BitDesk$Reader" (122 : Nat) "unit") ∈ lw_tbl := List.mem_of_getElem? (i := 475) (by decide +kernel)
set_option maxRecDepth 20000 in
theorem sN_5 : ∀ w ∈ sNd ("BitDesk$Reader", 124, "ones", [111, 110, 101, 115]), w ∈ fN := fN_list [111, 112, 113, 114, 115, 116, 117, 118] (by decide +kernel)
theorem sR_5 : (Jvm.Cond.stringRef "BitDesk$Reader" (124 : Nat) "ones") ∈ lw_tbl := List.mem_of_getElem? (i := 476) (by decide +kernel)
set_option maxRecDepth 20000 in
theorem sN_6 : ∀ w ∈ sNd ("BitDesk$Reader", 129, "ring", [114, 105, 110, 103]), w ∈ fN := fN_list [124, 125, 126, 127, 128, 129, 130, 131] (by decide +kernel)
theorem sR_6 : (Jvm.Cond.stringRef "BitDesk$Reader" (129 : Nat) "ring") ∈ lw_tbl := List.mem_of_getElem? (i := 480) (by decide +kernel)
set_option maxRecDepth 20000 in
theorem sN_7 : ∀ w ∈ sNd ("BitDesk$Reader", 131, "lower", [108, 111, 119, 101, 114]), w ∈ fN := fN_list [138, 139, 140, 141, 142, 143, 144, 145, 146] (by decide +kernel)
theorem sR_7 : (Jvm.Cond.stringRef "BitDesk$Reader" (131 : Nat) "lower") ∈ lw_tbl := List.mem_of_getElem? (i := 481) (by decide +kernel)
set_option maxRecDepth 20000 in
theorem sN_8 : ∀ w ∈ sNd ("BitDesk$Reader", 99, "keep", [107, 101, 101, 112]), w ∈ fN := fN_list [154, 155, 156, 157, 158, 159, 160, 161] (by decide +kernel)
theorem sR_8 : (Jvm.Cond.stringRef "BitDesk$Reader" (99 : Nat) "keep") ∈ lw_tbl := List.mem_of_getElem? (i := 482) (by decide +kernel)
set_option maxRecDepth 20000 in
theorem sN_9 : ∀ w ∈ sNd ("BitDesk$Reader", 104, "block", [98, 108, 111, 99, 107]), w ∈ fN := fN_list [170, 171, 172, 173, 174, 175, 176, 177, 178] (by decide +kernel)
theorem sR_9 : (Jvm.Cond.stringRef "BitDesk$Reader" (104 : Nat) "block") ∈ lw_tbl := List.mem_of_getElem? (i := 487) (by decide +kernel)
set_option maxRecDepth 20000 in
theorem sN_10 : ∀ w ∈ sNd ("BitDesk", 333, "out of range", [111, 117, 116, 32, 111, 102, 32, 114, 97, 110, 103, 101]), w ∈ fN := fN_list [188, 189, 190, 191, 192, 193, 194, 195, 196, 197, 198, 199, 200, 201, 202, 203] (by decide +kernel)
theorem sR_10 : (Jvm.Cond.stringRef "BitDesk" (333 : Nat) "out of range") ∈ lw_tbl := List.mem_of_getElem? (i := 584) (by decide +kernel)
set_option maxRecDepth 20000 in
theorem sN_11 : ∀ w ∈ sNd ("BitDesk", 321, "no such slot", [110, 111, 32, 115, 117, 99, 104, 32, 115, 108, 111, 116]), w ∈ fN := fN_list [214, 215, 216, 217, 218, 219, 220, 221, 222, 223, 224, 225, 226, 227, 228, 229] (by decide +kernel)
theorem sR_11 : (Jvm.Cond.stringRef "BitDesk" (321 : Nat) "no such slot") ∈ lw_tbl := List.mem_of_getElem? (i := 643) (by decide +kernel)
set_option maxRecDepth 20000 in
theorem sN_12 : ∀ w ∈ sNd ("BitDesk", 326, "no such row, column or node", [110, 111, 32, 115, 117, 99, 104, 32, 114, 111, 119, 44, 32, 99, 111, 108, 117, 109, 110, 32, 111, 114, 32, 110, 111, 100, 101]), w ∈ fN := fN_list [241, 242, 243, 244, 245, 246, 247, 248, 249, 250, 251, 252, 253, 254, 255, 256, 257, 258, 259, 260, 261, 262, 263, 264, 265, 266, 267, 268, 269, 270, 271] (by decide +kernel)
theorem sR_12 : (Jvm.Cond.stringRef "BitDesk" (326 : Nat) "no such row, column or node") ∈ lw_tbl := List.mem_of_getElem? (i := 654) (by decide +kernel)
set_option maxRecDepth 20000 in
theorem sN_13 : ∀ w ∈ sNd ("BitDeskModel", 135, "size", [115, 105, 122, 101]), w ∈ fN := fN_list [284, 285, 286, 287, 288, 289, 290, 291] (by decide +kernel)
theorem sR_13 : (Jvm.Cond.stringRef "BitDeskModel" (135 : Nat) "size") ∈ lw_tbl := List.mem_of_getElem? (i := 1330) (by decide +kernel)
set_option maxRecDepth 20000 in
theorem sN_14 : ∀ w ∈ sNd ("BitDeskModel", 161, "edge", [101, 100, 103, 101]), w ∈ fN := fN_list [305, 306, 307, 308, 309, 310, 311, 312] (by decide +kernel)
theorem sR_14 : (Jvm.Cond.stringRef "BitDeskModel" (161 : Nat) "edge") ∈ lw_tbl := List.mem_of_getElem? (i := 1357) (by decide +kernel)
set_option maxRecDepth 20000 in
theorem sN_15 : ∀ w ∈ sNd ("BitDeskModel", 166, "row", [114, 111, 119]), w ∈ fN := fN_list [327, 328, 329, 330, 331, 332, 333] (by decide +kernel)
theorem sR_15 : (Jvm.Cond.stringRef "BitDeskModel" (166 : Nat) "row") ∈ lw_tbl := List.mem_of_getElem? (i := 1370) (by decide +kernel)
set_option maxRecDepth 20000 in
theorem sN_16 : ∀ w ∈ sNd ("BitDeskModel", 171, "fill", [102, 105, 108, 108]), w ∈ fN := fN_list [349, 350, 351, 352, 353, 354, 355, 356] (by decide +kernel)
theorem sR_16 : (Jvm.Cond.stringRef "BitDeskModel" (171 : Nat) "fill") ∈ lw_tbl := List.mem_of_getElem? (i := 1375) (by decide +kernel)
set_option maxRecDepth 20000 in
theorem sN_17 : ∀ w ∈ sNd ("BitDeskModel", 146, "unit", [117, 110, 105, 116]), w ∈ fN := fN_list [373, 374, 375, 376, 377, 378, 379, 380] (by decide +kernel)
theorem sR_17 : (Jvm.Cond.stringRef "BitDeskModel" (146 : Nat) "unit") ∈ lw_tbl := List.mem_of_getElem? (i := 1384) (by decide +kernel)
set_option maxRecDepth 20000 in
theorem sN_18 : ∀ w ∈ sNd ("BitDeskModel", 148, "ones", [111, 110, 101, 115]), w ∈ fN := fN_list [398, 399, 400, 401, 402, 403, 404, 405] (by decide +kernel)
theorem sR_18 : (Jvm.Cond.stringRef "BitDeskModel" (148 : Nat) "ones") ∈ lw_tbl := List.mem_of_getElem? (i := 1385) (by decide +kernel)
set_option maxRecDepth 20000 in
theorem sN_19 : ∀ w ∈ sNd ("BitDeskModel", 150, "ring", [114, 105, 110, 103]), w ∈ fN := fN_list [424, 425, 426, 427, 428, 429, 430, 431] (by decide +kernel)
theorem sR_19 : (Jvm.Cond.stringRef "BitDeskModel" (150 : Nat) "ring") ∈ lw_tbl := List.mem_of_getElem? (i := 1386) (by decide +kernel)
set_option maxRecDepth 20000 in
theorem sN_20 : ∀ w ∈ sNd ("BitDeskModel", 152, "lower", [108, 111, 119, 101, 114]), w ∈ fN := fN_list [451, 452, 453, 454, 455, 456, 457, 458, 459] (by decide +kernel)
theorem sR_20 : (Jvm.Cond.stringRef "BitDeskModel" (152 : Nat) "lower") ∈ lw_tbl := List.mem_of_getElem? (i := 1387) (by decide +kernel)
set_option maxRecDepth 20000 in
theorem sN_21 : ∀ w ∈ sNd ("BitDeskModel", 176, "keep", [107, 101, 101, 112]), w ∈ fN := fN_list [480, 481, 482, 483, 484, 485, 486, 487] (by decide +kernel)
theorem sR_21 : (Jvm.Cond.stringRef "BitDeskModel" (176 : Nat) "keep") ∈ lw_tbl := List.mem_of_getElem? (i := 1391) (by decide +kernel)
set_option maxRecDepth 20000 in
theorem sN_22 : ∀ w ∈ sNd ("BitDeskModel", 181, "block", [98, 108, 111, 99, 107]), w ∈ fN := fN_list [509, 510, 511, 512, 513, 514, 515, 516, 517] (by decide +kernel)
theorem sR_22 : (Jvm.Cond.stringRef "BitDeskModel" (181 : Nat) "block") ∈ lw_tbl := List.mem_of_getElem? (i := 1396) (by decide +kernel)
theorem sAll : ∀ (k : Nat) (q : String × Nat × String × List Int32), strT[k]? = some q → (∀ w ∈ sNd q, w ∈ fN) ∧ Cond.stringRef q.1 q.2.1 q.2.2.1 ∈ lw_tbl := by
  intro k q hq
  match k, hq with
  | 0, hq => exact (Option.some.inj (hq : some _ = some q)) ▸ ⟨sN_0, sR_0⟩
  | 1, hq => exact (Option.some.inj (hq : some _ = some q)) ▸ ⟨sN_1, sR_1⟩
  | 2, hq => exact (Option.some.inj (hq : some _ = some q)) ▸ ⟨sN_2, sR_2⟩
  | 3, hq => exact (Option.some.inj (hq : some _ = some q)) ▸ ⟨sN_3, sR_3⟩
  | 4, hq => exact (Option.some.inj (hq : some _ = some q)) ▸ ⟨sN_4, sR_4⟩
  | 5, hq => exact (Option.some.inj (hq : some _ = some q)) ▸ ⟨sN_5, sR_5⟩
  | 6, hq => exact (Option.some.inj (hq : some _ = some q)) ▸ ⟨sN_6, sR_6⟩
  | 7, hq => exact (Option.some.inj (hq : some _ = some q)) ▸ ⟨sN_7, sR_7⟩
  | 8, hq => exact (Option.some.inj (hq : some _ = some q)) ▸ ⟨sN_8, sR_8⟩
  | 9, hq => exact (Option.some.inj (hq : some _ = some q)) ▸ ⟨sN_9, sR_9⟩
  | 10, hq => exact (Option.some.inj (hq : some _ = some q)) ▸ ⟨sN_10, sR_10⟩
  | 11, hq => exact (Option.some.inj (hq : some _ = some q)) ▸ ⟨sN_11, sR_11⟩
  | 12, hq => exact (Option.some.inj (hq : some _ = some q)) ▸ ⟨sN_12, sR_12⟩
  | 13, hq => exact (Option.some.inj (hq : some _ = some q)) ▸ ⟨sN_13, sR_13⟩
  | 14, hq => exact (Option.some.inj (hq : some _ = some q)) ▸ ⟨sN_14, sR_14⟩
  | 15, hq => exact (Option.some.inj (hq : some _ = some q)) ▸ ⟨sN_15, sR_15⟩
  | 16, hq => exact (Option.some.inj (hq : some _ = some q)) ▸ ⟨sN_16, sR_16⟩
  | 17, hq => exact (Option.some.inj (hq : some _ = some q)) ▸ ⟨sN_17, sR_17⟩
  | 18, hq => exact (Option.some.inj (hq : some _ = some q)) ▸ ⟨sN_18, sR_18⟩
  | 19, hq => exact (Option.some.inj (hq : some _ = some q)) ▸ ⟨sN_19, sR_19⟩
  | 20, hq => exact (Option.some.inj (hq : some _ = some q)) ▸ ⟨sN_20, sR_20⟩
  | 21, hq => exact (Option.some.inj (hq : some _ = some q)) ▸ ⟨sN_21, sR_21⟩
  | 22, hq => exact (Option.some.inj (hq : some _ = some q)) ▸ ⟨sN_22, sR_22⟩
  | k + 23, hq => simp [strT] at hq
theorem vk_S1 {len : List Nat} {byt : List (List Int32)} {adK adV : Nat → Nat} {A : Nat → Prop} {U : State} {H : Heap} (h : vk_S 1 len byt adK adV A U H) : vk_S 1 len byt (fun _ => adK 0) (fun _ => adV 0) A U H :=
  ⟨fun i hi => by
    have e : i = 0 := by omega
    subst e
    exact h.1 0 hi, fun i j hi hj _ => by omega⟩
theorem cx_str {s : State} {a : Array Value} (hts : ∀ w ∈ lw_tbl, w.before a s = true) (hs : ∀ w ∈ fN, w.before a s = true) (A : Nat → Prop) (hA : ∀ a : Nat, a < s.heap.size → ¬ A a) (k : Nat) : ∃ p : Nat × Nat, ∀ q, strT[k]? = some q → vk_R q.1 q.2.1 q.2.2.1 p.1 s ∧ vk_S 1 [q.2.2.2.length] [q.2.2.2] (fun _ => p.1) (fun _ => p.2) A s s.heap := by
  cases hq : strT[k]? with
  | none => exact ⟨(0, 0), fun q h => by cases h⟩
  | some q =>
    obtain ⟨h1, h2⟩ := sAll k q hq
    have g0 := hs _ (h1 _ (List.mem_append_left _ (List.mem_of_getElem? (i := 0) rfl)))
    have g1 := hs _ (h1 _ (List.mem_append_left _ (List.mem_of_getElem? (i := 1) rfl)))
    have g2 := hs _ (h1 _ (List.mem_append_left _ (List.mem_of_getElem? (i := 2) rfl)))
    have g3 := hs _ (h1 _ (List.mem_append_left _ (List.mem_of_getElem? (i := 3) rfl)))
    have g4 : ∀ j, j < q.2.2.2.length → (Cond.eq (.elem (sVl q) (.int (Int32.ofNat j))) (.int (q.2.2.2.getD j 0))).before a s = true := fun j hj => hs _ (h1 _ (List.mem_append_right _ (List.mem_map.mpr ⟨j, List.mem_range.mpr hj, rfl⟩)))
    have hn : q.2.2.2.length < 2 ^ 31 := by
      have : ∀ x ∈ strT, x.2.2.2.length < 100 := by decide +kernel
      have := this q (List.mem_of_getElem? hq)
      omega
    obtain ⟨adK, adV, w1, w2⟩ := vk_Sof (args := a) (s := s) (N := 1) (tm := fun _ => sTm q) (len := [q.2.2.2.length]) (byt := [q.2.2.2]) (A := A)
      (fun i hi => by have e : i = 0 := by omega
                      subst e; exact hn)
      (fun i hi => g0) (fun i hi => g1) (fun i hi => g2)
      (fun i hi => by have e : i = 0 := by omega
                      subst e; exact g3)
      (fun i hi j hj => by have e : i = 0 := by omega
                           subst e; exact g4 j hj)
      (fun i j hi hj hij => by omega) hA
    refine ⟨(adK 0, adV 0), fun q' hq' => ?_⟩
    cases hq'
    exact ⟨vk_R.of (hts _ h2) (w2 0 (by decide)), vk_S1 w1⟩
set_option maxRecDepth 20000 in
theorem nwl_tb : ∀ w ∈ NWL, w ∈ lw_tbl := tb_list [134, 136, 138, 169, 170, 172, 173, 175, 177, 179, 192, 193, 195, 196, 197, 199, 200, 201, 203, 205, 226, 228, 248, 250, 276, 279, 477, 791, 825, 826, 917, 965, 1098, 1116] (by decide +kernel)
theorem cx_nwl {s : State} {a : Array Value} (hts : ∀ w ∈ lw_tbl, w.before a s = true) : ∀ w ∈ NWL, va_Nw w s := fun w hw => by
  have h0 := hts w (nwl_tb w hw)
  unfold NWL at hw
  rcases List.mem_append.mp hw with h | h
  · obtain ⟨q, -, rfl⟩ := List.mem_map.mp h
    exact va_Nw.of rfl h0
  · obtain ⟨q, -, rfl⟩ := List.mem_map.mp h
    exact va_Nw.of rfl h0
set_option maxRecDepth 20000 in
theorem dcl_tb : ∀ w ∈ xDcl.map Cond.declares, w ∈ lw_tbl := tb_list [548, 550, 552] (by decide +kernel)
theorem cx_prim {s : State} {a : Array Value} {ty : FieldType} (h : (Cond.arrayClass ty).before a s = true) (hp : ∀ cA, s.vm.findClass ("[" ++ ty.toString) = some cA → va_RA s cA ty) : ∃ cA, ArrOfT s cA ty ∧ va_RA s cA ty := by
  obtain ⟨c, k, comp, h1, h2, h3⟩ := Cond.arrayClass_spec h
  exact ⟨c, fun n z => ⟨fun k h => (by cases h), k, h2, comp, h3⟩, hp c h1⟩
theorem cx_obj {s : State} {a : Array Value} {C : String} (h : (Cond.arrayOver (.object C)).before a s = true) : ∃ cA, ArrOfT s cA (.object C) ∧ va_RA s cA (.object C) := by
  obtain ⟨comp, c, k, h1, -, h2, h3, h4⟩ := Cond.arrayOver_spec h
  exact ⟨c, fun n z => ⟨fun k h => (by cases h), k, h2, comp, h3⟩, k, comp, h2, h3, h1, h4⟩
theorem cx_arr {s : State} {a : Array Value} (hts : ∀ w ∈ lw_tbl, w.before a s = true) : ∃ gA : FieldType → ClassId, (ArrOfT s (gA .int) .int ∧ va_RA s (gA .int) .int) ∧ (ArrOfT s (gA .long) .long ∧ va_RA s (gA .long) .long) ∧ (ArrOfT s (gA .byte) .byte ∧ va_RA s (gA .byte) .byte) ∧ (ArrOfT s (gA .boolean) .boolean ∧ va_RA s (gA .boolean) .boolean) ∧ (ArrOfT s (gA .double) .double ∧ va_RA s (gA .double) .double) ∧ (ArrOfT s (gA (.object kSt)) (.object kSt) ∧ va_RA s (gA (.object kSt)) (.object kSt)) ∧ (ArrOfT s (gA (.object kMx)) (.object kMx) ∧ va_RA s (gA (.object kMx)) (.object kMx)) ∧ (ArrOfT s (gA (.object kCl)) (.object kCl) ∧ va_RA s (gA (.object kCl)) (.object kCl)) := by
  obtain ⟨a0, b0⟩ := cx_prim (ty := .int) (hts _ (List.mem_of_getElem? (i := 154) (by decide +kernel))) (fun _ h => h)
  obtain ⟨a1, b1⟩ := cx_prim (ty := .long) (hts _ (List.mem_of_getElem? (i := 1292) (by decide +kernel))) (fun _ h => h)
  obtain ⟨a2, b2⟩ := cx_prim (ty := .byte) (hts _ (List.mem_of_getElem? (i := 515) (by decide +kernel))) (fun _ h => h)
  obtain ⟨a3, b3⟩ := cx_prim (ty := .boolean) (hts _ (List.mem_of_getElem? (i := 234) (by decide +kernel))) (fun _ h => h)
  obtain ⟨a4, b4⟩ := cx_prim (ty := .double) (hts _ (List.mem_of_getElem? (i := 1784) (by decide +kernel))) (fun _ h => h)
  obtain ⟨a5, b5⟩ := cx_obj (C := kSt) (hts _ (List.mem_of_getElem? (i := 217) (by decide +kernel)))
  obtain ⟨a6, b6⟩ := cx_obj (C := kMx) (hts _ (List.mem_of_getElem? (i := 162) (by decide +kernel)))
  obtain ⟨a7, b7⟩ := cx_obj (C := kCl) (hts _ (List.mem_of_getElem? (i := 219) (by decide +kernel)))
  refine ⟨fun t => match t with
    | .int => a0
    | .long => a1
    | .byte => a2
    | .boolean => a3
    | .double => a4
    | .object C => if C = kSt then a5 else if C = kMx then a6 else a7
    | _ => 0, b0, b1, b2, b3, b4, ?_, ?_, ?_⟩
  · dsimp only; rw [if_pos rfl]; exact b5
  · dsimp only; rw [if_neg (by decide), if_pos rfl]; exact b6
  · dsimp only; rw [if_neg (by decide), if_neg (by decide)]; exact b7
theorem cx_cls {s : State} {a : Array Value} (hts : ∀ w ∈ lw_tbl, w.before a s = true) : ∃ D : va_G, ∀ (c : Nat) (q : vw_C), vwCl[c]? = some q → u_Kn s q.1 q.2.1 q.2.2 (D.1 c) (D.2 c) := by
  obtain ⟨c0, i0, k0⟩ := u_known (C := RX0) (T := TX0) (N := 2) (n := 2) hts (fun w hw => (List.mem_filter.mp (inW0 w hw)).1) (hts _ (List.mem_of_getElem? (i := 220) (by decide +kernel)))
  obtain ⟨c1, i1, k1⟩ := u_known (C := RX1) (T := TX1) (N := 4) (n := 4) hts (fun w hw => (List.mem_filter.mp (inW1 w hw)).1) (hts _ (List.mem_of_getElem? (i := 269) (by decide +kernel)))
  obtain ⟨c2, i2, k2⟩ := u_known (C := RX2) (T := TX2) (N := 5) (n := 5) hts (fun w hw => (List.mem_filter.mp (inW2 w hw)).1) (hts _ (List.mem_of_getElem? (i := 163) (by decide +kernel)))
  obtain ⟨c3, i3, k3⟩ := u_known (C := RX3) (T := TX3) (N := 8) (n := 8) hts (fun w hw => (List.mem_filter.mp (inW3 w hw)).1) (hts _ (List.mem_of_getElem? (i := 236) (by decide +kernel)))
  obtain ⟨c4, i4, k4⟩ := u_known (C := RX4) (T := TX4) (N := 7) (n := 7) hts (fun w hw => (List.mem_filter.mp (inW4 w hw)).1) (hts _ (List.mem_of_getElem? (i := 124) (by decide +kernel)))
  obtain ⟨c5, i5, k5⟩ := u_known (C := RX5) (T := TX5) (N := 5) (n := 5) hts (fun w hw => (List.mem_filter.mp (inW5 w hw)).1) (hts _ (List.mem_of_getElem? (i := 156) (by decide +kernel)))
  obtain ⟨c6, i6, k6⟩ := u_known (C := RX6) (T := TX6) (N := 15) (n := 15) hts (fun w hw => (List.mem_filter.mp (inW6 w hw)).1) (hts _ (List.mem_of_getElem? (i := 116) (by decide +kernel)))
  obtain ⟨c7, i7, k7⟩ := u_known (C := RX7) (T := TX7) (N := 25) (n := 25) hts (fun w hw => (List.mem_filter.mp (inW7 w hw)).1) (hts _ (List.mem_of_getElem? (i := 1207) (by decide +kernel)))
  refine ⟨(fun k => [c0, c1, c2, c3, c4, c5, c6, c7].getD k 0, fun k => [i0, i1, i2, i3, i4, i5, i6, i7].getD k (fun _ => 0)), ?_⟩
  intro c q hq
  match c, hq with
  | 0, hq => exact (Option.some.inj (hq : some _ = some q)) ▸ k0
  | 1, hq => exact (Option.some.inj (hq : some _ = some q)) ▸ k1
  | 2, hq => exact (Option.some.inj (hq : some _ = some q)) ▸ k2
  | 3, hq => exact (Option.some.inj (hq : some _ = some q)) ▸ k3
  | 4, hq => exact (Option.some.inj (hq : some _ = some q)) ▸ k4
  | 5, hq => exact (Option.some.inj (hq : some _ = some q)) ▸ k5
  | 6, hq => exact (Option.some.inj (hq : some _ = some q)) ▸ k6
  | 7, hq => exact (Option.some.inj (hq : some _ = some q)) ▸ k7
  | k + 8, hq => simp at hq
theorem ctx_start {l : Launch} {s : State} {b L : Nat} {xs : Nat → Int32} (hfl : l.flags = flags0) (hts : ∀ w ∈ lw_tbl, w.before #[Value.ref b] s = true) (hX : va_X b L xs s s.heap) (hbl : b < s.heap.size) (hgv : (Jvm.Cond.and given_1 narrow_1).before #[Value.ref b] s = true) : ∃ G : Gl, Ctx l G s ∧ gB G = s.heap.size ∧ gScr G = b ∧ gLen G = L ∧ gXs G = xs := by
  have hs : ∀ w ∈ fN, w.before #[Value.ref b] s = true := flat_of_before _ hgv
  have hA : ∀ a : Nat, a < s.heap.size → ¬ (fun q => s.heap.size ≤ q) a := fun a h => Nat.not_le.mpr h
  obtain ⟨gA, x0, x1, x2, x3, x4, x5, x6, x7⟩ := cx_arr hts
  obtain ⟨D, hD⟩ := cx_cls hts
  obtain ⟨f, hf⟩ := Classical.axiomOfChoice (cx_str hts hs (fun q => s.heap.size ≤ q) hA)
  have z1 := vx_Zqof (C := "java/lang/Throwable") (n := "UNASSIGNED_STACK") (d := "[Ljava/lang/StackTraceElement;") (args := #[Value.ref b]) (A := fun q => s.heap.size ≤ q) (hts _ (List.mem_of_getElem? (i := 571) (by decide +kernel))) (hts _ (List.mem_of_getElem? (i := 109) (by decide +kernel))) (hs _ (List.mem_of_getElem? (i := 9) (by decide +kernel))) hA
  have z2 := vx_Zqof (C := "java/lang/Throwable") (n := "SUPPRESSED_SENTINEL") (d := "Ljava/util/List;") (args := #[Value.ref b]) (A := fun q => s.heap.size ≤ q) (hts _ (List.mem_of_getElem? (i := 573) (by decide +kernel))) (hts _ (List.mem_of_getElem? (i := 109) (by decide +kernel))) (hs _ (List.mem_of_getElem? (i := 10) (by decide +kernel))) hA
  have z3 := va_Zof (C := "java/lang/String") (n := "COMPACT_STRINGS") (d := "Z") (args := #[Value.ref b]) (A := fun q => s.heap.size ≤ q) (hts _ (List.mem_of_getElem? (i := 378) (by decide +kernel))) (hts _ (List.mem_of_getElem? (i := 103) (by decide +kernel))) (va_eqi (z := 1) (hs _ (List.mem_of_getElem? (i := 4) (by decide +kernel)))) hA
  have z4 := va_Zqof (C := "jdk/internal/util/Preconditions") (n := "SIOOBE_FORMATTER") (d := "Ljava/util/function/BiFunction;") (args := #[Value.ref b]) (A := fun q => s.heap.size ≤ q) (hts _ (List.mem_of_getElem? (i := 394) (by decide +kernel))) (hts _ (List.mem_of_getElem? (i := 105) (by decide +kernel))) (hs _ (List.mem_of_getElem? (i := 5) (by decide +kernel))) hA
  obtain ⟨fm, z5⟩ : ∃ fm : Value, va_Z "jdk/internal/util/Preconditions" "SIOOBE_FORMATTER" "Ljava/util/function/BiFunction;" fm (fun q => s.heap.size ≤ q) s s.heap ∧ (fm = .null ∨ ∃ a, fm = .ref a) := by
    rcases z4 with h | ⟨t, h⟩
    · exact ⟨_, h, Or.inl rfl⟩
    · exact ⟨_, h, Or.inr ⟨t, rfl⟩⟩
  refine ⟨(s.heap.size, b, L, xs, fun k => (f k).1, fun k => (f k).2, gA, D, fm), ⟨?_, ⟨hD, ?_⟩, cx_nwl hts, z1, z2, fun k q hq => hf k q hq, z3, z5, hX, hbl, Nat.le_refl _, ?_, ?_, ?_, ?_, ?_, ?_, ?_⟩, rfl, rfl, rfl, rfl⟩
  · unfold Launch.stackTraces; rw [hfl]; decide
  · intro k q hq
    match k, hq with
    | 0, hq => exact (Option.some.inj (hq : some _ = some q)) ▸ x0
    | 1, hq => exact (Option.some.inj (hq : some _ = some q)) ▸ x1
    | 2, hq => exact (Option.some.inj (hq : some _ = some q)) ▸ x2
    | 3, hq => exact (Option.some.inj (hq : some _ = some q)) ▸ x3
    | 4, hq => exact (Option.some.inj (hq : some _ = some q)) ▸ x4
    | 5, hq => exact (Option.some.inj (hq : some _ = some q)) ▸ x5
    | 6, hq => exact (Option.some.inj (hq : some _ = some q)) ▸ x6
    | 7, hq => exact (Option.some.inj (hq : some _ = some q)) ▸ x7
    | k + 8, hq => simp [tyl] at hq
  · exact va_Nw.of rfl (hts _ (List.mem_of_getElem? (i := 636) (by decide +kernel)))
  · exact va_Nw.of rfl (hts _ (List.mem_of_getElem? (i := 546) (by decide +kernel)))
  · exact va_Nc.of (hs _ (List.mem_of_getElem? (i := 28) (by decide +kernel)))
  · exact va_AO.of (hts _ (List.mem_of_getElem? (i := 217) (by decide +kernel)))
  · exact va_AO.of (hts _ (List.mem_of_getElem? (i := 162) (by decide +kernel)))
  · exact va_AO.of (hts _ (List.mem_of_getElem? (i := 219) (by decide +kernel)))
  · exact fun x hx => va_Nw.of rfl (hts _ (dcl_tb _ (List.mem_map.mpr ⟨x, hx, rfl⟩)))
