/-! the start: what the Statement gives, as Ctx has it -/
def fN : List Cond := flatC (Jvm.Cond.and given_1 narrow_1)
theorem fN_list {ws : List Cond} (ps : List Nat) (hp : ws = ps.filterMap (fun i => fN[i]?)) : ∀ w ∈ ws, w ∈ fN := by
  intro w hw
  rw [hp] at hw
  obtain ⟨i, -, hi⟩ := List.mem_filterMap.mp hw
  exact List.mem_of_getElem? hi
theorem tb_list {ws : List Cond} (ps : List Nat) (hp : ws = ps.filterMap (fun i => lw_tbl[i]?)) : ∀ w ∈ ws, w ∈ lw_tbl := by
  intro w hw
  rw [hp] at hw
  obtain ⟨i, -, hi⟩ := List.mem_filterMap.mp hw
  exact List.mem_of_getElem? hi
abbrev sTm (q : String × Nat × String × List Int32) : Term := .string q.1 q.2.1
abbrev sVl (q : String × Nat × String × List Int32) : Term := .field (sTm q) "java/lang/String" "value" "[B"
def sNd (q : String × Nat × String × List Int32) : List Cond := [.exactly (sTm q) "java/lang/String", .eq (.field (sTm q) "java/lang/String" "coder" "B") (.int 0), .arrayOf (sVl q) .byte, .eq (.length (sVl q)) (.int (Int32.ofNat q.2.2.2.length))] ++ (List.range q.2.2.2.length).map (fun j => .eq (.elem (sVl q) (.int (Int32.ofNat j))) (.int (q.2.2.2.getD j 0)))
set_option maxRecDepth 20000 in
theorem sN_0 : ∀ w ∈ sNd ("BitDesk$Reader", 65, "size", [115, 105, 122, 101]), w ∈ fN := fN_list [314, 315, 316, 317, 318, 319, 320, 321] (by decide +kernel)
theorem sR_0 : (Jvm.Cond.stringRef "BitDesk$Reader" (65 : Nat) "size") ∈ lw_tbl := List.mem_of_getElem? (i := 524) (by decide +kernel)
set_option maxRecDepth 20000 in
theorem sN_1 : ∀ w ∈ sNd ("BitDesk$Reader", 84, "edge", [101, 100, 103, 101]), w ∈ fN := fN_list [323, 324, 325, 326, 327, 328, 329, 330] (by decide +kernel)
theorem sR_1 : (Jvm.Cond.stringRef "BitDesk$Reader" (84 : Nat) "edge") ∈ lw_tbl := List.mem_of_getElem? (i := 566) (by decide +kernel)
set_option maxRecDepth 20000 in
theorem sN_2 : ∀ w ∈ sNd ("BitDesk$Reader", 89, "row", [114, 111, 119]), w ∈ fN := fN_list [333, 334, 335, 336, 337, 338, 339] (by decide +kernel)
theorem sR_2 : (Jvm.Cond.stringRef "BitDesk$Reader" (89 : Nat) "row") ∈ lw_tbl := List.mem_of_getElem? (i := 571) (by decide +kernel)
set_option maxRecDepth 20000 in
theorem sN_3 : ∀ w ∈ sNd ("BitDesk$Reader", 94, "fill", [102, 105, 108, 108]), w ∈ fN := fN_list [343, 344, 345, 346, 347, 348, 349, 350] (by decide +kernel)
theorem sR_3 : (Jvm.Cond.stringRef "BitDesk$Reader" (94 : Nat) "fill") ∈ lw_tbl := List.mem_of_getElem? (i := 580) (by decide +kernel)
set_option maxRecDepth 20000 in
theorem sN_4 : ∀ w ∈ sNd ("BitDesk$Reader", 122, "unit", [117, 110, 105, 116]), w ∈ fN := fN_list [355, 356, 357, 358, 359, 360, 361, 362] (by decide +kernel)
theorem sR_4 : (Jvm.Cond.stringRef "BitDesk$Reader" (122 : Nat) "unit") ∈ lw_tbl := List.mem_of_getElem? (i := 589) (by decide +kernel)
set_option maxRecDepth 20000 in
theorem sN_5 : ∀ w ∈ sNd ("BitDesk$Reader", 124, "ones", [111, 110, 101, 115]), w ∈ fN := fN_list [368, 369, 370, 371, 372, 373, 374, 375] (by decide +kernel)
theorem sR_5 : (Jvm.Cond.stringRef "BitDesk$Reader" (124 : Nat) "ones") ∈ lw_tbl := List.mem_of_getElem? (i := 590) (by decide +kernel)
set_option maxRecDepth 20000 in
theorem sN_6 : ∀ w ∈ sNd ("BitDesk$Reader", 129, "ring", [114, 105, 110, 103]), w ∈ fN := fN_list [382, 383, 384, 385, 386, 387, 388, 389] (by decide +kernel)
theorem sR_6 : (Jvm.Cond.stringRef "BitDesk$Reader" (129 : Nat) "ring") ∈ lw_tbl := List.mem_of_getElem? (i := 594) (by decide +kernel)
set_option maxRecDepth 20000 in
theorem sN_7 : ∀ w ∈ sNd ("BitDesk$Reader", 131, "lower", [108, 111, 119, 101, 114]), w ∈ fN := fN_list [397, 398, 399, 400, 401, 402, 403, 404, 405] (by decide +kernel)
theorem sR_7 : (Jvm.Cond.stringRef "BitDesk$Reader" (131 : Nat) "lower") ∈ lw_tbl := List.mem_of_getElem? (i := 595) (by decide +kernel)
set_option maxRecDepth 20000 in
theorem sN_8 : ∀ w ∈ sNd ("BitDesk$Reader", 99, "keep", [107, 101, 101, 112]), w ∈ fN := fN_list [414, 415, 416, 417, 418, 419, 420, 421] (by decide +kernel)
theorem sR_8 : (Jvm.Cond.stringRef "BitDesk$Reader" (99 : Nat) "keep") ∈ lw_tbl := List.mem_of_getElem? (i := 596) (by decide +kernel)
set_option maxRecDepth 20000 in
theorem sN_9 : ∀ w ∈ sNd ("BitDesk$Reader", 104, "block", [98, 108, 111, 99, 107]), w ∈ fN := fN_list [431, 432, 433, 434, 435, 436, 437, 438, 439] (by decide +kernel)
theorem sR_9 : (Jvm.Cond.stringRef "BitDesk$Reader" (104 : Nat) "block") ∈ lw_tbl := List.mem_of_getElem? (i := 601) (by decide +kernel)
set_option maxRecDepth 20000 in
theorem sN_10 : ∀ w ∈ sNd ("BitDesk", 333, "out of range", [111, 117, 116, 32, 111, 102, 32, 114, 97, 110, 103, 101]), w ∈ fN := fN_list [298, 299, 300, 301, 302, 303, 304, 305, 306, 307, 308, 309, 310, 311, 312, 313] (by decide +kernel)
theorem sR_10 : (Jvm.Cond.stringRef "BitDesk" (333 : Nat) "out of range") ∈ lw_tbl := List.mem_of_getElem? (i := 369) (by decide +kernel)
set_option maxRecDepth 20000 in
theorem sN_11 : ∀ w ∈ sNd ("BitDesk", 321, "no such slot", [110, 111, 32, 115, 117, 99, 104, 32, 115, 108, 111, 116]), w ∈ fN := fN_list [699, 700, 701, 702, 703, 704, 705, 706, 707, 708, 709, 710, 711, 712, 713, 714] (by decide +kernel)
theorem sR_11 : (Jvm.Cond.stringRef "BitDesk" (321 : Nat) "no such slot") ∈ lw_tbl := List.mem_of_getElem? (i := 798) (by decide +kernel)
set_option maxRecDepth 20000 in
theorem sN_12 : ∀ w ∈ sNd ("BitDesk", 326, "no such row, column or node", [110, 111, 32, 115, 117, 99, 104, 32, 114, 111, 119, 44, 32, 99, 111, 108, 117, 109, 110, 32, 111, 114, 32, 110, 111, 100, 101]), w ∈ fN := fN_list [736, 737, 738, 739, 740, 741, 742, 743, 744, 745, 746, 747, 748, 749, 750, 751, 752, 753, 754, 755, 756, 757, 758, 759, 760, 761, 762, 763, 764, 765, 766] (by decide +kernel)
theorem sR_12 : (Jvm.Cond.stringRef "BitDesk" (326 : Nat) "no such row, column or node") ∈ lw_tbl := List.mem_of_getElem? (i := 817) (by decide +kernel)
set_option maxRecDepth 20000 in
theorem sN_13 : ∀ w ∈ sNd ("BitDeskLaw", 38, "size ", [115, 105, 122, 101, 32]), w ∈ fN := fN_list [450, 451, 452, 453, 454, 455, 456, 457, 458] (by decide +kernel)
theorem sR_13 : (Jvm.Cond.stringRef "BitDeskLaw" (38 : Nat) "size ") ∈ lw_tbl := List.mem_of_getElem? (i := 613) (by decide +kernel)
set_option maxRecDepth 20000 in
theorem sN_14 : ∀ w ∈ sNd ("BitDeskLaw", 56, "; edge ", [59, 32, 101, 100, 103, 101, 32]), w ∈ fN := fN_list [470, 471, 472, 473, 474, 475, 476, 477, 478, 479, 480] (by decide +kernel)
theorem sR_14 : (Jvm.Cond.stringRef "BitDeskLaw" (56 : Nat) "; edge ") ∈ lw_tbl := List.mem_of_getElem? (i := 745) (by decide +kernel)
set_option maxRecDepth 20000 in
theorem sN_15 : ∀ w ∈ sNd ("BitDeskLaw", 61, ";row ", [59, 114, 111, 119, 32]), w ∈ fN := fN_list [493, 494, 495, 496, 497, 498, 499, 500, 501] (by decide +kernel)
theorem sR_15 : (Jvm.Cond.stringRef "BitDeskLaw" (61 : Nat) ";row ") ∈ lw_tbl := List.mem_of_getElem? (i := 759) (by decide +kernel)
set_option maxRecDepth 20000 in
theorem sN_16 : ∀ w ∈ sNd ("BitDeskLaw", 64, "unit", [117, 110, 105, 116]), w ∈ fN := fN_list [515, 516, 517, 518, 519, 520, 521, 522] (by decide +kernel)
theorem sR_16 : (Jvm.Cond.stringRef "BitDeskLaw" (64 : Nat) "unit") ∈ lw_tbl := List.mem_of_getElem? (i := 763) (by decide +kernel)
set_option maxRecDepth 20000 in
theorem sN_17 : ∀ w ∈ sNd ("BitDeskLaw", 66, "ones", [111, 110, 101, 115]), w ∈ fN := fN_list [537, 538, 539, 540, 541, 542, 543, 544] (by decide +kernel)
theorem sR_17 : (Jvm.Cond.stringRef "BitDeskLaw" (66 : Nat) "ones") ∈ lw_tbl := List.mem_of_getElem? (i := 764) (by decide +kernel)
set_option maxRecDepth 20000 in
theorem sN_18 : ∀ w ∈ sNd ("BitDeskLaw", 68, "ring", [114, 105, 110, 103]), w ∈ fN := fN_list [560, 561, 562, 563, 564, 565, 566, 567] (by decide +kernel)
theorem sR_18 : (Jvm.Cond.stringRef "BitDeskLaw" (68 : Nat) "ring") ∈ lw_tbl := List.mem_of_getElem? (i := 765) (by decide +kernel)
set_option maxRecDepth 20000 in
theorem sN_19 : ∀ w ∈ sNd ("BitDeskLaw", 70, "lower", [108, 111, 119, 101, 114]), w ∈ fN := fN_list [584, 585, 586, 587, 588, 589, 590, 591, 592] (by decide +kernel)
theorem sR_19 : (Jvm.Cond.stringRef "BitDeskLaw" (70 : Nat) "lower") ∈ lw_tbl := List.mem_of_getElem? (i := 766) (by decide +kernel)
set_option maxRecDepth 20000 in
theorem sN_20 : ∀ w ∈ sNd ("BitDeskLaw", 72, " ;fill ", [32, 59, 102, 105, 108, 108, 32]), w ∈ fN := fN_list [610, 611, 612, 613, 614, 615, 616, 617, 618, 619, 620] (by decide +kernel)
theorem sR_20 : (Jvm.Cond.stringRef "BitDeskLaw" (72 : Nat) " ;fill ") ∈ lw_tbl := List.mem_of_getElem? (i := 767) (by decide +kernel)
set_option maxRecDepth 20000 in
theorem sN_21 : ∀ w ∈ sNd ("BitDeskLaw", 78, ";keep ", [59, 107, 101, 101, 112, 32]), w ∈ fN := fN_list [639, 640, 641, 642, 643, 644, 645, 646, 647, 648] (by decide +kernel)
theorem sR_21 : (Jvm.Cond.stringRef "BitDeskLaw" (78 : Nat) ";keep ") ∈ lw_tbl := List.mem_of_getElem? (i := 768) (by decide +kernel)
set_option maxRecDepth 20000 in
theorem sN_22 : ∀ w ∈ sNd ("BitDeskLaw", 83, ";block ", [59, 98, 108, 111, 99, 107, 32]), w ∈ fN := fN_list [668, 669, 670, 671, 672, 673, 674, 675, 676, 677, 678] (by decide +kernel)
theorem sR_22 : (Jvm.Cond.stringRef "BitDeskLaw" (83 : Nat) ";block ") ∈ lw_tbl := List.mem_of_getElem? (i := 769) (by decide +kernel)
theorem sAll : ∀ (k : Nat) (q : String × Nat × String × List Int32), strT[k]? = some q → (∀ w ∈ sNd q, w ∈ fN) ∧ Cond.stringRef q.1 q.2.1 q.2.2.1 ∈ lw_tbl := by
  intro k q hq
  match k, hq with
  | 0, hq => exact (Option.some.inj (hq : some _ = some q)) ▸ ⟨sN_0, sR_0⟩
  | 1, hq => exact (Option.some.inj (hq : some _ = some q)) ▸ ⟨sN_1, sR_1⟩
  | 2, hq => exact (Option.some.inj (hq : some _ = some q)) ▸ ⟨sN_2, sR_2⟩
  | 3, hq => exact (Option.some.inj (hq : some _ = some q)) ▸ ⟨sN_3, sR_3⟩
  | 4, hq => exact (Option.some.inj (hq : some _ = some q)) ▸ ⟨sN_4, sR_4⟩
  | 5, hq => exact (Option.some.inj (hq : some _ = some q)) ▸ ⟨sN_5, sR_5⟩
  | 6, hq => exact (Option.some.inj (hq : some _ = some q)) ▸ ⟨sN_6, sR_6⟩
  | 7, hq => exact (Option.some.inj (hq : some _ = some q)) ▸ ⟨sN_7, sR_7⟩
  | 8, hq => exact (Option.some.inj (hq : some _ = some q)) ▸ ⟨sN_8, sR_8⟩
  | 9, hq => exact (Option.some.inj (hq : some _ = some q)) ▸ ⟨sN_9, sR_9⟩
  | 10, hq => exact (Option.some.inj (hq : some _ = some q)) ▸ ⟨sN_10, sR_10⟩
  | 11, hq => exact (Option.some.inj (hq : some _ = some q)) ▸ ⟨sN_11, sR_11⟩
  | 12, hq => exact (Option.some.inj (hq : some _ = some q)) ▸ ⟨sN_12, sR_12⟩
  | 13, hq => exact (Option.some.inj (hq : some _ = some q)) ▸ ⟨sN_13, sR_13⟩
  | 14, hq => exact (Option.some.inj (hq : some _ = some q)) ▸ ⟨sN_14, sR_14⟩
  | 15, hq => exact (Option.some.inj (hq : some _ = some q)) ▸ ⟨sN_15, sR_15⟩
  | 16, hq => exact (Option.some.inj (hq : some _ = some q)) ▸ ⟨sN_16, sR_16⟩
  | 17, hq => exact (Option.some.inj (hq : some _ = some q)) ▸ ⟨sN_17, sR_17⟩
  | 18, hq => exact (Option.some.inj (hq : some _ = some q)) ▸ ⟨sN_18, sR_18⟩
  | 19, hq => exact (Option.some.inj (hq : some _ = some q)) ▸ ⟨sN_19, sR_19⟩
  | 20, hq => exact (Option.some.inj (hq : some _ = some q)) ▸ ⟨sN_20, sR_20⟩
  | 21, hq => exact (Option.some.inj (hq : some _ = some q)) ▸ ⟨sN_21, sR_21⟩
  | 22, hq => exact (Option.some.inj (hq : some _ = some q)) ▸ ⟨sN_22, sR_22⟩
  | k + 23, hq => simp [strT] at hq
theorem vk_S1 {len : List Nat} {byt : List (List Int32)} {adK adV : Nat → Nat} {A : Nat → Prop} {U : State} {H : Heap} (h : vk_S 1 len byt adK adV A U H) : vk_S 1 len byt (fun _ => adK 0) (fun _ => adV 0) A U H :=
  ⟨fun i hi => by
    have e : i = 0 := by omega
    subst e
    exact h.1 0 hi, fun i j hi hj _ => by omega⟩
theorem cx_str {s : State} {a : Array Value} (hts : ∀ w ∈ lw_tbl, w.before a s = true) (hs : ∀ w ∈ fN, w.before a s = true) (A : Nat → Prop) (hA : ∀ a : Nat, a < s.heap.size → ¬ A a) (k : Nat) : ∃ p : Nat × Nat, ∀ q, strT[k]? = some q → vk_R q.1 q.2.1 q.2.2.1 p.1 s ∧ vk_S 1 [q.2.2.2.length] [q.2.2.2] (fun _ => p.1) (fun _ => p.2) A s s.heap := by
  cases hq : strT[k]? with
  | none => exact ⟨(0, 0), fun q h => by cases h⟩
  | some q =>
    obtain ⟨h1, h2⟩ := sAll k q hq
    have g0 := hs _ (h1 _ (List.mem_append_left _ (List.mem_of_getElem? (i := 0) rfl)))
    have g1 := hs _ (h1 _ (List.mem_append_left _ (List.mem_of_getElem? (i := 1) rfl)))
    have g2 := hs _ (h1 _ (List.mem_append_left _ (List.mem_of_getElem? (i := 2) rfl)))
    have g3 := hs _ (h1 _ (List.mem_append_left _ (List.mem_of_getElem? (i := 3) rfl)))
    have g4 : ∀ j, j < q.2.2.2.length → (Cond.eq (.elem (sVl q) (.int (Int32.ofNat j))) (.int (q.2.2.2.getD j 0))).before a s = true := fun j hj => hs _ (h1 _ (List.mem_append_right _ (List.mem_map.mpr ⟨j, List.mem_range.mpr hj, rfl⟩)))
    have hn : q.2.2.2.length < 2 ^ 31 := by
      have : ∀ x ∈ strT, x.2.2.2.length < 100 := by decide +kernel
      have := this q (List.mem_of_getElem? hq)
      omega
    obtain ⟨adK, adV, w1, w2⟩ := vk_Sof (args := a) (s := s) (N := 1) (tm := fun _ => sTm q) (len := [q.2.2.2.length]) (byt := [q.2.2.2]) (A := A)
      (fun i hi => by have e : i = 0 := by omega
                      subst e; exact hn)
      (fun i hi => g0) (fun i hi => g1) (fun i hi => g2)
      (fun i hi => by have e : i = 0 := by omega
                      subst e; exact g3)
      (fun i hi j hj => by have e : i = 0 := by omega
                           subst e; exact g4 j hj)
      (fun i j hi hj hij => by omega) hA
    refine ⟨(adK 0, adV 0), fun q' hq' => ?_⟩
    cases hq'
    exact ⟨vk_R.of (hts _ h2) (w2 0 (by decide)), vk_S1 w1⟩
set_option maxRecDepth 20000 in
theorem nwl_tb : ∀ w ∈ NWL, w ∈ lw_tbl := tb_list [93, 95, 97, 128, 129, 131, 132, 134, 136, 138, 151, 152, 154, 155, 156, 158, 159, 160, 162, 164, 185, 187, 207, 209, 235, 238, 591, 920, 925, 947, 1028, 1053, 1087] (by decide +kernel)
theorem cx_nwl {s : State} {a : Array Value} (hts : ∀ w ∈ lw_tbl, w.before a s = true) : ∀ w ∈ NWL, va_Nw w s := fun w hw => by
  have h0 := hts w (nwl_tb w hw)
  unfold NWL at hw
  rcases List.mem_append.mp hw with h | h
  · obtain ⟨q, -, rfl⟩ := List.mem_map.mp h
    exact va_Nw.of rfl h0
  · obtain ⟨q, -, rfl⟩ := List.mem_map.mp h
    exact va_Nw.of rfl h0
set_option maxRecDepth 20000 in
theorem dcl_tb : ∀ w ∈ xDcl.map Cond.declares, w ∈ lw_tbl := tb_list [333, 335, 337] (by decide +kernel)
theorem cx_prim {s : State} {a : Array Value} {ty : FieldType} (h : (Cond.arrayClass ty).before a s = true) (hp : ∀ cA, s.vm.findClass ("[" ++ ty.toString) = some cA → va_RA s cA ty) : ∃ cA, (ArrOfT s cA ty ∧ va_RA s cA ty) ∧ s.vm.findClass ("[" ++ ty.toString) = some cA := by
  obtain ⟨c, k, comp, h1, h2, h3⟩ := Cond.arrayClass_spec h
  exact ⟨c, ⟨fun n z => ⟨fun k h => (by cases h), k, h2, comp, h3⟩, hp c h1⟩, h1⟩
theorem cx_obj {s : State} {a : Array Value} {C : String} (h : (Cond.arrayOver (.object C)).before a s = true) : ∃ cA, ArrOfT s cA (.object C) ∧ va_RA s cA (.object C) := by
  obtain ⟨comp, c, k, h1, -, h2, h3, h4⟩ := Cond.arrayOver_spec h
  exact ⟨c, fun n z => ⟨fun k h => (by cases h), k, h2, comp, h3⟩, k, comp, h2, h3, h1, h4⟩
theorem cx_ovA {s : State} {a : Array Value} {t : FieldType} (h : (Cond.arrayOver (.array t)).before a s = true) : ∃ cA, (ArrOfT s cA (.array t) ∧ va_RA s cA (.array t)) ∧ s.vm.findClass ("[" ++ (FieldType.array t).toString) = some cA ∧ ∃ comp k, s.vm.findClass (FieldType.array t).toString = some comp ∧ s.vm.classes[cA]? = some k ∧ k.kind = .array comp (.array t) := by
  simp only [Cond.before, Cond.holds, Cond.value, beq_iff_eq] at h
  rcases hc : s.vm.findClass (FieldType.array t).toString with _ | comp
  · simp [hc] at h
  · simp only [hc, Option.bind_some, Option.bind_eq_some_iff, Option.map_eq_some_iff] at h
    obtain ⟨c, hi, k, hk, hv⟩ := h
    have hp := (Array.findIdx?_eq_some_iff_getElem.mp hi).2.1
    rw [(Array.getElem?_eq_some_iff.mp hk).2] at hp
    cases hkd : k.kind with
    | array cp ty =>
      rw [hkd] at hp hv
      simp at hp hv
      have h3 : k.kind = .array comp (.array t) := by rw [hkd, hp, hv.1]
      exact ⟨c, ⟨fun n z => ⟨fun k h => (by cases h), k, hk, comp, h3⟩, hv.2⟩, hv.2, comp, k, rfl, hk, h3⟩
    | _ =>
      rw [hkd] at hv
      simp at hv
theorem cx_acx {s : State} {t : FieldType} {cE cA : ClassId} (h1 : s.vm.findClass ("[" ++ t.toString) = some cE) (h2 : ∃ comp k, s.vm.findClass (FieldType.array t).toString = some comp ∧ s.vm.classes[cA]? = some k ∧ k.kind = .array comp (.array t)) : ACx t cA cE s := by
  obtain ⟨comp, k, e1, e2, e3⟩ := h2
  have e : comp = cE := Option.some.inj (e1.symm.trans h1)
  subst e
  exact ⟨k, e2, e3⟩
theorem cx2_sel {s : State} {a : Array Value} {y z : MethodName} {n : Nat} (hy : y.cls = "java/lang/AbstractStringBuilder") (hz : z.cls = y.cls) (hins : (Cond.instantiable "java/lang/StringBuilder" n).before a s = true) (hpriv : (Cond.privateMethod y).before a s = true) (hinst : (Cond.instanceMethod y).before a s = true) (hsel : (Cond.selects "java/lang/StringBuilder" z z).before a s = true) : (Cond.selects "java/lang/StringBuilder" y y).before a s = true := by
  obtain ⟨c, k, hc, hk, -, hniab, -, -⟩ := Cond.instantiable_spec hins
  obtain ⟨mk, methM, hnamed, hmethM, -, -⟩ := Cond.instanceMethod_spec hinst
  have hfound : s.methodFound? y.cls y.name y.desc = some mk := State.methodFound?_of_named hnamed ⟨by rw [hy]; decide, by rw [hy]; decide⟩
  have hsel1 : selectMethod {} s.vm c mk = .method mk := selectMethod_private hmethM (Cond.privateMethod_at hpriv mk methM hnamed hmethM)
  obtain ⟨c2, r2, m2, q1, q2, q3, q4, kk, q5, q6⟩ := Cond.selects_spec hsel
  have hcls : m2.cls = mk.cls := Option.some.inj ((findClass_of_methodNamed q3).symm.trans (by rw [hz]; exact findClass_of_methodNamed hnamed))
  rw [hcls] at q5
  simp only [Cond.before, Cond.holds, Cond.value, hc, hfound, hnamed, hsel1, q5]
  simp
  exact q6
theorem cx_arr {s : State} {a : Array Value} (hts : ∀ w ∈ lw_tbl, w.before a s = true) : ∃ gA : FieldType → ClassId, (ArrOfT s (gA .int) .int ∧ va_RA s (gA .int) .int) ∧ (ArrOfT s (gA .long) .long ∧ va_RA s (gA .long) .long) ∧ (ArrOfT s (gA .byte) .byte ∧ va_RA s (gA .byte) .byte) ∧ (ArrOfT s (gA .boolean) .boolean ∧ va_RA s (gA .boolean) .boolean) ∧ (ArrOfT s (gA (.array .boolean)) (.array .boolean) ∧ va_RA s (gA (.array .boolean)) (.array .boolean)) ∧ (ArrOfT s (gA (.object kSt)) (.object kSt) ∧ va_RA s (gA (.object kSt)) (.object kSt)) ∧ (ArrOfT s (gA (.object kMx)) (.object kMx) ∧ va_RA s (gA (.object kMx)) (.object kMx)) ∧ (ArrOfT s (gA (.object kCl)) (.object kCl) ∧ va_RA s (gA (.object kCl)) (.object kCl)) ∧ (ArrOfT s (gA (.array (.array .boolean))) (.array (.array .boolean)) ∧ va_RA s (gA (.array (.array .boolean))) (.array (.array .boolean))) ∧ (ArrOfT s (gA (.array .int)) (.array .int) ∧ va_RA s (gA (.array .int)) (.array .int)) ∧ (ArrOfT s (gA (.object "BitDeskLaw$Desk")) (.object "BitDeskLaw$Desk") ∧ va_RA s (gA (.object "BitDeskLaw$Desk")) (.object "BitDeskLaw$Desk")) ∧ (ArrOfT s (gA (.object "java/lang/String")) (.object "java/lang/String") ∧ va_RA s (gA (.object "java/lang/String")) (.object "java/lang/String")) ∧ (ArrOfT s (gA (.object "java/lang/Object")) (.object "java/lang/Object") ∧ va_RA s (gA (.object "java/lang/Object")) (.object "java/lang/Object")) ∧ ACx .boolean (gA (.array .boolean)) (gA .boolean) s ∧ ACx (.array .boolean) (gA (.array (.array .boolean))) (gA (.array .boolean)) s ∧ ACx .int (gA (.array .int)) (gA .int) s := by
  obtain ⟨a0, b0, e0⟩ := cx_prim (ty := .int) (hts _ (List.mem_of_getElem? (i := 113) (by decide +kernel))) (fun _ h => h)
  obtain ⟨a1, b1, e1⟩ := cx_prim (ty := .long) (hts _ (List.mem_of_getElem? (i := 1177) (by decide +kernel))) (fun _ h => h)
  obtain ⟨a2, b2, e2⟩ := cx_prim (ty := .byte) (hts _ (List.mem_of_getElem? (i := 395) (by decide +kernel))) (fun _ h => h)
  obtain ⟨a3, b3, e3⟩ := cx_prim (ty := .boolean) (hts _ (List.mem_of_getElem? (i := 193) (by decide +kernel))) (fun _ h => h)
  obtain ⟨a4, b4, e4, d4⟩ := cx_ovA (t := .boolean) (hts _ (List.mem_of_getElem? (i := 410) (by decide +kernel)))
  obtain ⟨a5, b5⟩ := cx_obj (C := kSt) (hts _ (List.mem_of_getElem? (i := 176) (by decide +kernel)))
  obtain ⟨a6, b6⟩ := cx_obj (C := kMx) (hts _ (List.mem_of_getElem? (i := 121) (by decide +kernel)))
  obtain ⟨a7, b7⟩ := cx_obj (C := kCl) (hts _ (List.mem_of_getElem? (i := 178) (by decide +kernel)))
  obtain ⟨a8, b8, e8, d8⟩ := cx_ovA (t := (.array .boolean)) (hts _ (List.mem_of_getElem? (i := 409) (by decide +kernel)))
  obtain ⟨a9, b9, e9, d9⟩ := cx_ovA (t := .int) (hts _ (List.mem_of_getElem? (i := 407) (by decide +kernel)))
  obtain ⟨a10, b10⟩ := cx_obj (C := "BitDeskLaw$Desk") (hts _ (List.mem_of_getElem? (i := 1306) (by decide +kernel)))
  obtain ⟨a11, b11⟩ := cx_obj (C := "java/lang/String") (hts _ (List.mem_of_getElem? (i := 762) (by decide +kernel)))
  obtain ⟨a12, b12⟩ := cx_obj (C := "java/lang/Object") (hts _ (List.mem_of_getElem? (i := 1173) (by decide +kernel)))
  refine ⟨fun t => match t with
    | .int => a0
    | .long => a1
    | .byte => a2
    | .boolean => a3
    | .array (.array _) => a8
    | .array .boolean => a4
    | .array _ => a9
    | .object C => if C = kSt then a5 else if C = kMx then a6 else if C = kCl then a7 else if C = "BitDeskLaw$Desk" then a10 else if C = "java/lang/String" then a11 else a12
    | _ => 0, b0, b1, b2, b3, b4, ?_, ?_, ?_, b8, b9, ?_, ?_, ?_, cx_acx e3 d4, cx_acx e4 d8, cx_acx e0 d9⟩
  · dsimp only; rw [if_pos rfl]; exact b5
  · dsimp only; rw [if_neg (by decide), if_pos rfl]; exact b6
  · dsimp only; rw [if_neg (by decide), if_neg (by decide), if_pos rfl]; exact b7
  · dsimp only; rw [if_neg (by decide), if_neg (by decide), if_neg (by decide), if_pos rfl]; exact b10
  · dsimp only; rw [if_neg (by decide), if_neg (by decide), if_neg (by decide), if_neg (by decide), if_pos rfl]; exact b11
  · dsimp only; rw [if_neg (by decide), if_neg (by decide), if_neg (by decide), if_neg (by decide), if_neg (by decide)]; exact b12
theorem cx_cls {s : State} {a : Array Value} (hts : ∀ w ∈ lw_tbl, w.before a s = true) : ∃ D : va_G, ∀ (c : Nat) (q : vw_C), vwCl[c]? = some q → u_Kn s q.1 q.2.1 q.2.2 (D.1 c) (D.2 c) := by
  obtain ⟨c0, i0, k0⟩ := u_known (C := RX0) (T := TX0) (N := 2) (n := 2) hts (fun w hw => (List.mem_filter.mp (inW0 w hw)).1) (hts _ (List.mem_of_getElem? (i := 179) (by decide +kernel)))
  obtain ⟨c1, i1, k1⟩ := u_known (C := RX1) (T := TX1) (N := 4) (n := 4) hts (fun w hw => (List.mem_filter.mp (inW1 w hw)).1) (hts _ (List.mem_of_getElem? (i := 228) (by decide +kernel)))
  obtain ⟨c2, i2, k2⟩ := u_known (C := RX2) (T := TX2) (N := 5) (n := 5) hts (fun w hw => (List.mem_filter.mp (inW2 w hw)).1) (hts _ (List.mem_of_getElem? (i := 122) (by decide +kernel)))
  obtain ⟨c3, i3, k3⟩ := u_known (C := RX3) (T := TX3) (N := 8) (n := 8) hts (fun w hw => (List.mem_filter.mp (inW3 w hw)).1) (hts _ (List.mem_of_getElem? (i := 195) (by decide +kernel)))
  obtain ⟨c4, i4, k4⟩ := u_known (C := RX4) (T := TX4) (N := 7) (n := 7) hts (fun w hw => (List.mem_filter.mp (inW4 w hw)).1) (hts _ (List.mem_of_getElem? (i := 83) (by decide +kernel)))
  obtain ⟨c5, i5, k5⟩ := u_known (C := RX5) (T := TX5) (N := 5) (n := 5) hts (fun w hw => (List.mem_filter.mp (inW5 w hw)).1) (hts _ (List.mem_of_getElem? (i := 115) (by decide +kernel)))
  obtain ⟨c6, i6, k6⟩ := u_known (C := RX6) (T := TX6) (N := 15) (n := 15) hts (fun w hw => (List.mem_filter.mp (inW6 w hw)).1) (hts _ (List.mem_of_getElem? (i := 75) (by decide +kernel)))
  obtain ⟨c7, i7, k7⟩ := u_known (C := RX7) (T := TX7) (N := 7) (n := 7) hts (fun w hw => (List.mem_filter.mp (inW7 w hw)).1) (hts _ (List.mem_of_getElem? (i := 401) (by decide +kernel)))
  obtain ⟨c8, i8, k8⟩ := u_known (C := RJ0) (T := TJ0) (N := 4) (n := 4) hts (fun w hw => (List.mem_filter.mp (inW8 w hw)).1) (hts _ (List.mem_of_getElem? (i := 1223) (by decide +kernel)))
  obtain ⟨c9, i9, k9⟩ := u_known (C := RJ4) (T := TJ4) (N := 4) (n := 4) hts (fun w hw => (List.mem_filter.mp (inW9 w hw)).1) (hts _ (List.mem_of_getElem? (i := 1198) (by decide +kernel)))
  obtain ⟨c10, i10, k10⟩ := u_known (C := RJx4a65c) (T := TJx4a65c) (N := 3) (n := 3) hts (fun w hw => (List.mem_filter.mp (inW10 w hw)).1) (hts _ (List.mem_of_getElem? (i := 861) (by decide +kernel)))
  refine ⟨(fun k => [c0, c1, c2, c3, c4, c5, c6, c7, c8, c9, c10].getD k 0, fun k => [i0, i1, i2, i3, i4, i5, i6, i7, i8, i9, i10].getD k (fun _ => 0)), ?_⟩
  intro c q hq
  match c, hq with
  | 0, hq => exact (Option.some.inj (hq : some _ = some q)) ▸ k0
  | 1, hq => exact (Option.some.inj (hq : some _ = some q)) ▸ k1
  | 2, hq => exact (Option.some.inj (hq : some _ = some q)) ▸ k2
  | 3, hq => exact (Option.some.inj (hq : some _ = some q)) ▸ k3
  | 4, hq => exact (Option.some.inj (hq : some _ = some q)) ▸ k4
  | 5, hq => exact (Option.some.inj (hq : some _ = some q)) ▸ k5
  | 6, hq => exact (Option.some.inj (hq : some _ = some q)) ▸ k6
  | 7, hq => exact (Option.some.inj (hq : some _ = some q)) ▸ k7
  | 8, hq => exact (Option.some.inj (hq : some _ = some q)) ▸ k8
  | 9, hq => exact (Option.some.inj (hq : some _ = some q)) ▸ k9
  | 10, hq => exact (Option.some.inj (hq : some _ = some q)) ▸ k10
  | k + 11, hq => simp at hq
theorem cx_1 {s : State} {a : Array Value} (hts : ∀ w ∈ lw_tbl, w.before a s = true) : ∀ w ∈ CX1, va_Nw w s := by
  intro w hw
  simp only [CX1, List.mem_cons, List.not_mem_nil, or_false] at hw
  rcases hw with rfl | rfl | rfl | rfl
  · exact va_Nw.of rfl (hts _ (List.mem_of_getElem? (i := 873) (by decide +kernel)))
  · exact va_Nw.of rfl (hts _ (List.mem_of_getElem? (i := 878) (by decide +kernel)))
  · exact va_Nw.of rfl (hts _ (List.mem_of_getElem? (i := 653) (by decide +kernel)))
  · exact va_Nw.of rfl (hts _ (List.mem_of_getElem? (i := 1322) (by decide +kernel)))
theorem cx_2 {s : State} {a : Array Value} (hts : ∀ w ∈ lw_tbl, w.before a s = true) : ∀ w ∈ CX2, va_Nw w s := by
  intro w hw
  obtain ⟨y, hy, rfl⟩ := List.mem_map.mp hw
  simp only [List.mem_cons, List.not_mem_nil, or_false] at hy
  rcases hy with rfl | rfl | rfl | rfl
  · exact va_Nw.of rfl (cx2_sel (n := 4) (z := ⟨"java/lang/AbstractStringBuilder", "isLatin1", "()Z"⟩) rfl rfl (hts _ (List.mem_of_getElem? (i := 1198) (by decide +kernel))) (hts _ (List.mem_of_getElem? (i := 627) (by decide +kernel))) (hts _ (List.mem_of_getElem? (i := 628) (by decide +kernel))) (hts _ (List.mem_of_getElem? (i := 660) (by decide +kernel))))
  · exact va_Nw.of rfl (cx2_sel (n := 4) (z := ⟨"java/lang/AbstractStringBuilder", "isLatin1", "()Z"⟩) rfl rfl (hts _ (List.mem_of_getElem? (i := 1198) (by decide +kernel))) (hts _ (List.mem_of_getElem? (i := 631) (by decide +kernel))) (hts _ (List.mem_of_getElem? (i := 632) (by decide +kernel))) (hts _ (List.mem_of_getElem? (i := 660) (by decide +kernel))))
  · exact va_Nw.of rfl (cx2_sel (n := 4) (z := ⟨"java/lang/AbstractStringBuilder", "isLatin1", "()Z"⟩) rfl rfl (hts _ (List.mem_of_getElem? (i := 1198) (by decide +kernel))) (hts _ (List.mem_of_getElem? (i := 680) (by decide +kernel))) (hts _ (List.mem_of_getElem? (i := 681) (by decide +kernel))) (hts _ (List.mem_of_getElem? (i := 660) (by decide +kernel))))
  · exact va_Nw.of rfl (cx2_sel (n := 4) (z := ⟨"java/lang/AbstractStringBuilder", "isLatin1", "()Z"⟩) rfl rfl (hts _ (List.mem_of_getElem? (i := 1198) (by decide +kernel))) (hts _ (List.mem_of_getElem? (i := 684) (by decide +kernel))) (hts _ (List.mem_of_getElem? (i := 685) (by decide +kernel))) (hts _ (List.mem_of_getElem? (i := 660) (by decide +kernel))))
set_option maxRecDepth 20000 in
theorem dig_fN : ∀ w ∈ (List.range 100).map (fun j => Cond.eq (.elem (.static "java/lang/Integer" "DigitOnes" "[B") (.int (Int32.ofNat j))) (.int (nI (48 + j % 10)))), w ∈ fN := fN_list [14, 15, 16, 17, 18, 19, 20, 21, 22, 23, 24, 25, 26, 27, 28, 29, 30, 31, 32, 33, 34, 35, 36, 37, 38, 39, 40, 41, 42, 43, 44, 45, 46, 47, 48, 49, 50, 51, 52, 53, 54, 55, 56, 57, 58, 59, 60, 61, 62, 63, 64, 65, 66, 67, 68, 69, 70, 71, 72, 73, 74, 75, 76, 77, 78, 79, 80, 81, 82, 83, 84, 85, 86, 87, 88, 89, 90, 91, 92, 93, 94, 95, 96, 97, 98, 99, 100, 101, 102, 103, 104, 105, 106, 107, 108, 109, 110, 111, 112, 113] (by decide +kernel)
theorem cx_dig {s : State} {a : Array Value} (hs : ∀ w ∈ fN, w.before a s = true) : ∀ j : Nat, j < 100 → (Term.elem (.static "java/lang/Integer" "DigitOnes" "[B") (.int (Int32.ofNat j))).eval a s none [] s = some (.int (nI (48 + j % 10))) := fun j hj => va_eqt (hs _ (dig_fN _ (List.mem_map.mpr ⟨j, List.mem_range.mpr hj, rfl⟩)))
theorem ctx_start {l : Launch} {s : State} {b L : Nat} {xs : Nat → Int32} (hfl : l.flags = flags0) (hts : ∀ w ∈ lw_tbl, w.before #[Value.ref b] s = true) (hX : va_X b L xs s s.heap) (hbl : b < s.heap.size) (hgv : (Jvm.Cond.and given_1 narrow_1).before #[Value.ref b] s = true) : ∃ G : Gl, Ctx l G s ∧ gB G = s.heap.size ∧ gScr G = b ∧ gLen G = L ∧ gXs G = xs := by
  have hs : ∀ w ∈ fN, w.before #[Value.ref b] s = true := flat_of_before _ hgv
  have hA : ∀ a : Nat, a < s.heap.size → ¬ (fun q => s.heap.size ≤ q) a := fun a h => Nat.not_le.mpr h
  obtain ⟨gA, x0, x1, x2, x3, x4, x5, x6, x7, x8, x9, x10, x11, x12, y1, y2, y3⟩ := cx_arr hts
  obtain ⟨D, hD⟩ := cx_cls hts
  obtain ⟨f, hf⟩ := Classical.axiomOfChoice (cx_str hts hs (fun q => s.heap.size ≤ q) hA)
  have z1 := vx_Zqof (C := "java/lang/Throwable") (n := "UNASSIGNED_STACK") (d := "[Ljava/lang/StackTraceElement;") (args := #[Value.ref b]) (A := fun q => s.heap.size ≤ q) (hts _ (List.mem_of_getElem? (i := 356) (by decide +kernel))) (hts _ (List.mem_of_getElem? (i := 52) (by decide +kernel))) (hs _ (List.mem_of_getElem? (i := 4) (by decide +kernel))) hA
  have z2 := vx_Zqof (C := "java/lang/Throwable") (n := "SUPPRESSED_SENTINEL") (d := "Ljava/util/List;") (args := #[Value.ref b]) (A := fun q => s.heap.size ≤ q) (hts _ (List.mem_of_getElem? (i := 358) (by decide +kernel))) (hts _ (List.mem_of_getElem? (i := 52) (by decide +kernel))) (hs _ (List.mem_of_getElem? (i := 5) (by decide +kernel))) hA
  have z3 := va_Zof (C := "java/lang/String") (n := "COMPACT_STRINGS") (d := "Z") (args := #[Value.ref b]) (A := fun q => s.heap.size ≤ q) (hts _ (List.mem_of_getElem? (i := 456) (by decide +kernel))) (hts _ (List.mem_of_getElem? (i := 60) (by decide +kernel))) (va_eqi (z := 1) (hs _ (List.mem_of_getElem? (i := 6) (by decide +kernel)))) hA
  have z4 := va_Zqof (C := "jdk/internal/util/Preconditions") (n := "SIOOBE_FORMATTER") (d := "Ljava/util/function/BiFunction;") (args := #[Value.ref b]) (A := fun q => s.heap.size ≤ q) (hts _ (List.mem_of_getElem? (i := 472) (by decide +kernel))) (hts _ (List.mem_of_getElem? (i := 65) (by decide +kernel))) (hs _ (List.mem_of_getElem? (i := 7) (by decide +kernel))) hA
  obtain ⟨fm, z5⟩ : ∃ fm : Value, va_Z "jdk/internal/util/Preconditions" "SIOOBE_FORMATTER" "Ljava/util/function/BiFunction;" fm (fun q => s.heap.size ≤ q) s s.heap ∧ (fm = .null ∨ ∃ a, fm = .ref a) := by
    rcases z4 with h | ⟨t, h⟩
    · exact ⟨_, h, Or.inl rfl⟩
    · exact ⟨_, h, Or.inr ⟨t, rfl⟩⟩
  obtain ⟨t1, r1, v1⟩ := va_Tof (args := #[Value.ref b]) (s := s) (tm := .static "java/util/ArrayList" "DEFAULTCAPACITY_EMPTY_ELEMENTDATA" "[Ljava/lang/Object;") (ty := .object "java/lang/Object") (N := 0) (f := fun _ => .null) (A := fun q => s.heap.size ≤ q) (by decide) (hs _ (List.mem_of_getElem? (i := 218) (by decide +kernel))) (va_eqt (hs _ (List.mem_of_getElem? (i := 220) (by decide +kernel)))) (fun j hj => absurd hj (Nat.not_lt_zero j)) hA
  have z6 := va_Zof (C := "java/util/ArrayList") (n := "DEFAULTCAPACITY_EMPTY_ELEMENTDATA") (d := "[Ljava/lang/Object;") (args := #[Value.ref b]) (A := fun q => s.heap.size ≤ q) (hts _ (List.mem_of_getElem? (i := 1147) (by decide +kernel))) (hts _ (List.mem_of_getElem? (i := 71) (by decide +kernel))) r1 hA
  obtain ⟨t2, r2, v2⟩ := va_Tof (args := #[Value.ref b]) (s := s) (tm := .static "java/lang/Integer" "DigitOnes" "[B") (ty := .byte) (N := 100) (f := fun j => .int (nI (48 + j % 10))) (A := fun q => s.heap.size ≤ q) (by decide) (hs _ (List.mem_of_getElem? (i := 12) (by decide +kernel))) (va_eqt (hs _ (List.mem_of_getElem? (i := 13) (by decide +kernel)))) (cx_dig hs) hA
  have z7 := va_Zof (C := "java/lang/Integer") (n := "DigitOnes") (d := "[B") (args := #[Value.ref b]) (A := fun q => s.heap.size ≤ q) (hts _ (List.mem_of_getElem? (i := 734) (by decide +kernel))) (hts _ (List.mem_of_getElem? (i := 68) (by decide +kernel))) r2 hA
  refine ⟨(s.heap.size, b, L, xs, fun k => if k = 1000 then t1 else if k = 1001 then t2 else (f k).1, fun k => (f k).2, gA, D, fm), ⟨⟨?_, ⟨cx_1 hts, cx_2 hts⟩, va_AO.of (hts _ (List.mem_of_getElem? (i := 1306) (by decide +kernel))), va_AO.of (hts _ (List.mem_of_getElem? (i := 762) (by decide +kernel))), va_AO.of (hts _ (List.mem_of_getElem? (i := 1173) (by decide +kernel))), y1, y2, y3, ⟨z6, v1⟩, z7, v2⟩, ⟨hD, ?_⟩, cx_nwl hts, z1, z2, fun k q hq => ?_, z3, z5, hX, hbl, Nat.le_refl _, ?_, ?_, ?_, ?_, ?_, ?_, ?_⟩, rfl, rfl, rfl, rfl⟩
  · unfold Launch.stackTraces; rw [hfl]; decide
  · intro k q hq
    match k, hq with
    | 0, hq => exact (Option.some.inj (hq : some _ = some q)) ▸ x0
    | 1, hq => exact (Option.some.inj (hq : some _ = some q)) ▸ x1
    | 2, hq => exact (Option.some.inj (hq : some _ = some q)) ▸ x2
    | 3, hq => exact (Option.some.inj (hq : some _ = some q)) ▸ x3
    | 4, hq => exact (Option.some.inj (hq : some _ = some q)) ▸ x4
    | 5, hq => exact (Option.some.inj (hq : some _ = some q)) ▸ x5
    | 6, hq => exact (Option.some.inj (hq : some _ = some q)) ▸ x6
    | 7, hq => exact (Option.some.inj (hq : some _ = some q)) ▸ x7
    | 8, hq => exact (Option.some.inj (hq : some _ = some q)) ▸ x8
    | 9, hq => exact (Option.some.inj (hq : some _ = some q)) ▸ x9
    | 10, hq => exact (Option.some.inj (hq : some _ = some q)) ▸ x10
    | 11, hq => exact (Option.some.inj (hq : some _ = some q)) ▸ x11
    | 12, hq => exact (Option.some.inj (hq : some _ = some q)) ▸ x12
    | k + 13, hq => simp [tyl] at hq
  · have hk := (List.getElem?_eq_some_iff.mp hq).1
    have hl : strT.length = 23 := by decide +kernel
    have e : (if k = 1000 then t1 else if k = 1001 then t2 else (f k).1) = (f k).1 := by rw [if_neg (by omega), if_neg (by omega)]
    show vk_R q.1 q.2.1 q.2.2.1 (if k = 1000 then t1 else if k = 1001 then t2 else (f k).1) s ∧ vk_S 1 [q.2.2.2.length] [q.2.2.2] (fun _ => if k = 1000 then t1 else if k = 1001 then t2 else (f k).1) (fun _ => (f k).2) (fun q => s.heap.size ≤ q) s s.heap
    rw [e]
    exact hf k q hq
  · exact va_Nw.of rfl (hts _ (List.mem_of_getElem? (i := 791) (by decide +kernel)))
  · exact va_Nw.of rfl (hts _ (List.mem_of_getElem? (i := 331) (by decide +kernel)))
  · exact va_Nc.of (hs _ (List.mem_of_getElem? (i := 229) (by decide +kernel)))
  · exact va_AO.of (hts _ (List.mem_of_getElem? (i := 176) (by decide +kernel)))
  · exact va_AO.of (hts _ (List.mem_of_getElem? (i := 121) (by decide +kernel)))
  · exact va_AO.of (hts _ (List.mem_of_getElem? (i := 178) (by decide +kernel)))
  · exact fun x hx => va_Nw.of rfl (hts _ (dcl_tb _ (List.mem_map.mpr ⟨x, hx, rfl⟩)))
