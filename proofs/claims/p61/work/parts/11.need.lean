/-! what a call asks for; throws -/
section
variable {l : Launch} {M : Mem}
theorem th_sub {ps : List Nat} {w : Cond} (h : w ∈ ps.filterMap (fun i => lw_tbl[i]?)) : w ∈ lw_tbl := by
  obtain ⟨i, -, hi⟩ := List.mem_filterMap.mp h
  exact List.mem_of_getElem? hi
theorem th_io : (∀ w ∈ (vx_atS RX6 323 xIO xNm).filter goodWord, w ∈ WS) ∧ (∀ w ∈ (vx_atS RX6 323 xIO xNm).filter (fun w => !goodWord w), w ∈ xB xIO) ∧ (∀ w ∈ Cond.classLink RX6 319 xIO :: Cond.initialized xIO :: vx_atS RX6 323 xIO xNm, vx_ot w = true) := by
  have h : ∀ w ∈ (vx_atS RX6 323 xIO xNm).filter goodWord, w ∈ [2, 52, 53, 54, 55, 79, 80, 81, 87, 119, 126, 183, 199, 232, 332, 333, 334, 335, 336, 337, 338, 339, 340, 341, 342, 343, 344, 345, 346, 347, 348, 349, 350, 351, 352, 353, 354, 355, 356, 357, 358, 359, 360, 361, 362, 363, 364, 365, 366, 367, 368, 373, 374, 375, 376, 377, 378, 379, 380, 381, 382, 383, 384, 385, 386, 387, 388, 389, 390, 391, 392, 393, 394, 405, 789, 790, 791, 792, 793, 794, 795, 796, 797, 799, 800, 801, 802, 803, 804, 1164, 1181, 1205, 1230, 1293, 1308, 1327, 1331].filterMap (fun i => lw_tbl[i]?) := by decide +kernel
  exact ⟨fun w hw => List.mem_filter.mpr ⟨th_sub (h w hw), (List.mem_filter.mp hw).2⟩, by decide +kernel, by decide +kernel⟩
theorem th_ia : (∀ w ∈ (vx_atS RX6 335 xIA xNm).filter goodWord, w ∈ WS) ∧ (∀ w ∈ (vx_atS RX6 335 xIA xNm).filter (fun w => !goodWord w), w ∈ xB xIA) ∧ (∀ w ∈ Cond.classLink RX6 331 xIA :: Cond.initialized xIA :: vx_atS RX6 335 xIA xNm, vx_ot w = true) := by
  have h : ∀ w ∈ (vx_atS RX6 335 xIA xNm).filter goodWord, w ∈ [2, 52, 53, 54, 56, 79, 80, 81, 87, 119, 126, 183, 199, 232, 329, 330, 331, 332, 333, 334, 335, 336, 337, 338, 339, 340, 341, 342, 343, 344, 345, 346, 347, 348, 349, 350, 351, 352, 353, 354, 355, 356, 357, 358, 359, 360, 361, 362, 363, 364, 365, 366, 367, 368, 370, 371, 372, 373, 374, 375, 376, 377, 378, 379, 380, 381, 382, 383, 384, 385, 386, 387, 388, 389, 390, 391, 392, 393, 394, 405, 792, 793, 794, 795, 796, 797, 802, 803, 804, 1163, 1189, 1205, 1230, 1254, 1261, 1293, 1308, 1328, 1331].filterMap (fun i => lw_tbl[i]?) := by decide +kernel
  exact ⟨fun w hw => List.mem_filter.mpr ⟨th_sub (h w hw), (List.mem_filter.mp hw).2⟩, by decide +kernel, by decide +kernel⟩
theorem th_slot : TH RX6 319 321 323 11 xIO := ⟨Or.inl rfl, wd_634, wd_113, ⟨_, _, rfl⟩, th_io.1, th_io.2.1, th_io.2.2, by decide +kernel, by decide +kernel⟩
theorem th_node : TH RX6 319 326 323 12 xIO := ⟨Or.inl rfl, wd_634, wd_113, ⟨_, _, rfl⟩, th_io.1, th_io.2.1, th_io.2.2, by decide +kernel, by decide +kernel⟩
theorem th_range : TH RX6 331 333 335 10 xIA := ⟨Or.inr rfl, wd_544, wd_112, ⟨_, _, rfl⟩, th_ia.1, th_ia.2.1, th_ia.2.2, by decide +kernel, by decide +kernel⟩
/-- 0 ≤ v < n -/
def inR (v : Int32) (n : Nat) : Prop := ¬ v < 0 ∧ v < nI n
theorem inR_nI {i n : Nat} (h : i < n) (hn : n < 2147483648) : inR (nI i) n := ⟨nI_pos (by omega), nI_lt h hn⟩
theorem inR_of {v : Int32} {n : Nat} (h : inR v n) (hn : n < 2147483648) : ∃ i, i < n ∧ v = nI i := by
  obtain ⟨i, hi, rfl⟩ := nI_of h.1
  exact ⟨i, (nI_ltI hi hn).mp h.2, rfl⟩
theorem s_needSlot {v : Int32} (h : inR v 6) : EvR l jX6_needSlot 6 82 1 6 [.ref 0, .int v] M (.inl none) M := by
  refine ev_intro rfl (nb rfl) rfl ?_
  refine g_iload_n (pc := 0) dX6_needSlot_0 rfl ?_
  refine g_if_lt (pc := 1) (tgt := 10) dX6_needSlot_1 rfl (fun h1 => absurd h1 (h.1)) (fun _ => ?_)
  refine g_iload_n (pc := 4) dX6_needSlot_4 rfl ?_
  refine g_bipush (pc := 5) (v := 6) dX6_needSlot_5 rfl ?_
  refine g_icmp_lt (pc := 7) (tgt := 21) dX6_needSlot_7 rfl (fun _ => ?_) (fun h7 => absurd (h.2) h7)
  refine g_return (pc := 21) dX6_needSlot_21 rfl ?_
  exact ⟨rfl, rfl⟩
theorem x_needSlot {v : Int32} (hS : Shp M) (hx0 : mX M = false) (h : ¬ inR v 6) : EvR l jX6_needSlot 6 82 1 6 [.ref 0, .int v] M (.inr xIO) M := by
  refine ev_intro rfl (nb rfl) rfl ?_
  refine g_iload_n (pc := 0) dX6_needSlot_0 rfl ?_
  refine g_if_lt (pc := 1) (tgt := 10) dX6_needSlot_1 rfl (fun h1 => ?_) (fun h1 => ?_)
  · exact g_throwW (pc := 10) (k := 0) (n := 0) dX6_needSlot_10 dX6_needSlot_13 dX6_needSlot_14 dX6_needSlot_17 dX6_needSlot_20 th_slot rfl (nb rfl) (nb rfl) hx0 ⟨rfl, rfl⟩
  · refine g_iload_n (pc := 4) dX6_needSlot_4 rfl ?_
    refine g_bipush (pc := 5) (v := 6) dX6_needSlot_5 rfl ?_
    refine g_icmp_lt (pc := 7) (tgt := 21) dX6_needSlot_7 rfl (fun h7 => absurd h7 (fun h7 => h ⟨h1, h7⟩)) (fun _ => ?_)
    exact g_throwW (pc := 10) (k := 0) (n := 0) dX6_needSlot_10 dX6_needSlot_13 dX6_needSlot_14 dX6_needSlot_17 dX6_needSlot_20 th_slot rfl (nb rfl) (nb rfl) hx0 ⟨rfl, rfl⟩
theorem s_needNode {v : Int32} {n : Nat} (hS : Shp M) (hz : mI M 3 1 = nI n) (h : inR v n) : EvR l jX6_needNode 6 82 1 6 [.ref 0, .int v] M (.inl none) M := by
  refine ev_intro rfl (nb rfl) rfl ?_
  refine g_iload_n (pc := 0) dX6_needNode_0 rfl ?_
  refine g_if_lt (pc := 1) (tgt := 15) dX6_needNode_1 rfl (fun h1 => absurd h1 (h.1)) (fun _ => ?_)
  refine g_iload_n (pc := 4) dX6_needNode_4 rfl ?_
  refine g_aload_n (pc := 5) dX6_needNode_5 rfl trivial ?_
  refine g_getf (pc := 6) dX6_needNode_6 fk_X6_19 (shK hS rfl) (fv_obj (shR hS rfl)) ?_
  refine g_getf (pc := 9) (v := .int _) dX6_needNode_9 fk_X6_89 (shK hS rfl) (fun _ => congrArg Value.int (hz)) ?_
  refine g_icmp_lt (pc := 12) (tgt := 26) dX6_needNode_12 rfl (fun _ => ?_) (fun h12 => absurd (h.2) h12)
  refine g_return (pc := 26) dX6_needNode_26 rfl ?_
  exact ⟨rfl, rfl⟩
theorem x_needNode {v : Int32} {n : Nat} (hS : Shp M) (hx0 : mX M = false) (hz : mI M 3 1 = nI n) (h : ¬ inR v n) : EvR l jX6_needNode 6 82 1 6 [.ref 0, .int v] M (.inr xIO) M := by
  refine ev_intro rfl (nb rfl) rfl ?_
  refine g_iload_n (pc := 0) dX6_needNode_0 rfl ?_
  refine g_if_lt (pc := 1) (tgt := 15) dX6_needNode_1 rfl (fun h1 => ?_) (fun h1 => ?_)
  · exact g_throwW (pc := 15) (k := 0) (n := 0) dX6_needNode_15 dX6_needNode_18 dX6_needNode_19 dX6_needNode_22 dX6_needNode_25 th_node rfl (nb rfl) (nb rfl) hx0 ⟨rfl, rfl⟩
  · refine g_iload_n (pc := 4) dX6_needNode_4 rfl ?_
    refine g_aload_n (pc := 5) dX6_needNode_5 rfl trivial ?_
    refine g_getf (pc := 6) dX6_needNode_6 fk_X6_19 (shK hS rfl) (fv_obj (shR hS rfl)) ?_
    refine g_getf (pc := 9) (v := .int _) dX6_needNode_9 fk_X6_89 (shK hS rfl) (fun _ => congrArg Value.int (hz)) ?_
    refine g_icmp_lt (pc := 12) (tgt := 26) dX6_needNode_12 rfl (fun h12 => absurd h12 (fun h7 => h ⟨h1, h7⟩)) (fun _ => ?_)
    exact g_throwW (pc := 15) (k := 0) (n := 0) dX6_needNode_15 dX6_needNode_18 dX6_needNode_19 dX6_needNode_22 dX6_needNode_25 th_node rfl (nb rfl) (nb rfl) hx0 ⟨rfl, rfl⟩
theorem s_needRow {v w : Int32} {n : Nat} (hS : Shp M) (hz : mI M 3 1 = nI n) (h : inR v 6) (h' : inR w n) : EvR l jX6_needRow 7 104 2 12 [.ref 0, .int v, .int w] M (.inl none) M := by
  refine ev_intro rfl (nb rfl) rfl ?_
  refine g_aload_n (pc := 0) dX6_needRow_0 rfl trivial ?_
  refine g_iload_n (pc := 1) dX6_needRow_1 rfl ?_
  refine g_invV_r (pc := 2) (As := [_]) dX6_needRow_2 rfl (s_needSlot h) rfl rfl (shK hS rfl) rfl rfl lk_X6_141 rfl (nb rfl) ⟨nb rfl, nb rfl⟩ rfl ?_
  refine g_aload_n (pc := 5) dX6_needRow_5 rfl trivial ?_
  refine g_iload_n (pc := 6) dX6_needRow_6 rfl ?_
  refine g_invV_r (pc := 7) (As := [_]) dX6_needRow_7 rfl (s_needNode hS hz h') rfl rfl (shK hS rfl) rfl rfl lk_X6_328 rfl (nb rfl) ⟨nb rfl, nb rfl⟩ rfl ?_
  refine g_return (pc := 10) dX6_needRow_10 rfl ?_
  exact ⟨rfl, rfl⟩
theorem x_needRow {v w : Int32} {n : Nat} (hS : Shp M) (hx0 : mX M = false) (hz : mI M 3 1 = nI n) (h : ¬ (inR v 6 ∧ inR w n)) : EvR l jX6_needRow 7 104 2 12 [.ref 0, .int v, .int w] M (.inr xIO) M := by
  refine ev_intro rfl (nb rfl) rfl ?_
  by_cases h1 : inR v 6
  · refine g_aload_n (pc := 0) dX6_needRow_0 rfl trivial ?_
    refine g_iload_n (pc := 1) dX6_needRow_1 rfl ?_
    refine g_invV_r (pc := 2) (As := [_]) dX6_needRow_2 rfl (s_needSlot h1) rfl rfl (shK hS rfl) rfl rfl lk_X6_141 rfl (nb rfl) ⟨nb rfl, nb rfl⟩ rfl ?_
    refine g_aload_n (pc := 5) dX6_needRow_5 rfl trivial ?_
    refine g_iload_n (pc := 6) dX6_needRow_6 rfl ?_
    refine g_invV_x (pc := 7) (As := [_]) dX6_needRow_7 rfl (x_needNode hS hx0 hz (fun h2 => h ⟨h1, h2⟩)) rfl rfl (shK hS rfl) rfl rfl lk_X6_328 rfl (nb rfl) ⟨nb rfl, nb rfl⟩ rfl ?_
    exact ⟨rfl, rfl⟩
  · refine g_aload_n (pc := 0) dX6_needRow_0 rfl trivial ?_
    refine g_iload_n (pc := 1) dX6_needRow_1 rfl ?_
    refine g_invV_x (pc := 2) (As := [_]) dX6_needRow_2 rfl (x_needSlot hS hx0 h1) rfl rfl (shK hS rfl) rfl rfl lk_X6_141 rfl (nb rfl) ⟨nb rfl, nb rfl⟩ rfl ?_
    exact ⟨rfl, rfl⟩
theorem s_needCell {v w u : Int32} {n : Nat} (hS : Shp M) (hz : mI M 3 1 = nI n) (h : inR v 6) (h' : inR w n) (h2 : inR u n) : EvR l jX6_needCell 8 126 3 18 [.ref 0, .int v, .int w, .int u] M (.inl none) M := by
  refine ev_intro rfl (nb rfl) rfl ?_
  refine g_aload_n (pc := 0) dX6_needCell_0 rfl trivial ?_
  refine g_iload_n (pc := 1) dX6_needCell_1 rfl ?_
  refine g_iload_n (pc := 2) dX6_needCell_2 rfl ?_
  refine g_invV_r (pc := 3) (As := [_, _]) dX6_needCell_3 rfl (s_needRow hS hz h h') rfl rfl (shK hS rfl) rfl rfl lk_X6_120 rfl (nb rfl) ⟨nb rfl, nb rfl⟩ rfl ?_
  refine g_aload_n (pc := 6) dX6_needCell_6 rfl trivial ?_
  refine g_iload_n (pc := 7) dX6_needCell_7 rfl ?_
  refine g_invV_r (pc := 8) (As := [_]) dX6_needCell_8 rfl (s_needNode hS hz h2) rfl rfl (shK hS rfl) rfl rfl lk_X6_328 rfl (nb rfl) ⟨nb rfl, nb rfl⟩ rfl ?_
  refine g_return (pc := 11) dX6_needCell_11 rfl ?_
  exact ⟨rfl, rfl⟩
theorem x_needCell {v w u : Int32} {n : Nat} (hS : Shp M) (hx0 : mX M = false) (hz : mI M 3 1 = nI n) (h : ¬ (inR v 6 ∧ inR w n ∧ inR u n)) : EvR l jX6_needCell 8 126 3 18 [.ref 0, .int v, .int w, .int u] M (.inr xIO) M := by
  refine ev_intro rfl (nb rfl) rfl ?_
  by_cases h1 : inR v 6 ∧ inR w n
  · refine g_aload_n (pc := 0) dX6_needCell_0 rfl trivial ?_
    refine g_iload_n (pc := 1) dX6_needCell_1 rfl ?_
    refine g_iload_n (pc := 2) dX6_needCell_2 rfl ?_
    refine g_invV_r (pc := 3) (As := [_, _]) dX6_needCell_3 rfl (s_needRow hS hz h1.1 h1.2) rfl rfl (shK hS rfl) rfl rfl lk_X6_120 rfl (nb rfl) ⟨nb rfl, nb rfl⟩ rfl ?_
    refine g_aload_n (pc := 6) dX6_needCell_6 rfl trivial ?_
    refine g_iload_n (pc := 7) dX6_needCell_7 rfl ?_
    refine g_invV_x (pc := 8) (As := [_]) dX6_needCell_8 rfl (x_needNode hS hx0 hz (fun h2 => h ⟨h1.1, h1.2, h2⟩)) rfl rfl (shK hS rfl) rfl rfl lk_X6_328 rfl (nb rfl) ⟨nb rfl, nb rfl⟩ rfl ?_
    exact ⟨rfl, rfl⟩
  · refine g_aload_n (pc := 0) dX6_needCell_0 rfl trivial ?_
    refine g_iload_n (pc := 1) dX6_needCell_1 rfl ?_
    refine g_iload_n (pc := 2) dX6_needCell_2 rfl ?_
    refine g_invV_x (pc := 3) (As := [_, _]) dX6_needCell_3 rfl (x_needRow hS hx0 hz h1) rfl rfl (shK hS rfl) rfl rfl lk_X6_120 rfl (nb rfl) ⟨nb rfl, nb rfl⟩ rfl ?_
    exact ⟨rfl, rfl⟩
theorem s_needRange {v a b : Int32} (h : ¬ v < a) (h' : v ≤ b) : EvR l jX6_needRange 6 82 1 6 [.ref 0, .int v, .int a, .int b] M (.inl none) M := by
  refine ev_intro rfl (nb rfl) rfl ?_
  refine g_iload_n (pc := 0) dX6_needRange_0 rfl ?_
  refine g_iload_n (pc := 1) dX6_needRange_1 rfl ?_
  refine g_icmp_lt (pc := 2) (tgt := 10) dX6_needRange_2 rfl (fun h2 => absurd h2 (h)) (fun _ => ?_)
  refine g_iload_n (pc := 5) dX6_needRange_5 rfl ?_
  refine g_iload_n (pc := 6) dX6_needRange_6 rfl ?_
  refine g_icmp_le (pc := 7) (tgt := 21) dX6_needRange_7 rfl (fun _ => ?_) (fun h7 => absurd (h') h7)
  refine g_return (pc := 21) dX6_needRange_21 rfl ?_
  exact ⟨rfl, rfl⟩
theorem x_needRange {v a b : Int32} (hS : Shp M) (hx0 : mX M = false) (h : ¬ (¬ v < a ∧ v ≤ b)) : EvR l jX6_needRange 6 82 1 6 [.ref 0, .int v, .int a, .int b] M (.inr xIA) M := by
  refine ev_intro rfl (nb rfl) rfl ?_
  refine g_iload_n (pc := 0) dX6_needRange_0 rfl ?_
  refine g_iload_n (pc := 1) dX6_needRange_1 rfl ?_
  refine g_icmp_lt (pc := 2) (tgt := 10) dX6_needRange_2 rfl (fun h2 => ?_) (fun h2 => ?_)
  · exact g_throwW (pc := 10) (k := 0) (n := 0) dX6_needRange_10 dX6_needRange_13 dX6_needRange_14 dX6_needRange_17 dX6_needRange_20 th_range rfl (nb rfl) (nb rfl) hx0 ⟨rfl, rfl⟩
  · refine g_iload_n (pc := 5) dX6_needRange_5 rfl ?_
    refine g_iload_n (pc := 6) dX6_needRange_6 rfl ?_
    refine g_icmp_le (pc := 7) (tgt := 21) dX6_needRange_7 rfl (fun h7 => absurd h7 (fun h7 => h ⟨h2, h7⟩)) (fun _ => ?_)
    exact g_throwW (pc := 10) (k := 0) (n := 0) dX6_needRange_10 dX6_needRange_13 dX6_needRange_14 dX6_needRange_17 dX6_needRange_20 th_range rfl (nb rfl) (nb rfl) hx0 ⟨rfl, rfl⟩
/-- the states' bases -/
def bases : List Nat := [3, 17, 32, 46, 60, 74, 88, 102, 116, 130, 145, 159]
theorem base_ok : ∀ b ∈ bases, (LAY[b]? = some (.inr 5) ∧ LAY[b + 1]? = some (.inl (.object kMx, 6)) ∧ REFT b 0 = some (b + 1)) ∧ ∀ s, s < 6 → LAY[b + 2 + 2 * s]? = some (.inr 2) ∧ LAY[b + 3 + 2 * s]? = some (kI 32) ∧ REFT (b + 1) s = some (b + 2 + 2 * s) ∧ REFT (b + 2 + 2 * s) 0 = some (b + 3 + 2 * s) := by decide +kernel
theorem s_rowsOf {s : Nat} (hS : Shp M) (hs : s < 6) : EvR l jX6_rowsOf 0 0 0 0 [.ref 0, .int (nI s)] M (.inl (some (.ref (6 + 2 * s)))) M := by
  obtain ⟨g1, g2, g3, g4⟩ := (base_ok 3 (by decide)).2 s hs
  rw [show 3 + 3 + 2 * s = 6 + 2 * s by omega] at g4 g2
  refine ev_intro rfl (nb rfl) rfl ?_
  refine g_aload_n (pc := 0) dX6_rowsOf_0 rfl trivial ?_
  refine g_getf (pc := 1) dX6_rowsOf_1 fk_X6_19 (shK hS rfl) (fv_obj (shR hS rfl)) ?_
  refine g_getf (pc := 4) dX6_rowsOf_4 fk_X6_225 (shK hS rfl) (fv_arr (shR hS rfl)) ?_
  refine g_iload_n (pc := 7) dX6_rowsOf_7 rfl ?_
  refine g_aaload_Matrix (pc := 8) dX6_rowsOf_8 (shK hS rfl) rfl hs (by decide) (shR hS g3) ?_
  refine g_getf (pc := 9) dX6_rowsOf_9 fk_X6_229 (shK hS g1) (fv_arr (shR hS g4)) ?_
  refine g_areturn (pc := 12) dX6_rowsOf_12 rfl (Or.inr ⟨_, rfl⟩) ?_
  exact ⟨rfl, rfl⟩
end
