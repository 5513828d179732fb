/-! the law's desk: matrices of truths -/
/-- a matrix of truths in rows of its own -/
def Mt (M : Mem) (m n : Nat) (rw9 : Nat → Nat) (f : Nat → Nat → Bool) : Prop := (mK M)[m]? = some (.inl (.array .boolean, n)) ∧ ∀ r, r < n → mR M m r = some (rw9 r) ∧ (mK M)[rw9 r]? = some (.inl (.boolean, n)) ∧ ∀ c, c < n → mI M (rw9 r) c = b1 (f r c)
/-- a row as an int, out of the numbers of a state -/
def rI (u : Nat → Int64) (s r : Nat) : Int32 := (u (28 + 32 * s + r)).toInt32
def b1L (b : Bool) : Int64 := match b with
  | true => 1
  | false => 0
theorem b1L_t (b : Bool) : (b1L b = 1) = (b = true) := by cases b <;> simp [b1L]
abbrev fB (g : Nat → Int32) : Nat → Nat → Bool := fun r c => hb (g r) c
/-- the cells of a desk: its matrices' array, its kept ones, its numbers' array, matrices, rows, numbers -/
abbrev DQ : Type := Nat × Nat × Nat × (Nat → Nat) × (Nat → Nat → Nat) × (Nat → Nat)
def DK (M : Mem) (d n : Nat) (q : DQ) (u : Nat → Int64) : Prop :=
  ((mK M)[d]? = some (.inr 7) ∧ mR M d 4 = some q.1 ∧ mR M d 5 = some q.2.1 ∧ mR M d 6 = some q.2.2.1) ∧
  (mI M d 0 = nI n ∧ mI M d 1 = (u 1).toInt32 ∧ mI M d 2 = (u 2).toInt32 ∧ mI M d 3 = (u 3).toInt32) ∧
  ((mK M)[q.1]? = some (.inl (.array (.array .boolean), 6)) ∧ (mK M)[q.2.1]? = some (.inl (.boolean, 6)) ∧ (mK M)[q.2.2.1]? = some (.inl (.array .int, 6))) ∧
  ∀ s, s < 6 → (mR M q.1 s = some (q.2.2.2.1 s) ∧ Mt M (q.2.2.2.1 s) n (q.2.2.2.2.1 s) (fB (rI u s))) ∧ (∃ k : Bool, mI M q.2.1 s = b1 k ∧ u (4 + s) = b1L k) ∧ mR M q.2.2.1 s = some (q.2.2.2.2.2 s) ∧ (mK M)[q.2.2.2.2.2 s]? = some (.inl (.int, 3)) ∧ mI M (q.2.2.2.2.2 s) 0 = (u (10 + s)).toInt32 ∧ mI M (q.2.2.2.2.2 s) 1 = (u (16 + s)).toInt32 ∧ mI M (q.2.2.2.2.2 s) 2 = (u (22 + s)).toInt32
/-- whose a cell is, and what for -/
def OW (ρ : Nat → Nat × Nat) (d n : Nat) (q : DQ) : Prop := ρ d = (d, 0) ∧ ρ q.1 = (d, 1) ∧ ρ q.2.1 = (d, 2) ∧ ρ q.2.2.1 = (d, 3) ∧ ∀ s, s < 6 → ρ (q.2.2.2.1 s) = (d, 10 + s) ∧ ρ (q.2.2.2.2.2 s) = (d, 20 + s) ∧ ∀ r, r < n → ρ (q.2.2.2.2.1 s r) = (d, 30 + 16 * s + r)
section
variable {l : Launch} {M M' : Mem} {m n d : Nat} {rw9 : Nat → Nat} {f g : Nat → Nat → Bool} {q : DQ} {u : Nat → Int64} {ρ : Nat → Nat × Nat} {W : Nat → Prop}
theorem Mt.xt (h : Mt M m n rw9 f) (hx : Xt W M M') (h1 : ¬ W m) (h2 : ∀ r, r < n → ¬ W (rw9 r)) : Mt M' m n rw9 f := by
  refine ⟨hx.k h.1, fun r hr => ?_⟩
  obtain ⟨a, b, c⟩ := h.2 r hr
  exact ⟨by rw [hx.R (k_lt h.1) h1]; exact a, hx.k b, fun c9 hc => by rw [hx.I (k_lt b) (h2 r hr)]; exact c c9 hc⟩
theorem Mt.cg (h : Mt M m n rw9 f) (hfg : ∀ r c, r < n → c < n → f r c = g r c) : Mt M m n rw9 g := ⟨h.1, fun r hr => ⟨(h.2 r hr).1, (h.2 r hr).2.1, fun c hc => by rw [← hfg r c hr hc]; exact (h.2 r hr).2.2 c hc⟩⟩
theorem Mt.lt (h : Mt M m n rw9 f) : m < (mK M).length ∧ ∀ r, r < n → rw9 r < (mK M).length := ⟨k_lt h.1, fun r hr => k_lt (h.2 r hr).2.1⟩
/-- a desk stays where none of its cells is written -/
theorem DK.xt (h : DK M d n q u) (ho : OW ρ d n q) (hx : Xt W M M') (hW : ∀ i, i < (mK M).length → W i → (ρ i).1 ≠ d) : DK M' d n q u := by
  obtain ⟨⟨a1, a2, a3, a4⟩, ⟨b1', b2, b3, b4⟩, ⟨c1, c2, c3⟩, hs⟩ := h
  obtain ⟨o1, o2, o3, o4, o5⟩ := ho
  have nd : ¬ W d := fun w => hW d (k_lt a1) w (by rw [o1])
  have n1 : ¬ W q.1 := fun w => hW _ (k_lt c1) w (by rw [o2])
  have n2 : ¬ W q.2.1 := fun w => hW _ (k_lt c2) w (by rw [o3])
  have n3 : ¬ W q.2.2.1 := fun w => hW _ (k_lt c3) w (by rw [o4])
  refine ⟨⟨hx.k a1, by rw [hx.R (k_lt a1) nd]; exact a2, by rw [hx.R (k_lt a1) nd]; exact a3, by rw [hx.R (k_lt a1) nd]; exact a4⟩, ⟨by rw [hx.I (k_lt a1) nd]; exact b1', by rw [hx.I (k_lt a1) nd]; exact b2, by rw [hx.I (k_lt a1) nd]; exact b3, by rw [hx.I (k_lt a1) nd]; exact b4⟩, ⟨hx.k c1, hx.k c2, hx.k c3⟩, fun s hs9 => ?_⟩
  obtain ⟨⟨e1, e2⟩, ⟨k, e3, e4⟩, e5, e6, e7, e8, e9⟩ := hs s hs9
  obtain ⟨p1, p2, p3⟩ := o5 s hs9
  have nn : ¬ W (q.2.2.2.2.2 s) := fun w => hW _ (k_lt e6) w (by rw [p2])
  refine ⟨⟨by rw [hx.R (k_lt c1) n1]; exact e1, e2.xt hx (fun w => hW _ e2.lt.1 w (by rw [p1])) (fun r hr w => hW _ (e2.lt.2 r hr) w (by rw [p3 r hr]))⟩, ⟨k, by rw [hx.I (k_lt c2) n2]; exact e3, e4⟩, by rw [hx.R (k_lt c3) n3]; exact e5, hx.k e6, ?_, ?_, ?_⟩
  · rw [hx.I (k_lt e6) nn]
    exact e7
  · rw [hx.I (k_lt e6) nn]
    exact e8
  · rw [hx.I (k_lt e6) nn]
    exact e9
theorem DK.z (h : DK M d n q u) : mI M d 0 = nI n := h.2.1.1
/-- ones of a row, of a matrix -/
def cR (f : Nat → Bool) : Nat → Nat
  | 0 => 0
  | c + 1 => cR f c + (match f c with | true => 1 | false => 0)
def cM (f : Nat → Nat → Bool) (n : Nat) : Nat → Nat
  | 0 => 0
  | r + 1 => cM f n r + cR (f r) n
theorem k_ones (h : Mt M m n rw9 f) (hn : n ≤ 9) : EvR l jX7_ones 0 0 0 0 [.ref d, .ref m] M (.inl (some (.int (nI (cM f n n))))) M := by
  refine ev_intro rfl (nb rfl) rfl ?_
  refine g_iconst (pc := 0) (v := 0) dX7_ones_0 rfl ?_
  refine g_istore_n (pc := 1) (lv' := [(0, _), (1, _), (2, _)]) dX7_ones_1 (nl rfl) rfl ?_
  refine g_aload_n (pc := 2) dX7_ones_2 rfl trivial ?_
  refine g_astore_n (pc := 3) (lv' := [(0, _), (1, _), (2, _), (3, _)]) dX7_ones_3 trivial (nl rfl) rfl ?_
  refine g_aload_n (pc := 4) dX7_ones_4 rfl trivial ?_
  refine g_alen_Z1 (pc := 5) dX7_ones_5 (h.1) ?_
  refine g_istore (pc := 6) (lv' := [(0, _), (1, _), (2, _), (3, _), (4, _)]) dX7_ones_6 (nl rfl) rfl ?_
  refine g_iconst (pc := 8) (v := 0) dX7_ones_8 rfl ?_
  refine g_istore (pc := 9) (lv' := [(0, _), (1, _), (2, _), (3, _), (4, _), (5, _)]) dX7_ones_9 (nl rfl) rfl ?_
  refine go_loop (pc := 11) n (fun i => [(0, .ref d), (1, .ref m), (2, .int (nI (cM f n i))), (3, .ref m), (4, .int (nI n)), (5, .int (nI i))]) (fun _ => M) ⟨rfl, rfl, rfl, rfl, rfl, rfl, trivial⟩ rfl ?_ ?_
  · intro i hi ih
    refine g_iload (pc := 11) dX7_ones_11 rfl ?_
    refine g_iload (pc := 13) dX7_ones_13 rfl ?_
    refine g_icmp_ge (pc := 15) (tgt := 75) dX7_ones_15 rfl (fun h15 => absurd h15 (nI_ge hi (by omega))) (fun _ => ?_)
    refine g_aload_n (pc := 18) dX7_ones_18 rfl trivial ?_
    refine g_iload (pc := 19) dX7_ones_19 rfl ?_
    refine g_aaload_Z1 (pc := 21) dX7_ones_21 h.1 rfl hi (by omega) (h.2 i hi).1 ?_
    refine g_astore (pc := 22) (lv' := [(0, _), (1, _), (2, _), (3, _), (4, _), (5, _), (6, _)]) dX7_ones_22 trivial (nl rfl) rfl ?_
    refine g_aload (pc := 24) dX7_ones_24 rfl trivial ?_
    refine g_astore (pc := 26) (lv' := [(0, _), (1, _), (2, _), (3, _), (4, _), (5, _), (6, _), (7, _)]) dX7_ones_26 trivial (nl rfl) rfl ?_
    refine g_aload (pc := 28) dX7_ones_28 rfl trivial ?_
    refine g_alen_Z (pc := 30) dX7_ones_30 ((h.2 i hi).2.1) ?_
    refine g_istore (pc := 31) (lv' := [(0, _), (1, _), (2, _), (3, _), (4, _), (5, _), (6, _), (7, _), (8, _)]) dX7_ones_31 (nl rfl) rfl ?_
    refine g_iconst (pc := 33) (v := 0) dX7_ones_33 rfl ?_
    refine g_istore (pc := 34) (lv' := [(0, _), (1, _), (2, _), (3, _), (4, _), (5, _), (6, _), (7, _), (8, _), (9, _)]) dX7_ones_34 (nl rfl) rfl ?_
    refine go_loop (pc := 36) n (fun j => [(0, .ref d), (1, .ref m), (2, .int (nI (cM f n i + cR (f i) j))), (3, .ref m), (4, .int (nI n)), (5, .int (nI i)), (6, .ref (rw9 i)), (7, .ref (rw9 i)), (8, .int (nI n)), (9, .int (nI j))]) (fun _ => M) ⟨rfl, rfl, rfl, rfl, rfl, rfl, rfl, rfl, rfl, rfl, trivial⟩ rfl ?_ ?_
    · intro j hj ih2
      have hv := (h.2 i hi).2.2 j hj
      have e1 : cM f n i + cR (f i) (j + 1) = cM f n i + cR (f i) j + (match f i j with | true => 1 | false => 0) := by rw [cR, Nat.add_assoc]
      rw [e1] at ih2
      cases hf : f i j
      · rw [hf] at hv ih2
        refine g_iload (pc := 36) dX7_ones_36 rfl ?_
        refine g_iload (pc := 38) dX7_ones_38 rfl ?_
        refine g_icmp_ge (pc := 40) (tgt := 69) dX7_ones_40 rfl (fun h40 => absurd h40 (nI_ge hj (by omega))) (fun _ => ?_)
        refine g_aload (pc := 43) dX7_ones_43 rfl trivial ?_
        refine g_iload (pc := 45) dX7_ones_45 rfl ?_
        refine g_zaload (pc := 47) dX7_ones_47 (h.2 i hi).2.1 rfl hj (by omega) ?_
        rw [hv]
        refine g_istore (pc := 48) (lv' := [(0, _), (1, _), (2, _), (3, _), (4, _), (5, _), (6, _), (7, _), (8, _), (9, _), (10, _)]) dX7_ones_48 (nl rfl) rfl ?_
        refine g_iload_n (pc := 50) dX7_ones_50 rfl ?_
        refine g_iload (pc := 51) dX7_ones_51 rfl ?_
        refine g_if_eq (pc := 53) (tgt := 60) dX7_ones_53 rfl (fun _ => ?_) (fun h53 => absurd (rfl) h53)
        refine g_iconst (pc := 60) (v := 0) dX7_ones_60 rfl ?_
        refine g_iadd (pc := 61) dX7_ones_61 ?_
        rw [show nI (cM f n i + cR (f i) j) + 0 = nI (cM f n i + cR (f i) j + 0) from nI_add _ 0]
        refine g_istore_n (pc := 62) (lv' := [(0, _), (1, _), (2, _), (3, _), (4, _), (5, _), (6, _), (7, _), (8, _), (9, _), (10, _)]) dX7_ones_62 (nl rfl) rfl ?_
        refine g_iinc (pc := 63) (lv' := [(0, _), (1, _), (2, _), (3, _), (4, _), (5, _), (6, _), (7, _), (8, _), (9, _), (10, _)]) dX7_ones_63 rfl (nI_1 _) (nl rfl) rfl ?_
        refine g_goto (pc := 66) (tgt := 36) dX7_ones_66 rfl ?_
        exact g_subk ih2 ⟨rfl, rfl, rfl, rfl, rfl, rfl, rfl, rfl, rfl, rfl, trivial⟩
      · rw [hf] at hv ih2
        refine g_iload (pc := 36) dX7_ones_36 rfl ?_
        refine g_iload (pc := 38) dX7_ones_38 rfl ?_
        refine g_icmp_ge (pc := 40) (tgt := 69) dX7_ones_40 rfl (fun h40 => absurd h40 (nI_ge hj (by omega))) (fun _ => ?_)
        refine g_aload (pc := 43) dX7_ones_43 rfl trivial ?_
        refine g_iload (pc := 45) dX7_ones_45 rfl ?_
        refine g_zaload (pc := 47) dX7_ones_47 (h.2 i hi).2.1 rfl hj (by omega) ?_
        rw [hv]
        refine g_istore (pc := 48) (lv' := [(0, _), (1, _), (2, _), (3, _), (4, _), (5, _), (6, _), (7, _), (8, _), (9, _), (10, _)]) dX7_ones_48 (nl rfl) rfl ?_
        refine g_iload_n (pc := 50) dX7_ones_50 rfl ?_
        refine g_iload (pc := 51) dX7_ones_51 rfl ?_
        refine g_if_eq (pc := 53) (tgt := 60) dX7_ones_53 rfl (fun h53 => absurd h53 ((by decide))) (fun _ => ?_)
        refine g_iconst (pc := 56) (v := 1) dX7_ones_56 rfl ?_
        refine g_goto (pc := 57) (tgt := 61) dX7_ones_57 rfl ?_
        refine g_iadd (pc := 61) dX7_ones_61 ?_
        rw [show nI (cM f n i + cR (f i) j) + 1 = nI (cM f n i + cR (f i) j + 1) from nI_add _ 1]
        refine g_istore_n (pc := 62) (lv' := [(0, _), (1, _), (2, _), (3, _), (4, _), (5, _), (6, _), (7, _), (8, _), (9, _), (10, _)]) dX7_ones_62 (nl rfl) rfl ?_
        refine g_iinc (pc := 63) (lv' := [(0, _), (1, _), (2, _), (3, _), (4, _), (5, _), (6, _), (7, _), (8, _), (9, _), (10, _)]) dX7_ones_63 rfl (nI_1 _) (nl rfl) rfl ?_
        refine g_goto (pc := 66) (tgt := 36) dX7_ones_66 rfl ?_
        exact g_subk ih2 ⟨rfl, rfl, rfl, rfl, rfl, rfl, rfl, rfl, rfl, rfl, trivial⟩
    · refine g_iload (pc := 36) dX7_ones_36 rfl ?_
      refine g_iload (pc := 38) dX7_ones_38 rfl ?_
      refine g_icmp_ge (pc := 40) (tgt := 69) dX7_ones_40 rfl (fun _ => ?_) (fun h40 => absurd (nI_le (Nat.le_refl _) (by omega)) h40)
      refine g_iinc (pc := 69) (lv' := [(0, _), (1, _), (2, _), (3, _), (4, _), (5, _), (6, _), (7, _), (8, _), (9, _)]) dX7_ones_69 rfl (nI_1 _) (nl rfl) rfl ?_
      refine g_goto (pc := 72) (tgt := 11) dX7_ones_72 rfl ?_
      exact g_subk ih ⟨rfl, rfl, rfl, rfl, rfl, rfl, trivial⟩
  · refine g_iload (pc := 11) dX7_ones_11 rfl ?_
    refine g_iload (pc := 13) dX7_ones_13 rfl ?_
    refine g_icmp_ge (pc := 15) (tgt := 75) dX7_ones_15 rfl (fun _ => ?_) (fun h15 => absurd (nI_le (Nat.le_refl _) (by omega)) h15)
    refine g_iload_n (pc := 75) dX7_ones_75 rfl ?_
    refine g_ireturn (pc := 76) dX7_ones_76 rfl rfl ?_
    exact ⟨rfl, rfl⟩
/-- places where two matrices part -/
def dM (f g : Nat → Nat → Bool) (n : Nat) : Nat → Nat := cM (fun r c => Bool.xor (f r c) (g r c)) n
theorem k_differ {m2 : Nat} {rw2 : Nat → Nat} (hd : (mK M)[d]? = some (.inr 7)) (hz : mI M d 0 = nI n) (h : Mt M m n rw9 f) (h2 : Mt M m2 n rw2 g) (hn : n ≤ 9) : EvR l jX7_differ 0 0 0 0 [.ref d, .ref m, .ref m2] M (.inl (some (.int (nI (dM f g n n))))) M := by
  refine ev_intro rfl (nb rfl) rfl ?_
  refine g_iconst (pc := 0) (v := 0) dX7_differ_0 rfl ?_
  refine g_istore_n (pc := 1) (lv' := [(0, _), (1, _), (2, _), (3, _)]) dX7_differ_1 (nl rfl) rfl ?_
  refine g_iconst (pc := 2) (v := 0) dX7_differ_2 rfl ?_
  refine g_istore (pc := 3) (lv' := [(0, _), (1, _), (2, _), (3, _), (4, _)]) dX7_differ_3 (nl rfl) rfl ?_
  refine go_loop (pc := 5) n (fun i => [(0, .ref d), (1, .ref m), (2, .ref m2), (3, .int (nI (dM f g n i))), (4, .int (nI i))]) (fun _ => M) ⟨rfl, rfl, rfl, rfl, rfl, trivial⟩ rfl ?_ ?_
  · intro i hi ih
    refine g_iload (pc := 5) dX7_differ_5 rfl ?_
    refine g_aload_n (pc := 7) dX7_differ_7 rfl trivial ?_
    refine g_getf (pc := 8) (v := .int _) dX7_differ_8 fk_X7_22 hd (fun _ => congrArg Value.int (hz)) ?_
    refine g_icmp_ge (pc := 11) (tgt := 63) dX7_differ_11 rfl (fun h11 => absurd h11 (nI_ge hi (by omega))) (fun _ => ?_)
    refine g_iconst (pc := 14) (v := 0) dX7_differ_14 rfl ?_
    refine g_istore (pc := 15) (lv' := [(0, _), (1, _), (2, _), (3, _), (4, _), (5, _)]) dX7_differ_15 (nl rfl) rfl ?_
    refine go_loop (pc := 17) n (fun j => [(0, .ref d), (1, .ref m), (2, .ref m2), (3, .int (nI (dM f g n i + cR (fun c => Bool.xor (f i c) (g i c)) j))), (4, .int (nI i)), (5, .int (nI j))]) (fun _ => M) ⟨rfl, rfl, rfl, rfl, rfl, rfl, trivial⟩ rfl ?_ ?_
    · intro j hj ih2
      have hv := (h.2 i hi).2.2 j hj
      have hv2 := (h2.2 i hi).2.2 j hj
      have e1 : dM f g n i + cR (fun c => Bool.xor (f i c) (g i c)) (j + 1) = dM f g n i + cR (fun c => Bool.xor (f i c) (g i c)) j + (match Bool.xor (f i j) (g i j) with | true => 1 | false => 0) := by rw [cR, Nat.add_assoc]
      rw [e1] at ih2
      generalize dM f g n i + cR (fun c => Bool.xor (f i c) (g i c)) j = w at *
      cases hf : f i j <;> cases hg : g i j
      · rw [hf, hg] at ih2
        rw [hf] at hv
        rw [hg] at hv2
        refine g_iload (pc := 17) dX7_differ_17 rfl ?_
        refine g_aload_n (pc := 19) dX7_differ_19 rfl trivial ?_
        refine g_getf (pc := 20) (v := .int _) dX7_differ_20 fk_X7_22 hd (fun _ => congrArg Value.int (hz)) ?_
        refine g_icmp_ge (pc := 23) (tgt := 57) dX7_differ_23 rfl (fun h23 => absurd h23 (nI_ge hj (by omega))) (fun _ => ?_)
        refine g_iload_n (pc := 26) dX7_differ_26 rfl ?_
        refine g_aload_n (pc := 27) dX7_differ_27 rfl trivial ?_
        refine g_iload (pc := 28) dX7_differ_28 rfl ?_
        refine g_aaload_Z1 (pc := 30) dX7_differ_30 h.1 rfl hi (by omega) (h.2 i hi).1 ?_
        refine g_iload (pc := 31) dX7_differ_31 rfl ?_
        refine g_zaload (pc := 33) dX7_differ_33 (h.2 i hi).2.1 rfl hj (by omega) ?_
        rw [hv]
        refine g_aload_n (pc := 34) dX7_differ_34 rfl trivial ?_
        refine g_iload (pc := 35) dX7_differ_35 rfl ?_
        refine g_aaload_Z1 (pc := 37) dX7_differ_37 h2.1 rfl hi (by omega) (h2.2 i hi).1 ?_
        refine g_iload (pc := 38) dX7_differ_38 rfl ?_
        refine g_zaload (pc := 40) dX7_differ_40 (h2.2 i hi).2.1 rfl hj (by omega) ?_
        rw [hv2]
        refine g_icmp_eq (pc := 41) (tgt := 48) dX7_differ_41 rfl (fun _ => ?_) (fun h41 => absurd (rfl) h41)
        refine g_iconst (pc := 48) (v := 0) dX7_differ_48 rfl ?_
        refine g_iadd (pc := 49) dX7_differ_49 ?_
        rw [show nI w + 0 = nI (w + 0) from nI_add _ 0]
        refine g_istore_n (pc := 50) (lv' := [(0, _), (1, _), (2, _), (3, _), (4, _), (5, _)]) dX7_differ_50 (nl rfl) rfl ?_
        refine g_iinc (pc := 51) (lv' := [(0, _), (1, _), (2, _), (3, _), (4, _), (5, _)]) dX7_differ_51 rfl (nI_1 _) (nl rfl) rfl ?_
        refine g_goto (pc := 54) (tgt := 17) dX7_differ_54 rfl ?_
        exact g_subk ih2 ⟨rfl, rfl, rfl, rfl, rfl, rfl, trivial⟩
      · rw [hf, hg] at ih2
        rw [hf] at hv
        rw [hg] at hv2
        refine g_iload (pc := 17) dX7_differ_17 rfl ?_
        refine g_aload_n (pc := 19) dX7_differ_19 rfl trivial ?_
        refine g_getf (pc := 20) (v := .int _) dX7_differ_20 fk_X7_22 hd (fun _ => congrArg Value.int (hz)) ?_
        refine g_icmp_ge (pc := 23) (tgt := 57) dX7_differ_23 rfl (fun h23 => absurd h23 (nI_ge hj (by omega))) (fun _ => ?_)
        refine g_iload_n (pc := 26) dX7_differ_26 rfl ?_
        refine g_aload_n (pc := 27) dX7_differ_27 rfl trivial ?_
        refine g_iload (pc := 28) dX7_differ_28 rfl ?_
        refine g_aaload_Z1 (pc := 30) dX7_differ_30 h.1 rfl hi (by omega) (h.2 i hi).1 ?_
        refine g_iload (pc := 31) dX7_differ_31 rfl ?_
        refine g_zaload (pc := 33) dX7_differ_33 (h.2 i hi).2.1 rfl hj (by omega) ?_
        rw [hv]
        refine g_aload_n (pc := 34) dX7_differ_34 rfl trivial ?_
        refine g_iload (pc := 35) dX7_differ_35 rfl ?_
        refine g_aaload_Z1 (pc := 37) dX7_differ_37 h2.1 rfl hi (by omega) (h2.2 i hi).1 ?_
        refine g_iload (pc := 38) dX7_differ_38 rfl ?_
        refine g_zaload (pc := 40) dX7_differ_40 (h2.2 i hi).2.1 rfl hj (by omega) ?_
        rw [hv2]
        refine g_icmp_eq (pc := 41) (tgt := 48) dX7_differ_41 rfl (fun h41 => absurd h41 ((by decide))) (fun _ => ?_)
        refine g_iconst (pc := 44) (v := 1) dX7_differ_44 rfl ?_
        refine g_goto (pc := 45) (tgt := 49) dX7_differ_45 rfl ?_
        refine g_iadd (pc := 49) dX7_differ_49 ?_
        rw [show nI w + 1 = nI (w + 1) from nI_add _ 1]
        refine g_istore_n (pc := 50) (lv' := [(0, _), (1, _), (2, _), (3, _), (4, _), (5, _)]) dX7_differ_50 (nl rfl) rfl ?_
        refine g_iinc (pc := 51) (lv' := [(0, _), (1, _), (2, _), (3, _), (4, _), (5, _)]) dX7_differ_51 rfl (nI_1 _) (nl rfl) rfl ?_
        refine g_goto (pc := 54) (tgt := 17) dX7_differ_54 rfl ?_
        exact g_subk ih2 ⟨rfl, rfl, rfl, rfl, rfl, rfl, trivial⟩
      · rw [hf, hg] at ih2
        rw [hf] at hv
        rw [hg] at hv2
        refine g_iload (pc := 17) dX7_differ_17 rfl ?_
        refine g_aload_n (pc := 19) dX7_differ_19 rfl trivial ?_
        refine g_getf (pc := 20) (v := .int _) dX7_differ_20 fk_X7_22 hd (fun _ => congrArg Value.int (hz)) ?_
        refine g_icmp_ge (pc := 23) (tgt := 57) dX7_differ_23 rfl (fun h23 => absurd h23 (nI_ge hj (by omega))) (fun _ => ?_)
        refine g_iload_n (pc := 26) dX7_differ_26 rfl ?_
        refine g_aload_n (pc := 27) dX7_differ_27 rfl trivial ?_
        refine g_iload (pc := 28) dX7_differ_28 rfl ?_
        refine g_aaload_Z1 (pc := 30) dX7_differ_30 h.1 rfl hi (by omega) (h.2 i hi).1 ?_
        refine g_iload (pc := 31) dX7_differ_31 rfl ?_
        refine g_zaload (pc := 33) dX7_differ_33 (h.2 i hi).2.1 rfl hj (by omega) ?_
        rw [hv]
        refine g_aload_n (pc := 34) dX7_differ_34 rfl trivial ?_
        refine g_iload (pc := 35) dX7_differ_35 rfl ?_
        refine g_aaload_Z1 (pc := 37) dX7_differ_37 h2.1 rfl hi (by omega) (h2.2 i hi).1 ?_
        refine g_iload (pc := 38) dX7_differ_38 rfl ?_
        refine g_zaload (pc := 40) dX7_differ_40 (h2.2 i hi).2.1 rfl hj (by omega) ?_
        rw [hv2]
        refine g_icmp_eq (pc := 41) (tgt := 48) dX7_differ_41 rfl (fun h41 => absurd h41 ((by decide))) (fun _ => ?_)
        refine g_iconst (pc := 44) (v := 1) dX7_differ_44 rfl ?_
        refine g_goto (pc := 45) (tgt := 49) dX7_differ_45 rfl ?_
        refine g_iadd (pc := 49) dX7_differ_49 ?_
        rw [show nI w + 1 = nI (w + 1) from nI_add _ 1]
        refine g_istore_n (pc := 50) (lv' := [(0, _), (1, _), (2, _), (3, _), (4, _), (5, _)]) dX7_differ_50 (nl rfl) rfl ?_
        refine g_iinc (pc := 51) (lv' := [(0, _), (1, _), (2, _), (3, _), (4, _), (5, _)]) dX7_differ_51 rfl (nI_1 _) (nl rfl) rfl ?_
        refine g_goto (pc := 54) (tgt := 17) dX7_differ_54 rfl ?_
        exact g_subk ih2 ⟨rfl, rfl, rfl, rfl, rfl, rfl, trivial⟩
      · rw [hf, hg] at ih2
        rw [hf] at hv
        rw [hg] at hv2
        refine g_iload (pc := 17) dX7_differ_17 rfl ?_
        refine g_aload_n (pc := 19) dX7_differ_19 rfl trivial ?_
        refine g_getf (pc := 20) (v := .int _) dX7_differ_20 fk_X7_22 hd (fun _ => congrArg Value.int (hz)) ?_
        refine g_icmp_ge (pc := 23) (tgt := 57) dX7_differ_23 rfl (fun h23 => absurd h23 (nI_ge hj (by omega))) (fun _ => ?_)
        refine g_iload_n (pc := 26) dX7_differ_26 rfl ?_
        refine g_aload_n (pc := 27) dX7_differ_27 rfl trivial ?_
        refine g_iload (pc := 28) dX7_differ_28 rfl ?_
        refine g_aaload_Z1 (pc := 30) dX7_differ_30 h.1 rfl hi (by omega) (h.2 i hi).1 ?_
        refine g_iload (pc := 31) dX7_differ_31 rfl ?_
        refine g_zaload (pc := 33) dX7_differ_33 (h.2 i hi).2.1 rfl hj (by omega) ?_
        rw [hv]
        refine g_aload_n (pc := 34) dX7_differ_34 rfl trivial ?_
        refine g_iload (pc := 35) dX7_differ_35 rfl ?_
        refine g_aaload_Z1 (pc := 37) dX7_differ_37 h2.1 rfl hi (by omega) (h2.2 i hi).1 ?_
        refine g_iload (pc := 38) dX7_differ_38 rfl ?_
        refine g_zaload (pc := 40) dX7_differ_40 (h2.2 i hi).2.1 rfl hj (by omega) ?_
        rw [hv2]
        refine g_icmp_eq (pc := 41) (tgt := 48) dX7_differ_41 rfl (fun _ => ?_) (fun h41 => absurd (rfl) h41)
        refine g_iconst (pc := 48) (v := 0) dX7_differ_48 rfl ?_
        refine g_iadd (pc := 49) dX7_differ_49 ?_
        rw [show nI w + 0 = nI (w + 0) from nI_add _ 0]
        refine g_istore_n (pc := 50) (lv' := [(0, _), (1, _), (2, _), (3, _), (4, _), (5, _)]) dX7_differ_50 (nl rfl) rfl ?_
        refine g_iinc (pc := 51) (lv' := [(0, _), (1, _), (2, _), (3, _), (4, _), (5, _)]) dX7_differ_51 rfl (nI_1 _) (nl rfl) rfl ?_
        refine g_goto (pc := 54) (tgt := 17) dX7_differ_54 rfl ?_
        exact g_subk ih2 ⟨rfl, rfl, rfl, rfl, rfl, rfl, trivial⟩
    · refine g_iload (pc := 17) dX7_differ_17 rfl ?_
      refine g_aload_n (pc := 19) dX7_differ_19 rfl trivial ?_
      refine g_getf (pc := 20) (v := .int _) dX7_differ_20 fk_X7_22 hd (fun _ => congrArg Value.int (hz)) ?_
      refine g_icmp_ge (pc := 23) (tgt := 57) dX7_differ_23 rfl (fun _ => ?_) (fun h23 => absurd (nI_le (Nat.le_refl _) (by omega)) h23)
      refine g_iinc (pc := 57) (lv' := [(0, _), (1, _), (2, _), (3, _), (4, _), (5, _)]) dX7_differ_57 rfl (nI_1 _) (nl rfl) rfl ?_
      refine g_goto (pc := 60) (tgt := 5) dX7_differ_60 rfl ?_
      exact g_subk ih ⟨rfl, rfl, rfl, rfl, rfl, trivial⟩
  · refine g_iload (pc := 5) dX7_differ_5 rfl ?_
    refine g_aload_n (pc := 7) dX7_differ_7 rfl trivial ?_
    refine g_getf (pc := 8) (v := .int _) dX7_differ_8 fk_X7_22 hd (fun _ => congrArg Value.int (hz)) ?_
    refine g_icmp_ge (pc := 11) (tgt := 63) dX7_differ_11 rfl (fun _ => ?_) (fun h11 => absurd (nI_le (Nat.le_refl _) (by omega)) h11)
    refine g_iload_n (pc := 63) dX7_differ_63 rfl ?_
    refine g_ireturn (pc := 64) dX7_differ_64 rfl rfl ?_
    exact ⟨rfl, rfl⟩
/-- a row's bits as a long -/
def rowL (f : Nat → Bool) : Nat → Int64
  | 0 => 0
  | c + 1 => rowL f c + (match f c with | true => (1 : Int64) <<< ((nI c).toInt64 &&& 63) | false => 0)
theorem k_row {r : Nat} (hd : (mK M)[d]? = some (.inr 7)) (hz : mI M d 0 = nI n) (h : Mt M m n rw9 f) (hr : r < n) (hn : n ≤ 9) : EvR l jX7_row 0 0 0 0 [.ref d, .ref m, .int (nI r)] M (.inl (some (.long (rowL (f r) n)))) M := by
  refine ev_intro rfl (nb rfl) rfl ?_
  refine g_lconst (pc := 0) (v := 0) dX7_row_0 rfl ?_
  refine g_lstore_n (pc := 1) (lv' := [(0, _), (1, _), (2, _), (3, _)]) dX7_row_1 (nl rfl) rfl ?_
  refine g_iconst (pc := 2) (v := 0) dX7_row_2 rfl ?_
  refine g_istore (pc := 3) (lv' := [(0, _), (1, _), (2, _), (3, _), (5, _)]) dX7_row_3 (nl rfl) rfl ?_
  refine go_loop (pc := 5) n (fun i => [(0, .ref d), (1, .ref m), (2, .int (nI r)), (3, .long (rowL (f r) i)), (5, .int (nI i))]) (fun _ => M) ⟨rfl, rfl, rfl, rfl, rfl, trivial⟩ rfl ?_ ?_
  · intro i hi ih
    have hv := (h.2 r hr).2.2 i hi
    have e1 : rowL (f r) (i + 1) = rowL (f r) i + (match f r i with | true => (1 : Int64) <<< ((nI i).toInt64 &&& 63) | false => 0) := rfl
    rw [e1] at ih
    cases hf : f r i
    · rw [hf] at hv ih
      refine g_iload (pc := 5) dX7_row_5 rfl ?_
      refine g_aload_n (pc := 7) dX7_row_7 rfl trivial ?_
      refine g_getf (pc := 8) (v := .int _) dX7_row_8 fk_X7_22 hd (fun _ => congrArg Value.int (hz)) ?_
      refine g_icmp_ge (pc := 11) (tgt := 40) dX7_row_11 rfl (fun h11 => absurd h11 (nI_ge hi (by omega))) (fun _ => ?_)
      refine g_lload_n (pc := 14) dX7_row_14 rfl ?_
      refine g_aload_n (pc := 15) dX7_row_15 rfl trivial ?_
      refine g_iload_n (pc := 16) dX7_row_16 rfl ?_
      refine g_aaload_Z1 (pc := 17) dX7_row_17 h.1 rfl hr (by omega) (h.2 r hr).1 ?_
      refine g_iload (pc := 18) dX7_row_18 rfl ?_
      refine g_zaload (pc := 20) dX7_row_20 (h.2 r hr).2.1 rfl hi (by omega) ?_
      rw [hv]
      refine g_if_eq (pc := 21) (tgt := 31) dX7_row_21 rfl (fun _ => ?_) (fun h21 => absurd (rfl) h21)
      refine g_lconst (pc := 31) (v := 0) dX7_row_31 rfl ?_
      refine g_ladd (pc := 32) dX7_row_32 ?_
      refine g_lstore_n (pc := 33) (lv' := [(0, _), (1, _), (2, _), (3, _), (5, _)]) dX7_row_33 (nl rfl) rfl ?_
      refine g_iinc (pc := 34) (lv' := [(0, _), (1, _), (2, _), (3, _), (5, _)]) dX7_row_34 rfl (nI_1 _) (nl rfl) rfl ?_
      refine g_goto (pc := 37) (tgt := 5) dX7_row_37 rfl ?_
      exact g_subk ih ⟨rfl, rfl, rfl, rfl, rfl, trivial⟩
    · rw [hf] at hv ih
      refine g_iload (pc := 5) dX7_row_5 rfl ?_
      refine g_aload_n (pc := 7) dX7_row_7 rfl trivial ?_
      refine g_getf (pc := 8) (v := .int _) dX7_row_8 fk_X7_22 hd (fun _ => congrArg Value.int (hz)) ?_
      refine g_icmp_ge (pc := 11) (tgt := 40) dX7_row_11 rfl (fun h11 => absurd h11 (nI_ge hi (by omega))) (fun _ => ?_)
      refine g_lload_n (pc := 14) dX7_row_14 rfl ?_
      refine g_aload_n (pc := 15) dX7_row_15 rfl trivial ?_
      refine g_iload_n (pc := 16) dX7_row_16 rfl ?_
      refine g_aaload_Z1 (pc := 17) dX7_row_17 h.1 rfl hr (by omega) (h.2 r hr).1 ?_
      refine g_iload (pc := 18) dX7_row_18 rfl ?_
      refine g_zaload (pc := 20) dX7_row_20 (h.2 r hr).2.1 rfl hi (by omega) ?_
      rw [hv]
      refine g_if_eq (pc := 21) (tgt := 31) dX7_row_21 rfl (fun h21 => absurd h21 ((by decide))) (fun _ => ?_)
      refine g_lconst (pc := 24) (v := 1) dX7_row_24 rfl ?_
      refine g_iload (pc := 25) dX7_row_25 rfl ?_
      refine g_lshl (pc := 27) dX7_row_27 rfl ?_
      refine g_goto (pc := 28) (tgt := 32) dX7_row_28 rfl ?_
      refine g_ladd (pc := 32) dX7_row_32 ?_
      refine g_lstore_n (pc := 33) (lv' := [(0, _), (1, _), (2, _), (3, _), (5, _)]) dX7_row_33 (nl rfl) rfl ?_
      refine g_iinc (pc := 34) (lv' := [(0, _), (1, _), (2, _), (3, _), (5, _)]) dX7_row_34 rfl (nI_1 _) (nl rfl) rfl ?_
      refine g_goto (pc := 37) (tgt := 5) dX7_row_37 rfl ?_
      exact g_subk ih ⟨rfl, rfl, rfl, rfl, rfl, trivial⟩
  · refine g_iload (pc := 5) dX7_row_5 rfl ?_
    refine g_aload_n (pc := 7) dX7_row_7 rfl trivial ?_
    refine g_getf (pc := 8) (v := .int _) dX7_row_8 fk_X7_22 hd (fun _ => congrArg Value.int (hz)) ?_
    refine g_icmp_ge (pc := 11) (tgt := 40) dX7_row_11 rfl (fun _ => ?_) (fun h11 => absurd (nI_le (Nat.le_refl _) (by omega)) h11)
    refine g_lload_n (pc := 40) dX7_row_40 rfl ?_
    refine g_lreturn (pc := 41) dX7_row_41 rfl ?_
    exact ⟨rfl, rfl⟩
/-- a new matrix -/
theorem k_fresh (hd : (mK M)[d]? = some (.inr 7)) (hz : mI M d 0 = nI n) (hn : n ≤ 9) (hx : mX M = true) : EvR l jX7_fresh 0 0 10 90 [.ref d] M (.inl (some (.ref (mK M).length))) (opsM M (os2 .boolean n n (mK M).length)) := by
  have hnn : n * n ≤ 81 := Nat.mul_le_mul hn hn
  refine ev_intro rfl (nb rfl) rfl ?_
  refine g_aload_n (pc := 0) dX7_fresh_0 rfl trivial ?_
  refine g_getf (pc := 1) (v := .int _) dX7_fresh_1 fk_X7_22 hd (fun _ => congrArg Value.int (hz)) ?_
  refine g_aload_n (pc := 4) dX7_fresh_4 rfl trivial ?_
  refine g_getf (pc := 5) (v := .int _) dX7_fresh_5 fk_X7_22 hd (fun _ => congrArg Value.int (hz)) ?_
  refine g_multi2 (pc := 8) dX7_fresh_8 wd_x888 (by decide) (t0 := 4) (fun _ => rfl) (mk2_Z (by omega) (by omega)) (os2_v okT_Z n n) hx (k := 0) (n := 0) (by rw [os2_C]; omega) (by rw [os2_N]; omega) ?_
  refine g_areturn (pc := 12) dX7_fresh_12 rfl (Or.inr ⟨_, rfl⟩) ?_
  exact ⟨rfl, rfl⟩
theorem fresh_Mt (M : Mem) (n : Nat) : Mt (opsM M (os2 .boolean n n (mK M).length)) (mK M).length n (fun r => (mK M).length + 1 + r) (fun _ _ => false) := by
  have h := os2_B M .boolean n n
  exact ⟨h.1, fun r hr => ⟨(h.2 r hr).1, (h.2 r hr).2.1, fun c hc => by rw [(h.2 r hr).2.2]; rfl⟩⟩
end

