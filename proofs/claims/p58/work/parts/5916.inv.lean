/-! answers that are the same -/
theorem lN_any (a : Nat) : (lN a).toInt32 = nI a := by
  apply Int32.toBitVec_inj.mp
  show (BitVec.ofNat 64 a).signExtend 32 = BitVec.ofNat 32 a
  rw [BitVec.signExtend_eq_setWidth_of_le _ (by decide)]
  exact BitVec.setWidth_ofNat_of_le (by decide) a
theorem nI_le9 {x : Int32} {k : Nat} (h1 : ¬ x < 0) (h2 : x ≤ nI k) (hk : k < 2147483648) : ∃ j, j ≤ k ∧ x = nI j := by
  obtain ⟨j, hj, rfl⟩ := nI_of h1
  exact ⟨j, (nI_leI hj hk).mp h2, rfl⟩
theorem cnF_n {f : Nat → Int32} {c : Nat} : ∀ k, cnF f c k = nI (pcb (fun i => hb (f i) c) k)
  | 0 => rfl
  | k + 1 => by
    show cnF f c k + b1 (hb (f k) c) = nI (pcb (fun i => hb (f i) c) k + (hb (f k) c).toNat)
    rw [cnF_n k]
    cases hb (f k) c
    · exact Int32.add_zero _
    · exact nI_o1 _
theorem cn_ok {f : Nat → Int32} {c n : Nat} (hn : n ≤ 32) : bcJ (colOf f c n) = cnF f c n := by
  rw [bcJ_n, cnF_n, pcN_b]
  congr 1
  rw [pcb_trunc 32 hn (fun i hi => by rw [hb_colOf n hn, decide_eq_false (by omega), Bool.false_and])]
  exact pcb_congr n (fun i hi => by rw [hb_colOf n hn, decide_eq_true hi, Bool.true_and])
theorem smF_n {f : Nat → Int32} {n : Nat} : ∀ d i, smF f n d i = true ↔ ∀ j, i ≤ j → j < i + d → f j = colOf f j n
  | 0, i => ⟨fun _ j h1 h2 => absurd h2 (by omega), fun _ => rfl⟩
  | d + 1, i => by
    unfold smF
    by_cases e : f i = colOf f i n
    · rw [if_pos e, smF_n d (i + 1)]
      constructor
      · intro h j h1 h2
        by_cases e2 : j = i
        · rw [e2]
          exact e
        · exact h j (by omega) (by omega)
      · intro h j h1 h2
        exact h j (by omega) (by omega)
    · rw [if_neg e]
      constructor
      · intro h
        cases h
      · intro h
        exact absurd (h i (Nat.le_refl i) (by omega)) e
theorem sm_ok {f : Nat → Int32} {n : Nat} (hw : wfr n f) (hn : n ≤ 32) : smF f n n 0 = true ↔ syP f n := by
  rw [smF_n]
  constructor
  · intro h r hr c hc
    have h1 := h r (Nat.zero_le r) (by omega)
    have h2 : hb (f r) c = hb (colOf f r n) c := congrArg (fun x => hb x c) h1
    rw [h2, hb_colOf n hn, decide_eq_true (show c < n by omega), Bool.true_and]
  · intro h j _ hj
    have hj2 : j < n := by omega
    refine hb_ext (fun i _ => ?_)
    rw [hb_colOf n hn]
    by_cases hi : i < n
    · rw [decide_eq_true hi, Bool.true_and]
      rcases Nat.lt_trichotomy i j with q | q | q
      · exact h j hj2 i q
      · rw [q]
      · exact (h i hi j q).symm
    · rw [decide_eq_false hi, Bool.false_and]
      exact hw j hj2 i (by omega)
theorem col_cg {g g' : Nat → Int32} {a : Nat} : ∀ n, (∀ i, i < n → g i = g' i) → colOf g a n = colOf g' a n
  | 0, _ => rfl
  | n + 1, h => by
    unfold colOf
    rw [col_cg n (fun i hi => h i (by omega)), h n (by omega)]
theorem lm_cg {g g' : Nat → Int32} {a n : Nat} (ha : a < n) (h : ∀ i, i < n → g i = g' i) : lowMut g a n = lowMut g' a n := by
  unfold lowMut
  rw [h a ha, col_cg n h]
theorem cm_cg {g g' : Nat → Int32} {n : Nat} : ∀ k, k ≤ n → (∀ i, i < n → g i = g' i) → cmN g n k = cmN g' n k
  | 0, _, _ => rfl
  | k + 1, hk, h => by
    unfold cmN
    rw [cm_cg k (by omega) h, lm_cg (by omega) h]
section
variable {M R : Mem} {n p c : Nat}
theorem el_E {P : Prop} {s : Nat} {rt rt' g g' : Nat → Int32} (hrt : P → ∀ i, i < n → rt i = rt' i) : esR P n (elIt n (wr (mI M 192) (mI M (6 + 2 * s)) n, rt, g, 0) n) (elIt n (Am M s, rt', g', 0) n) :=
  el_all (P := P) (n := n) (s := (wr (mI M 192) (mI M (6 + 2 * s)) n, rt, g, 0)) (t := (Am M s, rt', g', 0)) ⟨fun i hi => wr_lt hi, hrt, fun j hj => absurd hj (Nat.not_lt_zero _), rfl, Nat.zero_le _⟩ n
theorem rk_E {s : Nat} : nI (rkR R n (Am M s)).2.2.2 = nI (elQ M s n 0).2.2.2 := by
  have h := el_E (M := M) (n := n) (P := False) (s := s) (rt := wr (mI M 193) (fun i => us 0 (nI i) &&& 1) n) (rt' := bsR R) (g := mI M 194) (g' := mI R 210) (fun q => q.elim)
  exact congrArg nI h.2.2.2.1.symm
theorem pv_E {s : Nat} {x : Int32} (hn : n ≤ 32) : (if ¬ x < 0 ∧ x < nI (rkR R n (Am M s)).2.2.2 then (rkR R n (Am M s)).2.2.1 x.toNatClampNeg else -1) = (if ¬ x < 0 ∧ x < nI (elQ M s n 0).2.2.2 then (elQ M s n 0).2.2.1 x.toNatClampNeg else -1) := by
  have h := el_E (M := M) (n := n) (P := False) (s := s) (rt := wr (mI M 193) (fun i => us 0 (nI i) &&& 1) n) (rt' := bsR R) (g := mI M 194) (g' := mI R 210) (fun q => q.elim)
  have hle := elQ_c M s n 0
  rw [show (rkR R n (Am M s)).2.2.2 = (elQ M s n 0).2.2.2 from h.2.2.2.1.symm]
  by_cases q : ¬ x < 0 ∧ x < nI (elQ M s n 0).2.2.2
  · rw [if_pos q, if_pos q]
    obtain ⟨j, hj, rfl⟩ := nI_of q.1
    rw [nI_clamp hj]
    have h3 := (nI_ltI hj (show (elQ M s n 0).2.2.2 < 2147483648 by omega)).mp q.2
    exact (h.2.2.1 j h3).symm
  · rw [if_neg q, if_neg q]
theorem sv_R {s : Nat} {x : Int32} : esR True n (elQ M s n x) (solR R n (Am M s) x) := el_E (fun _ i hi => wr_lt hi)
theorem sv_B {s : Nat} {x : Int32} : solvB (solR R n (Am M s) x) (n - (solR R n (Am M s) x).2.2.2) (solR R n (Am M s) x).2.2.2 = solvB (elQ M s n x) (n - (elQ M s n x).2.2.2) (elQ M s n x).2.2.2 := by
  have h := sv_R (M := M) (R := R) (n := n) (s := s) (x := x)
  rw [← h.2.2.2.1]
  exact (sv_cg (fun i _ hi => h.2.1 trivial i (by have := h.2.2.2.2; omega))).symm
theorem sv_F {s : Nat} {x : Int32} : solF (solR R n (Am M s) x) (solR R n (Am M s) x).2.2.2 = solF (elQ M s n x) (elQ M s n x).2.2.2 := by
  have h := sv_R (M := M) (R := R) (n := n) (s := s) (x := x)
  rw [← h.2.2.2.1]
  exact (so_cg _ (fun j hj => ⟨h.2.1 trivial j (by have := h.2.2.2.2; omega), h.2.2.1 j hj⟩)).symm
theorem sv_E {s : Nat} {x : Int32} : (if solvB (solR R n (Am M s) x) (n - (solR R n (Am M s) x).2.2.2) (solR R n (Am M s) x).2.2.2 = true then uL (solF (solR R n (Am M s) x) (solR R n (Am M s) x).2.2.2) else -1) = (if solvB (elQ M s n x) (n - (elQ M s n x).2.2.2) (elQ M s n x).2.2.2 = true then (solF (elQ M s n x) (elQ M s n x).2.2.2).toInt64 &&& 4294967295 else -1) := by
  rw [sv_B, sv_F]
  rfl
theorem fd_E {s : Nat} {x : Int32} : (if solvB (solR R n (Am M s) x) (n - (solR R n (Am M s) x).2.2.2) (solR R n (Am M s) x).2.2.2 = true then nI n - nI (solR R n (Am M s) x).2.2.2 else -1) = (if solvB (elQ M s n x) (n - (elQ M s n x).2.2.2) (elQ M s n x).2.2.2 = true then nI n - nI (elQ M s n x).2.2.2 else -1) := by
  rw [sv_B, (sv_R (M := M) (R := R) (n := n) (s := s) (x := x)).2.2.2.1]
theorem L1_9 {v : Int64} : mL (pL M 212 0 v) 199 = mL M 199 := sL_ne9 (by decide)
theorem b1_0' (k : Bool) : b1 k = 0 ↔ b1L k = 0 := by
  cases k
  · exact ⟨fun _ => rfl, fun _ => rfl⟩
  · exact ⟨fun h => absurd h (by decide), fun h => absurd h (by decide)⟩
theorem IV.SS (h : IV M n p c) {s : Nat} (hs : s < 6) : SS M 3 (mL M 199) n s := h.2.1.2.2.2.2 s hs
theorem kn_g (h : IV M n p c) {s j i : Nat} (hs : s < 6) (hj : mI M (5 + 2 * s) j = (mL M 199 i).toInt32) {v : Int64} : (if mL (pL M 212 0 v) 199 (4 + s) = 0 then (-1 : Int32) else (mL (pL M 212 0 v) 199 i).toInt32) = (if mI M (5 + 2 * s) 1 = 0 then -1 else mI M (5 + 2 * s) j) := by
  obtain ⟨⟨k, k1, k2⟩, -⟩ := h.SS hs
  rw [show 3 + 2 + 2 * s = 5 + 2 * s by omega] at k1
  rw [L1_9, k2, k1, hj]
  by_cases q : b1 k = 0
  · rw [if_pos q, if_pos ((b1_0' k).mp q)]
  · rw [if_neg q, if_neg (fun e => q ((b1_0' k).mpr e))]
theorem kn_0 (h : IV M n p c) {s : Nat} (hs : s < 6) {v : Int64} : (if mL (pL M 212 0 v) 199 (4 + s) = 0 then (-1 : Int32) else (mL (pL M 212 0 v) 199 (10 + 6 * 0 + s)).toInt32) = (if mI M (5 + 2 * s) 1 = 0 then -1 else mI M (5 + 2 * s) 2) := kn_g h hs (by
  have := (h.SS hs).2.1
  rw [show 3 + 2 + 2 * s = 5 + 2 * s by omega] at this
  exact this)
theorem kn_1 (h : IV M n p c) {s : Nat} (hs : s < 6) {v : Int64} : (if mL (pL M 212 0 v) 199 (4 + s) = 0 then (-1 : Int32) else (mL (pL M 212 0 v) 199 (10 + 6 * 1 + s)).toInt32) = (if mI M (5 + 2 * s) 1 = 0 then -1 else mI M (5 + 2 * s) 3) := kn_g h hs (by
  have := (h.SS hs).2.2.1
  rw [show 3 + 2 + 2 * s = 5 + 2 * s by omega] at this
  exact this)
theorem kn_2 (h : IV M n p c) {s : Nat} (hs : s < 6) {v : Int64} : (if mL (pL M 212 0 v) 199 (4 + s) = 0 then (-1 : Int32) else (mL (pL M 212 0 v) 199 (10 + 6 * 2 + s)).toInt32) = (if mI M (5 + 2 * s) 1 = 0 then -1 else mI M (5 + 2 * s) 4) := kn_g h hs (by
  have := (h.SS hs).2.2.2.1
  rw [show 3 + 2 + 2 * s = 5 + 2 * s by omega] at this
  exact this)
theorem wk_0 (h : IV M n p c) {v : Int64} : (mL (pL M 212 0 v) 199 (2 + 0)).toInt32 = mI M 3 3 := by
  obtain ⟨a, a1, a2⟩ := h.2.1.2.2.1
  rw [L1_9, show 2 + 0 = 2 from rfl, a2, a1, lN_any]
theorem wk_1 (h : IV M n p c) {v : Int64} : (mL (pL M 212 0 v) 199 (2 + 1)).toInt32 = mI M 3 4 := by
  obtain ⟨a, a1, a2⟩ := h.2.1.2.2.2.1
  rw [L1_9, show 2 + 1 = 3 from rfl, a2, a1, lN_any]
/-- which slots are kept -/
def kpB (M : Mem) (s : Nat) : Bool := decide (mI M (5 + 2 * s) 1 = 1)
theorem kpB_ok (h : IV M n p c) {s : Nat} (hs : s < 6) : mI M (5 + 2 * s) 1 = b1 (kpB M s) ∧ mL M 199 (4 + s) = b1L (kpB M s) := by
  obtain ⟨⟨k, k1, k2⟩, -⟩ := h.SS hs
  rw [show 3 + 2 + 2 * s = 5 + 2 * s by omega] at k1
  have e : kpB M s = k := by
    unfold kpB
    rw [k1]
    cases k <;> decide
  rw [e]
  exact ⟨k1, k2⟩
theorem ct_0 (h : IV M n p c) {v : Int64} : (if 0 < 2 then (mL (pL M 212 0 v) 199 0).toInt32 else if (0 : Nat) = 2 then kmI (mL (pL M 212 0 v) 199) 6 else mI (pL M 212 0 v) 198 5) = mI M 3 1 := by
  rw [if_pos (by decide), L1_9, h.2.1.1.2.2.2, h.z, lN_any]
theorem ct_1 (h : IV M n p c) {v : Int64} : (if 1 < 2 then (mL (pL M 212 0 v) 199 1).toInt32 else if (1 : Nat) = 2 then kmI (mL (pL M 212 0 v) 199) 6 else mI (pL M 212 0 v) 198 5) = mI M 3 2 := by
  obtain ⟨a, -, -, a1, a2⟩ := h.2.1.2.1
  rw [if_pos (by decide), L1_9, a2, a1, lN_any]
theorem ct_2 (h : IV M n p c) {v : Int64} : (if 2 < 2 then (mL (pL M 212 0 v) 199 2).toInt32 else if (2 : Nat) = 2 then kmI (mL (pL M 212 0 v) 199) 6 else mI (pL M 212 0 v) 198 5) = nI (keptC M 6) := by
  rw [if_neg (by decide), if_pos rfl, L1_9, km_ok (K := kpB M) 6 (fun s hs => (kpB_ok h hs).2), kc_ok (K := kpB M) 6 (fun s hs => (kpB_ok h hs).1)]
theorem ct_3 (h : IV M n p c) {v : Int64} : (if 3 < 2 then (mL (pL M 212 0 v) 199 3).toInt32 else if (3 : Nat) = 2 then kmI (mL (pL M 212 0 v) 199) 6 else mI (pL M 212 0 v) 198 5) = mI M 0 5 := by
  rw [if_neg (by decide), if_neg (by decide)]
  exact h.2.2.1.2.2.2.2.1.trans h.2.2.1.2.2.1.symm
end
