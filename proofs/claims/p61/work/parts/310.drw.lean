/-! a text that grows beside a desk -/
/-- a builder's text since M0 -/
def SBw (M0 : Mem) (b v0 : Nat) (tx : List Int32) (M : Mem) : Prop := ∃ v cap, SB M b v cap tx ∧ Xt (fun i => i = b ∨ i = v0) M0 M ∧ (v = v0 ∨ (mK M0).length ≤ v)
/-- the kinds of a builder's cells -/
def bkd (x : Knd) : Prop := x = .inr 9 ∨ ∃ c, x = .inl (.byte, c)
/-- only a builder's cells are written -/
def Xb (M M' : Mem) : Prop := Xt (fun i => ∃ x, (mK M)[i]? = some x ∧ bkd x) M M'
section
variable {l : Launch} {M M' M1 M0 : Mem} {b v v0 cap kS d n s j i m : Nat} {W W' : Nat → Prop} {tx tx9 w9 : List Int32} {q0 : String × Nat × String × List Int32} {q : DQ} {u u' : Nat → Int64} {ρ : Nat → Nat × Nat} {f : Nat → Nat → Bool} {rw9 : Nat → Nat}
theorem bkd_no {x : Knd} (h : bkd x) : ¬ dkk x := by
  rcases h with e | ⟨c, e⟩
  · rw [e]
    show ¬ ((9 : Nat) = 7)
    decide
  · rw [e]
    exact id
theorem no_b {x : Knd} (h1 : (mK M)[i]? = some x) (h2 : ¬ bkd x) : ¬ ∃ y, (mK M)[i]? = some y ∧ bkd y := fun ⟨y, h3, h4⟩ => h2 (by
  rw [h1] at h3
  rw [Option.some.inj h3]
  exact h4)
theorem dk_no {x : Knd} (h : dkk x) : ¬ bkd x := fun z => bkd_no z h
theorem bkO {c : String} {k : Nat} : ¬ bkd (.inl (.object c, k)) := by
  rintro (z | ⟨c, z⟩)
  · cases z
  · cases z
theorem DK.xb (h : DK M d n q u) (hx : Xb M M') : DK M' d n q u := h.xk hx (fun i ⟨x, h1, h2⟩ => ⟨x, h1, bkd_no h2⟩)
theorem Mt.xb (h : Mt M m n rw9 f) (hx : Xb M M') : Mt M' m n rw9 f := h.xt hx (no_b h.1 (dk_no trivial)) (fun r hr => no_b (h.2 r hr).2.1 (dk_no trivial))
theorem Xb.tr (h1 : Xb M M1) (h2 : Xb M1 M') : Xb M M' := h1.tr' h2 (fun i hi w => by
  obtain ⟨x, h3, h4⟩ := w
  have hy : (mK M)[i]? = some (mK M)[i] := List.getElem?_eq_getElem hi
  have h5 := h1.k hy
  rw [h3] at h5
  exact ⟨x, by rw [hy, ← h5], h4⟩)
theorem cb9 (h : Xt W M0 M) (hi : i < (mK M0).length) (w : ∃ x, (mK M)[i]? = some x ∧ bkd x) : ∃ x, (mK M0)[i]? = some x ∧ bkd x := by
  obtain ⟨x, h3, h4⟩ := w
  have hy : (mK M0)[i]? = some (mK M0)[i] := List.getElem?_eq_getElem hi
  have h5 := h.k hy
  rw [h3] at h5
  exact ⟨x, by rw [hy, ← h5], h4⟩
theorem SB.xt (h : SB M b v cap tx) (hx : Xt W M M') (h1 : ¬ W b) (h2 : ¬ W v) : SB M' b v cap tx := by
  obtain ⟨⟨a1, a2, a3⟩, ⟨c1, c2, c3, c4⟩, e1, e2, e3⟩ := h
  have i1 := hx.I (k_lt a1) h1
  have i2 := hx.I (k_lt a3) h2
  exact ⟨⟨hx.k a1, (congrFun (hx.R (k_lt a1) h1) 0).trans a2, hx.k a3⟩, ⟨c1, c2, (congrFun i1 1).trans c3, (congrFun i1 3).trans c4⟩, fun j hj => (congrFun i2 j).trans (e1 j hj), fun j hj => by rw [i2]; exact e2 j hj, hx.2.1.trans e3⟩
theorem SB.nk (h : SB M b v cap tx) {i : Nat} {x : Knd} (hk : (mK M)[i]? = some x) (hx : ¬ bkd x) : i ≠ b ∧ i ≠ v := by
  refine ⟨fun e => ?_, fun e => ?_⟩
  · have h9 := h.1.1
    rw [← e, hk] at h9
    exact hx (Or.inl (Option.some.inj h9))
  · have h9 := h.1.2.2
    rw [← e, hk] at h9
    exact hx (Or.inr ⟨_, Option.some.inj h9⟩)
theorem SBw.k (h : SBw M0 b v0 tx M) : (mK M)[b]? = some (.inr 9) := by
  obtain ⟨v, cap, h1, -, -⟩ := h
  exact h1.1.1
theorem SBw.x (h : SBw M0 b v0 tx M) : mX M = true := by
  obtain ⟨v, cap, h1, -, -⟩ := h
  exact h1.2.2.2.2
theorem SBw.S (h : SBw M0 b v0 tx M) : mS M = mS M0 := by
  obtain ⟨v, cap, h1, h2, -⟩ := h
  exact h2.2.2.1
theorem SBw.len (h : SBw M0 b v0 tx M) : (mK M0).length ≤ (mK M).length := by
  obtain ⟨v, cap, h1, h2, -⟩ := h
  exact h2.len
theorem SBw.rf (h : SB M b v cap tx) : SBw M b v tx M := ⟨v, cap, h, Xt.rf _ M, Or.inl rfl⟩
theorem SBw.go {tx2 : List Int32} {v1 cap1 : Nat} (h1 : SB M b v1 cap1 tx) (h2 : Xt (fun i => i = b ∨ i = v0) M0 M) (h3 : v1 = v0 ∨ (mK M0).length ≤ v1) (h : SBx M b v1 tx2 M') : SBw M0 b v0 tx2 M' ∧ Xb M M' := by
  obtain ⟨v2, cap2, g1, g2, g3⟩ := h
  have hl := h2.len
  refine ⟨⟨v2, cap2, g1, h2.tr' g2 (fun i hi e => ?_), ?_⟩, (Xt.rf _ M).tr' g2 (fun i hi e => ?_)⟩
  · rcases e with e | e
    · exact Or.inl e
    · rcases h3 with z | z
      · exact Or.inr (e.trans z)
      · omega
  · rcases g3 with z | z
    · rw [z]
      exact h3
    · exact Or.inr (by omega)
  · rcases e with e | e
    · rw [e]
      exact ⟨_, h1.1.1, Or.inl rfl⟩
    · rw [e]
      exact ⟨_, h1.1.2.2, Or.inr ⟨_, rfl⟩⟩
theorem y_sbS (h : SBw M0 b v0 tx M) (hq9 : strT[kS]?.map (fun z => z.2.2.2) = some w9) (hw : w9.length = m) (hn : tx.length + m ≤ 340) : EvO l jJ4_append_15ec4 6 230 1 700 [.ref b, .retAddr (2 * kS + 2)] M (fun r M' => r = some (.ref b) ∧ SBw M0 b v0 (tx ++ w9) M' ∧ Xb M M') := by
  obtain ⟨v, cap, h1, h2, h3⟩ := h
  obtain ⟨q9, h8, h9⟩ := Option.map_eq_some_iff.mp hq9
  subst h9
  subst hw
  exact (k_sbS h1 h8 hn).mono (fun r M' h9 => ⟨h9.1, SBw.go h1 h2 h3 h9.2⟩)
theorem y_sbC (h : SBw M0 b v0 tx M) {c : Nat} (hc : c < 128) (hn : tx.length + 1 ≤ 340) : EvO l jJ4_append_cf468 6 230 1 700 [.ref b, .int (nI c)] M (fun r M' => r = some (.ref b) ∧ SBw M0 b v0 (tx ++ [nI c]) M' ∧ Xb M M') := by
  obtain ⟨v, cap, h1, h2, h3⟩ := h
  exact (k_sbC h1 hc hn).mono (fun r M' h9 => ⟨h9.1, SBw.go h1 h2 h3 h9.2⟩)
theorem y_sbI (h : SBw M0 b v0 tx M) {c : Nat} (hc : c < 10) (hn : tx.length + 1 ≤ 340) : EvO l jJ4_append_bf812 6 230 1 700 [.ref b, .int (nI c)] M (fun r M' => r = some (.ref b) ∧ SBw M0 b v0 (tx ++ [nI (48 + c)]) M' ∧ Xb M M') := by
  obtain ⟨v, cap, h1, h2, h3⟩ := h
  exact (k_sbI h1 hc hn).mono (fun r M' h9 => ⟨h9.1, SBw.go h1 h2 h3 h9.2⟩)
/-- a cell that is no builder's written -/
theorem SBw.wr (h : SBw M0 b v0 tx M) (hx : Xt W' M M') (hW : ∀ i, i < (mK M0).length → ¬ W' i) (hk : ∀ i, i < (mK M).length → W' i → ∃ x, (mK M)[i]? = some x ∧ ¬ bkd x) : SBw M0 b v0 tx M' := by
  obtain ⟨v, cap, h1, h2, h3⟩ := h
  refine ⟨v, cap, h1.xt hx (fun w => ?_) (fun w => ?_), h2.tr' hx (fun i hi w => absurd w (hW i hi)), h3⟩
  · obtain ⟨x, k1, k2⟩ := hk _ (k_lt h1.1.1) w
    exact (h1.nk k1 k2).1 rfl
  · obtain ⟨x, k1, k2⟩ := hk _ (k_lt h1.1.2.2) w
    exact (h1.nk k1 k2).2 rfl
theorem SBw.w1 {a : Nat} {x : Knd} (h : SBw M0 b v0 tx M) (hx : Xt (fun i => i = a) M M') (h0 : (mK M0).length ≤ a) (hk : (mK M)[a]? = some x) (hd : dkk x) : SBw M0 b v0 tx M' := h.wr hx (fun i hi e => by
  have e9 : i = a := e
  omega) (fun i _ e => ⟨x, by
  rw [show i = a from e]
  exact hk, dk_no hd⟩)
/-- rows of one slot, other cells besides that are no desk's -/
theorem DK.rows2 (h : DK M d n q u) (ho : OW ρ d n q) (hs : s < 6) (hn : n ≤ 9) (hx : Xt W M M') (hW : ∀ i, W i → (∃ r, r < n ∧ i = q.2.2.2.2.1 s r) ∨ ∃ x, (mK M)[i]? = some x ∧ ¬ dkk x) (hm : Mt M' (q.2.2.2.1 s) n (q.2.2.2.2.1 s) (fB (rI u' s))) (hu : ∀ t, t < 6 → t ≠ s → uE u u' n t) (hk : u' (4 + s) = u (4 + s) ∧ u' (10 + s) = u (10 + s) ∧ u' (16 + s) = u (16 + s) ∧ u' (22 + s) = u (22 + s)) (h123 : u' 1 = u 1 ∧ u' 2 = u 2 ∧ u' 3 = u 3) : DK M' d n q u' := by
  obtain ⟨⟨a1, a2, a3, a4⟩, ⟨b1', b2, b3, b4⟩, ⟨c1, c2, c3⟩, hS⟩ := h
  obtain ⟨o1, o2, o3, o4, o5⟩ := ho
  have oc := (o5 s hs).2.2
  have far : ∀ {i y : Nat} {x : Knd}, ρ i = (d, y) → (∀ r, r < n → y ≠ 30 + 16 * s + r) → (mK M)[i]? = some x → dkk x → ¬ W i := fun {i y x} hi hy k1 k2 w => by
    rcases hW i w with ⟨r, hr, e⟩ | ⟨z, z1, z2⟩
    · exact nρ hi (oc r hr) (hy r hr) e
    · rw [k1] at z1
      exact z2 (Option.some.inj z1 ▸ k2)
  have nd := far o1 (fun r _ => by omega) a1 rfl
  have n1 := far o2 (fun r _ => by omega) c1 trivial
  have n2 := far o3 (fun r _ => by omega) c2 trivial
  have n3 := far o4 (fun r _ => by omega) c3 trivial
  have eR := hx.R (k_lt a1) nd
  have eI := hx.I (k_lt a1) nd
  refine ⟨⟨hx.k a1, (congrFun eR 4).trans a2, (congrFun eR 5).trans a3, (congrFun eR 6).trans a4⟩, ⟨(congrFun eI 0).trans b1', (congrFun eI 1).trans (b2.trans (by rw [h123.1])), (congrFun eI 2).trans (b3.trans (by rw [h123.2.1])), (congrFun eI 3).trans (b4.trans (by rw [h123.2.2]))⟩, ⟨hx.k c1, hx.k c2, hx.k c3⟩, fun t ht => ?_⟩
  obtain ⟨p1, p2, p3⟩ := o5 t ht
  have hSt := hS t ht
  have n6 := far p2 (fun r _ => by omega) hSt.2.2.2.1 trivial
  by_cases e : t = s
  · subst e
    obtain ⟨⟨g1, g2⟩, ⟨k, g3, g4⟩, g5, g6, g7, g8, g9⟩ := hS t ht
    have e6 := hx.I (k_lt g6) n6
    exact ⟨⟨(congrFun (hx.R (k_lt c1) n1) t).trans g1, hm⟩, ⟨k, (congrFun (hx.I (k_lt c2) n2) t).trans g3, hk.1.trans g4⟩, (congrFun (hx.R (k_lt c3) n3) t).trans g5, hx.k g6, (congrFun e6 0).trans (g7.trans (by rw [hk.2.1])), (congrFun e6 1).trans (g8.trans (by rw [hk.2.2.1])), (congrFun e6 2).trans (g9.trans (by rw [hk.2.2.2]))⟩
  · have hS9 : DS M n q u t := hS t ht
    exact hS9.xt hx ⟨k_lt c1, k_lt c2, k_lt c3⟩ n1 n2 n3 (far p1 (fun r _ => by omega) hSt.1.2.1 trivial) (fun r hr => far (p3 r hr) (fun r' hr' => by omega) (hSt.1.2.2 r hr).2.1 trivial) n6 (hu t ht e)
/-- a matrix filled cell by cell, in its own rows -/
theorem Mt.fill2 {F G : Nat → Nat → Bool} (h : Mt M m n rw9 (fun r c => if r < i ∨ (r = i ∧ c < j) then F r c else G r c)) (hi : i < n) (hinj : ∀ r, r < n → rw9 r = rw9 i → r = i) (v : Bool) (hv : v = F i j) : Mt (sI M (rw9 i) (fun_set (mI M (rw9 i)) j (vp_nar .boolean (b1 v)))) m n rw9 (fun r c => if r < i ∨ (r = i ∧ c < j + 1) then F r c else G r c) := by
  refine (h.put (v := v) (j := j) hi hinj).cg (fun r c hr hc => ?_)
  by_cases e : r = i ∧ c = j
  · rw [if_pos e, hv, e.1, e.2, if_pos (Or.inr ⟨rfl, Nat.lt_succ_self j⟩)]
  · rw [if_neg e]
    by_cases e2 : r < i ∨ (r = i ∧ c < j)
    · rw [if_pos e2, if_pos (by omega)]
    · rw [if_neg e2, if_neg (by omega)]
theorem OW.inj (ho : OW ρ d n q) (hs : s < 6) {r r' : Nat} (hr : r < n) (hr' : r' < n) (e : q.2.2.2.2.1 s r = q.2.2.2.2.1 s r') : r = r' := Classical.byContradiction fun z => nρ ((ho.2.2.2.2 s hs).2.2 r hr) ((ho.2.2.2.2 s hs).2.2 r' hr') (by omega) e
/-- a drawn desk and its text -/
def DV (M0 M : Mem) (b v0 d n : Nat) (q : DQ) (u : Nat → Int64) (ts : List ST9) : Prop := DK M d n q u ∧ (u = sF n (bgF (fun _ => 0) n) ts ∧ sC n (bgF (fun _ => 0) n) ts) ∧ SBw M0 b v0 (szW n ++ sT n ts) M
theorem DV.nx {ts : List ST9} (h : DV M0 M b v0 d n q u ts) (t : ST9) (hok : sOk n t u) (hD : DK M' d n q (sU n t u)) (hB : SBw M0 b v0 tx M') (he : tx = szW n ++ sT n ts ++ sW n t) : DV M0 M' b v0 d n q (sU n t u) (ts ++ [t]) := ⟨hD, ⟨by rw [sF_app, ← h.2.1.1], sC_app ts _ h.2.1.2 (by rw [← h.2.1.1]; exact hok)⟩, by rw [sT_app, ← List.append_assoc, ← he]; exact hB⟩
theorem nI_nz (h1 : 1 ≤ n) (hn : n ≤ 9) : ¬ (nI n = 0) := fun z => by
  have h9 := nI_inj9 (a := n) (b := 0) (by omega) (by decide) z
  omega
theorem nI_q {x y : Nat} (hx : x < 2147483648) (hy : y < 2147483648) : nI x / nI y = nI (x / y) := nI_div hx hy
theorem dv_lt {x y : Nat} (hx : x < 2147483648) : x / y < 2147483648 := Nat.lt_of_le_of_lt (Nat.div_le_self _ _) hx
theorem sW_le {t : ST9} (hn : n ≤ 9) (ht : t.1 < 3) (hok : sOk n t u) : (sW n t).length ≤ 18 := by
  obtain ⟨k, x, r, c, g⟩ := t
  rcases k with _ | _ | _ | k
  · show 12 ≤ 18
    decide
  · show (roW x r ++ gW g n).length ≤ 18
    rw [List.length_append, gW_len]
    show 9 + n ≤ 18
    omega
  · have hok1 : x < 6 ∧ r < 4 := hok
    show (fiW x ++ strW (4 + r)).length ≤ 18
    rw [List.length_append]
    show 9 + (strW (4 + r)).length ≤ 18
    rcases (by omega : r = 0 ∨ r = 1 ∨ r = 2 ∨ r = 3) with e | e | e | e <;> subst e <;> exact (by decide)
  · have h9 : k + 3 < 3 := ht
    omega
/-- the other numbers stay -/
theorem sU_u {t : ST9} (hn : n ≤ 9) (ht : t.1 < 3) (hok : sOk n t u) {y : Nat} (hy : y < 28) : sU n t u y = u y := by
  obtain ⟨k, x, r, c, g⟩ := t
  rcases k with _ | _ | _ | k
  · exact fs_ne _ _ (show y ≠ 28 + 32 * x + r by omega)
  · exact fs_ne _ _ (show y ≠ 28 + 32 * x + r by omega)
  · show lyF u x (kdR r n) n y = u y
    unfold lyF
    rw [if_neg (by omega)]
  · have h9 : k + 3 < 3 := ht
    omega
theorem sU_E {t : ST9} (hn : n ≤ 9) (ht : t.1 < 3) (hok : sOk n t u) {y : Nat} (h6 : y < 6) (hy : y ≠ t.2.1) : uE u (sU n t u) n y := by
  refine ⟨fun r9 hr9 => ?_, ?_⟩
  · obtain ⟨k, x, r, c, g⟩ := t
    have hy9 : y ≠ x := hy
    rcases k with _ | _ | _ | k
    · have hok1 : x < 6 ∧ r < n ∧ c < n := hok
      exact fs_ne _ _ (show 28 + 32 * y + r9 ≠ 28 + 32 * x + r by omega)
    · have hok1 : x < 6 ∧ r < n := hok
      exact fs_ne _ _ (show 28 + 32 * y + r9 ≠ 28 + 32 * x + r by omega)
    · show lyF u x (kdR r n) n (28 + 32 * y + r9) = u (28 + 32 * y + r9)
      unfold lyF
      rw [if_neg (by omega)]
    · have h9 : k + 3 < 3 := ht
      omega
  · exact ⟨sU_u hn ht hok (by omega), sU_u hn ht hok (by omega), sU_u hn ht hok (by omega), sU_u hn ht hok (by omega)⟩
/-- the rows that a statement writes -/
theorem sU_r0 {s r c r9 : Nat} {g : Nat → Bool} (hn : n ≤ 9) (hr : r < n) (hc : c < n) (hr9 : r9 < n) (c9 : Nat) : hb (rI (sU n (0, s, r, c, g) u) s r9) c9 = if r9 = r ∧ c9 = c then true else hb (rI u s r9) c9 := by
  show hb (fun_set u (28 + 32 * s + r) (u (28 + 32 * s + r) ||| uL (bitI c)) (28 + 32 * s + r9)).toInt32 c9 = _
  by_cases e : r9 = r
  · subst e
    rw [fs_self, Int64.toInt32_or, uL_32, hb_or, hb_bitI (by omega)]
    by_cases e2 : c9 = c
    · rw [if_pos ⟨rfl, e2⟩, decide_eq_true e2, Bool.or_true]
    · rw [if_neg (fun z => e2 z.2), decide_eq_false e2, Bool.or_false]
      rfl
  · rw [fs_ne _ _ (by omega), if_neg (fun z => e z.1)]
    rfl
theorem sU_r1 {s r c r9 : Nat} {g : Nat → Bool} (hn : n ≤ 9) (hr : r < n) (hr9 : r9 < n) {c9 : Nat} (hc9 : c9 < n) : hb (rI (sU n (1, s, r, c, g) u) s r9) c9 = if r9 = r then g c9 else hb (rI u s r9) c9 := by
  show hb (fun_set u (28 + 32 * s + r) (uL (rwB g n)) (28 + 32 * s + r9)).toInt32 c9 = _
  by_cases e : r9 = r
  · subst e
    rw [fs_self, uL_32, rw_b g n (by omega), if_pos rfl, decide_eq_true hc9, Bool.true_and]
  · rw [fs_ne _ _ (by omega), if_neg e]
    rfl
def fiB (kind n r c : Nat) : Bool := if kind = 0 then decide (r = c) else if kind = 1 then true else if kind = 2 then decide (c = (r + 1) % n) else decide (c < r)
theorem kd_b {kind r c : Nat} (hn : n ≤ 9) (hr : r < n) (hc : c < n) : hb (kdR kind n r) c = fiB kind n r c := by
  unfold kdR fiB
  split
  · rw [hb_bitI (by omega)]
    exact decide_eq_decide.mpr eq_comm
  · split
    · rw [hb_lowM (by omega)]
      exact decide_eq_true hc
    · split
      · split
        · rw [hb_bitI (by omega), Nat.mod_eq_of_lt (by assumption)]
        · have h1 : hb 1 c = hb (bitI 0) c := rfl
          rw [h1, hb_bitI (by omega), show r + 1 = n by omega, Nat.mod_self]
      · rw [hb_lowM (by omega)]
theorem sU_r2 {s kind r9 c : Nat} {g : Nat → Bool} (hn : n ≤ 9) (hr9 : r9 < n) : rI (sU n (2, s, kind, c, g) u) s r9 = kdR kind n r9 := by
  show (lyF u s (kdR kind n) n (28 + 32 * s + r9)).toInt32 = _
  unfold lyF
  rw [if_pos ⟨by omega, by omega⟩, uL_32, Nat.add_sub_cancel_left]
theorem strK {k : Nat} (hk : k < 4) : strT[16 + k]?.map (fun z => z.2.2.2) = some (strW (4 + k)) ∧ (strW (4 + k)).length ≤ 5 := by
  rcases (by omega : k = 0 ∨ k = 1 ∨ k = 2 ∨ k = 3) with e | e | e | e <;> subst e <;> exact ⟨rfl, by decide⟩
end

