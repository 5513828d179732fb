/-! a text that grows beside a desk -/
/-- a builder's text since M0, with cells of W written besides -/
def SBw (M0 : Mem) (b v0 : Nat) (W : Nat → Prop) (tx : List Int32) (M : Mem) : Prop := ∃ v cap, SB M b v cap tx ∧ Xt (fun i => i = b ∨ i = v0 ∨ W i) M0 M ∧ (v = v0 ∨ (mK M0).length ≤ v)
section
variable {l : Launch} {M M' M0 : Mem} {b v v0 cap kS d n s j : Nat} {W W' : Nat → Prop} {tx tx9 : List Int32} {q0 : String × Nat × String × List Int32} {q : DQ} {u u' : Nat → Int64} {ρ : Nat → Nat × Nat}
theorem SB.xt (h : SB M b v cap tx) (hx : Xt W M M') (h1 : ¬ W b) (h2 : ¬ W v) : SB M' b v cap tx := by
  obtain ⟨⟨a1, a2, a3⟩, ⟨c1, c2, c3, c4⟩, e1, e2, e3⟩ := h
  have i1 := hx.I (k_lt a1) h1
  have i2 := hx.I (k_lt a3) h2
  exact ⟨⟨hx.k a1, (congrFun (hx.R (k_lt a1) h1) 0).trans a2, hx.k a3⟩, ⟨c1, c2, (congrFun i1 1).trans c3, (congrFun i1 3).trans c4⟩, fun j hj => (congrFun i2 j).trans (e1 j hj), fun j hj => by rw [i2]; exact e2 j hj, hx.2.1.trans e3⟩
theorem SB.nk (h : SB M b v cap tx) {i : Nat} {x : Knd} (hk : (mK M)[i]? = some x) (hx : dkk x) : i ≠ b ∧ i ≠ v := by
  refine ⟨fun e => ?_, fun e => ?_⟩
  · have h9 := h.1.1
    rw [← e, hk] at h9
    cases h9
    exact absurd hx (by show ¬ ((9 : Nat) = 7); decide)
  · have h9 := h.1.2.2
    rw [← e, hk] at h9
    cases h9
    exact hx
theorem SBw.k (h : SBw M0 b v0 W tx M) : (mK M)[b]? = some (.inr 9) := by
  obtain ⟨v, cap, h1, -, -⟩ := h
  exact h1.1.1
theorem SBw.x (h : SBw M0 b v0 W tx M) : mX M = true := by
  obtain ⟨v, cap, h1, -, -⟩ := h
  exact h1.2.2.2.2
theorem SBw.rf (h : SB M b v cap tx) : SBw M b v W tx M := ⟨v, cap, h, Xt.rf _ M, Or.inl rfl⟩
theorem SBw.go {tx2 : List Int32} {v1 cap1 : Nat} (h1 : SB M b v1 cap1 tx) (h2 : Xt (fun i => i = b ∨ i = v0 ∨ W i) M0 M) (h3 : v1 = v0 ∨ (mK M0).length ≤ v1) (h : SBx M b v1 tx2 M') : SBw M0 b v0 W tx2 M' := by
  obtain ⟨v2, cap2, g1, g2, g3⟩ := h
  have hl := h2.len
  refine ⟨v2, cap2, g1, h2.tr' g2 (fun i hi e => ?_), ?_⟩
  · rcases e with e | e
    · exact Or.inl e
    · rcases h3 with z | z
      · exact Or.inr (Or.inl (e.trans z))
      · omega
  · rcases g3 with z | z
    · rw [z]
      exact h3
    · exact Or.inr (by omega)
theorem y_sbS (h : SBw M0 b v0 W tx M) (hq9 : strT[kS]? = some q0) (hn : tx.length + q0.2.2.2.length ≤ 340) : EvO l jJ4_append_15ec4 6 230 1 700 [.ref b, .retAddr (2 * kS + 2)] M (fun r M' => r = some (.ref b) ∧ SBw M0 b v0 W (tx ++ q0.2.2.2) M') := by
  obtain ⟨v, cap, h1, h2, h3⟩ := h
  exact (k_sbS h1 hq9 hn).mono (fun r M' h9 => ⟨h9.1, SBw.go h1 h2 h3 h9.2⟩)
theorem y_sbC (h : SBw M0 b v0 W tx M) {c : Nat} (hc : c < 128) (hn : tx.length + 1 ≤ 340) : EvO l jJ4_append_cf468 6 230 1 700 [.ref b, .int (nI c)] M (fun r M' => r = some (.ref b) ∧ SBw M0 b v0 W (tx ++ [nI c]) M') := by
  obtain ⟨v, cap, h1, h2, h3⟩ := h
  exact (k_sbC h1 hc hn).mono (fun r M' h9 => ⟨h9.1, SBw.go h1 h2 h3 h9.2⟩)
theorem y_sbI (h : SBw M0 b v0 W tx M) {c : Nat} (hc : c < 10) (hn : tx.length + 1 ≤ 340) : EvO l jJ4_append_bf812 6 230 1 700 [.ref b, .int (nI c)] M (fun r M' => r = some (.ref b) ∧ SBw M0 b v0 W (tx ++ [nI (48 + c)]) M') := by
  obtain ⟨v, cap, h1, h2, h3⟩ := h
  exact (k_sbI h1 hc hn).mono (fun r M' h9 => ⟨h9.1, SBw.go h1 h2 h3 h9.2⟩)
/-- a cell of W written -/
theorem SBw.wr (h : SBw M0 b v0 W tx M) (hx : Xt W' M M') (hW : ∀ i, i < (mK M0).length → W' i → W i) (hk : ∀ i, W' i → ∃ x, (mK M)[i]? = some x ∧ dkk x) : SBw M0 b v0 W tx M' := by
  obtain ⟨v, cap, h1, h2, h3⟩ := h
  refine ⟨v, cap, h1.xt hx (fun w => ?_) (fun w => ?_), h2.tr' hx (fun i hi w => Or.inr (Or.inr (hW i hi w))), h3⟩
  · obtain ⟨x, k1, k2⟩ := hk _ w
    exact (h1.nk k1 k2).1 rfl
  · obtain ⟨x, k1, k2⟩ := hk _ w
    exact (h1.nk k1 k2).2 rfl
/-- a desk beside a text that grows -/
theorem SBw.dk (h : SBw M0 b v0 (fun _ => False) tx M) (hs : SB M0 b v0 cap tx9) (hD : DK M0 d n q u) : DK M d n q u := by
  obtain ⟨v, cap1, h1, h2, h3⟩ := h
  refine hD.xk h2 (fun i w => ?_)
  rcases w with e | e | e
  · exact ⟨_, by rw [e]; exact hs.1.1, fun z => absurd z (by show ¬ ((9 : Nat) = 7); decide)⟩
  · exact ⟨_, by rw [e]; exact hs.1.2.2, fun z => z⟩
  · exact e.elim
/-- rows of one slot, other cells besides that are no desk's -/
theorem DK.rows2 (h : DK M d n q u) (ho : OW ρ d n q) (hs : s < 6) (hn : n ≤ 9) (hx : Xt W M M') (hW : ∀ i, W i → (∃ r, r < n ∧ i = q.2.2.2.2.1 s r) ∨ ∃ x, (mK M)[i]? = some x ∧ ¬ dkk x) (hm : Mt M' (q.2.2.2.1 s) n (q.2.2.2.2.1 s) (fB (rI u' s))) (hu : ∀ t, t < 6 → t ≠ s → uE u u' n t) (hk : u' (4 + s) = u (4 + s) ∧ u' (10 + s) = u (10 + s) ∧ u' (16 + s) = u (16 + s) ∧ u' (22 + s) = u (22 + s)) (h123 : u' 1 = u 1 ∧ u' 2 = u 2 ∧ u' 3 = u 3) : DK M' d n q u' := by
  obtain ⟨⟨a1, a2, a3, a4⟩, ⟨b1', b2, b3, b4⟩, ⟨c1, c2, c3⟩, hS⟩ := h
  obtain ⟨o1, o2, o3, o4, o5⟩ := ho
  have oc := (o5 s hs).2.2
  have far : ∀ {i y : Nat} {x : Knd}, ρ i = (d, y) → (∀ r, r < n → y ≠ 30 + 16 * s + r) → (mK M)[i]? = some x → dkk x → ¬ W i := fun {i y x} hi hy k1 k2 w => by
    rcases hW i w with ⟨r, hr, e⟩ | ⟨z, z1, z2⟩
    · exact nρ hi (oc r hr) (hy r hr) e
    · rw [k1] at z1
      exact z2 (Option.some.inj z1 ▸ k2)
  have nd := far o1 (fun r _ => by omega) a1 rfl
  have n1 := far o2 (fun r _ => by omega) c1 trivial
  have n2 := far o3 (fun r _ => by omega) c2 trivial
  have n3 := far o4 (fun r _ => by omega) c3 trivial
  have eR := hx.R (k_lt a1) nd
  have eI := hx.I (k_lt a1) nd
  refine ⟨⟨hx.k a1, (congrFun eR 4).trans a2, (congrFun eR 5).trans a3, (congrFun eR 6).trans a4⟩, ⟨(congrFun eI 0).trans b1', (congrFun eI 1).trans (b2.trans (by rw [h123.1])), (congrFun eI 2).trans (b3.trans (by rw [h123.2.1])), (congrFun eI 3).trans (b4.trans (by rw [h123.2.2]))⟩, ⟨hx.k c1, hx.k c2, hx.k c3⟩, fun t ht => ?_⟩
  obtain ⟨p1, p2, p3⟩ := o5 t ht
  have hSt := hS t ht
  have n6 := far p2 (fun r _ => by omega) hSt.2.2.2.1 trivial
  by_cases e : t = s
  · subst e
    obtain ⟨⟨g1, g2⟩, ⟨k, g3, g4⟩, g5, g6, g7, g8, g9⟩ := hS t ht
    have e6 := hx.I (k_lt g6) n6
    exact ⟨⟨(congrFun (hx.R (k_lt c1) n1) t).trans g1, hm⟩, ⟨k, (congrFun (hx.I (k_lt c2) n2) t).trans g3, hk.1.trans g4⟩, (congrFun (hx.R (k_lt c3) n3) t).trans g5, hx.k g6, (congrFun e6 0).trans (g7.trans (by rw [hk.2.1])), (congrFun e6 1).trans (g8.trans (by rw [hk.2.2.1])), (congrFun e6 2).trans (g9.trans (by rw [hk.2.2.2]))⟩
  · have hS9 : DS M n q u t := hS t ht
    exact hS9.xt hx ⟨k_lt c1, k_lt c2, k_lt c3⟩ n1 n2 n3 (far p1 (fun r _ => by omega) hSt.1.2.1 trivial) (fun r hr => far (p3 r hr) (fun r' hr' => by omega) (hSt.1.2.2 r hr).2.1 trivial) n6 (hu t ht e)
/-- a matrix filled cell by cell, in its own rows -/
theorem Mt.fill2 {m i : Nat} {rw9 : Nat → Nat} {F G : Nat → Nat → Bool} (h : Mt M m n rw9 (fun r c => if r < i ∨ (r = i ∧ c < j) then F r c else G r c)) (hi : i < n) (hinj : ∀ r, r < n → rw9 r = rw9 i → r = i) (v : Bool) (hv : v = F i j) : Mt (sI M (rw9 i) (fun_set (mI M (rw9 i)) j (vp_nar .boolean (b1 v)))) m n rw9 (fun r c => if r < i ∨ (r = i ∧ c < j + 1) then F r c else G r c) := by
  refine (h.put (v := v) (j := j) hi hinj).cg (fun r c hr hc => ?_)
  by_cases e : r = i ∧ c = j
  · rw [if_pos e, hv, e.1, e.2, if_pos (Or.inr ⟨rfl, Nat.lt_succ_self j⟩)]
  · rw [if_neg e]
    by_cases e2 : r < i ∨ (r = i ∧ c < j)
    · rw [if_pos e2, if_pos (by omega)]
    · rw [if_neg e2, if_neg (by omega)]
theorem OW.inj (ho : OW ρ d n q) (hs : s < 6) {r r' : Nat} (hr : r < n) (hr' : r' < n) (e : q.2.2.2.2.1 s r = q.2.2.2.2.1 s r') : r = r' := Classical.byContradiction fun z => nρ ((ho.2.2.2.2 s hs).2.2 r hr) ((ho.2.2.2.2 s hs).2.2 r' hr') (by omega) e
end

