/-! a desk with one thing written -/
section
variable {l : Launch} {M M' : Mem} {m n d s t a b j : Nat} {f g : Nat → Nat → Bool} {q : DQ} {u u' : Nat → Int64} {ρ ρ' : Nat → Nat × Nat}
/-- rows of one slot -/
theorem DK.rows (h : DK M d n q u) (ho : OW ρ d n q) (hs : s < 6) (hn : n ≤ 9) (hx : Xt (fun i => ∃ r, r < n ∧ i = q.2.2.2.2.1 s r) M M') (hm : Mt M' (q.2.2.2.1 s) n (q.2.2.2.2.1 s) (fB (rI u' s))) (hu : ∀ t, t < 6 → t ≠ s → uE u u' n t) (hk : u' (4 + s) = u (4 + s) ∧ u' (10 + s) = u (10 + s) ∧ u' (16 + s) = u (16 + s) ∧ u' (22 + s) = u (22 + s)) (h123 : u' 1 = u 1 ∧ u' 2 = u 2 ∧ u' 3 = u 3) : DK M' d n q u' := by
  obtain ⟨⟨a1, a2, a3, a4⟩, ⟨b1', b2, b3, b4⟩, ⟨c1, c2, c3⟩, hS⟩ := h
  obtain ⟨o1, o2, o3, o4, o5⟩ := ho
  have oc := (o5 s hs).2.2
  have far : ∀ {i y : Nat}, ρ i = (d, y) → (∀ r, r < n → y ≠ 30 + 16 * s + r) → ¬ (∃ r, r < n ∧ i = q.2.2.2.2.1 s r) := fun {i y} hi hy => by
    rintro ⟨r, hr, e⟩
    exact nρ hi (oc r hr) (hy r hr) e
  have nd := far o1 (fun r _ => by omega)
  have n1 := far o2 (fun r _ => by omega)
  have n2 := far o3 (fun r _ => by omega)
  have n3 := far o4 (fun r _ => by omega)
  have eR := hx.R (k_lt a1) nd
  have eI := hx.I (k_lt a1) nd
  refine ⟨⟨hx.k a1, (congrFun eR 4).trans a2, (congrFun eR 5).trans a3, (congrFun eR 6).trans a4⟩, ⟨(congrFun eI 0).trans b1', (congrFun eI 1).trans (b2.trans (by rw [h123.1])), (congrFun eI 2).trans (b3.trans (by rw [h123.2.1])), (congrFun eI 3).trans (b4.trans (by rw [h123.2.2]))⟩, ⟨hx.k c1, hx.k c2, hx.k c3⟩, fun t ht => ?_⟩
  obtain ⟨p1, p2, p3⟩ := o5 t ht
  have n6 := far p2 (fun r _ => by omega)
  by_cases e : t = s
  · subst e
    obtain ⟨⟨g1, g2⟩, ⟨k, g3, g4⟩, g5, g6, g7, g8, g9⟩ := hS t ht
    have e6 := hx.I (k_lt g6) n6
    exact ⟨⟨(congrFun (hx.R (k_lt c1) n1) t).trans g1, hm⟩, ⟨k, (congrFun (hx.I (k_lt c2) n2) t).trans g3, hk.1.trans g4⟩, (congrFun (hx.R (k_lt c3) n3) t).trans g5, hx.k g6, (congrFun e6 0).trans (g7.trans (by rw [hk.2.1])), (congrFun e6 1).trans (g8.trans (by rw [hk.2.2.1])), (congrFun e6 2).trans (g9.trans (by rw [hk.2.2.2]))⟩
  · have hS9 : DS M n q u t := hS t ht
    exact hS9.xt hx ⟨k_lt c1, k_lt c2, k_lt c3⟩ n1 n2 n3 (far p1 (fun r _ => by omega)) (fun r hr => far (p3 r hr) (fun r' hr' => by omega)) n6 (hu t ht e)
/-- one cell of a slot's matrix -/
theorem DK.cell {v : Bool} (h : DK M d n q u) (ho : OW ρ d n q) (hs : s < 6) (hn : n ≤ 9) (ha : a < n) (hr : ∀ r c, r < n → c < n → hb (rI u' s r) c = if r = a ∧ c = j then v else hb (rI u s r) c) (hu : ∀ t, t < 6 → t ≠ s → uE u u' n t) (hk : u' (4 + s) = u (4 + s) ∧ u' (10 + s) = u (10 + s) ∧ u' (16 + s) = u (16 + s) ∧ u' (22 + s) = u (22 + s)) (h123 : u' 1 = u 1 ∧ u' 2 = u 2 ∧ u' 3 = u 3) : DK (sI M (q.2.2.2.2.1 s a) (fun_set (mI M (q.2.2.2.2.1 s a)) j (vp_nar .boolean (b1 v)))) d n q u' := by
  have oc := (ho.2.2.2.2 s hs).2.2
  refine h.rows ho hs hn ((Xt.rf _ M).sI (fun _ => ⟨a, ha, rfl⟩)) (((h.2.2.2 s hs).1.2.put (v := v) (j := j) ha (fun r hr9 e => Classical.byContradiction fun z => nρ (oc r hr9) (oc a ha) (by omega) e)).cg (fun r c hr9 hc => ?_)) hu hk h123
  exact (hr r c hr9 hc).symm
/-- kept or not -/
theorem DK.keep {k : Bool} (h : DK M d n q u) (ho : OW ρ d n q) (hs : s < 6) : DK (sI M q.2.1 (fun_set (mI M q.2.1) s (vp_nar .boolean (b1 k)))) d n q (fun_set u (4 + s) (b1L k)) := by
  obtain ⟨⟨a1, a2, a3, a4⟩, ⟨b1', b2, b3, b4⟩, ⟨c1, c2, c3⟩, hS⟩ := h
  obtain ⟨o1, o2, o3, o4, o5⟩ := ho
  have hx : Xt (fun i => i = q.2.1) M (sI M q.2.1 (fun_set (mI M q.2.1) s (vp_nar .boolean (b1 k)))) := (Xt.rf (fun i => i = q.2.1) M).sI (fun _ => rfl)
  have eI := hx.I (k_lt a1) (nρ o1 o3 (by omega))
  have eu : ∀ i, i ≠ 4 + s → fun_set u (4 + s) (b1L k) i = u i := fun i hi => fs_ne _ _ hi
  refine ⟨⟨a1, a2, a3, a4⟩, ⟨(congrFun eI 0).trans b1', (congrFun eI 1).trans (b2.trans (by rw [eu 1 (by omega)])), (congrFun eI 2).trans (b3.trans (by rw [eu 2 (by omega)])), (congrFun eI 3).trans (b4.trans (by rw [eu 3 (by omega)]))⟩, ⟨c1, c2, c3⟩, fun t ht => ?_⟩
  obtain ⟨p1, p2, p3⟩ := o5 t ht
  obtain ⟨⟨g1, g2⟩, ⟨k0, g3, g4⟩, g5, g6, g7, g8, g9⟩ := hS t ht
  have e6 := hx.I (k_lt g6) (nρ p2 o3 (by omega))
  refine ⟨⟨g1, (g2.xt hx (nρ p1 o3 (by omega)) (fun r hr => nρ (p3 r hr) o3 (by omega))).cg (fun r c _ _ => ?_)⟩, ?_, g5, g6, (congrFun e6 0).trans (g7.trans (by rw [eu _ (by omega)])), (congrFun e6 1).trans (g8.trans (by rw [eu _ (by omega)])), (congrFun e6 2).trans (g9.trans (by rw [eu _ (by omega)]))⟩
  · show hb (rI u t r) c = hb (rI (fun_set u (4 + s) (b1L k)) t r) c
    unfold rI
    rw [eu _ (by omega)]
  · rw [sI_self, nar_Z]
    by_cases e : t = s
    · subst e
      exact ⟨k, fs_self _ _ _, fs_self _ _ _⟩
    · exact ⟨k0, (fs_ne _ _ e).trans g3, (eu _ (by omega)).trans g4⟩
/-- the numbers of the desk itself -/
theorem DK.head (h : DK M d n q u) (ho : OW ρ d n q) (hx : Xt (fun i => i = d) M M') (hR : mR M' d = mR M d) (h0 : mI M' d 0 = nI n) (h1 : mI M' d 1 = (u' 1).toInt32) (h2 : mI M' d 2 = (u' 2).toInt32) (h3 : mI M' d 3 = (u' 3).toInt32) (hu : ∀ t, t < 6 → uE u u' n t) : DK M' d n q u' := by
  obtain ⟨⟨a1, a2, a3, a4⟩, -, ⟨c1, c2, c3⟩, hS⟩ := h
  obtain ⟨o1, o2, o3, o4, o5⟩ := ho
  refine ⟨⟨hx.k a1, (congrFun hR 4).trans a2, (congrFun hR 5).trans a3, (congrFun hR 6).trans a4⟩, ⟨h0, h1, h2, h3⟩, ⟨hx.k c1, hx.k c2, hx.k c3⟩, fun t ht => ?_⟩
  obtain ⟨p1, p2, p3⟩ := o5 t ht
  have hS9 : DS M n q u t := hS t ht
  exact hS9.xt hx ⟨k_lt c1, k_lt c2, k_lt c3⟩ (nρ o2 o1 (by omega)) (nρ o3 o1 (by omega)) (nρ o4 o1 (by omega)) (nρ p1 o1 (by omega)) (fun r hr => nρ (p3 r hr) o1 (by omega)) (nρ p2 o1 (by omega)) (hu t ht)
end

