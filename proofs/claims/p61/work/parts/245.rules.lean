/-! rows into matrices, matrices into desks; loops that carry a memory and a room -/
section
variable {l : Launch} {J : Jm} {F L MC MS : Nat} {Q : Res → Mem → Prop} {pc : Nat} {lv : List (Nat × Value)} {st : List Value} {k n : Nat} {M : Mem}
theorem g_aastoreA {t : FieldType} {t0 id j len r len2 : Nat} {i : Int32} (hd : decode J.2.1 pc = .ok (.aastore, 1)) (hk : (mK M)[id]? = some (.inl (.array t, len))) (hi : i = nI j) (hj : j < len) (hL : len < 2147483648) (hr : (mK M)[r]? = some (.inl (t, len2))) (htl : ∀ G : Gl, (tyl G)[t0]? = some (gA G t, t)) (hax : ∀ (G : Gl) (s : State), Cx9 G s → ACx t (gA G (.array t)) (gA G t) s) (kk : Go l J F L MC MS Q (pc + 1) lv st k n (sR M id (fun_set (mR M id) j (some r)))) : Go l J F L MC MS Q pc lv (.ref r :: .int i :: .ref id :: st) k n M := by
  subst hi
  intro p e s m args below meth c G H locs cells slots ls hX hC hR hS hl hc hs
  have he := wl_get (G := G) hk
  have hc1 : H[gB G + id]? = some (vp_cell (gA G (.array t)) (len, adat G M id (.array t))) := hR.1 id _ he
  have hc2 : H[gB G + r]? = some (vp_cell (gA G t) (len2, adat G M r t)) := hR.1 r _ (wl_get hr)
  obtain ⟨kA, k1, k2⟩ := hax G s hC.1.2
  obtain ⟨-, kE, hkE, cE, hkkE⟩ := (hC.2.1.2 t0 _ (htl G)).1 0 (fun _ => .null)
  have hkE' : s.vm.classes[gA G t]? = some kE := hkE
  refine W.aast hX.1.1 hX.1.2.1 hc1 (fun q h => by rw [vp_cell_vm] at h; cases h) (fun h => by rw [vp_cell_vm] at h; cases h) (by rw [vp_cell_cls]; exact k1) k2 rfl hkE' ⟨nI_pos (by omega), by rw [vp_cell_sz, nI_clamp (by omega)]; exact hj⟩ hc2 (fun q h => by rw [vp_cell_vm] at h; cases h) (by rw [vp_cell_cls]; exact hkE') (by rw [vp_cell_cls]; exact va_asg _ _) rfl rfl hd fun H1 e1 z oq => ?_
  refine kk p e s m args below meth c G H1 _ cells slots ls hX hC (rel_set hR hk rfl rfl rfl (fun i y hi _ => ent_sR y hi) z (hR.1.set (wl_D G M) he ?_ oq)) (hS.put z oq (by show gB G ≤ _; omega)) hl hc hs
  show H1[gB G + id]? = some (vp_cell (gA G (.array t)) (len, adat G (sR M id (fun_set (mR M id) j (some r))) id (.array t)))
  rw [e1]
  simp only [adat, sR, mR, mI, fs_self]
  rw [vp_cell_q, vp_cell_q, arrV_store, nI_clamp (by omega)]
  congr 2
  funext q
  by_cases hq : q = j
  · subst hq
    simp [updV, fun_set, va_rf, rfo_s]
  · simp [updV, fun_set, hq]
theorem g_aastore_Z2 {id j len r len2 : Nat} {i : Int32} (hd : decode J.2.1 pc = .ok (.aastore, 1)) (hk : (mK M)[id]? = some (.inl (.array (.array .boolean), len))) (hi : i = nI j) (hj : j < len) (hL : len < 2147483648) (hr : (mK M)[r]? = some (.inl (.array .boolean, len2))) (kk : Go l J F L MC MS Q (pc + 1) lv st k n (sR M id (fun_set (mR M id) j (some r)))) : Go l J F L MC MS Q pc lv (.ref r :: .int i :: .ref id :: st) k n M :=
  g_aastoreA (t0 := 4) hd hk hi hj hL hr (fun _ => rfl) (fun G s h => h.2.2.2.2.2.1) kk
theorem g_aastore_Z1 {id j len r len2 : Nat} {i : Int32} (hd : decode J.2.1 pc = .ok (.aastore, 1)) (hk : (mK M)[id]? = some (.inl (.array .boolean, len))) (hi : i = nI j) (hj : j < len) (hL : len < 2147483648) (hr : (mK M)[r]? = some (.inl (.boolean, len2))) (kk : Go l J F L MC MS Q (pc + 1) lv st k n (sR M id (fun_set (mR M id) j (some r)))) : Go l J F L MC MS Q pc lv (.ref r :: .int i :: .ref id :: st) k n M :=
  g_aastoreA (t0 := 3) hd hk hi hj hL hr (fun _ => rfl) (fun G s h => h.2.2.2.2.1) kk
theorem g_aastore_I1 {id j len r len2 : Nat} {i : Int32} (hd : decode J.2.1 pc = .ok (.aastore, 1)) (hk : (mK M)[id]? = some (.inl (.array .int, len))) (hi : i = nI j) (hj : j < len) (hL : len < 2147483648) (hr : (mK M)[r]? = some (.inl (.int, len2))) (kk : Go l J F L MC MS Q (pc + 1) lv st k n (sR M id (fun_set (mR M id) j (some r)))) : Go l J F L MC MS Q pc lv (.ref r :: .int i :: .ref id :: st) k n M :=
  g_aastoreA (t0 := 0) hd hk hi hj hL hr (fun _ => rfl) (fun G s h => h.2.2.2.2.2.2.1) kk
theorem g_subk {lv' : List (Nat × Value)} (kk : Go l J F L MC MS Q pc lv' st k n M) (h : lvSub lv lv') : Go l J F L MC MS Q pc lv st k n M := g_sub h kk
/-- a counted loop that carries a state -/
theorem go_forS {σ : Type} (N : Nat) (A : Nat → σ → List (Nat × Value)) (MM : σ → Mem) (I : Nat → σ → Prop) (kf nf : Nat → Nat) (s0 : σ) (hA : lvSub lv (A 0 s0)) (hM : M = MM s0) (hk : k = kf 0) (hn : n = nf 0) (h0 : I 0 s0)
    (hs : ∀ i s, i < N → I i s → (∀ s', I (i + 1) s' → Go l J F L MC MS Q pc (A (i + 1) s') [] (kf (i + 1)) (nf (i + 1)) (MM s')) → Go l J F L MC MS Q pc (A i s) [] (kf i) (nf i) (MM s)) (hx : ∀ s, I N s → Go l J F L MC MS Q pc (A N s) [] (kf N) (nf N) (MM s)) : Go l J F L MC MS Q pc lv [] k n M := by
  refine g_sub hA ?_
  rw [hM, hk, hn]
  have key : ∀ d i s, i + d = N → I i s → Go l J F L MC MS Q pc (A i s) [] (kf i) (nf i) (MM s) := by
    intro d
    induction d with
    | zero => intro i s hi hI; rw [Nat.add_zero] at hi; subst hi; exact hx s hI
    | succ d ih => intro i s hi hI; exact hs i s (by omega) hI (fun s' hI' => ih (i + 1) s' (by omega) hI')
  exact key N 0 s0 (Nat.zero_add N) h0
end
