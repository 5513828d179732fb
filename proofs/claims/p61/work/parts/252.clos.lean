/-! new matrices; closures by walks -/
section
variable {l : Launch} {J : Jm} {F L MC MS : Nat} {Q : Res → Mem → Prop} {pc : Nat} {lv : List (Nat × Value)} {st : List Value} {k n : Nat} {M : Mem}
theorem g_wk {k9 n9 : Nat} (hk : k ≤ k9) (hn : n ≤ n9) (kk : Go l J F L MC MS Q pc lv st k n M) : Go l J F L MC MS Q pc lv st k9 n9 M := by
  intro p e s m args below meth c G H locs cells slots ls hX hC hR hS hl hc hs
  exact kk p e s m args below meth c G H locs cells slots ls hX hC hR hS hl (by omega) (by omega)
theorem go_kn {k9 n9 : Nat} (hk : k9 = k) (hn : n9 = n) (kk : Go l J F L MC MS Q pc lv st k n M) : Go l J F L MC MS Q pc lv st k9 n9 M := by
  rw [hk, hn]
  exact kk
/-- a loop whose end is seen on the way -/
theorem go_whileS {σ : Type} (N : Nat) (A : Nat → σ → List (Nat × Value)) (MM : σ → Mem) (I : Nat → σ → Prop) (s0 : σ) (hA : lvSub lv (A 0 s0)) (hM : M = MM s0) (h0 : I 0 s0) (hN : ∀ i s, I i s → i ≤ N)
    (hs : ∀ i s, I i s → (∀ s', I (i + 1) s' → Go l J F L MC MS Q pc (A (i + 1) s') [] k n (MM s')) → Go l J F L MC MS Q pc (A i s) [] k n (MM s)) : Go l J F L MC MS Q pc lv [] k n M := by
  refine g_sub hA ?_
  rw [hM]
  have key : ∀ d i s, i + d = N → I i s → Go l J F L MC MS Q pc (A i s) [] k n (MM s) := by
    intro d
    induction d with
    | zero => intro i s hi hI; exact hs i s hI (fun s' hI' => absurd (hN _ _ hI') (by omega))
    | succ d ih => intro i s hi hI; exact hs i s hI (fun s' hI' => ih (i + 1) s' (by omega) hI')
  exact key N 0 s0 (Nat.zero_add N) h0
end
/-- new matrices, their rows in a line -/
def NM (M M' : Mem) (n m b : Nat) (f : Nat → Nat → Bool) : Prop := Mt M' m n (fun r => b + r) f ∧ (mK M).length ≤ m ∧ (mK M).length ≤ b ∧ Xn M M'
/-- what nodes reach -/
def TCb (f : Nat → Nat → Bool) (n a b : Nat) : Prop := ∀ T : Nat → Nat → Prop, (∀ x y, x < n → y < n → f x y = true → T x y) → (∀ x y z, T x y → T y z → T x z) → T a b
noncomputable def clB (f : Nat → Nat → Bool) (n a b : Nat) : Bool := @decide (TCb f n a b) (Classical.propDecidable _)
theorem clB_t {f : Nat → Nat → Bool} {n a b : Nat} : clB f n a b = true ↔ TCb f n a b := by
  exact @decide_eq_true_iff _ (Classical.propDecidable _)
theorem nar_Z (v : Bool) : vp_nar .boolean (b1 v) = b1 v := by cases v <;> decide
section
variable {l : Launch} {M M' M2 : Mem} {m n d s t a b c R : Nat} {rw9 : Nat → Nat} {f g : Nat → Nat → Bool} {q : DQ} {u u' : Nat → Int64} {ρ ρ' : Nat → Nat × Nat} {W : Nat → Prop} {x : Int32} {xs : List Nat}
theorem Mt.put {v : Bool} {j : Nat} (h : Mt M m n rw9 f) (ha : a < n) (hi : ∀ r, r < n → rw9 r = rw9 a → r = a) : Mt (sI M (rw9 a) (fun_set (mI M (rw9 a)) j (vp_nar .boolean (b1 v)))) m n rw9 (fun r c => if r = a ∧ c = j then v else f r c) := by
  refine ⟨h.1, fun r hr => ⟨(h.2 r hr).1, (h.2 r hr).2.1, fun c hc => ?_⟩⟩
  show _ = b1 (if r = a ∧ c = j then v else f r c)
  by_cases e : r = a
  · subst e
    rw [sI_self]
    by_cases e2 : c = j
    · subst e2
      rw [fs_self, nar_Z, if_pos ⟨rfl, rfl⟩]
    · rw [fs_ne _ _ e2, if_neg (fun z => e2 z.2)]
      exact (h.2 r hr).2.2 c hc
  · rw [sI_ne (fun z => e (hi r hr z)), if_neg (fun z => e z.1)]
    exact (h.2 r hr).2.2 c hc
theorem DK.lt (h : DK M d n q u) : d < (mK M).length ∧ q.1 < (mK M).length ∧ q.2.1 < (mK M).length ∧ q.2.2.1 < (mK M).length ∧ ∀ s, s < 6 → q.2.2.2.1 s < (mK M).length ∧ q.2.2.2.2.2 s < (mK M).length ∧ ∀ r, r < n → q.2.2.2.2.1 s r < (mK M).length :=
  ⟨k_lt h.1.1, k_lt h.2.2.1.1, k_lt h.2.2.1.2.1, k_lt h.2.2.1.2.2, fun s hs => ⟨(h.2.2.2 s hs).1.2.lt.1, k_lt (h.2.2.2 s hs).2.2.2.1, (h.2.2.2 s hs).1.2.lt.2⟩⟩
theorem OW.cg (ho : OW ρ d n q) (h : DK M d n q u) (hρ : ∀ i, i < (mK M).length → ρ' i = ρ i) : OW ρ' d n q := by
  obtain ⟨l1, l2, l3, l4, l5⟩ := h.lt
  obtain ⟨o1, o2, o3, o4, o5⟩ := ho
  refine ⟨(hρ _ l1).trans o1, (hρ _ l2).trans o2, (hρ _ l3).trans o3, (hρ _ l4).trans o4, fun s hs => ?_⟩
  obtain ⟨p1, p2, p3⟩ := o5 s hs
  obtain ⟨k1, k2, k3⟩ := l5 s hs
  exact ⟨(hρ _ k1).trans p1, (hρ _ k2).trans p2, fun r hr => (hρ _ (k3 r hr)).trans (p3 r hr)⟩
/-- the owners where a slot has a new matrix -/
def rhoM (ρ : Nat → Nat × Nat) (d s m b n : Nat) : Nat → Nat × Nat := fun i => if i = m then (d, 10 + s) else if b ≤ i ∧ i < b + n then (d, 30 + 16 * s + (i - b)) else ρ i
def qM (q : DQ) (s m b : Nat) : DQ := (q.1, q.2.1, q.2.2.1, fun_set q.2.2.2.1 s m, fun_set q.2.2.2.2.1 s (fun r => b + r), q.2.2.2.2.2)
theorem rhoM_old {N i : Nat} (hm : N ≤ m) (hb : N ≤ b) (hi : i < N) : rhoM ρ d s m b n i = ρ i := by
  unfold rhoM
  rw [if_neg (by omega), if_neg (by omega)]
theorem OW.mat (ho : OW ρ d n q) (h : DK M d n q u) (hN : NM M M' n m b f) : OW (rhoM ρ d s m b n) d n (qM q s m b) := by
  obtain ⟨h1, h2, h3, h4⟩ := hN
  obtain ⟨o1, o2, o3, o4, o5⟩ := ho.cg h (ρ' := rhoM ρ d s m b n) (fun i hi => rhoM_old h2 h3 hi)
  refine ⟨o1, o2, o3, o4, fun t ht => ?_⟩
  obtain ⟨p1, p2, p3⟩ := o5 t ht
  show rhoM ρ d s m b n (fun_set q.2.2.2.1 s m t) = _ ∧ _ ∧ ∀ r, r < n → rhoM ρ d s m b n (fun_set q.2.2.2.2.1 s (fun r => b + r) t r) = _
  by_cases e : t = s
  · subst e
    rw [fs_self, fs_self]
    refine ⟨by unfold rhoM; rw [if_pos rfl], p2, fun r hr => ?_⟩
    have hne : b + r ≠ m := fun z => by
      have h5 := (h1.2 r hr).2.1
      rw [show (fun r => b + r) r = m from z, h1.1] at h5
      cases h5
    unfold rhoM
    show (if b + r = m then _ else if b ≤ b + r ∧ b + r < b + n then (d, 30 + 16 * t + (b + r - b)) else _) = _
    rw [if_neg hne, if_pos ⟨by omega, by omega⟩, show b + r - b = r by omega]
  · rw [fs_ne _ _ e, fs_ne _ _ e]
    exact ⟨p1, p2, p3⟩
/-- a slot's matrix is another -/
theorem DK.mat (h : DK M d n q u) (hm : Mt M m n (fun r => b + r) f) (hf : ∀ r c, r < n → c < n → f r c = hb (rI u' s r) c) (hu : ∀ t, t < 6 → t ≠ s → uE u u' n t) (hk : u' (4 + s) = u (4 + s) ∧ u' (10 + s) = u (10 + s) ∧ u' (16 + s) = u (16 + s) ∧ u' (22 + s) = u (22 + s)) (h123 : u' 1 = u 1 ∧ u' 2 = u 2 ∧ u' 3 = u 3) : DK (sR M q.1 (fun_set (mR M q.1) s (some m))) d n (qM q s m b) u' := by
  obtain ⟨⟨a1, a2, a3, a4⟩, ⟨b1', b2, b3, b4⟩, ⟨c1, c2, c3⟩, hS⟩ := h
  have nd : d ≠ q.1 := fun e => by rw [e, c1] at a1; cases a1
  have n3 : q.2.2.1 ≠ q.1 := fun e => by rw [e, c1] at c3; cases c3
  have hx : Xt (fun i => i = q.1) M (sR M q.1 (fun_set (mR M q.1) s (some m))) := (Xt.rf _ M).sR (fun _ => rfl)
  have nM : ∀ {m9 : Nat} {r9 : Nat → Nat} {f9 : Nat → Nat → Bool}, Mt M m9 n r9 f9 → Mt (sR M q.1 (fun_set (mR M q.1) s (some m))) m9 n r9 f9 := fun {m9 r9 f9} h9 => h9.xt hx (fun e => by have h8 := h9.1; rw [e, c1] at h8; cases h8) (fun r hr e => by have h8 := (h9.2 r hr).2.1; rw [e, c1] at h8; cases h8)
  have eR := hx.R (k_lt a1) nd
  refine ⟨⟨a1, (congrFun eR 4).trans a2, (congrFun eR 5).trans a3, (congrFun eR 6).trans a4⟩, ⟨b1', b2.trans (by rw [h123.1]), b3.trans (by rw [h123.2.1]), b4.trans (by rw [h123.2.2])⟩, ⟨c1, c2, c3⟩, fun t ht => ?_⟩
  obtain ⟨⟨g1, g2⟩, ⟨k, g3, g4⟩, g5, g6, g7, g8, g9⟩ := hS t ht
  show (mR (sR M q.1 (fun_set (mR M q.1) s (some m))) q.1 t = some (fun_set q.2.2.2.1 s m t) ∧ Mt (sR M q.1 (fun_set (mR M q.1) s (some m))) (fun_set q.2.2.2.1 s m t) n (fun_set q.2.2.2.2.1 s (fun r => b + r) t) (fB (rI u' t))) ∧ _
  rw [sR_self]
  by_cases e : t = s
  · subst e
    rw [fs_self, fs_self, fs_self]
    exact ⟨⟨rfl, (nM hm).cg hf⟩, ⟨k, g3, hk.1.trans g4⟩, (congrFun (hx.R (k_lt c3) n3) t).trans g5, g6, g7.trans (by rw [hk.2.1]), g8.trans (by rw [hk.2.2.1]), g9.trans (by rw [hk.2.2.2])⟩
  · rw [fs_ne _ _ e, fs_ne _ _ e, fs_ne _ _ e]
    obtain ⟨v0, v1, v2, v3, v4⟩ := hu t ht e
    exact ⟨⟨g1, (hu t ht e).mt (nM g2)⟩, ⟨k, g3, v1.trans g4⟩, (congrFun (hx.R (k_lt c3) n3) t).trans g5, g6, g7.trans (by rw [v2]), g8.trans (by rw [v3]), g9.trans (by rw [v4])⟩
theorem k_set {k : Bool} (h : DK M d n q u) (hs : s < 6) (hm : Mt M m n rw9 f) (h1 : DK (sR M q.1 (fun_set (mR M q.1) s (some m))) d n (qM q s m b) u') (ho : OW ρ d n (qM q s m b)) (hk : mI M q.2.1 s = b1 k) : EvR l jX7_set 2 60 0 0 [.ref d, .int (nI s), .ref m] M (.inl none) (dkAnew (sR M q.1 (fun_set (mR M q.1) s (some m))) (q.2.2.2.2.2 s) k (nI n)) := by
  obtain ⟨⟨a1, a2, a3, a4⟩, -, ⟨c1, c2, c3⟩, hS⟩ := h
  refine ev_intro rfl (nb rfl) rfl ?_
  refine g_aload_n (pc := 0) dX7_set_0 rfl trivial ?_
  refine g_getf (pc := 1) dX7_set_1 fk_X7_27 a1 (fv_arr a2) ?_
  refine g_iload_n (pc := 4) dX7_set_4 rfl ?_
  refine g_aload_n (pc := 5) dX7_set_5 rfl trivial ?_
  refine g_aastore_Z2 (pc := 6) dX7_set_6 c1 rfl hs (by decide) hm.1 ?_
  refine g_aload_n (pc := 7) dX7_set_7 rfl trivial ?_
  refine g_iload_n (pc := 8) dX7_set_8 rfl ?_
  refine g_invV_r (pc := 9) (As := [_]) dX7_set_9 rfl (k_anew h1 ho hs hk) rfl rfl a1 rfl rfl lk_X7_51 rfl (nb rfl) ⟨nb rfl, nb rfl⟩ rfl ?_
  refine g_return (pc := 12) dX7_set_12 rfl ?_
  exact ⟨rfl, rfl⟩
/-- the unit -/
theorem k_unit (hd : (mK M)[d]? = some (.inr 7)) (hz : mI M d 0 = nI n) (hn : n ≤ 9) (hx : mX M = true) : EvO l jX7_unit 1 30 10 90 [.ref d] M (fun r M' => ∃ m b, r = some (.ref m) ∧ NM M M' n m b (fun r c => decide (r = c))) := by
  have hF := fresh_Mt M n
  have hX := os2_xt M .boolean n n
  refine ev_intro rfl (nb rfl) rfl ?_
  refine g_aload_n (pc := 0) dX7_unit_0 rfl trivial ?_
  refine g_invV_r (pc := 1) (As := []) dX7_unit_1 rfl (k_fresh hd hz hn hx) rfl rfl hd rfl rfl lk_X7_56 rfl (nb rfl) ⟨nb rfl, nb rfl⟩ rfl ?_
  show Go l _ _ _ _ _ _ _ _ (.ref (mK M).length :: []) _ _ (opsM M (os2 .boolean n n (mK M).length))
  have hd' := hX.k hd
  have hz' := (congrFun (hX.I (k_lt hd) id) 0).trans hz
  have hL := os2_len M .boolean n n
  generalize opsM M (os2 .boolean n n (mK M).length) = M1 at *
  refine g_astore_n (pc := 4) (lv' := [(0, _), (1, _)]) dX7_unit_4 trivial (nl rfl) rfl ?_
  refine g_iconst (pc := 5) (v := 0) dX7_unit_5 rfl ?_
  refine g_istore_n (pc := 6) (lv' := [(0, _), (1, _), (2, _)]) dX7_unit_6 (nl rfl) rfl ?_
  refine go_forS (pc := 7) n (fun i (_ : Mem) => [(0, .ref d), (1, .ref (mK M).length), (2, .int (nI i))]) id (fun i Mx => Xt (fun j => (mK M).length < j) M1 Mx ∧ Mt Mx (mK M).length n (fun r => (mK M).length + 1 + r) (fun r c => decide (r = c ∧ r < i))) (fun _ => 0) (fun _ => 0) M1 ⟨rfl, rfl, rfl, trivial⟩ rfl rfl rfl ⟨Xt.rf _ M1, hF.cg (fun r c _ _ => (decide_eq_false (fun z => Nat.not_lt_zero _ z.2)).symm)⟩ ?_ ?_
  · rintro i Mx hi ⟨h1, h2⟩ ih
    have hd9 := h1.k hd'
    have hz9 := (congrFun (h1.I (k_lt hd') (Nat.lt_asymm (k_lt hd))) 0).trans hz'
    refine g_iload_n (pc := 7) dX7_unit_7 rfl ?_
    refine g_aload_n (pc := 8) dX7_unit_8 rfl trivial ?_
    refine g_getf (pc := 9) (v := .int _) dX7_unit_9 fk_X7_22 hd9 (fun _ => congrArg Value.int (hz9)) ?_
    refine g_icmp_ge (pc := 12) (tgt := 27) dX7_unit_12 rfl (fun h12 => absurd h12 (nI_ge hi (by omega))) (fun _ => ?_)
    refine g_aload_n (pc := 15) dX7_unit_15 rfl trivial ?_
    refine g_iload_n (pc := 16) dX7_unit_16 rfl ?_
    refine g_aaload_Z1 (pc := 17) dX7_unit_17 h2.1 rfl hi (by omega) (h2.2 i hi).1 ?_
    refine g_iload_n (pc := 18) dX7_unit_18 rfl ?_
    refine g_iconst (pc := 19) (v := 1) dX7_unit_19 rfl ?_
    refine g_zastore (pc := 20) dX7_unit_20 (h2.2 i hi).2.1 rfl hi (by omega) ?_
    refine g_iinc (pc := 21) (lv' := [(0, _), (1, _), (2, _)]) dX7_unit_21 rfl (nI_1 _) (nl rfl) rfl ?_
    refine g_goto (pc := 24) (tgt := 7) dX7_unit_24 rfl ?_
    refine g_subk (pc := 7) (ih _ ⟨h1.sI (fun _ => by show (mK M).length < (mK M).length + 1 + i; omega), ?_⟩) ⟨rfl, rfl, rfl, trivial⟩
    refine (h2.put (v := true) (j := i) hi (fun r _ e => by omega)).cg (fun r c hr hc => ?_)
    by_cases e : r = i ∧ c = i
    · rw [if_pos e, e.1, e.2]
      exact (decide_eq_true ⟨rfl, Nat.lt_succ_self i⟩).symm
    · rw [if_neg e]
      exact decide_eq_decide.mpr ⟨fun z => ⟨z.1, Nat.lt_succ_of_lt z.2⟩, fun z => ⟨z.1, by omega⟩⟩
  · rintro Mx ⟨h1, h2⟩
    have hd9 := h1.k hd'
    have hz9 := (congrFun (h1.I (k_lt hd') (Nat.lt_asymm (k_lt hd))) 0).trans hz'
    refine g_iload_n (pc := 7) dX7_unit_7 rfl ?_
    refine g_aload_n (pc := 8) dX7_unit_8 rfl trivial ?_
    refine g_getf (pc := 9) (v := .int _) dX7_unit_9 fk_X7_22 hd9 (fun _ => congrArg Value.int (hz9)) ?_
    refine g_icmp_ge (pc := 12) (tgt := 27) dX7_unit_12 rfl (fun _ => ?_) (fun h12 => absurd (nI_le (Nat.le_refl _) (by omega)) h12)
    refine g_aload_n (pc := 27) dX7_unit_27 rfl trivial ?_
    refine g_areturn (pc := 28) dX7_unit_28 rfl (Or.inr ⟨_, rfl⟩) ?_
    refine ⟨_, rfl, _, (mK M).length + 1, rfl, h2.cg (fun r c hr _ => decide_eq_decide.mpr ⟨fun z => z.1, fun z => ⟨z, hr⟩⟩), Nat.le_refl _, Nat.le_succ _, hX.tr' (h1.up (W' := fun j => (mK M).length < j) (fun _ _ z => z)) (fun j hj z => absurd hj (Nat.lt_asymm z))⟩
end

