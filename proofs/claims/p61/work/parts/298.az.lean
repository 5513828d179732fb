/-! the law's desks and the class's state, in one memory -/
/-- a desk: its cell, its cells, its numbers -/
abbrev OD : Type := Nat × DQ × (Nat → Int64)
def usO (os : List OD) : Nat → Nat → Int64 := fun i => match os[i]? with
  | some o => o.2.2
  | none => fun _ => 0
def OO (M : Mem) (ρ : Nat → Nat × Nat) (n : Nat) (os : List OD) : Prop := ∀ o ∈ os, DK M o.1 n o.2.1 o.2.2 ∧ OW ρ o.1 n o.2.1 ∧ 198 ≤ o.1
def AR (M : Mem) (A d : Nat) : Prop := (mK M)[A]? = some (.inl (.object "BitDeskLaw$Desk", 1)) ∧ mR M A 0 = some d
/-- cells that no desk owns -/
def NO (ρ : Nat → Nat × Nat) (A P : Nat) (eo : Option Nat) : Prop := (∀ i, i < 198 → (ρ i).1 = 0) ∧ ((198 ≤ A ∧ (ρ A).1 = 0) ∧ 198 ≤ P ∧ (ρ P).1 = 0) ∧ ∀ e, eo = some e → 198 ≤ e ∧ (ρ e).1 = 0
/-- an action under way: all but the desk itself -/
def AZ (M : Mem) (A P n p c d : Nat) (u : Nat → Int64) (us : Nat → Nat → Int64) (ρ : Nat → Nat × Nat) (eo : Option Nat) (os : List OD) (nv : OD) : Prop := CV M n p c u us ∧ (AR M A d ∧ AL M P eo (os.map (fun o => o.1))) ∧ OO M ρ n (nv :: os) ∧ (d :: nv.1 :: os.map (fun o => o.1)).Nodup ∧ NO ρ A P eo ∧ 198 ≤ d ∧ n ≤ 9
/-- between actions -/
def LV (M : Mem) (A P n : Nat) : Prop := ∃ (p : Nat) (u : Nat → Int64) (d : Nat) (q : DQ) (ρ : Nat → Nat × Nat) (eo : Option Nat) (os : List OD), CV M n p os.length u (usO os) ∧ (AR M A d ∧ AL M P eo (os.map (fun o => o.1))) ∧ (DK M d n q u ∧ OW ρ d n q ∧ 198 ≤ d) ∧ OO M ρ n os ∧ (d :: os.map (fun o => o.1)).Nodup ∧ NO ρ A P eo ∧ n ≤ 9
section
variable {l : Launch} {J : Jm} {F L MC MS : Nat} {Q : Res → Mem → Prop} {pc : Nat} {lv : List (Nat × Value)} {st : List Value} {k n : Nat} {M : Mem}
theorem fvs_sX (G : Gl) (M : Mem) (id : Nat) : ∀ (ts : List FieldType) (k : Nat), fvs G (sX M) id k ts = fvs G M id k ts
  | [], _ => rfl
  | t :: ts, k => by
    rw [fvs, fvs, fvs_sX G M id ts (k + 1)]
    rfl
theorem wl_sX (G : Gl) (M : Mem) : wl G (sX M) = wl G M := by
  unfold wl
  congr 1
  funext i x
  cases x with
  | inl y => obtain ⟨t, m⟩ := y; cases t <;> rfl
  | inr y => exact congrArg (fun z => (gB G + i, (Sum.inr (y, z) : va_E))) (fvs_sX G M i (ftyA y) 0)
/-- what was made since is forgotten -/
theorem g_sX (kk : Go l J F L MC MS Q pc lv st k n (sX M)) : Go l J F L MC MS Q pc lv st k n M := by
  intro p e s m args below meth c G H locs cells slots ls hX hC hR hS hl hc hs
  exact kk p e s m args below meth c G H locs cells slots ls hX hC ⟨by rw [wl_sX]; exact hR.1, fun h9 => Bool.noConfusion h9, hR.2.2.1, hR.2.2.2⟩ hS hl hc hs
end
section
variable {l : Launch} {M M' : Mem} {A P n p c d p' c' : Nat} {u u' : Nat → Int64} {us us' : Nat → Nat → Int64} {ρ ρ' : Nat → Nat × Nat} {eo : Option Nat} {os : List OD} {nv : OD} {W : Nat → Prop} {q : DQ} {ds : List Nat}
theorem reft_lt {i j r : Nat} (h : REFT i j = some r) : i < 198 := Nat.lt_of_not_le (fun hi => by
  unfold REFT at h
  rw [if_neg (show ¬ i = 0 by omega), if_neg (show ¬ i = 1 by omega), if_neg (show ¬ i < 17 by omega), if_neg (show ¬ i < 31 by omega), if_neg (show ¬ i = 31 by omega), if_neg (show ¬ i < 144 by omega), if_neg (show ¬ i = 144 by omega), if_neg (show ¬ i < 159 by omega), if_neg (show ¬ i < 173 by omega), if_neg (show ¬ i = 174 by omega), if_neg (show ¬ i < 175 by omega), if_neg (show ¬ i < 187 by omega), if_neg (show ¬ i = 187 by omega), if_neg (show ¬ i = 191 by omega)] at h
  cases h)
theorem lay_l : LAY.length = 198 := by decide +kernel
theorem shp_len (h : Shp M) : 198 ≤ (mK M).length := by
  obtain ⟨r9, hr⟩ := h.1
  rw [hr, List.length_append, lay_l]
  omega
theorem shp_xt (h : Shp M) (hx : Xt W M M') (hW : ∀ i, i < 198 → ¬ W i) : Shp M' := by
  have hl := shp_len h
  obtain ⟨⟨r9, hr⟩, -, h3⟩ := h
  refine ⟨?_, trivial, fun i j r e => ?_⟩
  · obtain ⟨r8, h8⟩ := hx.1
    exact ⟨r9 ++ r8, by rw [h8, hr, List.append_assoc]⟩
  · have hi := reft_lt e
    rw [hx.R (by omega) (hW i hi)]
    exact h3 i j r e
theorem CV.uc (h : CV M n p c u us) (e : ∀ i, i < c → us i = us' i) : CV M n p c u us' := by
  obtain ⟨h1, h2, ⟨p1, p2, p3, p4, p6⟩, h4, h5⟩ := h
  exact ⟨h1, h2, ⟨p1, p2, p3, p4, fun i hi => by rw [← e i hi]; exact p6 i hi⟩, h4, h5⟩
theorem CV.xt (h : CV M n p c u us) (hx : Xt W M M') (hW : ∀ i, i < 198 → ¬ W i) : CV M' n p c u us := by
  have hl := shp_len h.S
  have e : ∀ i, i < 198 → mI M' i = mI M i := fun i hi => hx.I (by omega) (hW i hi)
  have hS := shp_xt h.S hx hW
  obtain ⟨h1, h2, ⟨p1, p2, p3, p4, p6⟩, h4, h5⟩ := h
  refine ⟨hS, SR_cg h2 (fun i _ hi => e i (by omega)) (fun _ _ => rfl), ⟨by rw [e 0 (by decide)]; exact p1, p2, by rw [e 0 (by decide)]; exact p3, p4, fun i hi => ?_⟩, ic_cg h4 (fun i _ hi => e i (by omega)) (fun i _ hi => e i (by omega)), by rw [e 188 (by decide)]; exact h5⟩
  have hm : (p + 8 - c + i) % 8 < 8 := Nat.mod_lt _ (by decide)
  exact SR_cg (p6 i hi) (fun j _ hj => e j (by omega)) (fun _ _ => rfl)
theorem AL.xt (h : AL M P eo ds) (hx : Xt W M M') (h1 : ¬ W P) (h2 : ∀ e, eo = some e → ¬ W e) : AL M' P eo ds := by
  obtain ⟨⟨a1, a2, a3, a4⟩, a5, a6⟩ := h
  refine ⟨⟨hx.k a1, (congrFun (hx.I (k_lt a1) h1) 2).trans a2, (congrFun (hx.R (k_lt a1) h1) 1).trans a3, hx.2.1.trans a4⟩, ?_, fun d hd => hx.k (a6 d hd)⟩
  cases eo with
  | none => exact ⟨a5.1, (congrFun (hx.I (k_lt a1) h1) 1).trans a5.2⟩
  | some e =>
    obtain ⟨b1', b2, b3, b4⟩ := a5
    have ne := h2 e rfl
    exact ⟨hx.k b1', fun j => (congrFun (hx.I (k_lt b1') ne) j).trans (b2 j), b3, fun j hj => (congrFun (hx.R (k_lt b1') ne) j).trans (b4 j hj)⟩
theorem AL.lt (h : AL M P eo ds) : P < (mK M).length ∧ ∀ e, eo = some e → e < (mK M).length := by
  refine ⟨k_lt h.1.1, fun e he => ?_⟩
  subst he
  exact k_lt h.2.1.1
theorem AR.xt (h : AR M A d) (hx : Xt W M M') (h1 : ¬ W A) : AR M' A d := ⟨hx.k h.1, (congrFun (hx.R (k_lt h.1) h1) 0).trans h.2⟩
theorem OO.xt (h : OO M ρ n os) (hx : Xt W M M') (hW : ∀ i, i < (mK M).length → W i → ∀ o ∈ os, (ρ i).1 ≠ o.1) (hρ : ∀ i, i < (mK M).length → ρ' i = ρ i) : OO M' ρ' n os := fun o ho => by
  obtain ⟨h1, h2, h3⟩ := h o ho
  have h4 := h1.xt h2 hx (fun i hi w => hW i hi w o ho)
  exact ⟨h4, h2.cg h1 hρ, h3⟩
theorem NO.cg {N : Nat} (h : NO ρ A P eo) (hN : 198 ≤ N) (hA : A < N) (hP : P < N) (he : ∀ e, eo = some e → e < N) (hρ : ∀ i, i < N → ρ' i = ρ i) : NO ρ' A P eo := by
  obtain ⟨h1, ⟨⟨h2, h3⟩, h4, h5⟩, h6⟩ := h
  exact ⟨fun i hi => by rw [hρ i (by omega)]; exact h1 i hi, ⟨⟨h2, by rw [hρ A hA]; exact h3⟩, h4, by rw [hρ P hP]; exact h5⟩, fun e e1 => ⟨(h6 e e1).1, by rw [hρ e (he e e1)]; exact (h6 e e1).2⟩⟩
theorem AZ.xt (h : AZ M A P n p c d u us ρ eo os nv) (hx : Xt W M M') (hW : ∀ i, i < (mK M).length → W i → (ρ i).1 = d) (hρ : ∀ i, i < (mK M).length → ρ' i = ρ i) : AZ M' A P n p c d u us ρ' eo os nv := by
  obtain ⟨h1, ⟨h2, h3⟩, h4, h5, h6, h7, h8⟩ := h
  have hl := shp_len h1.S
  have d0 : d ≠ 0 := by omega
  have nA : ¬ W A := fun w => d0 ((hW A (k_lt h2.1) w).symm.trans h6.2.1.1.2)
  have nP : ¬ W P := fun w => d0 ((hW P h3.lt.1 w).symm.trans h6.2.1.2.2)
  have ne : ∀ e, eo = some e → ¬ W e := fun e he w => d0 ((hW e (h3.lt.2 e he) w).symm.trans (h6.2.2 e he).2)
  refine ⟨h1.xt hx (fun i hi w => d0 ((hW i (by omega) w).symm.trans (h6.1 i hi))), ⟨h2.xt hx nA, h3.xt hx nP ne⟩, h4.xt hx (fun i hi w o ho => ?_) hρ, h5, h6.cg hl (k_lt h2.1) h3.lt.1 h3.lt.2 hρ, h7, h8⟩
  rw [hW i hi w]
  intro e
  rw [List.nodup_cons] at h5
  refine h5.1 ?_
  rw [e]
  exact List.mem_map_of_mem (f := fun o => o.1) ho
theorem AZ.x (h : AZ M A P n p c d u us ρ eo os nv) : mX M = true := h.2.1.2.1.2.2.2
/-- the class has done its part -/
theorem AZ.cf (h : AZ M A P n p c d u us ρ eo os nv) (hc : Cf M M') (hv : CV M' n p' c' u' us') : AZ M' A P n p' c' d u' us' ρ eo os nv := by
  obtain ⟨h1, ⟨h2, h3⟩, h4, h5, h6, h7, h8⟩ := h
  refine ⟨hv, ⟨h2.xt hc.x (by have := h6.2.1.1.1; omega), h3.xt hc.x (by have := h6.2.1.2.1; omega) (fun e he => by have := (h6.2.2 e he).1; omega)⟩, h4.xt hc.x (fun i _ hi o ho => ?_) (fun _ _ => rfl), h5, h6, h7, h8⟩
  rw [h6.1 i hi]
  have := (h4 o ho).2.2
  omega
theorem DK.cf (h : DK M d n q u) (ho : OW ρ d n q) (hd : 198 ≤ d) (hN : NO ρ A P eo) (hc : Cf M M') : DK M' d n q u := h.xt ho hc.x (fun i _ hi => by
  rw [hN.1 i hi]
  omega)
/-! the past, one more -/
def nxO (os : List OD) (nv : OD) : List OD := if os.length = 8 then (os ++ [nv]).tail else os ++ [nv]
theorem nx_len (h : os.length ≤ 8) : (nxO os nv).length = cyC os.length := by
  unfold nxO cyC
  split
  · rename_i e
    rw [List.length_tail, List.length_append, e]
    rfl
  · rw [List.length_append]
    rfl
theorem nx_us (h : os.length ≤ 8) (hu : nv.2.2 = u) {i : Nat} (hi : i < cyC os.length) : usP (usO os) os.length u i = usO (nxO os nv) i := by
  have hl := nx_len (nv := nv) h
  unfold usP
  by_cases e8 : os.length = 8
  · have ec : cyC os.length = 8 := by rw [e8]; rfl
    have e9 : (nxO os nv)[i]? = (os ++ [nv])[i + 1]? := by
      unfold nxO
      rw [if_pos e8, List.getElem?_tail]
    show _ = match (nxO os nv)[i]? with | some o => o.2.2 | none => fun _ => 0
    rw [e9]
    by_cases e : i + 1 = cyC os.length
    · rw [if_pos e, List.getElem?_append_right (by omega), show i + 1 - os.length = 0 by omega]
      exact hu.symm
    · rw [if_neg e, if_pos e8, List.getElem?_append_left (by omega)]
      rfl
  · have ec : cyC os.length = os.length + 1 := if_neg e8
    have e9 : (nxO os nv)[i]? = (os ++ [nv])[i]? := by
      unfold nxO
      rw [if_neg e8]
    show _ = match (nxO os nv)[i]? with | some o => o.2.2 | none => fun _ => 0
    rw [e9]
    by_cases e : i + 1 = cyC os.length
    · rw [if_pos e, List.getElem?_append_right (by omega), show i - os.length = 0 by omega]
      exact hu.symm
    · rw [if_neg e, if_neg e8, List.getElem?_append_left (by omega)]
      rfl
theorem nx_mem {o : OD} (h : o ∈ nxO os nv) : o ∈ nv :: os := by
  have h2 : o ∈ os ++ [nv] := by
    unfold nxO at h
    split at h
    · exact List.mem_of_mem_tail h
    · exact h
  rcases List.mem_append.mp h2 with z | z
  · exact List.mem_cons_of_mem _ z
  · rw [List.mem_singleton.mp z]
    exact List.mem_cons_self
theorem nd_app {a x : Nat} {xs : List Nat} (h : (a :: x :: xs).Nodup) : (a :: (xs ++ [x])).Nodup := by
  rw [List.nodup_cons, List.nodup_cons] at h
  obtain ⟨h1, h2, h3⟩ := h
  rw [List.nodup_cons, List.nodup_append]
  refine ⟨fun z => ?_, h3, List.nodup_cons.mpr ⟨List.not_mem_nil, List.nodup_nil⟩, fun y hy z hz => ?_⟩
  · rcases List.mem_append.mp z with w | w
    · exact h1 (List.mem_cons_of_mem _ w)
    · rw [List.mem_singleton.mp w] at h1
      exact h1 List.mem_cons_self
  · rw [List.mem_singleton.mp hz]
    exact fun e => h2 (by rw [← e]; exact hy)
theorem nx_nd (h : (d :: nv.1 :: os.map (fun o => o.1)).Nodup) : (d :: (nxO os nv).map (fun o => o.1)).Nodup := by
  have h2 := nd_app h
  have h3 : (os ++ [nv]).map (fun o => o.1) = os.map (fun o => o.1) ++ [nv.1] := by rw [List.map_append]; rfl
  rw [← h3] at h2
  unfold nxO
  split
  · rw [List.nodup_cons] at h2 ⊢
    rw [List.map_tail]
    exact ⟨fun z => h2.1 (List.mem_of_mem_tail z), List.Pairwise.tail h2.2⟩
  · exact h2
end

