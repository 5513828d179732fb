/-! RULES of the memory: fields, arrays, making, calls, ends. -/
section
variable {l : Launch} {J : Jm} {F L MC MS : Nat} {Q : Res → Mem → Prop} {pc : Nat} {lv : List (Nat × Value)} {st : List Value} {k n : Nat} {M : Mem}
/-- a field as a class's pool names it: the kind of object, the place, the type -/
def FK (own : String) (ix ci j : Nat) (ty : FieldType) : Prop := ∃ (C : String) (T : u_T) (N : Nat) (Rf : String), vwCl[ci]? = some (C, T, N) ∧ j < N ∧ (ftyA ci)[j]? = some ty ∧ (Rf = (T j).1 ∨ Cond.sameField Rf (T j).1 (T j).2.1 (T j).2.2.1 ∈ WS) ∧
  ((Cond.fieldLink own ix Rf (T j).2.1 (T j).2.2.1 ∈ WS) ∨ ∃ host, Cond.fieldLinkNest own ix Rf (T j).2.1 (T j).2.2.1 host ∈ NWL) ∧ (∀ w ∈ u_ws C T N, w ∈ WS)
/-- the same for writing -/
def FP (own : String) (ix ci j : Nat) (ty : FieldType) (fin : Bool) : Prop := ∃ (C : String) (T : u_T) (N : Nat) (ty0 : Nat → FieldType) (Rf : String), vwCl[ci]? = some (C, T, N) ∧ j < N ∧ (ftyA ci)[j]? = some ty ∧ ((Rf = (T j).1 ∨ Cond.sameField Rf (T j).1 (T j).2.1 (T j).2.2.1 ∈ WS) ∧ (fin = true → (T j).1 = C ∧ Rf = C)) ∧
  ((Cond.fieldLink own ix Rf (T j).2.1 (T j).2.2.1 ∈ WS) ∨ ∃ host, Cond.fieldLinkNest own ix Rf (T j).2.1 (T j).2.2.1 host ∈ NWL) ∧ (∀ w ∈ u_ws C T N, w ∈ WS) ∧
  (∀ a, a < N → parseFieldDescriptor (T a).2.2.1 = some (ty0 a)) ∧ (∀ a, a < N → ∀ b, b < N → a ≠ b → (T a).2.1 ≠ (T b).2.1) ∧ (T j).2.2.2 = fin ∧ parseFieldDescriptor (T j).2.2.1 = some ty ∧ N = (ftyA ci).length
theorem ref_same {args : Array Value} {s : State} {Rf : String} {q : String × String × String × Bool} (hts : ∀ w ∈ WS, w.before args s = true) (h : Rf = q.1 ∨ Cond.sameField Rf q.1 q.2.1 q.2.2.1 ∈ WS) : ∀ x, s.fieldFound? q.1 q.2.1 q.2.2.1 = some x → s.fieldFound? Rf q.2.1 q.2.2.1 = some x := by
  rcases h with rfl | h
  · exact fun x hx => hx
  · exact fun x hx => u_same (hts _ h) x hx
theorem g_getf {ix ci j id : Nat} {ty : FieldType} {v : Value} (hd : decode J.2.1 pc = .ok (.getfield ix, 3)) (hf : FK J.1.cls ix ci j ty) (hk : (mK M)[id]? = some (.inr ci)) (hv : ∀ G, fval G M id j ty = cv G v) (kk : Go l J F L MC MS Q (pc + 3) lv (v :: st) k n M) : Go l J F L MC MS Q pc lv (.ref id :: st) k n M := by
  intro p e s m args below meth c G H locs cells slots ls hX hC hR hS hl hc hs
  obtain ⟨C, T, N, Rf, h1, h2, h3, h4, h5, h6⟩ := hf
  have he := wl_get (G := G) hk
  have hx := (fvs_get G M id (ftyA ci) 0 j ty h3)
  rw [Nat.zero_add, hv] at hx
  rcases h5 with h5 | ⟨host, h5⟩
  · exact va_get hX.1.1 hX.1.2.1 hX.1.2.2.2.2 h6 hX.1.2.2.2.1 hC.2.1 hR.1 id he h1 j h2 (hX.1.2.2.2.2 _ h5) (ref_same hX.1.2.2.2.2 h4) hx hd (kk p e s m args below meth c G H locs cells slots ls hX hC hR hS hl hc hs)
  · exact va_getN hX.1.1 hX.1.2.1 hX.1.2.2.2.2 h6 hX.1.2.2.2.1 hC.2.1 hR.1 id he h1 j h2 (va_Nw.use (by rfl) (hC.2.2.1 _ h5)) (ref_same hX.1.2.2.2.2 h4) hx hd (kk p e s m args below meth c G H locs cells slots ls hX hC hR hS hl hc hs)
theorem fvs_set (G : Gl) (M M' : Mem) (id j : Nat) (ty : FieldType) (v : Value) : ∀ (ts : List FieldType) (i : Nat), ts[j]? = some ty → fval G M' id (i + j) ty = v → (∀ a t, a ≠ i + j → fval G M' id a t = fval G M id a t) → (fvs G M id i ts).set j v = fvs G M' id i ts := by
  induction j with
  | zero =>
    intro ts i h1 h2 h3
    cases ts with
    | nil => cases h1
    | cons t ts =>
      simp at h1
      subst h1
      have : ∀ (us : List FieldType) (b : Nat), i < b → fvs G M id b us = fvs G M' id b us := by
        intro us
        induction us with
        | nil => intro b hb; rfl
        | cons u us ih => intro b hb; simp only [fvs]; rw [h3 b u (by omega), ih (b + 1) (by omega)]
      simp only [fvs, List.set_cons_zero]
      rw [this ts (i + 1) (by omega)]
      simp at h2
      rw [h2]
  | succ j ih =>
    intro ts i h1 h2 h3
    cases ts with
    | nil => cases h1
    | cons t ts =>
      simp only [fvs, List.set_cons_succ]
      rw [h3 i t (by omega), ih ts (i + 1) (by simpa using h1) (by rw [← h2]; congr 1; omega) (fun a t ha => h3 a t (by omega))]
/-- a new memory that differs in one cell, after a write -/
theorem rel_set {G : Gl} {M M' : Mem} {H H1 : Heap} {i : Nat} {x : Knd} (hR : Rel G M H) (hk : (mK M)[i]? = some x) (hK : mK M' = mK M) (hX : mX M' = mX M) (hSc : mS M' = mS M) (ho : ∀ j y, j ≠ i → (mK M)[j]? = some y → ent G M' j y = ent G M j y) (hz : H1.size = H.size) (hP : va_P (gD G) vwCl ((wl G M).set i (gB G + i, ent G M' i x)) H1) : Rel G M' H1 := by
  rw [wl_set hk hK ho] at hP
  exact ⟨hP, by rw [hX, hz, hK]; exact hR.2.1, by rw [hz, hK]; exact hR.2.2.1, hSc.trans hR.2.2.2⟩
theorem va_S_size {A : Nat → Prop} {H0 H : Heap} {locs : List Loc} (h : va_S A H0 H locs) : H0.size ≤ H.size := h.1
theorem g_putf {ix ci j id : Nat} {ty : FieldType} {fin : Bool} {v : Value} {M' : Mem} (hd : decode J.2.1 pc = .ok (.putfield ix, 3)) (hf : FP J.1.cls ix ci j ty fin) (hfin : fin = true → J.1.name = "<init>" ∧ ∃ q, vwCl[ci]? = some q ∧ q.1 = J.1.cls) (hk : (mK M)[id]? = some (.inr ci)) (hn : ∀ G, narrow ty (cv G v) = cv G v ∧ fits ty (cv G v) = true)
    (hK : mK M' = mK M) (hXX : mX M' = mX M) (hSc : mS M' = mS M) (hv : ∀ G, fval G M' id j ty = cv G v) (ho : ∀ G a t, a ≠ j → fval G M' id a t = fval G M id a t) (ho2 : ∀ G i y, i ≠ id → (mK M)[i]? = some y → ent G M' i y = ent G M i y)
    (kk : Go l J F L MC MS Q (pc + 3) lv st k n M') : Go l J F L MC MS Q pc lv (v :: .ref id :: st) k n M := by
  intro p e s m args below meth c G H locs cells slots ls hX hC hR hS hl hc hs
  obtain ⟨C, T, N, ty0, Rf, h1, h2, h3, ⟨h4, h4f⟩, h5, h6, h7, h8, h9, h10, h11⟩ := hf
  have he := wl_get (G := G) hk
  have hts := hX.1.2.2.2.2
  have hK0 := hC.2.1
  have hap := va_apart (own := J.1.cls) hts h6 ty0 h7 h8 hK0 h1
  obtain ⟨r, g1, cell, q1, q2, q3, q4⟩ := hR.1 id _ he
  have hr : r = (C, T, N) := Option.some.inj (g1.symm.trans h1)
  subst hr
  obtain ⟨hSl, hfc, kC, hkC, hkind⟩ := hK0.1 ci _ h1
  obtain ⟨cf, kf, fi, f, hi, hsl⟩ := hSl j h2
  have hi' : s.fieldFound? Rf (T j).2.1 (T j).2.2.1 = some (cf, kf, fi, f) := ref_same hts h4 _ hi
  have hst := (u_facts hfc hkC (u_lays hts h6 h2) hi).1
  have hlt := k2_hasslot (q4 j h2)
  have hlen : j < (fvs G M id 0 (ftyA ci)).length := by rw [fvs_len, ← h11]; exact h2
  have fin' : ∀ (H' : Heap), H'[gB G + id]? = some (cell.setSlot f.slot (cv G v)) → H'.size = H.size → (∀ q, q ≠ gB G + id → H'[q]? = H[q]?) → Rel G M' H' ∧ va_S (Go_A G) s.heap H' (locs ++ [⟨gB G + id, f.slot⟩]) := by
    intro H' e1 e2 e3
    rw [hsl] at e1
    have hP := hR.1.set (e := .inr (ci, (fvs G M id 0 (ftyA ci)).set j (cv G v))) (wl_D G M) he ⟨_, h1, t_OB.to (V := updV (vp_V (fvs G M id 0 (ftyA ci))) j (cv G v)) ⟨_, e1, q2, q3, t_set q4 hap h2 (cv G v)⟩ (fun a _ => vp_updV_set hlen (cv G v) a)⟩ e3
    rw [fvs_set G M M' id j ty (cv G v) (ftyA ci) 0 h3 (by rw [Nat.zero_add]; exact hv G) (fun a t ha => ho G a t (by omega))] at hP
    exact ⟨rel_set hR hk hK hXX hSc (ho2 G) e2 hP, hS.put e2 e3 (by show gB G ≤ _; omega)⟩
  have go : ∀ (H' : Heap), H'[gB G + id]? = some (cell.setSlot f.slot (cv G v)) → H'.size = H.size → (∀ q, q ≠ gB G + id → H'[q]? = H[q]?) → W p l e ({ frames := F, cells := MC, slots := MS, locals := L } : Room) s m args below meth c H' (locs ++ [⟨gB G + id, f.slot⟩]) cells slots (vx_MQ below (QcOf G Q) (XCOf G Q) args s MC MS (Go_A G)) (F0 m (pc + 3) ls (st.map (cv G))) := by
    intro H' e1 e2 e3
    obtain ⟨hR', hS'⟩ := fin' H' e1 e2 e3
    exact kk p e s m args below meth c G H' _ cells slots ls hX hC hR' hS' hl hc hs
  cases fin with
  | false =>
    have hlay := hts _ (h6 _ (u_in_lay h2))
    unfold u_lay at hlay
    rw [if_neg (by rw [h9]; decide)] at hlay
    have h12 := u_store hfc hkC hkind hlay hi h10 (hn G).1 (hn G).2
    rcases h5 with h5 | ⟨host, h5⟩
    · exact W.putK hX.1.1 hX.1.2.1 (f := f) ⟨hX.1.2.2.2.1, hts _ h5, ⟨_, _, _, hi'⟩, hst⟩ (by rw [q2]; exact h12) q1 q3 (by rw [hsl]; exact hlt) rfl rfl hd go
    · exact va_WputK hX.1.1 hX.1.2.1 (f := f) hX.1.2.2.2.1 (va_Nw.use (by rfl) (hC.2.2.1 _ h5)) hi' hst (by rw [q2]; exact h12) q1 q3 (by rw [hsl]; exact hlt) rfl rfl hd go
  | true =>
    obtain ⟨hname, q, hq1, hq2⟩ := hfin rfl
    rw [h1] at hq1
    cases hq1
    have hq2 : C = J.1.cls := hq2
    obtain ⟨h4a, h4b⟩ := h4f rfl
    have hi9 : s.fieldFound? C (T j).2.1 (T j).2.2.1 = some (cf, kf, fi, f) := by rw [h4a] at hi; exact hi
    have hlay := hts _ (h6 _ (u_in_lay h2))
    unfold u_lay at hlay
    rw [if_pos h9] at hlay
    have hcf : m.cls = cf := by
      obtain ⟨_, _, c', _, _, _, -, -, hf', -, -, -, hown2, -⟩ := Cond.laysFinal_spec hlay
      have e1 : c' = cf := by have := hi.symm.trans hf'; simp at this; exact this.1.symm
      rw [h4a, hq2] at hown2
      rw [← e1]; exact Option.some.inj (hX.1.2.2.2.1.symm.trans hown2)
    have h12 := u_fits hfc hkC hkind (Or.inr hlay) hi h10 (hn G).1 (hn G).2
    rcases h5 with h5 | ⟨host, h5⟩
    · exact W.putFinK hX.1.1 hX.1.2.1 hX.1.2.2.2.1 (hts _ h5) hi' hst hcf (hX.2.2.2.2.trans hname) (by rw [q2]; exact h12) q1 q3 (by rw [hsl]; exact hlt) rfl rfl hd go
    · exfalso
      have hh := hC.2.2.1 _ h5
      unfold NWL at h5
      rcases List.mem_append.mp h5 with h | h
      · obtain ⟨q, hq, e9⟩ := List.mem_map.mp h
        simp only [Cond.fieldLinkNest.injEq] at e9
        have : q.1 ≠ q.2.2.1 := nwF_apart q hq
        exact this (by rw [e9.1, e9.2.2.1, h4b, hq2])
      · obtain ⟨q, hq, e9⟩ := List.mem_map.mp h
        cases e9
theorem fs_self {α : Type} (f : Nat → α) (i : Nat) (x : α) : fun_set f i x i = x := by simp [fun_set]
theorem fs_ne {α : Type} (f : Nat → α) {i j : Nat} (x : α) (h : j ≠ i) : fun_set f i x j = f j := by simp [fun_set, h]
theorem fs_twice {α : Type} (f : Nat → α) (i : Nat) (x y : α) : fun_set (fun_set f i x) i y = fun_set f i y := by funext j; by_cases h : j = i <;> simp [fun_set, h]
theorem fs_same {α : Type} (f : Nat → α) (i : Nat) : fun_set f i (f i) = f := by funext j; by_cases h : j = i <;> simp [fun_set, h]
theorem fs_comm {α : Type} (f : Nat → α) {i j : Nat} (x y : α) (h : i ≠ j) : fun_set (fun_set f i x) j y = fun_set (fun_set f j y) i x := by
  funext q
  by_cases h1 : q = i
  · subst h1; simp [fun_set, h]
  · by_cases h2 : q = j <;> simp [fun_set, h1, h2, Ne.symm h]
theorem fval_of {G : Gl} {M M' : Mem} {i : Nat} (h1 : mI M' i = mI M i) (h2 : mL M' i = mL M i) (h3 : mR M' i = mR M i) (h4 : mD M' i = mD M i) (j : Nat) (t : FieldType) : fval G M' i j t = fval G M i j t := by
  cases t <;> simp only [fval, h1, h2, h3, h4]
theorem fvs_of {G : Gl} {M M' : Mem} {i : Nat} (h1 : mI M' i = mI M i) (h2 : mL M' i = mL M i) (h3 : mR M' i = mR M i) (h4 : mD M' i = mD M i) : ∀ (ts : List FieldType) (j : Nat), fvs G M' i j ts = fvs G M i j ts
  | [], j => rfl
  | t :: ts, j => by simp only [fvs, fval_of h1 h2 h3 h4, fvs_of h1 h2 h3 h4 ts (j + 1)]
theorem ent_of {G : Gl} {M M' : Mem} {i : Nat} (h1 : mI M' i = mI M i) (h2 : mL M' i = mL M i) (h3 : mR M' i = mR M i) (h4 : mD M' i = mD M i) (y : Knd) : ent G M' i y = ent G M i y := by
  rcases y with ⟨t, n⟩ | ci
  · cases t <;> simp only [ent, adat, h1, h2, h3, h4]
  · simp only [ent, fvs_of h1 h2 h3 h4]
theorem ent_sI {G : Gl} {M : Mem} {id i : Nat} {f : Nat → Int32} (y : Knd) (h : i ≠ id) : ent G (sI M id f) i y = ent G M i y := ent_of (M := M) (M' := sI M id f) (fs_ne _ _ h) rfl rfl rfl y
theorem ent_sL {G : Gl} {M : Mem} {id i : Nat} {f : Nat → Int64} (y : Knd) (h : i ≠ id) : ent G (sL M id f) i y = ent G M i y := ent_of (M := M) (M' := sL M id f) rfl (fs_ne _ _ h) rfl rfl y
theorem ent_sR {G : Gl} {M : Mem} {id i : Nat} {f : Nat → Option Nat} (y : Knd) (h : i ≠ id) : ent G (sR M id f) i y = ent G M i y := ent_of (M := M) (M' := sR M id f) rfl rfl (fs_ne _ _ h) rfl y
theorem ent_sD {G : Gl} {M : Mem} {id i : Nat} {f : Nat → UInt64} (y : Knd) (h : i ≠ id) : ent G (sD M id f) i y = ent G M i y := ent_of (M := M) (M' := sD M id f) rfl rfl rfl (fs_ne _ _ h) y
/-- putting an int field -/
theorem g_putI {ix ci j id : Nat} {ty : FieldType} {x : Int32} (hd : decode J.2.1 pc = .ok (.putfield ix, 3)) (hf : FP J.1.cls ix ci j ty false) (hk : (mK M)[id]? = some (.inr ci)) (hn : narrow ty (.int x) = .int x ∧ fits ty (.int x) = true) (hty : ∀ (G : Gl) (M : Mem) (i a : Nat), fval G M i a ty = .int (mI M i a))
    (kk : Go l J F L MC MS Q (pc + 3) lv st k n (sI M id (fun_set (mI M id) j x))) : Go l J F L MC MS Q pc lv (.int x :: .ref id :: st) k n M := by
  refine g_putf (v := .int x) (M' := sI M id (fun_set (mI M id) j x)) hd hf (fun h => by cases h) hk (fun G => hn) rfl rfl rfl (fun G => ?_) (fun G a t ha => ?_) (fun G i y hi _ => ent_sI y hi) kk
  · rw [hty]; show Value.int (fun_set (mI M) id _ id j) = .int x; rw [fs_self, fs_self]
  · cases t <;> simp only [fval, mI, sI, fs_self, fs_ne _ _ ha]
/-- putting a reference: a final field in a constructor -/
theorem g_putR {ix ci j id r : Nat} {ty : FieldType} {fin : Bool} (hd : decode J.2.1 pc = .ok (.putfield ix, 3)) (hf : FP J.1.cls ix ci j ty fin) (hfin : fin = true → J.1.name = "<init>" ∧ ∃ q, vwCl[ci]? = some q ∧ q.1 = J.1.cls) (hk : (mK M)[id]? = some (.inr ci)) (hn : ∀ a, narrow ty (.ref a) = .ref a ∧ fits ty (.ref a) = true) (hty : ∀ (G : Gl) (M : Mem) (i a : Nat), fval G M i a ty = va_rf (rfo G (mR M i a) (mI M i a)))
    (kk : Go l J F L MC MS Q (pc + 3) lv st k n (sR M id (fun_set (mR M id) j (some r)))) : Go l J F L MC MS Q pc lv (.ref r :: .ref id :: st) k n M := by
  refine g_putf (v := .ref r) (M' := sR M id (fun_set (mR M id) j (some r))) hd hf hfin hk (fun G => hn _) rfl rfl rfl (fun G => ?_) (fun G a t ha => ?_) (fun G i y hi _ => ent_sR y hi) kk
  · rw [hty]; show va_rf (rfo G (fun_set (mR M) id _ id j) _) = _; rw [fs_self, fs_self]; rfl
  · cases t <;> simp only [fval, mR, sR, fs_self, fs_ne _ _ ha]
theorem g_iaload {id j len : Nat} {i : Int32} (hd : decode J.2.1 pc = .ok (.iaload, 1)) (hk : (mK M)[id]? = some (.inl (.int, len))) (hi : i = nI j) (hj : j < len) (hL : len < 2147483648) (kk : Go l J F L MC MS Q (pc + 1) lv (.int (mI M id j) :: st) k n M) : Go l J F L MC MS Q pc lv (.int i :: .ref id :: st) k n M := by
  subst hi
  intro p e s m args below meth c G H locs cells slots ls hX hC hR hS hl hc hs
  have h1 := kk p e s m args below meth c G H locs cells slots ls hX hC hR hS hl hc hs
  refine va_iald hX.1.1 hX.1.2.1 hC.2.1 hR.1 id 0 (wl_get hk) rfl (vp_in_nI hj hL) hd ?_
  rw [nI_clamp (by omega)]
  exact h1
theorem g_iastore {id j len : Nat} {i : Int32} {x : Int32} (hd : decode J.2.1 pc = .ok (.iastore, 1)) (hk : (mK M)[id]? = some (.inl (.int, len))) (hi : i = nI j) (hj : j < len) (hL : len < 2147483648) (kk : Go l J F L MC MS Q (pc + 1) lv st k n (sI M id (fun_set (mI M id) j x))) : Go l J F L MC MS Q pc lv (.int x :: .int i :: .ref id :: st) k n M := by
  subst hi
  intro p e s m args below meth c G H locs cells slots ls hX hC hR hS hl hc hs
  have he := wl_get (G := G) hk
  refine W.iast hX.1.1 hX.1.2.1 (hR.1 id _ he) ((hC.2.1.2 0 _ rfl).1 len (fun j => .int (mI M id j))) (fun q => by cases q) (by show ¬ (_ ∨ (arrV _ _ _).slots.size ≤ _); rw [arrV_size]; exact vp_in_nI hj hL) rfl rfl hd fun H1 e1 z oq => ?_
  refine kk p e s m args below meth c G H1 _ cells slots ls hX hC (rel_set hR hk rfl rfl rfl (fun i y hi _ => ent_sI y hi) z (hR.1.set (wl_D G M) he ?_ oq)) (hS.put z oq (by show gB G ≤ _; omega)) hl hc hs
  show H1[gB G + id]? = some (vp_cell (gA G .int) (len, adat G (sI M id (fun_set (mI M id) j x)) id .int))
  rw [e1]
  show some ((vp_cell (gA G .int) (len, adat G M id .int)).setSlot _ _) = _
  simp only [adat, sI, mI, fs_self]
  rw [vp_cell_i, vp_cell_i, arrV_store, nI_clamp (by omega)]
  congr 2
  funext q
  by_cases hq : q = j
  · subst hq
    simp [updV, fun_set, vp_nar]
    try rfl
  · simp [updV, fun_set, hq]
theorem g_baload {id j len : Nat} {i : Int32} (hd : decode J.2.1 pc = .ok (.baload, 1)) (hk : (mK M)[id]? = some (.inl (.byte, len))) (hi : i = nI j) (hj : j < len) (hL : len < 2147483648) (kk : Go l J F L MC MS Q (pc + 1) lv (.int (mI M id j) :: st) k n M) : Go l J F L MC MS Q pc lv (.int i :: .ref id :: st) k n M := by
  subst hi
  intro p e s m args below meth c G H locs cells slots ls hX hC hR hS hl hc hs
  have h1 := kk p e s m args below meth c G H locs cells slots ls hX hC hR hS hl hc hs
  refine va_bald hX.1.1 hX.1.2.1 hC.2.1 hR.1 id 2 (wl_get hk) rfl (vp_in_nI hj hL) hd ?_
  rw [nI_clamp (by omega)]
  exact h1
theorem g_bastore {id j len : Nat} {i : Int32} {x : Int32} (hd : decode J.2.1 pc = .ok (.bastore, 1)) (hk : (mK M)[id]? = some (.inl (.byte, len))) (hi : i = nI j) (hj : j < len) (hL : len < 2147483648) (kk : Go l J F L MC MS Q (pc + 1) lv st k n (sI M id (fun_set (mI M id) j (vp_nar .byte x)))) : Go l J F L MC MS Q pc lv (.int x :: .int i :: .ref id :: st) k n M := by
  subst hi
  intro p e s m args below meth c G H locs cells slots ls hX hC hR hS hl hc hs
  have he := wl_get (G := G) hk
  refine W.bast hX.1.1 hX.1.2.1 (hR.1 id _ he) ((hC.2.1.2 2 _ rfl).1 len (fun j => .int (mI M id j))) (fun q => by cases q) (by show ¬ (_ ∨ (arrV _ _ _).slots.size ≤ _); rw [arrV_size]; exact vp_in_nI hj hL) rfl rfl hd fun H1 e1 z oq => ?_
  refine kk p e s m args below meth c G H1 _ cells slots ls hX hC (rel_set hR hk rfl rfl rfl (fun i y hi _ => ent_sI y hi) z (hR.1.set (wl_D G M) he ?_ oq)) (hS.put z oq (by show gB G ≤ _; omega)) hl hc hs
  show H1[gB G + id]? = some (vp_cell (gA G .byte) (len, adat G (sI M id (fun_set (mI M id) j (vp_nar .byte x))) id .byte))
  rw [e1]
  show some ((vp_cell (gA G .byte) (len, adat G M id .byte)).setSlot _ _) = _
  simp only [adat, sI, mI, fs_self]
  rw [vp_cell_i, vp_cell_i, arrV_store, nI_clamp (by omega)]
  congr 2
  funext q
  by_cases hq : q = j
  · subst hq
    simp [updV, fun_set, vp_nar]
    try rfl
  · simp [updV, fun_set, hq]
theorem g_zaload {id j len : Nat} {i : Int32} (hd : decode J.2.1 pc = .ok (.baload, 1)) (hk : (mK M)[id]? = some (.inl (.boolean, len))) (hi : i = nI j) (hj : j < len) (hL : len < 2147483648) (kk : Go l J F L MC MS Q (pc + 1) lv (.int (mI M id j) :: st) k n M) : Go l J F L MC MS Q pc lv (.int i :: .ref id :: st) k n M := by
  subst hi
  intro p e s m args below meth c G H locs cells slots ls hX hC hR hS hl hc hs
  have h1 := kk p e s m args below meth c G H locs cells slots ls hX hC hR hS hl hc hs
  refine va_zald hX.1.1 hX.1.2.1 hC.2.1 hR.1 id 3 (wl_get hk) rfl (vp_in_nI hj hL) hd ?_
  rw [nI_clamp (by omega)]
  exact h1
theorem g_zastore {id j len : Nat} {i : Int32} {x : Int32} (hd : decode J.2.1 pc = .ok (.bastore, 1)) (hk : (mK M)[id]? = some (.inl (.boolean, len))) (hi : i = nI j) (hj : j < len) (hL : len < 2147483648) (kk : Go l J F L MC MS Q (pc + 1) lv st k n (sI M id (fun_set (mI M id) j (vp_nar .boolean x)))) : Go l J F L MC MS Q pc lv (.int x :: .int i :: .ref id :: st) k n M := by
  subst hi
  intro p e s m args below meth c G H locs cells slots ls hX hC hR hS hl hc hs
  have he := wl_get (G := G) hk
  refine W.zast hX.1.1 hX.1.2.1 (hR.1 id _ he) ((hC.2.1.2 3 _ rfl).1 len (fun j => .int (mI M id j))) (fun q => by cases q) (by show ¬ (_ ∨ (arrV _ _ _).slots.size ≤ _); rw [arrV_size]; exact vp_in_nI hj hL) rfl rfl hd fun H1 e1 z oq => ?_
  refine kk p e s m args below meth c G H1 _ cells slots ls hX hC (rel_set hR hk rfl rfl rfl (fun i y hi _ => ent_sI y hi) z (hR.1.set (wl_D G M) he ?_ oq)) (hS.put z oq (by show gB G ≤ _; omega)) hl hc hs
  show H1[gB G + id]? = some (vp_cell (gA G .boolean) (len, adat G (sI M id (fun_set (mI M id) j (vp_nar .boolean x))) id .boolean))
  rw [e1]
  show some ((vp_cell (gA G .boolean) (len, adat G M id .boolean)).setSlot _ _) = _
  simp only [adat, sI, mI, fs_self]
  rw [vp_cell_i, vp_cell_i, arrV_store, nI_clamp (by omega)]
  congr 2
  funext q
  by_cases hq : q = j
  · subst hq
    simp [updV, fun_set, vp_nar]
    try rfl
  · simp [updV, fun_set, hq]
theorem g_laload {id j len : Nat} {i : Int32} (hd : decode J.2.1 pc = .ok (.laload, 1)) (hk : (mK M)[id]? = some (.inl (.long, len))) (hi : i = nI j) (hj : j < len) (hL : len < 2147483648) (kk : Go l J F L MC MS Q (pc + 1) lv (.long (mL M id j) :: st) k n M) : Go l J F L MC MS Q pc lv (.int i :: .ref id :: st) k n M := by
  subst hi
  intro p e s m args below meth c G H locs cells slots ls hX hC hR hS hl hc hs
  have h1 := kk p e s m args below meth c G H locs cells slots ls hX hC hR hS hl hc hs
  refine va_lald hX.1.1 hX.1.2.1 hC.2.1 hR.1 id 1 (wl_get hk) rfl (vp_in_nI hj hL) hd ?_
  rw [nI_clamp (by omega)]
  exact h1
theorem g_lastore {id j len : Nat} {i : Int32} {x : Int64} (hd : decode J.2.1 pc = .ok (.lastore, 1)) (hk : (mK M)[id]? = some (.inl (.long, len))) (hi : i = nI j) (hj : j < len) (hL : len < 2147483648) (kk : Go l J F L MC MS Q (pc + 1) lv st k n (sL M id (fun_set (mL M id) j x))) : Go l J F L MC MS Q pc lv (.long x :: .int i :: .ref id :: st) k n M := by
  subst hi
  intro p e s m args below meth c G H locs cells slots ls hX hC hR hS hl hc hs
  have he := wl_get (G := G) hk
  refine W.last hX.1.1 hX.1.2.1 (hR.1 id _ he) ((hC.2.1.2 1 _ rfl).1 len (fun j => .long (mL M id j))) (fun q => by cases q) (by show ¬ (_ ∨ (arrV _ _ _).slots.size ≤ _); rw [arrV_size]; exact vp_in_nI hj hL) rfl rfl hd fun H1 e1 z oq => ?_
  refine kk p e s m args below meth c G H1 _ cells slots ls hX hC (rel_set hR hk rfl rfl rfl (fun i y hi _ => ent_sL y hi) z (hR.1.set (wl_D G M) he ?_ oq)) (hS.put z oq (by show gB G ≤ _; omega)) hl hc hs
  show H1[gB G + id]? = some (vp_cell (gA G .long) (len, adat G (sL M id (fun_set (mL M id) j x)) id .long))
  rw [e1]
  show some ((vp_cell (gA G .long) (len, adat G M id .long)).setSlot _ _) = _
  simp only [adat, sL, mL, fs_self]
  rw [vp_cell_l, vp_cell_l, arrV_store, nI_clamp (by omega)]
  congr 2
  funext q
  by_cases hq : q = j
  · subst hq
    simp [updV, fun_set, vp_nar]
    try rfl
  · simp [updV, fun_set, hq]
theorem w_aald {p : Program} {e : Env} {R : Room} {s : State} {m : MethodId} {args : Array Value} {below : List Frame} {meth : Method} {c : Code} {H : Heap} {locs : List Loc} {cells slots : Nat} {Z : State → Prop} {cc : ByteArray} {ls : Array Slot} {rest : List Value} {D : va_G} {cl : List vw_C} {a : Nat} {tys : List (ClassId × FieldType)} {ws : va_W} (hexec : p.tables.exec = Jvm.exec) (hb : c.code = cc) (hK : va_K D cl tys s) (hP : va_P D cl ws H) (q0 t0 : Nat) {cA : ClassId} {ty : FieldType} (hty : ty.isReference = true) {len : Nat} {f : Nat → Option Nat} (ha : ws[q0]? = some (a, .inl (cA, len, .inr (.inr (.inr (.inr f)))))) (ht : tys[t0]? = some (cA, ty)) {i : Int32} (hin : vp_in i len) (hdg : decode cc pc = .ok (.aaload, 1))
    (kk : W p l e R s m args below meth c H locs cells slots Z (F0 m (pc + 1) ls (va_rf (f i.toNatClampNeg) :: rest))) : W p l e R s m args below meth c H locs cells slots Z (F0 m pc ls (.int i :: .ref a :: rest)) := by
  have hlt : i.toNatClampNeg < len := Nat.not_le.mp fun q => hin (Or.inr q)
  exact W.aald (v := va_rf (f i.toNatClampNeg)) (ty := ty) hexec hb (hP q0 _ ha) ((hK.2 t0 _ ht).1 len (fun j => va_rf (f j))) hty (fun q => by cases q) (by show ¬ (i < 0 ∨ (arrV _ _ _).slots.size ≤ _); rw [arrV_size]; exact hin) (by show (arrV _ _ _).slots[_]? = _; rw [arrV_read _ _ hlt]) rfl rfl hdg kk
/-- a cell is told from another thing by its address -/
theorem ki_ne {M : Mem} {i j : Nat} {x y : Knd} (h1 : (mK M)[i]? = some x) (h2 : (mK M)[j]? = some y) (h : x ≠ y) : i ≠ j := fun e => h (by rw [e, h2] at h1; exact (Option.some.inj h1).symm)
theorem g_aaload_State {id j len r : Nat} {i : Int32} (hd : decode J.2.1 pc = .ok (.aaload, 1)) (hk : (mK M)[id]? = some (.inl (.object "BitDesk$State", len))) (hi : i = nI j) (hj : j < len) (hL : len < 2147483648) (hr : mR M id j = some r) (kk : Go l J F L MC MS Q (pc + 1) lv (.ref r :: st) k n M) : Go l J F L MC MS Q pc lv (.int i :: .ref id :: st) k n M := by
  subst hi
  intro p e s m args below meth c G H locs cells slots ls hX hC hR hS hl hc hs
  have h1 := kk p e s m args below meth c G H locs cells slots ls hX hC hR hS hl hc hs
  refine w_aald hX.1.1 hX.1.2.1 hC.2.1 hR.1 id 5 (ty := .object "BitDesk$State") rfl (wl_get hk) rfl (vp_in_nI hj hL) hd ?_
  rw [nI_clamp (by omega)]
  show W _ _ _ _ _ _ _ _ _ _ _ _ _ _ _ (F0 m (pc + 1) ls (va_rf (rfo G (mR M id j) (mI M id j)) :: _))
  rw [hr]
  exact h1
theorem g_aastore_State {id j len r ci : Nat} {q0 : vw_C} {i : Int32} (hd : decode J.2.1 pc = .ok (.aastore, 1)) (hk : (mK M)[id]? = some (.inl (.object "BitDesk$State", len))) (hi : i = nI j) (hj : j < len) (hL : len < 2147483648) (hr : (mK M)[r]? = some (.inr ci)) (hc0 : vwCl[ci]? = some q0) (hq0 : q0.1 = "BitDesk$State") (kk : Go l J F L MC MS Q (pc + 1) lv st k n (sR M id (fun_set (mR M id) j (some r)))) : Go l J F L MC MS Q pc lv (.ref r :: .int i :: .ref id :: st) k n M := by
  subst hi
  intro p e s m args below meth c G H locs cells slots ls hX hC hR hS hl hc hs
  have he := wl_get (G := G) hk
  have hv := wl_get (G := G) hr
  obtain ⟨r', hr', cellV, g1, g2, g3, -⟩ := hR.1 r _ hv
  have hcls := (hC.2.1.1 ci q0 hc0).2
  rw [hq0] at hcls
  obtain ⟨kA, comp, k1, k2, k3, -⟩ := (hC.2.1.2 5 _ rfl).2
  have hcomp : comp = (gD G).1 ci := Option.some.inj (k3.symm.trans hcls.1)
  subst hcomp
  obtain ⟨kC, hkC, -⟩ := hcls.2
  refine W.aast hX.1.1 hX.1.2.1 (hR.1 id _ he) (fun q h => by cases h) (fun h => by cases h) k1 k2 rfl hkC ⟨nI_pos (by omega), by show _ < (arrV _ _ _).slots.size; rw [arrV_size, nI_clamp (by omega)]; exact hj⟩ g1 (fun q h => by rw [g3] at h; cases h) (by rw [g2]; exact hkC) (by rw [g2]; exact va_assign hcls) rfl rfl hd fun H1 e1 z oq => ?_
  refine kk p e s m args below meth c G H1 _ cells slots ls hX hC (rel_set hR hk rfl rfl rfl (fun i y hi _ => ent_sR y hi) z (hR.1.set (wl_D G M) he ?_ oq)) (hS.put z oq (by show gB G ≤ _; omega)) hl hc hs
  show H1[gB G + id]? = some (vp_cell (gA G (.object "BitDesk$State")) (len, adat G (sR M id (fun_set (mR M id) j (some r))) id (.object "BitDesk$State")))
  rw [e1]
  show some ((vp_cell (gA G (.object "BitDesk$State")) (len, adat G M id (.object "BitDesk$State"))).setSlot _ _) = _
  simp only [adat, sR, mR, mI, fs_self]
  rw [vp_cell_q, vp_cell_q, arrV_store, nI_clamp (by omega)]
  congr 2
  funext q
  by_cases hq : q = j
  · subst hq
    simp [updV, fun_set, va_rf, rfo_s]
  · simp [updV, fun_set, hq]
theorem g_aaload_Matrix {id j len r : Nat} {i : Int32} (hd : decode J.2.1 pc = .ok (.aaload, 1)) (hk : (mK M)[id]? = some (.inl (.object "BitDesk$Matrix", len))) (hi : i = nI j) (hj : j < len) (hL : len < 2147483648) (hr : mR M id j = some r) (kk : Go l J F L MC MS Q (pc + 1) lv (.ref r :: st) k n M) : Go l J F L MC MS Q pc lv (.int i :: .ref id :: st) k n M := by
  subst hi
  intro p e s m args below meth c G H locs cells slots ls hX hC hR hS hl hc hs
  have h1 := kk p e s m args below meth c G H locs cells slots ls hX hC hR hS hl hc hs
  refine w_aald hX.1.1 hX.1.2.1 hC.2.1 hR.1 id 6 (ty := .object "BitDesk$Matrix") rfl (wl_get hk) rfl (vp_in_nI hj hL) hd ?_
  rw [nI_clamp (by omega)]
  show W _ _ _ _ _ _ _ _ _ _ _ _ _ _ _ (F0 m (pc + 1) ls (va_rf (rfo G (mR M id j) (mI M id j)) :: _))
  rw [hr]
  exact h1
theorem g_aastore_Matrix {id j len r ci : Nat} {q0 : vw_C} {i : Int32} (hd : decode J.2.1 pc = .ok (.aastore, 1)) (hk : (mK M)[id]? = some (.inl (.object "BitDesk$Matrix", len))) (hi : i = nI j) (hj : j < len) (hL : len < 2147483648) (hr : (mK M)[r]? = some (.inr ci)) (hc0 : vwCl[ci]? = some q0) (hq0 : q0.1 = "BitDesk$Matrix") (kk : Go l J F L MC MS Q (pc + 1) lv st k n (sR M id (fun_set (mR M id) j (some r)))) : Go l J F L MC MS Q pc lv (.ref r :: .int i :: .ref id :: st) k n M := by
  subst hi
  intro p e s m args below meth c G H locs cells slots ls hX hC hR hS hl hc hs
  have he := wl_get (G := G) hk
  have hv := wl_get (G := G) hr
  obtain ⟨r', hr', cellV, g1, g2, g3, -⟩ := hR.1 r _ hv
  have hcls := (hC.2.1.1 ci q0 hc0).2
  rw [hq0] at hcls
  obtain ⟨kA, comp, k1, k2, k3, -⟩ := (hC.2.1.2 6 _ rfl).2
  have hcomp : comp = (gD G).1 ci := Option.some.inj (k3.symm.trans hcls.1)
  subst hcomp
  obtain ⟨kC, hkC, -⟩ := hcls.2
  refine W.aast hX.1.1 hX.1.2.1 (hR.1 id _ he) (fun q h => by cases h) (fun h => by cases h) k1 k2 rfl hkC ⟨nI_pos (by omega), by show _ < (arrV _ _ _).slots.size; rw [arrV_size, nI_clamp (by omega)]; exact hj⟩ g1 (fun q h => by rw [g3] at h; cases h) (by rw [g2]; exact hkC) (by rw [g2]; exact va_assign hcls) rfl rfl hd fun H1 e1 z oq => ?_
  refine kk p e s m args below meth c G H1 _ cells slots ls hX hC (rel_set hR hk rfl rfl rfl (fun i y hi _ => ent_sR y hi) z (hR.1.set (wl_D G M) he ?_ oq)) (hS.put z oq (by show gB G ≤ _; omega)) hl hc hs
  show H1[gB G + id]? = some (vp_cell (gA G (.object "BitDesk$Matrix")) (len, adat G (sR M id (fun_set (mR M id) j (some r))) id (.object "BitDesk$Matrix")))
  rw [e1]
  show some ((vp_cell (gA G (.object "BitDesk$Matrix")) (len, adat G M id (.object "BitDesk$Matrix"))).setSlot _ _) = _
  simp only [adat, sR, mR, mI, fs_self]
  rw [vp_cell_q, vp_cell_q, arrV_store, nI_clamp (by omega)]
  congr 2
  funext q
  by_cases hq : q = j
  · subst hq
    simp [updV, fun_set, va_rf, rfo_s]
  · simp [updV, fun_set, hq]
theorem g_aaload_Closure {id j len r : Nat} {i : Int32} (hd : decode J.2.1 pc = .ok (.aaload, 1)) (hk : (mK M)[id]? = some (.inl (.object "BitDesk$Closure", len))) (hi : i = nI j) (hj : j < len) (hL : len < 2147483648) (hr : mR M id j = some r) (kk : Go l J F L MC MS Q (pc + 1) lv (.ref r :: st) k n M) : Go l J F L MC MS Q pc lv (.int i :: .ref id :: st) k n M := by
  subst hi
  intro p e s m args below meth c G H locs cells slots ls hX hC hR hS hl hc hs
  have h1 := kk p e s m args below meth c G H locs cells slots ls hX hC hR hS hl hc hs
  refine w_aald hX.1.1 hX.1.2.1 hC.2.1 hR.1 id 7 (ty := .object "BitDesk$Closure") rfl (wl_get hk) rfl (vp_in_nI hj hL) hd ?_
  rw [nI_clamp (by omega)]
  show W _ _ _ _ _ _ _ _ _ _ _ _ _ _ _ (F0 m (pc + 1) ls (va_rf (rfo G (mR M id j) (mI M id j)) :: _))
  rw [hr]
  exact h1
theorem g_aastore_Closure {id j len r ci : Nat} {q0 : vw_C} {i : Int32} (hd : decode J.2.1 pc = .ok (.aastore, 1)) (hk : (mK M)[id]? = some (.inl (.object "BitDesk$Closure", len))) (hi : i = nI j) (hj : j < len) (hL : len < 2147483648) (hr : (mK M)[r]? = some (.inr ci)) (hc0 : vwCl[ci]? = some q0) (hq0 : q0.1 = "BitDesk$Closure") (kk : Go l J F L MC MS Q (pc + 1) lv st k n (sR M id (fun_set (mR M id) j (some r)))) : Go l J F L MC MS Q pc lv (.ref r :: .int i :: .ref id :: st) k n M := by
  subst hi
  intro p e s m args below meth c G H locs cells slots ls hX hC hR hS hl hc hs
  have he := wl_get (G := G) hk
  have hv := wl_get (G := G) hr
  obtain ⟨r', hr', cellV, g1, g2, g3, -⟩ := hR.1 r _ hv
  have hcls := (hC.2.1.1 ci q0 hc0).2
  rw [hq0] at hcls
  obtain ⟨kA, comp, k1, k2, k3, -⟩ := (hC.2.1.2 7 _ rfl).2
  have hcomp : comp = (gD G).1 ci := Option.some.inj (k3.symm.trans hcls.1)
  subst hcomp
  obtain ⟨kC, hkC, -⟩ := hcls.2
  refine W.aast hX.1.1 hX.1.2.1 (hR.1 id _ he) (fun q h => by cases h) (fun h => by cases h) k1 k2 rfl hkC ⟨nI_pos (by omega), by show _ < (arrV _ _ _).slots.size; rw [arrV_size, nI_clamp (by omega)]; exact hj⟩ g1 (fun q h => by rw [g3] at h; cases h) (by rw [g2]; exact hkC) (by rw [g2]; exact va_assign hcls) rfl rfl hd fun H1 e1 z oq => ?_
  refine kk p e s m args below meth c G H1 _ cells slots ls hX hC (rel_set hR hk rfl rfl rfl (fun i y hi _ => ent_sR y hi) z (hR.1.set (wl_D G M) he ?_ oq)) (hS.put z oq (by show gB G ≤ _; omega)) hl hc hs
  show H1[gB G + id]? = some (vp_cell (gA G (.object "BitDesk$Closure")) (len, adat G (sR M id (fun_set (mR M id) j (some r))) id (.object "BitDesk$Closure")))
  rw [e1]
  show some ((vp_cell (gA G (.object "BitDesk$Closure")) (len, adat G M id (.object "BitDesk$Closure"))).setSlot _ _) = _
  simp only [adat, sR, mR, mI, fs_self]
  rw [vp_cell_q, vp_cell_q, arrV_store, nI_clamp (by omega)]
  congr 2
  funext q
  by_cases hq : q = j
  · subst hq
    simp [updV, fun_set, va_rf, rfo_s]
  · simp [updV, fun_set, hq]
theorem g_aaload_Desk {id j len r : Nat} {i : Int32} (hd : decode J.2.1 pc = .ok (.aaload, 1)) (hk : (mK M)[id]? = some (.inl (.object "BitDeskLaw$Desk", len))) (hi : i = nI j) (hj : j < len) (hL : len < 2147483648) (hr : mR M id j = some r) (kk : Go l J F L MC MS Q (pc + 1) lv (.ref r :: st) k n M) : Go l J F L MC MS Q pc lv (.int i :: .ref id :: st) k n M := by
  subst hi
  intro p e s m args below meth c G H locs cells slots ls hX hC hR hS hl hc hs
  have h1 := kk p e s m args below meth c G H locs cells slots ls hX hC hR hS hl hc hs
  refine w_aald hX.1.1 hX.1.2.1 hC.2.1 hR.1 id 10 (ty := .object "BitDeskLaw$Desk") rfl (wl_get hk) rfl (vp_in_nI hj hL) hd ?_
  rw [nI_clamp (by omega)]
  show W _ _ _ _ _ _ _ _ _ _ _ _ _ _ _ (F0 m (pc + 1) ls (va_rf (rfo G (mR M id j) (mI M id j)) :: _))
  rw [hr]
  exact h1
theorem g_aastore_Desk {id j len r ci : Nat} {q0 : vw_C} {i : Int32} (hd : decode J.2.1 pc = .ok (.aastore, 1)) (hk : (mK M)[id]? = some (.inl (.object "BitDeskLaw$Desk", len))) (hi : i = nI j) (hj : j < len) (hL : len < 2147483648) (hr : (mK M)[r]? = some (.inr ci)) (hc0 : vwCl[ci]? = some q0) (hq0 : q0.1 = "BitDeskLaw$Desk") (kk : Go l J F L MC MS Q (pc + 1) lv st k n (sR M id (fun_set (mR M id) j (some r)))) : Go l J F L MC MS Q pc lv (.ref r :: .int i :: .ref id :: st) k n M := by
  subst hi
  intro p e s m args below meth c G H locs cells slots ls hX hC hR hS hl hc hs
  have he := wl_get (G := G) hk
  have hv := wl_get (G := G) hr
  obtain ⟨r', hr', cellV, g1, g2, g3, -⟩ := hR.1 r _ hv
  have hcls := (hC.2.1.1 ci q0 hc0).2
  rw [hq0] at hcls
  obtain ⟨kA, comp, k1, k2, k3, -⟩ := (hC.2.1.2 10 _ rfl).2
  have hcomp : comp = (gD G).1 ci := Option.some.inj (k3.symm.trans hcls.1)
  subst hcomp
  obtain ⟨kC, hkC, -⟩ := hcls.2
  refine W.aast hX.1.1 hX.1.2.1 (hR.1 id _ he) (fun q h => by cases h) (fun h => by cases h) k1 k2 rfl hkC ⟨nI_pos (by omega), by show _ < (arrV _ _ _).slots.size; rw [arrV_size, nI_clamp (by omega)]; exact hj⟩ g1 (fun q h => by rw [g3] at h; cases h) (by rw [g2]; exact hkC) (by rw [g2]; exact va_assign hcls) rfl rfl hd fun H1 e1 z oq => ?_
  refine kk p e s m args below meth c G H1 _ cells slots ls hX hC (rel_set hR hk rfl rfl rfl (fun i y hi _ => ent_sR y hi) z (hR.1.set (wl_D G M) he ?_ oq)) (hS.put z oq (by show gB G ≤ _; omega)) hl hc hs
  show H1[gB G + id]? = some (vp_cell (gA G (.object "BitDeskLaw$Desk")) (len, adat G (sR M id (fun_set (mR M id) j (some r))) id (.object "BitDeskLaw$Desk")))
  rw [e1]
  show some ((vp_cell (gA G (.object "BitDeskLaw$Desk")) (len, adat G M id (.object "BitDeskLaw$Desk"))).setSlot _ _) = _
  simp only [adat, sR, mR, mI, fs_self]
  rw [vp_cell_q, vp_cell_q, arrV_store, nI_clamp (by omega)]
  congr 2
  funext q
  by_cases hq : q = j
  · subst hq
    simp [updV, fun_set, va_rf, rfo_s]
  · simp [updV, fun_set, hq]
theorem g_aaload_Str {id j len r : Nat} {i : Int32} (hd : decode J.2.1 pc = .ok (.aaload, 1)) (hk : (mK M)[id]? = some (.inl (.object "java/lang/String", len))) (hi : i = nI j) (hj : j < len) (hL : len < 2147483648) (hr : mR M id j = some r) (kk : Go l J F L MC MS Q (pc + 1) lv (.ref r :: st) k n M) : Go l J F L MC MS Q pc lv (.int i :: .ref id :: st) k n M := by
  subst hi
  intro p e s m args below meth c G H locs cells slots ls hX hC hR hS hl hc hs
  have h1 := kk p e s m args below meth c G H locs cells slots ls hX hC hR hS hl hc hs
  refine w_aald hX.1.1 hX.1.2.1 hC.2.1 hR.1 id 11 (ty := .object "java/lang/String") rfl (wl_get hk) rfl (vp_in_nI hj hL) hd ?_
  rw [nI_clamp (by omega)]
  show W _ _ _ _ _ _ _ _ _ _ _ _ _ _ _ (F0 m (pc + 1) ls (va_rf (rfo G (mR M id j) (mI M id j)) :: _))
  rw [hr]
  exact h1
theorem g_aaload_Obj {id j len r : Nat} {i : Int32} (hd : decode J.2.1 pc = .ok (.aaload, 1)) (hk : (mK M)[id]? = some (.inl (.object "java/lang/Object", len))) (hi : i = nI j) (hj : j < len) (hL : len < 2147483648) (hr : mR M id j = some r) (kk : Go l J F L MC MS Q (pc + 1) lv (.ref r :: st) k n M) : Go l J F L MC MS Q pc lv (.int i :: .ref id :: st) k n M := by
  subst hi
  intro p e s m args below meth c G H locs cells slots ls hX hC hR hS hl hc hs
  have h1 := kk p e s m args below meth c G H locs cells slots ls hX hC hR hS hl hc hs
  refine w_aald hX.1.1 hX.1.2.1 hC.2.1 hR.1 id 12 (ty := .object "java/lang/Object") rfl (wl_get hk) rfl (vp_in_nI hj hL) hd ?_
  rw [nI_clamp (by omega)]
  show W _ _ _ _ _ _ _ _ _ _ _ _ _ _ _ (F0 m (pc + 1) ls (va_rf (rfo G (mR M id j) (mI M id j)) :: _))
  rw [hr]
  exact h1
theorem g_aastore_Obj {id j len r ci : Nat} {q0 : vw_C} {i : Int32} (hd : decode J.2.1 pc = .ok (.aastore, 1)) (hk : (mK M)[id]? = some (.inl (.object "java/lang/Object", len))) (hi : i = nI j) (hj : j < len) (hL : len < 2147483648) (hr : (mK M)[r]? = some (.inr ci)) (hc0 : vwCl[ci]? = some q0) (hq0 : q0.1 = "BitDeskLaw$Desk") (kk : Go l J F L MC MS Q (pc + 1) lv st k n (sR M id (fun_set (mR M id) j (some r)))) : Go l J F L MC MS Q pc lv (.ref r :: .int i :: .ref id :: st) k n M := by
  subst hi
  intro p e s m args below meth c G H locs cells slots ls hX hC hR hS hl hc hs
  have he := wl_get (G := G) hk
  have hv := wl_get (G := G) hr
  obtain ⟨r', hr', cellV, g1, g2, g3, -⟩ := hR.1 r _ hv
  have hcls := (hC.2.1.1 ci q0 hc0).2
  rw [hq0] at hcls
  obtain ⟨kA, comp, k1, k2, k3, -⟩ := (hC.2.1.2 12 _ rfl).2
  obtain ⟨kC, hkC, -⟩ := hcls.2
  obtain ⟨kO, hkO, -⟩ := Vm.findClass_spec k3
  obtain ⟨c3, t3, w1, w2, w3⟩ := Cond.castable_spec (va_Nw.use (A := args) (by rfl) (hC.1.2.1.1 (.castable "BitDeskLaw$Desk" "java/lang/Object") (by simp [CX1])))
  have e3 : c3 = (gD G).1 ci := Option.some.inj (w1.symm.trans hcls.1)
  have e4 : t3 = comp := Option.some.inj (w2.symm.trans k3)
  subst e3
  subst e4
  refine W.aast hX.1.1 hX.1.2.1 (hR.1 id _ he) (fun q h => by cases h) (fun h => by cases h) k1 k2 rfl hkO ⟨nI_pos (by omega), by show _ < (arrV _ _ _).slots.size; rw [arrV_size, nI_clamp (by omega)]; exact hj⟩ g1 (fun q h => by rw [g3] at h; cases h) (by rw [g2]; exact hkC) (by rw [g2]; exact w3) rfl rfl hd fun H1 e1 z oq => ?_
  refine kk p e s m args below meth c G H1 _ cells slots ls hX hC (rel_set hR hk rfl rfl rfl (fun i y hi _ => ent_sR y hi) z (hR.1.set (wl_D G M) he ?_ oq)) (hS.put z oq (by show gB G ≤ _; omega)) hl hc hs
  show H1[gB G + id]? = some (vp_cell (gA G (.object "java/lang/Object")) (len, adat G (sR M id (fun_set (mR M id) j (some r))) id (.object "java/lang/Object")))
  rw [e1]
  show some ((vp_cell (gA G (.object "java/lang/Object")) (len, adat G M id (.object "java/lang/Object"))).setSlot _ _) = _
  simp only [adat, sR, mR, mI, fs_self]
  rw [vp_cell_q, vp_cell_q, arrV_store, nI_clamp (by omega)]
  congr 2
  funext q
  by_cases hq : q = j
  · subst hq
    simp [updV, fun_set, va_rf, rfo_s]
  · simp [updV, fun_set, hq]
theorem g_aaload_Z1 {id j len r : Nat} {i : Int32} (hd : decode J.2.1 pc = .ok (.aaload, 1)) (hk : (mK M)[id]? = some (.inl (.array .boolean, len))) (hi : i = nI j) (hj : j < len) (hL : len < 2147483648) (hr : mR M id j = some r) (kk : Go l J F L MC MS Q (pc + 1) lv (.ref r :: st) k n M) : Go l J F L MC MS Q pc lv (.int i :: .ref id :: st) k n M := by
  subst hi
  intro p e s m args below meth c G H locs cells slots ls hX hC hR hS hl hc hs
  have h1 := kk p e s m args below meth c G H locs cells slots ls hX hC hR hS hl hc hs
  refine w_aald hX.1.1 hX.1.2.1 hC.2.1 hR.1 id 4 (ty := .array .boolean) rfl (wl_get hk) rfl (vp_in_nI hj hL) hd ?_
  rw [nI_clamp (by omega)]
  show W _ _ _ _ _ _ _ _ _ _ _ _ _ _ _ (F0 m (pc + 1) ls (va_rf (rfo G (mR M id j) (mI M id j)) :: _))
  rw [hr]
  exact h1
theorem g_aaload_Z2 {id j len r : Nat} {i : Int32} (hd : decode J.2.1 pc = .ok (.aaload, 1)) (hk : (mK M)[id]? = some (.inl (.array (.array .boolean), len))) (hi : i = nI j) (hj : j < len) (hL : len < 2147483648) (hr : mR M id j = some r) (kk : Go l J F L MC MS Q (pc + 1) lv (.ref r :: st) k n M) : Go l J F L MC MS Q pc lv (.int i :: .ref id :: st) k n M := by
  subst hi
  intro p e s m args below meth c G H locs cells slots ls hX hC hR hS hl hc hs
  have h1 := kk p e s m args below meth c G H locs cells slots ls hX hC hR hS hl hc hs
  refine w_aald hX.1.1 hX.1.2.1 hC.2.1 hR.1 id 8 (ty := .array (.array .boolean)) rfl (wl_get hk) rfl (vp_in_nI hj hL) hd ?_
  rw [nI_clamp (by omega)]
  show W _ _ _ _ _ _ _ _ _ _ _ _ _ _ _ (F0 m (pc + 1) ls (va_rf (rfo G (mR M id j) (mI M id j)) :: _))
  rw [hr]
  exact h1
theorem g_aaload_I1 {id j len r : Nat} {i : Int32} (hd : decode J.2.1 pc = .ok (.aaload, 1)) (hk : (mK M)[id]? = some (.inl (.array .int, len))) (hi : i = nI j) (hj : j < len) (hL : len < 2147483648) (hr : mR M id j = some r) (kk : Go l J F L MC MS Q (pc + 1) lv (.ref r :: st) k n M) : Go l J F L MC MS Q pc lv (.int i :: .ref id :: st) k n M := by
  subst hi
  intro p e s m args below meth c G H locs cells slots ls hX hC hR hS hl hc hs
  have h1 := kk p e s m args below meth c G H locs cells slots ls hX hC hR hS hl hc hs
  refine w_aald hX.1.1 hX.1.2.1 hC.2.1 hR.1 id 9 (ty := .array .int) rfl (wl_get hk) rfl (vp_in_nI hj hL) hd ?_
  rw [nI_clamp (by omega)]
  show W _ _ _ _ _ _ _ _ _ _ _ _ _ _ _ (F0 m (pc + 1) ls (va_rf (rfo G (mR M id j) (mI M id j)) :: _))
  rw [hr]
  exact h1
end
