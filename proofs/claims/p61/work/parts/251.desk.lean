/-! a desk's slots, one by one; its numbers -/
def DS (M : Mem) (n : Nat) (q : DQ) (u : Nat → Int64) (s : Nat) : Prop := (mR M q.1 s = some (q.2.2.2.1 s) ∧ Mt M (q.2.2.2.1 s) n (q.2.2.2.2.1 s) (fB (rI u s))) ∧ (∃ k : Bool, mI M q.2.1 s = b1 k ∧ u (4 + s) = b1L k) ∧ mR M q.2.2.1 s = some (q.2.2.2.2.2 s) ∧ (mK M)[q.2.2.2.2.2 s]? = some (.inl (.int, 3)) ∧ mI M (q.2.2.2.2.2 s) 0 = (u (10 + s)).toInt32 ∧ mI M (q.2.2.2.2.2 s) 1 = (u (16 + s)).toInt32 ∧ mI M (q.2.2.2.2.2 s) 2 = (u (22 + s)).toInt32
/-- the same numbers of a slot -/
def uE (u u' : Nat → Int64) (n s : Nat) : Prop := (∀ r, r < n → u' (28 + 32 * s + r) = u (28 + 32 * s + r)) ∧ u' (4 + s) = u (4 + s) ∧ u' (10 + s) = u (10 + s) ∧ u' (16 + s) = u (16 + s) ∧ u' (22 + s) = u (22 + s)
def lkU (u : Nat → Int64) (s : Nat) (x : Int32) : Nat → Int64 := if u (4 + s) = 1 then fun_set (fun_set u (10 + s) x.toInt64) (16 + s) (u (16 + s) + x.toInt64) else u
def anU (u : Nat → Int64) (s : Nat) (x : Int32) : Nat → Int64 := fun_set (lkU u s x) (22 + s) (lkU u s x (22 + s) + u (4 + s))
section
variable {l : Launch} {M M' : Mem} {m n d s t : Nat} {rw9 : Nat → Nat} {f g : Nat → Nat → Bool} {q : DQ} {u u' : Nat → Int64} {ρ : Nat → Nat × Nat} {W : Nat → Prop} {x : Int32}
theorem nρ {a b x y z w : Nat} (h : ρ a = (x, y)) (h' : ρ b = (z, w)) (hn : y ≠ w) : a ≠ b := fun e => hn (by have h9 := h.symm.trans ((congrArg ρ e).trans h'); exact (Prod.mk.inj h9).2)
theorem uE.mt (h : uE u u' n t) (hm : Mt M m n rw9 (fB (rI u t))) : Mt M m n rw9 (fB (rI u' t)) := hm.cg (fun r c hr _ => by
  show hb (rI u t r) c = hb (rI u' t r) c
  unfold rI
  rw [h.1 r hr])
theorem DS.xt (h : DS M n q u t) (hx : Xt W M M') (hk : q.1 < (mK M).length ∧ q.2.1 < (mK M).length ∧ q.2.2.1 < (mK M).length) (h1 : ¬ W q.1) (h2 : ¬ W q.2.1) (h3 : ¬ W q.2.2.1) (h4 : ¬ W (q.2.2.2.1 t)) (h5 : ∀ r, r < n → ¬ W (q.2.2.2.2.1 t r)) (h6 : ¬ W (q.2.2.2.2.2 t)) (hu : uE u u' n t) : DS M' n q u' t := by
  obtain ⟨⟨a1, a2⟩, ⟨k, a3, a4⟩, a5, a6, a7, a8, a9⟩ := h
  have e6 := hx.I (k_lt a6) h6
  exact ⟨⟨(congrFun (hx.R hk.1 h1) t).trans a1, hu.mt (a2.xt hx h4 h5)⟩, ⟨k, (congrFun (hx.I hk.2.1 h2) t).trans a3, hu.2.1.trans a4⟩, (congrFun (hx.R hk.2.2 h3) t).trans a5, hx.k a6, (congrFun e6 0).trans (a7.trans (by rw [hu.2.2.1])), (congrFun e6 1).trans (a8.trans (by rw [hu.2.2.2.1])), (congrFun e6 2).trans (a9.trans (by rw [hu.2.2.2.2]))⟩
/-- the numbers of one slot are new -/
theorem DK.num (h : DK M d n q u) (ho : OW ρ d n q) (hs : s < 6) (hx : Xt (fun i => i = q.2.2.2.2.2 s) M M') (hu : ∀ t, t < 6 → t ≠ s → uE u u' n t) (hr : ∀ r, r < n → u' (28 + 32 * s + r) = u (28 + 32 * s + r)) (hk : u' (4 + s) = u (4 + s)) (h123 : u' 1 = u 1 ∧ u' 2 = u 2 ∧ u' 3 = u 3) (e0 : mI M' (q.2.2.2.2.2 s) 0 = (u' (10 + s)).toInt32) (e1 : mI M' (q.2.2.2.2.2 s) 1 = (u' (16 + s)).toInt32) (e2 : mI M' (q.2.2.2.2.2 s) 2 = (u' (22 + s)).toInt32) : DK M' d n q u' := by
  obtain ⟨⟨a1, a2, a3, a4⟩, ⟨b1', b2, b3, b4⟩, ⟨c1, c2, c3⟩, hS⟩ := h
  obtain ⟨o1, o2, o3, o4, o5⟩ := ho
  have oc := (o5 s hs).2.1
  have nd : d ≠ q.2.2.2.2.2 s := nρ o1 oc (by omega)
  have n1 : q.1 ≠ q.2.2.2.2.2 s := nρ o2 oc (by omega)
  have n2 : q.2.1 ≠ q.2.2.2.2.2 s := nρ o3 oc (by omega)
  have n3 : q.2.2.1 ≠ q.2.2.2.2.2 s := nρ o4 oc (by omega)
  have eR := hx.R (k_lt a1) nd
  have eI := hx.I (k_lt a1) nd
  refine ⟨⟨hx.k a1, (congrFun eR 4).trans a2, (congrFun eR 5).trans a3, (congrFun eR 6).trans a4⟩, ⟨(congrFun eI 0).trans b1', (congrFun eI 1).trans (b2.trans (by rw [h123.1])), (congrFun eI 2).trans (b3.trans (by rw [h123.2.1])), (congrFun eI 3).trans (b4.trans (by rw [h123.2.2]))⟩, ⟨hx.k c1, hx.k c2, hx.k c3⟩, fun t ht => ?_⟩
  obtain ⟨p1, p2, p3⟩ := o5 t ht
  by_cases e : t = s
  · subst e
    obtain ⟨⟨g1, g2⟩, ⟨k, g3, g4⟩, g5, g6, -, -, -⟩ := hS t ht
    refine ⟨⟨(congrFun (hx.R (k_lt c1) n1) t).trans g1, (g2.xt hx (nρ p1 oc (by omega)) (fun r hr9 => nρ (p3 r hr9) oc (by omega))).cg (fun r c hr9 _ => ?_)⟩, ⟨k, (congrFun (hx.I (k_lt c2) n2) t).trans g3, hk.trans g4⟩, (congrFun (hx.R (k_lt c3) n3) t).trans g5, hx.k g6, e0, e1, e2⟩
    show hb (rI u t r) c = hb (rI u' t r) c
    unfold rI
    rw [hr r hr9]
  · have hS9 : DS M n q u t := hS t ht
    exact hS9.xt hx ⟨k_lt c1, k_lt c2, k_lt c3⟩ n1 n2 n3 (nρ p1 oc (by omega)) (fun r hr9 => nρ (p3 r hr9) oc (by omega)) (nρ p2 oc (by omega)) (hu t ht e)
theorem lkU_ne {j : Nat} (h1 : j ≠ 10 + s) (h2 : j ≠ 16 + s) : lkU u s x j = u j := by
  unfold lkU
  split
  · rw [fs_ne _ _ h2, fs_ne _ _ h1]
  · rfl
theorem lkU_E (hs : s < 6) (ht : t < 6) (e : t ≠ s) : uE u (lkU u s x) n t := ⟨fun r _ => lkU_ne (by omega) (by omega), lkU_ne (by omega) (by omega), lkU_ne (by omega) (by omega), lkU_ne (by omega) (by omega), lkU_ne (by omega) (by omega)⟩
theorem anU_ne {j : Nat} (h1 : j ≠ 10 + s) (h2 : j ≠ 16 + s) (h3 : j ≠ 22 + s) : anU u s x j = u j := by
  unfold anU
  rw [fs_ne _ _ h3]
  exact lkU_ne h1 h2
theorem anU_E (hs : s < 6) (ht : t < 6) (e : t ≠ s) : uE u (anU u s x) n t := ⟨fun r _ => anU_ne (by omega) (by omega) (by omega), anU_ne (by omega) (by omega) (by omega), anU_ne (by omega) (by omega) (by omega), anU_ne (by omega) (by omega) (by omega), anU_ne (by omega) (by omega) (by omega)⟩
/-- what looking writes -/
def dkLook (M : Mem) (c : Nat) (k : Bool) (x : Int32) : Mem := match k with
  | false => M
  | true => sI (sI M c (fun_set (mI M c) 0 x)) c (fun_set (mI (sI M c (fun_set (mI M c) 0 x)) c) 1 (mI (sI M c (fun_set (mI M c) 0 x)) c 1 + x))
def dkAnew (M : Mem) (c : Nat) (k : Bool) (x : Int32) : Mem := sI (dkLook M c k x) c (fun_set (mI (dkLook M c k x) c) 2 (mI (dkLook M c k x) c 2 + b1 k))
theorem dkLook_xt {c : Nat} {k : Bool} : Xt (fun i => i = c) M (dkLook M c k x) := by
  cases k
  · exact Xt.rf _ M
  · exact ((Xt.rf (fun i => i = c) M).sI (fun _ => rfl)).sI (fun _ => rfl)
theorem dkAnew_xt {c : Nat} {k : Bool} : Xt (fun i => i = c) M (dkAnew M c k x) := dkLook_xt.sI (fun _ => rfl)
theorem dkLook_v {c : Nat} {k : Bool} : mI (dkLook M c k x) c 0 = cond k x (mI M c 0) ∧ mI (dkLook M c k x) c 1 = cond k (mI M c 1 + x) (mI M c 1) ∧ mI (dkLook M c k x) c 2 = mI M c 2 := by
  cases k
  · exact ⟨rfl, rfl, rfl⟩
  · refine ⟨?_, ?_, ?_⟩
    · show mI (sI (sI M c _) c _) c 0 = x
      rw [sI_self, fs_ne _ _ (by decide), sI_self, fs_self]
    · show mI (sI (sI M c _) c _) c 1 = mI M c 1 + x
      rw [sI_self, fs_self, sI_self, fs_ne _ _ (by decide)]
    · show mI (sI (sI M c _) c _) c 2 = mI M c 2
      rw [sI_self, fs_ne _ _ (by decide), sI_self, fs_ne _ _ (by decide)]
theorem dkAnew_v {c : Nat} {k : Bool} : mI (dkAnew M c k x) c 0 = mI (dkLook M c k x) c 0 ∧ mI (dkAnew M c k x) c 1 = mI (dkLook M c k x) c 1 ∧ mI (dkAnew M c k x) c 2 = mI M c 2 + b1 k := by
  unfold dkAnew
  refine ⟨?_, ?_, ?_⟩
  · rw [sI_self, fs_ne _ _ (by decide)]
  · rw [sI_self, fs_ne _ _ (by decide)]
  · rw [sI_self, fs_self, dkLook_v.2.2]
theorem lkU_v {k : Bool} (hk : u (4 + s) = b1L k) : (lkU u s x (10 + s)).toInt32 = cond k x (u (10 + s)).toInt32 ∧ (lkU u s x (16 + s)).toInt32 = cond k ((u (16 + s)).toInt32 + x) (u (16 + s)).toInt32 := by
  unfold lkU
  cases k
  · have h0 : u (4 + s) ≠ 1 := by rw [hk]; decide
    rw [if_neg h0]
    exact ⟨rfl, rfl⟩
  · have h1 : u (4 + s) = 1 := hk
    rw [if_pos h1]
    refine ⟨?_, ?_⟩
    · rw [fs_ne _ _ (by omega), fs_self]
      exact Int32.toInt32_toInt64 x
    · rw [fs_self, Int64.toInt32_add, Int32.toInt32_toInt64]
      rfl
theorem DK.look {k : Bool} (h : DK M d n q u) (ho : OW ρ d n q) (hs : s < 6) (hk : u (4 + s) = b1L k) : DK (dkLook M (q.2.2.2.2.2 s) k x) d n q (lkU u s x) := by
  obtain ⟨-, -, -, -, e0, e1, e2⟩ := h.2.2.2 s hs
  obtain ⟨v0, v1, v2⟩ := dkLook_v (M := M) (c := q.2.2.2.2.2 s) (k := k) (x := x)
  obtain ⟨w0, w1⟩ := lkU_v (x := x) hk
  refine h.num ho hs dkLook_xt (fun t ht e => lkU_E hs ht e) (fun r _ => lkU_ne (by omega) (by omega)) (lkU_ne (by omega) (by omega)) ⟨lkU_ne (by omega) (by omega), lkU_ne (by omega) (by omega), lkU_ne (by omega) (by omega)⟩ ?_ ?_ ?_
  · rw [v0, w0, e0]
  · rw [v1, w1, e1]
  · rw [v2, e2, lkU_ne (by omega) (by omega)]
theorem b1L_32 (k : Bool) : (b1L k).toInt32 = b1 k := by cases k <;> decide
theorem DK.anew {k : Bool} (h : DK M d n q u) (ho : OW ρ d n q) (hs : s < 6) (hk : u (4 + s) = b1L k) : DK (dkAnew M (q.2.2.2.2.2 s) k x) d n q (anU u s x) := by
  obtain ⟨-, -, -, -, e0, e1, e2⟩ := h.2.2.2 s hs
  obtain ⟨v0, v1, v2⟩ := dkLook_v (M := M) (c := q.2.2.2.2.2 s) (k := k) (x := x)
  obtain ⟨y0, y1, y2⟩ := dkAnew_v (M := M) (c := q.2.2.2.2.2 s) (k := k) (x := x)
  obtain ⟨w0, w1⟩ := lkU_v (x := x) hk
  refine h.num ho hs dkAnew_xt (fun t ht e => anU_E hs ht e) (fun r _ => anU_ne (by omega) (by omega) (by omega)) (anU_ne (by omega) (by omega) (by omega)) ⟨anU_ne (by omega) (by omega) (by omega), anU_ne (by omega) (by omega) (by omega), anU_ne (by omega) (by omega) (by omega)⟩ ?_ ?_ ?_
  · rw [y0, v0]
    unfold anU
    rw [fs_ne _ _ (by omega), w0, e0]
  · rw [y1, v1]
    unfold anU
    rw [fs_ne _ _ (by omega), w1, e1]
  · rw [y2, e2]
    unfold anU
    rw [fs_self, lkU_ne (by omega) (by omega), Int64.toInt32_add, hk, b1L_32]
theorem k_look {k : Bool} (h : DK M d n q u) (hs : s < 6) (hk : mI M q.2.1 s = b1 k) : EvR l jX7_look 0 0 0 0 [.ref d, .int (nI s), .int x] M (.inl none) (dkLook M (q.2.2.2.2.2 s) k x) := by
  obtain ⟨⟨a1, a2, a3, a4⟩, -, ⟨c1, c2, c3⟩, hS⟩ := h
  obtain ⟨-, -, g5, g6, -, -, -⟩ := hS s hs
  refine ev_intro rfl (nb rfl) rfl ?_
  cases k
  · refine g_aload_n (pc := 0) dX7_look_0 rfl trivial ?_
    refine g_getf (pc := 1) dX7_look_1 fk_X7_13 a1 (fv_arr a3) ?_
    refine g_iload_n (pc := 4) dX7_look_4 rfl ?_
    refine g_zaload (pc := 5) dX7_look_5 c2 rfl hs (by decide) ?_
    rw [hk]
    refine g_if_ne (pc := 6) (tgt := 10) dX7_look_6 rfl (fun h6 => absurd h6 ((by decide))) (fun _ => ?_)
    refine g_return (pc := 9) dX7_look_9 rfl ?_
    exact ⟨rfl, rfl⟩
  · refine g_aload_n (pc := 0) dX7_look_0 rfl trivial ?_
    refine g_getf (pc := 1) dX7_look_1 fk_X7_13 a1 (fv_arr a3) ?_
    refine g_iload_n (pc := 4) dX7_look_4 rfl ?_
    refine g_zaload (pc := 5) dX7_look_5 c2 rfl hs (by decide) ?_
    rw [hk]
    refine g_if_ne (pc := 6) (tgt := 10) dX7_look_6 rfl (fun _ => ?_) (fun h6 => absurd ((by decide)) h6)
    refine g_aload_n (pc := 10) dX7_look_10 rfl trivial ?_
    refine g_getf (pc := 11) dX7_look_11 fk_X7_19 a1 (fv_arr a4) ?_
    refine g_iload_n (pc := 14) dX7_look_14 rfl ?_
    refine g_aaload_I1 (pc := 15) dX7_look_15 c3 rfl hs (by omega) g5 ?_
    refine g_iconst (pc := 16) (v := 0) dX7_look_16 rfl ?_
    refine g_iload_n (pc := 17) dX7_look_17 rfl ?_
    refine g_iastore (pc := 18) dX7_look_18 g6 rfl (by decide : 0 < 3) (by decide) ?_
    refine g_aload_n (pc := 19) dX7_look_19 rfl trivial ?_
    refine g_getf (pc := 20) dX7_look_20 fk_X7_19 a1 (fv_arr a4) ?_
    refine g_iload_n (pc := 23) dX7_look_23 rfl ?_
    refine g_aaload_I1 (pc := 24) dX7_look_24 c3 rfl hs (by omega) g5 ?_
    refine g_iconst (pc := 25) (v := 1) dX7_look_25 rfl ?_
    refine g_dup2_11 (pc := 26) dX7_look_26 rfl rfl ?_
    refine g_iaload (pc := 27) dX7_look_27 g6 rfl (by decide : 1 < 3) (by decide) ?_
    refine g_iload_n (pc := 28) dX7_look_28 rfl ?_
    refine g_iadd (pc := 29) dX7_look_29 ?_
    refine g_iastore (pc := 30) dX7_look_30 g6 rfl (by decide : 1 < 3) (by decide) ?_
    refine g_return (pc := 31) dX7_look_31 rfl ?_
    exact ⟨rfl, rfl⟩
theorem k_anew {k : Bool} (h : DK M d n q u) (ho : OW ρ d n q) (hs : s < 6) (hk : mI M q.2.1 s = b1 k) : EvR l jX7_anew 1 30 0 0 [.ref d, .int (nI s)] M (.inl none) (dkAnew M (q.2.2.2.2.2 s) k (nI n)) := by
  have h9 := h
  obtain ⟨⟨a1, a2, a3, a4⟩, ⟨z1, -⟩, ⟨c1, c2, c3⟩, hS⟩ := h
  obtain ⟨-, -, g5, g6, -, -, -⟩ := hS s hs
  obtain ⟨o1, o2, o3, o4, o5⟩ := ho
  have oc := (o5 s hs).2.1
  have hx := dkLook_xt (M := M) (c := q.2.2.2.2.2 s) (k := k) (x := nI n)
  have nd : d ≠ q.2.2.2.2.2 s := nρ o1 oc (by omega)
  have n2 : q.2.1 ≠ q.2.2.2.2.2 s := nρ o3 oc (by omega)
  have n3 : q.2.2.1 ≠ q.2.2.2.2.2 s := nρ o4 oc (by omega)
  have a1' := hx.k a1
  have c2' := hx.k c2
  have c3' := hx.k c3
  have g6' := hx.k g6
  have a3' := (congrFun (hx.R (k_lt a1) nd) 5).trans a3
  have a4' := (congrFun (hx.R (k_lt a1) nd) 6).trans a4
  have hk' := (congrFun (hx.I (k_lt c2) n2) s).trans hk
  have g5' := (congrFun (hx.R (k_lt c3) n3) s).trans g5
  refine ev_intro rfl (nb rfl) rfl ?_
  refine g_aload_n (pc := 0) dX7_anew_0 rfl trivial ?_
  refine g_iload_n (pc := 1) dX7_anew_1 rfl ?_
  refine g_aload_n (pc := 2) dX7_anew_2 rfl trivial ?_
  refine g_getf (pc := 3) (v := .int _) dX7_anew_3 fk_X7_22 a1 (fun _ => congrArg Value.int (z1)) ?_
  refine g_invV_r (pc := 6) (As := [_, _]) dX7_anew_6 rfl (k_look h9 hs hk) rfl rfl a1 rfl rfl lk_X7_47 rfl (nb rfl) ⟨nb rfl, nb rfl⟩ rfl ?_
  show Go l _ _ _ _ _ _ _ _ _ _ _ (dkLook M (q.2.2.2.2.2 s) k (nI n))
  generalize hM1 : dkLook M (q.2.2.2.2.2 s) k (nI n) = M1 at *
  have hfin : dkAnew M (q.2.2.2.2.2 s) k (nI n) = sI M1 (q.2.2.2.2.2 s) (fun_set (mI M1 (q.2.2.2.2.2 s)) 2 (mI M1 (q.2.2.2.2.2 s) 2 + b1 k)) := by
    unfold dkAnew
    rw [hM1]
  rw [hfin]
  cases k
  · refine g_aload_n (pc := 9) dX7_anew_9 rfl trivial ?_
    refine g_getf (pc := 10) dX7_anew_10 fk_X7_19 a1' (fv_arr a4') ?_
    refine g_iload_n (pc := 13) dX7_anew_13 rfl ?_
    refine g_aaload_I1 (pc := 14) dX7_anew_14 c3' rfl hs (by omega) g5' ?_
    refine g_iconst (pc := 15) (v := 2) dX7_anew_15 rfl ?_
    refine g_dup2_11 (pc := 16) dX7_anew_16 rfl rfl ?_
    refine g_iaload (pc := 17) dX7_anew_17 g6' rfl (by decide : 2 < 3) (by decide) ?_
    refine g_aload_n (pc := 18) dX7_anew_18 rfl trivial ?_
    refine g_getf (pc := 19) dX7_anew_19 fk_X7_13 a1' (fv_arr a3') ?_
    refine g_iload_n (pc := 22) dX7_anew_22 rfl ?_
    refine g_zaload (pc := 23) dX7_anew_23 c2' rfl hs (by decide) ?_
    rw [hk']
    refine g_if_eq (pc := 24) (tgt := 31) dX7_anew_24 rfl (fun _ => ?_) (fun h24 => absurd (rfl) h24)
    refine g_iconst (pc := 31) (v := 0) dX7_anew_31 rfl ?_
    refine g_iadd (pc := 32) dX7_anew_32 ?_
    refine g_iastore (pc := 33) dX7_anew_33 g6' rfl (by decide : 2 < 3) (by decide) ?_
    refine g_return (pc := 34) dX7_anew_34 rfl ?_
    exact ⟨rfl, rfl⟩
  · refine g_aload_n (pc := 9) dX7_anew_9 rfl trivial ?_
    refine g_getf (pc := 10) dX7_anew_10 fk_X7_19 a1' (fv_arr a4') ?_
    refine g_iload_n (pc := 13) dX7_anew_13 rfl ?_
    refine g_aaload_I1 (pc := 14) dX7_anew_14 c3' rfl hs (by omega) g5' ?_
    refine g_iconst (pc := 15) (v := 2) dX7_anew_15 rfl ?_
    refine g_dup2_11 (pc := 16) dX7_anew_16 rfl rfl ?_
    refine g_iaload (pc := 17) dX7_anew_17 g6' rfl (by decide : 2 < 3) (by decide) ?_
    refine g_aload_n (pc := 18) dX7_anew_18 rfl trivial ?_
    refine g_getf (pc := 19) dX7_anew_19 fk_X7_13 a1' (fv_arr a3') ?_
    refine g_iload_n (pc := 22) dX7_anew_22 rfl ?_
    refine g_zaload (pc := 23) dX7_anew_23 c2' rfl hs (by decide) ?_
    rw [hk']
    refine g_if_eq (pc := 24) (tgt := 31) dX7_anew_24 rfl (fun h24 => absurd h24 ((by decide))) (fun _ => ?_)
    refine g_iconst (pc := 27) (v := 1) dX7_anew_27 rfl ?_
    refine g_goto (pc := 28) (tgt := 32) dX7_anew_28 rfl ?_
    refine g_iadd (pc := 32) dX7_anew_32 ?_
    refine g_iastore (pc := 33) dX7_anew_33 g6' rfl (by decide : 2 < 3) (by decide) ?_
    refine g_return (pc := 34) dX7_anew_34 rfl ?_
    exact ⟨rfl, rfl⟩
end

