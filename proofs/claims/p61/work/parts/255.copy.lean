/-! a desk's copy -/
/-- the cells of a copy whose desk's arrays were made at L -/
def qC (L n : Nat) : DQ := (L + 8, L, L + 1, fun s => L + 8 + 1 + s * (n + 1), fun s r => L + (9 + 6 * (n + 1)) + s * (n + 1) + r, fun s => L + (9 + 6 * (n + 1)) + s * (n + 1) + n)
/-- the owners where a copy was made -/
def rhoC (ρ : Nat → Nat × Nat) (p L n : Nat) : Nat → Nat × Nat := fun i => if i < L + (9 + 6 * (n + 1)) then rhoD ρ p L n i else if (i - (L + (9 + 6 * (n + 1)))) % (n + 1) = n then (p, 20 + (i - (L + (9 + 6 * (n + 1)))) / (n + 1)) else (p, 30 + 16 * ((i - (L + (9 + 6 * (n + 1)))) / (n + 1)) + (i - (L + (9 + 6 * (n + 1)))) % (n + 1))
/-- a desk's head alone -/
def DH (M : Mem) (d n : Nat) (q : DQ) (u : Nat → Int64) : Prop :=
  ((mK M)[d]? = some (.inr 7) ∧ mR M d 4 = some q.1 ∧ mR M d 5 = some q.2.1 ∧ mR M d 6 = some q.2.2.1) ∧
  (mI M d 0 = nI n ∧ mI M d 1 = (u 1).toInt32 ∧ mI M d 2 = (u 2).toInt32 ∧ mI M d 3 = (u 3).toInt32) ∧
  ((mK M)[q.1]? = some (.inl (.array (.array .boolean), 6)) ∧ (mK M)[q.2.1]? = some (.inl (.boolean, 6)) ∧ (mK M)[q.2.2.1]? = some (.inl (.array .int, 6)))
/-- a copy under way -/
def CP (M Mx : Mem) (N n : Nat) (u : Nat → Int64) (i j : Nat) : Prop := Xt (fun y => N ≤ y) M Mx ∧ (mK Mx).length = N + 1 + (9 + 6 * (n + 1)) + i * (n + 1) + j ∧ DH Mx N n (qC (N + 1) n) u ∧ (∀ s, s < 6 → mR Mx (N + 1 + 8) s = some (N + 1 + 8 + 1 + s * (n + 1)) ∧ (mK Mx)[N + 1 + 8 + 1 + s * (n + 1)]? = some (.inl (.array .boolean, n))) ∧ (∀ s, s < i → DS Mx n (qC (N + 1) n) u s) ∧ ∀ r, r < j → mR Mx (N + 1 + 8 + 1 + i * (n + 1)) r = some (N + 1 + (9 + 6 * (n + 1)) + i * (n + 1) + r) ∧ (mK Mx)[N + 1 + (9 + 6 * (n + 1)) + i * (n + 1) + r]? = some (.inl (.boolean, n)) ∧ ∀ c, c < n → mI Mx (N + 1 + (9 + 6 * (n + 1)) + i * (n + 1) + r) c = b1 (fB (rI u i) r c)
section
variable {l : Launch} {M M' Mx : Mem} {m n d s t a b p L N i j : Nat} {q : DQ} {u u' : Nat → Int64} {ρ ρ' : Nat → Nat × Nat} {W : Nat → Prop}
theorem OW.cpy (hp : p < L) : OW (rhoC ρ p L n) p n (qC L n) := by
  obtain ⟨o1, o2, o3, o4, o5⟩ := OW.new (ρ := ρ) (n := n) hp
  have old : ∀ i, i < L + (9 + 6 * (n + 1)) → rhoC ρ p L n i = rhoD ρ p L n i := fun i hi => if_pos hi
  refine ⟨(old _ (by omega)).trans o1, (old _ (by show L + 8 < _; omega)).trans o2, (old _ (by show L < _; omega)).trans o3, (old _ (by show L + 1 < _; omega)).trans o4, fun s hs => ⟨(old _ ?_).trans (o5 s hs).1, ?_, fun r hr => ?_⟩⟩
  · show L + 8 + 1 + s * (n + 1) < _
    have : s * (n + 1) ≤ 5 * (n + 1) := Nat.mul_le_mul_right _ (by omega)
    omega
  · show rhoC ρ p L n (L + (9 + 6 * (n + 1)) + s * (n + 1) + n) = _
    obtain ⟨e1, e2⟩ := dm_at (s := s) (n := n) (k := n) (by omega)
    unfold rhoC
    rw [if_neg (by omega), show L + (9 + 6 * (n + 1)) + s * (n + 1) + n - (L + (9 + 6 * (n + 1))) = s * (n + 1) + n by omega, e1, e2, if_pos rfl]
  · show rhoC ρ p L n (L + (9 + 6 * (n + 1)) + s * (n + 1) + r) = _
    obtain ⟨e1, e2⟩ := dm_at (s := s) (n := n) (k := r) (by omega)
    unfold rhoC
    rw [if_neg (by omega), show L + (9 + 6 * (n + 1)) + s * (n + 1) + r - (L + (9 + 6 * (n + 1))) = s * (n + 1) + r by omega, e1, e2, if_neg (by omega)]
theorem rhoC_old {i : Nat} (hi : i < L) (hp : i ≠ p) : rhoC ρ p L n i = ρ i := (if_pos (by omega)).trans (rhoD_old hi hp)
theorem DH.xt (h : DH M d n q u) (hx : Xt W M M') (hd : ¬ W d) : DH M' d n q u := by
  obtain ⟨⟨a1, a2, a3, a4⟩, ⟨b1', b2, b3, b4⟩, c1, c2, c3⟩ := h
  have eR := hx.R (k_lt a1) hd
  have eI := hx.I (k_lt a1) hd
  exact ⟨⟨hx.k a1, (congrFun eR 4).trans a2, (congrFun eR 5).trans a3, (congrFun eR 6).trans a4⟩, ⟨(congrFun eI 0).trans b1', (congrFun eI 1).trans b2, (congrFun eI 2).trans b3, (congrFun eI 3).trans b4⟩, hx.k c1, hx.k c2, hx.k c3⟩
theorem DS.cg (h : DS M n q u t) (hk : ∀ (i : Nat) (x : Knd), (mK M)[i]? = some x → (mK M')[i]? = some x) (e1 : mR M' q.1 t = mR M q.1 t) (e2 : mI M' q.2.1 t = mI M q.2.1 t) (e3 : mR M' q.2.2.1 t = mR M q.2.2.1 t) (e4 : Mt M (q.2.2.2.1 t) n (q.2.2.2.2.1 t) (fB (rI u t)) → Mt M' (q.2.2.2.1 t) n (q.2.2.2.2.1 t) (fB (rI u t))) (e6 : mI M' (q.2.2.2.2.2 t) = mI M (q.2.2.2.2.2 t)) : DS M' n q u t := by
  obtain ⟨⟨a1, a2⟩, ⟨k, a3, a4⟩, a5, a6, a7, a8, a9⟩ := h
  exact ⟨⟨e1.trans a1, e4 a2⟩, ⟨k, e2.trans a3, a4⟩, e3.trans a5, hk _ _ a6, (congrFun e6 0).trans a7, (congrFun e6 1).trans a8, (congrFun e6 2).trans a9⟩
theorem mul_ne {s i n : Nat} (h : s ≠ i) : s * (n + 1) ≠ i * (n + 1) := fun e => h (Nat.eq_of_mul_eq_mul_right (Nat.succ_pos n) e)
/-- a row more -/
theorem CP.row {a : Nat} (h : CP M Mx N n u i j) (hi : i < 6) (hj : j < n) (ha : a < N) (hv : ∀ c, c < n → mI Mx a c = b1 (fB (rI u i) j c)) : CP M (sR (nC Mx a (.inl (.boolean, n))) (N + 1 + 8 + 1 + i * (n + 1)) (fun_set (mR (nC Mx a (.inl (.boolean, n))) (N + 1 + 8 + 1 + i * (n + 1))) j (some (mK Mx).length))) N n u i (j + 1) := by
  obtain ⟨h1, h2, h3, h4, h5, h6⟩ := h
  have him : i * (n + 1) ≤ 5 * (n + 1) := Nat.mul_le_mul_right _ (by omega)
  have kq1 : (mK Mx)[N + 1 + 8]? = some (.inl (.array (.array .boolean), 6)) := h3.2.2.1
  have hx : Xt (fun y => y = N + 1 + 8 + 1 + i * (n + 1)) Mx (sR (nC Mx a (.inl (.boolean, n))) (N + 1 + 8 + 1 + i * (n + 1)) (fun_set (mR (nC Mx a (.inl (.boolean, n))) (N + 1 + 8 + 1 + i * (n + 1))) j (some (mK Mx).length))) := ((Xt.rf (fun y => y = N + 1 + 8 + 1 + i * (n + 1)) Mx).nC _ _).sR (fun _ => rfl)
  have hmi := h4 i hi
  have eR0 : mR (nC Mx a (.inl (.boolean, n))) (N + 1 + 8 + 1 + i * (n + 1)) = mR Mx (N + 1 + 8 + 1 + i * (n + 1)) := ((Xt.rf (fun _ => False) Mx).nC _ _).R (k_lt hmi.2) id
  refine ⟨(h1.nC _ _).sR (fun _ => by show N ≤ _; omega), ?_, h3.xt hx (by show ¬ (N = _); omega), fun s hs => ⟨?_, hx.k (h4 s hs).2⟩, fun s hs => ?_, fun r hr => ?_⟩
  · show (mK Mx ++ [_]).length = _
    rw [List.length_append, h2]
    rfl
  · rw [hx.R (k_lt kq1) (by show ¬ (N + 1 + 8 = _); omega)]
    exact (h4 s hs).1
  · have hS := h5 s hs
    have hne := mul_ne (n := n) (Nat.ne_of_lt hs)
    have hsm : s * (n + 1) ≤ 5 * (n + 1) := Nat.mul_le_mul_right _ (by omega)
    exact hS.xt hx ⟨k_lt h3.2.2.1, k_lt h3.2.2.2.1, k_lt h3.2.2.2.2⟩ (by show ¬ (N + 1 + 8 = _); omega) (by show ¬ (N + 1 = _); omega) (by show ¬ (N + 1 + 1 = _); omega) (by show ¬ (N + 1 + 8 + 1 + s * (n + 1) = _); omega) (fun r hr => by show ¬ (N + 1 + (9 + 6 * (n + 1)) + s * (n + 1) + r = _); omega) (by show ¬ (N + 1 + (9 + 6 * (n + 1)) + s * (n + 1) + n = _); omega) ⟨fun _ _ => rfl, rfl, rfl, rfl, rfl⟩
  · rw [sR_self]
    by_cases e : r = j
    · subst e
      rw [fs_self, h2]
      refine ⟨rfl, ?_, fun c hc => ?_⟩
      · show (mK Mx ++ [_])[_]? = _
        rw [List.getElem?_append_right (by omega), h2, Nat.sub_self]
        rfl
      · rw [mI_sR, ← h2, new_cI]
        exact hv c hc
    · obtain ⟨z1, z2, z3⟩ := h6 r (by omega)
      rw [fs_ne _ _ e, eR0]
      refine ⟨z1, hx.k z2, fun c hc => ?_⟩
      rw [hx.I (k_lt z2) (by show ¬ (_ = _); omega)]
      exact z3 c hc
/-- a slot more -/
theorem CP.slot {a : Nat} {k : Bool} (h : CP M Mx N n u i n) (hi : i < 6) (ha : a < N) (hk : u (4 + i) = b1L k) (hv : mI Mx a 0 = (u (10 + i)).toInt32 ∧ mI Mx a 1 = (u (16 + i)).toInt32 ∧ mI Mx a 2 = (u (22 + i)).toInt32) : CP M (sR (nC (sI Mx (N + 1) (fun_set (mI Mx (N + 1)) i (vp_nar .boolean (b1 k)))) a (.inl (.int, 3))) (N + 1 + 1) (fun_set (mR (nC (sI Mx (N + 1) (fun_set (mI Mx (N + 1)) i (vp_nar .boolean (b1 k)))) a (.inl (.int, 3))) (N + 1 + 1)) i (some (mK Mx).length))) N n u (i + 1) 0 := by
  obtain ⟨h1, h2, h3, h4, h5, h6⟩ := h
  have him : i * (n + 1) ≤ 5 * (n + 1) := Nat.mul_le_mul_right _ (by omega)
  have kq1 : (mK Mx)[N + 1 + 8]? = some (.inl (.array (.array .boolean), 6)) := h3.2.2.1
  have hL : N + 1 < (mK Mx).length := by omega
  have hs1 : (i + 1) * (n + 1) = i * (n + 1) + (n + 1) := Nat.succ_mul _ _
  have hxs : Xt (fun y => y = N + 1) Mx (sI Mx (N + 1) (fun_set (mI Mx (N + 1)) i (vp_nar .boolean (b1 k)))) := (Xt.rf (fun y => y = N + 1) Mx).sI (fun _ => rfl)
  generalize hMa : sI Mx (N + 1) (fun_set (mI Mx (N + 1)) i (vp_nar .boolean (b1 k))) = Ma at *
  have la : (mK Ma).length = (mK Mx).length := by rw [← hMa]
  have ia : mI Ma (N + 1) = fun_set (mI Mx (N + 1)) i (b1 k) := by rw [← hMa, sI_self, nar_Z]
  have ra : mR Ma = mR Mx := by rw [← hMa]
  have hxc : Xn Ma (nC Ma a (.inl (.int, 3))) := (Xt.rf _ Ma).nC _ _
  have hx : Xt (fun y => y = N + 1 ∨ y = N + 1 + 1) Mx (sR (nC Ma a (.inl (.int, 3))) (N + 1 + 1) (fun_set (mR (nC Ma a (.inl (.int, 3))) (N + 1 + 1)) i (some (mK Mx).length))) := ((hxs.up (fun y _ e => Or.inl e)).nC _ _).sR (fun _ => Or.inr rfl)
  have eRn : mR (nC Ma a (.inl (.int, 3))) (N + 1 + 1) = mR Mx (N + 1 + 1) := (hxc.R (by omega) id).trans (by rw [ra])
  have eIL : mI (sR (nC Ma a (.inl (.int, 3))) (N + 1 + 1) (fun_set (mR (nC Ma a (.inl (.int, 3))) (N + 1 + 1)) i (some (mK Mx).length))) (N + 1) = fun_set (mI Mx (N + 1)) i (b1 k) := (hxc.I (by omega) id).trans ia
  have hkn : (mK (sR (nC Ma a (.inl (.int, 3))) (N + 1 + 1) (fun_set (mR (nC Ma a (.inl (.int, 3))) (N + 1 + 1)) i (some (mK Mx).length))))[(mK Mx).length]? = some (.inl (.int, 3)) := by
    show (mK Ma ++ [_])[_]? = _
    rw [List.getElem?_append_right (by omega), la, Nat.sub_self]
    rfl
  have hIn : mI (sR (nC Ma a (.inl (.int, 3))) (N + 1 + 1) (fun_set (mR (nC Ma a (.inl (.int, 3))) (N + 1 + 1)) i (some (mK Mx).length))) (mK Mx).length = mI Mx a := by
    rw [mI_sR, ← la, new_cI]
    exact hxs.I (by omega) (by omega)
  refine ⟨((h1.sI (a := N + 1) (f := fun_set (mI Mx (N + 1)) i (vp_nar .boolean (b1 k))) (fun _ => by omega)).tr' (W' := fun _ => False) (by rw [hMa]; exact hxc) (fun _ _ z => z.elim)).sR (fun _ => by omega), ?_, h3.xt hx (by omega), fun s hs => ⟨?_, hx.k (h4 s hs).2⟩, fun s hs => ?_, fun r hr => absurd hr (Nat.not_lt_zero r)⟩
  · show (mK Ma ++ [_]).length = _
    rw [List.length_append, la, h2, hs1, List.length_singleton]
    omega
  · rw [hx.R (k_lt kq1) (by show ¬ (N + 1 + 8 = _ ∨ N + 1 + 8 = _); omega)]
    exact (h4 s hs).1
  · have hsm : s * (n + 1) ≤ 5 * (n + 1) := Nat.mul_le_mul_right _ (by omega)
    by_cases e : s = i
    · subst e
      have hMt : Mt Mx (N + 1 + 8 + 1 + s * (n + 1)) n (fun r => N + 1 + (9 + 6 * (n + 1)) + s * (n + 1) + r) (fB (rI u s)) := ⟨(h4 s hi).2, fun r hr => h6 r hr⟩
      refine ⟨⟨?_, hMt.xt hx (by omega) (fun r hr => by omega)⟩, ⟨k, ?_, hk⟩, ?_, ?_, ?_, ?_, ?_⟩
      · show mR (sR (nC Ma a (.inl (.int, 3))) (N + 1 + 1) _) (N + 1 + 8) s = some (N + 1 + 8 + 1 + s * (n + 1))
        rw [hx.R (k_lt kq1) (by show ¬ (N + 1 + 8 = _ ∨ N + 1 + 8 = _); omega)]
        exact (h4 s hi).1
      · exact (congrFun eIL s).trans (fs_self _ _ _)
      · show mR (sR (nC Ma a (.inl (.int, 3))) (N + 1 + 1) _) (N + 1 + 1) s = some (N + 1 + (9 + 6 * (n + 1)) + s * (n + 1) + n)
        rw [sR_self, fs_self, h2]
      · rw [h2] at hkn ⊢
        exact hkn
      · rw [h2] at hIn ⊢
        exact (congrFun hIn 0).trans hv.1
      · rw [h2] at hIn ⊢
        exact (congrFun hIn 1).trans hv.2.1
      · rw [h2] at hIn ⊢
        exact (congrFun hIn 2).trans hv.2.2
    · have hsi : s < i := by omega
      have hS := h5 s hsi
      refine hS.cg (fun i x hx9 => hx.k hx9) ?_ ?_ ?_ (fun hm => hm.xt hx ?_ (fun r hr => ?_)) ?_
      · exact congrFun (hx.R (k_lt kq1) (by show ¬ (N + 1 + 8 = _ ∨ N + 1 + 8 = _); omega)) s
      · exact (congrFun eIL s).trans (fs_ne _ _ e)
      · show mR (sR (nC Ma a (.inl (.int, 3))) (N + 1 + 1) _) (N + 1 + 1) s = mR Mx (N + 1 + 1) s
        rw [sR_self, fs_ne _ _ e, eRn]
      · show ¬ (N + 1 + 8 + 1 + s * (n + 1) = _ ∨ N + 1 + 8 + 1 + s * (n + 1) = _)
        omega
      · show ¬ (N + 1 + (9 + 6 * (n + 1)) + s * (n + 1) + r = _ ∨ N + 1 + (9 + 6 * (n + 1)) + s * (n + 1) + r = _)
        omega
      · exact hx.I (k_lt hS.2.2.2.1) (by show ¬ (N + 1 + (9 + 6 * (n + 1)) + s * (n + 1) + n = _ ∨ N + 1 + (9 + 6 * (n + 1)) + s * (n + 1) + n = _); omega)
theorem fit_Z (v : Bool) : fits .boolean (.int (b1 v)) = true := by cases v <;> decide
theorem fit_I (v : Int32) : fits .int (.int v) = true := rfl
theorem k_copy (h : DK M d n q u) (ho : OW ρ d n q) (hn : n ≤ 9) (hx : mX M = true) : EvO l jX7_copy 2 60 140 1300 [.ref d] M (fun r M' => r = some (.ref (mK M).length) ∧ DK M' (mK M).length n (qC ((mK M).length + 1) n) u ∧ Xn M M') := by
  have hd := h.1.1
  have hz := h.z
  have hdl := k_lt hd
  generalize hN : (mK M).length = N at *
  have hq0 : (mK (nK M (.inr 7)))[N]? = some (.inr 7) := by rw [← hN]; exact new_at M _
  have hq1 : mI (nK M (.inr 7)) N = fun _ => 0 := by rw [← hN]; exact new_I M _
  have hq2 : (mK (nK M (.inr 7))).length = N + 1 := by rw [← hN]; exact new_l M _
  have hu0 : uN (fun i => if i = 1 then 4 else 0) := ⟨by decide, by decide, by decide, fun j h4 _ => if_neg (by omega)⟩
  refine ev_intro rfl (nb rfl) rfl ?_
  refine g_new (pc := 0) (nf := 7) (n := 1293) (k := 139) (ci := 7) (ty0 := tyX7) dX7_copy_0 rfl wd_x868 wd_x401 wd_x51 inW7 tyX7_ok (new_df7 _) rfl hx ?_
  rw [hN]
  have hz1 : mI (nK M (.inr 7)) d 0 = nI n := (congrFun (new_Ine M _ (by omega)) 0).trans hz
  refine g_dup (pc := 3) dX7_copy_3 rfl ?_
  refine g_aload_n (pc := 4) dX7_copy_4 rfl trivial ?_
  refine g_getf (pc := 5) (v := .int _) dX7_copy_5 fk_X7_22 (new_o M hd) (fun _ => congrArg Value.int (hz1)) ?_
  refine g_invI_o (pc := 8) (As := [_]) dX7_copy_8 rfl (k_init hq0 hq1 hn hx hu0) rfl rfl hq0 rfl rfl lk_X7_30 rfl (nb rfl) ⟨nb rfl, nb rfl⟩ rfl (fun v1 M1 hq => ?_)
  obtain ⟨rfl, hD, hX, hlen⟩ := hq
  rw [hq2] at hD hlen
  have X1 : Xt (fun y => N ≤ y) M M1 := ((Xt.rf (fun y => N ≤ y) M).nK (.inr 7)).tr' hX (fun i hi e => by omega)
  have cl : ∀ {Mx : Mem}, Xt (fun y => N ≤ y) M Mx → DK Mx d n q u := fun {Mx} hX9 => h.xt ho hX9 (fun i hi w => absurd hi (by omega))
  have X2 := X1.sI (a := N) (f := fun_set (mI M1 N) 1 (u 1).toInt32) (fun _ => Nat.le_refl N)
  have X3 := X2.sI (a := N) (f := fun_set (mI (sI M1 N (fun_set (mI M1 N) 1 (u 1).toInt32)) N) 2 (u 2).toInt32) (fun _ => Nat.le_refl N)
  show Go l _ _ _ _ _ _ _ _ ([.ref N] : List Value) _ _ _
  refine g_astore_n (pc := 11) (lv' := [(0, _), (1, _)]) dX7_copy_11 trivial (nl rfl) rfl ?_
  refine g_aload_n (pc := 12) dX7_copy_12 rfl trivial ?_
  refine g_aload_n (pc := 13) dX7_copy_13 rfl trivial ?_
  refine g_getf (pc := 14) (v := .int _) dX7_copy_14 fk_X7_7 (cl X1).1.1 (fun _ => congrArg Value.int ((cl X1).2.1.2.1)) ?_
  refine g_putI (pc := 17) dX7_copy_17 fp_X7_7 hD.1.1 ⟨rfl, rfl⟩ (fun _ _ _ _ => rfl) ?_
  refine g_aload_n (pc := 20) dX7_copy_20 rfl trivial ?_
  refine g_aload_n (pc := 21) dX7_copy_21 rfl trivial ?_
  refine g_getf (pc := 22) (v := .int _) dX7_copy_22 fk_X7_33 (cl X2).1.1 (fun _ => congrArg Value.int ((cl X2).2.1.2.2.1)) ?_
  refine g_putI (pc := 25) dX7_copy_25 fp_X7_33 hD.1.1 ⟨rfl, rfl⟩ (fun _ _ _ _ => rfl) ?_
  refine g_aload_n (pc := 28) dX7_copy_28 rfl trivial ?_
  refine g_aload_n (pc := 29) dX7_copy_29 rfl trivial ?_
  refine g_getf (pc := 30) (v := .int _) dX7_copy_30 fk_X7_36 (cl X3).1.1 (fun _ => congrArg Value.int ((cl X3).2.1.2.2.2)) ?_
  refine g_putI (pc := 33) dX7_copy_33 fp_X7_36 hD.1.1 ⟨rfl, rfl⟩ (fun _ _ _ _ => rfl) ?_
  refine g_wk (pc := 36) (k := 60) (n := 600) (by decide) (by decide) ?_
  have X4 := X3.sI (a := N) (f := fun_set (mI (sI (sI M1 N (fun_set (mI M1 N) 1 (u 1).toInt32)) N (fun_set (mI (sI M1 N (fun_set (mI M1 N) 1 (u 1).toInt32)) N) 2 (u 2).toInt32)) N) 3 (u 3).toInt32) (fun _ => Nat.le_refl N)
  have hC0 : CP M _ N n u 0 0 := ⟨X4, ?_, ⟨⟨hD.1.1, hD.1.2.1, hD.1.2.2.1, hD.1.2.2.2⟩, ⟨?_, ?_, ?_, ?_⟩, hD.2.2.1⟩, fun s hs => ⟨(hD.2.2.2 s hs).1.1, (hD.2.2.2 s hs).1.2.1⟩, fun s hs => absurd hs (Nat.not_lt_zero s), fun r hr => absurd hr (Nat.not_lt_zero r)⟩
  rotate_left
  · show (mK M1).length = _
    rw [hlen, Nat.zero_mul]
    rfl
  · rw [sI_self, fs_ne _ _ (by decide), sI_self, fs_ne _ _ (by decide), sI_self, fs_ne _ _ (by decide)]
    exact hD.2.1.1
  · rw [sI_self, fs_ne _ _ (by decide), sI_self, fs_ne _ _ (by decide), sI_self, fs_self]
  · rw [sI_self, fs_ne _ _ (by decide), sI_self, fs_self]
  · rw [sI_self, fs_self]
  generalize sI (sI (sI M1 N (fun_set (mI M1 N) 1 (u 1).toInt32)) N (fun_set (mI (sI M1 N (fun_set (mI M1 N) 1 (u 1).toInt32)) N) 2 (u 2).toInt32)) N (fun_set (mI (sI (sI M1 N (fun_set (mI M1 N) 1 (u 1).toInt32)) N (fun_set (mI (sI M1 N (fun_set (mI M1 N) 1 (u 1).toInt32)) N) 2 (u 2).toInt32)) N) 3 (u 3).toInt32) = M4 at *
  refine g_iconst (pc := 36) (v := 0) dX7_copy_36 rfl ?_
  refine g_istore_n (pc := 37) (lv' := [(0, _), (1, _), (2, _)]) dX7_copy_37 (nl rfl) rfl ?_
  refine go_forS (pc := 38) 6 (fun i (_ : Mem) => [(0, .ref d), (1, .ref N), (2, .int (nI i))]) (fun z => z) (fun i Mx => CP M Mx N n u i 0) (fun i => (6 - i) * 10) (fun i => (6 - i) * 100) M4 ⟨rfl, rfl, rfl, trivial⟩ rfl rfl rfl hC0 ?_ ?_
  · intro i Mx hi hC ih
    have hnn : n * n ≤ 81 := Nat.mul_le_mul hn hn
    refine g_iload_n (pc := 38) dX7_copy_38 rfl ?_
    refine g_bipush (pc := 39) (v := 6) dX7_copy_39 rfl ?_
    refine g_icmp_ge (pc := 41) (tgt := 118) dX7_copy_41 rfl (fun h41 => absurd h41 (nI_ge hi (by decide))) (fun _ => ?_)
    refine g_iconst (pc := 44) (v := 0) dX7_copy_44 rfl ?_
    refine g_istore_n (pc := 45) (lv' := [(0, _), (1, _), (2, _), (3, _)]) dX7_copy_45 (nl rfl) rfl ?_
    refine g_wk (pc := 46) (k := (5 - i) * 10 + 1 + n) (n := (5 - i) * 100 + 3 + n * n) (by omega) (by omega) ?_
    refine go_forS (pc := 46) n (fun j (_ : Mem) => [(0, .ref d), (1, .ref N), (2, .int (nI i)), (3, .int (nI j))]) (fun z => z) (fun j Mx => CP M Mx N n u i j) (fun j => (5 - i) * 10 + 1 + (n - j)) (fun j => (5 - i) * 100 + 3 + (n - j) * n) Mx ⟨rfl, rfl, rfl, rfl, trivial⟩ rfl (by rw [Nat.sub_zero]) (by rw [Nat.sub_zero]) hC ?_ ?_
    · intro j My hj hC2 ih2
      have hdk := cl hC2.1
      obtain ⟨⟨a1, a2, a3, a4⟩, ⟨z1, -⟩, ⟨c1, c2, c3⟩, hS⟩ := hdk
      obtain ⟨⟨g1, g2⟩, -⟩ := hS i hi
      obtain ⟨r1, r2, r3⟩ := g2.2 j hj
      have hrl : q.2.2.2.2.1 i j < N := by have := (h.2.2.2 i hi).1.2.lt.2 j hj; omega
      have hnj : (n - j) * n = (n - (j + 1)) * n + n := by rw [show n - j = (n - (j + 1)) + 1 by omega, Nat.succ_mul]
      have hC3 := hC2.row hi hj hrl r3
      refine g_iload_n (pc := 46) dX7_copy_46 rfl ?_
      refine g_aload_n (pc := 47) dX7_copy_47 rfl trivial ?_
      refine g_getf (pc := 48) (v := .int _) dX7_copy_48 fk_X7_22 a1 (fun _ => congrArg Value.int (z1)) ?_
      refine g_icmp_ge (pc := 51) (tgt := 82) dX7_copy_51 rfl (fun h51 => absurd h51 (nI_ge hj (by omega))) (fun _ => ?_)
      refine g_aload_n (pc := 54) dX7_copy_54 rfl trivial ?_
      refine g_getf (pc := 55) dX7_copy_55 fk_X7_27 hC2.2.2.1.1.1 (fv_arr hC2.2.2.1.1.2.1) ?_
      refine g_iload_n (pc := 58) dX7_copy_58 rfl ?_
      refine g_aaload_Z2 (pc := 59) dX7_copy_59 hC2.2.2.1.2.2.1 rfl hi (by omega) (hC2.2.2.2.1 i hi).1 ?_
      refine g_iload_n (pc := 60) dX7_copy_60 rfl ?_
      refine g_aload_n (pc := 61) dX7_copy_61 rfl trivial ?_
      refine g_getf (pc := 62) dX7_copy_62 fk_X7_27 a1 (fv_arr a2) ?_
      refine g_iload_n (pc := 65) dX7_copy_65 rfl ?_
      refine g_aaload_Z2 (pc := 66) dX7_copy_66 c1 rfl hi (by omega) g1 ?_
      refine g_iload_n (pc := 67) dX7_copy_67 rfl ?_
      refine g_aaload_Z1 (pc := 68) dX7_copy_68 g2.1 rfl hj (by omega) r1 ?_
      refine g_wk (pc := 69) (k := (5 - i) * 10 + 1 + (n - (j + 1)) + 1) (n := (5 - i) * 100 + 3 + (n - (j + 1)) * n + n) (by omega) (by omega) ?_
      refine g_cloneT (pc := 69) (ty := .boolean) (t0 := 3) dX7_copy_69 wd_x870 wd_x871 wd_x650 wd_x651 wd_x872 (by simp [CX1]) (fun _ => rfl) (fun _ _ _ => rfl) rfl (fun _ _ h => h) r2 (fun c hc => by rw [r3 c hc]; exact fit_Z _) (hC2.1.2.1.trans hx) (nb rfl) (nb rfl) ?_
      refine g_castA (pc := 72) (t0 := 3) dX7_copy_72 wd_x874 (new_at _ _) (fun _ => rfl) rfl (fun _ _ h => h) ?_
      refine g_aastore_Z1 (pc := 75) dX7_copy_75 (new_o My (hC2.2.2.2.1 i hi).2) rfl hj (by omega) (new_at _ _) ?_
      refine g_iinc (pc := 76) (lv' := [(0, _), (1, _), (2, _), (3, _)]) dX7_copy_76 rfl (nI_1 _) (nl rfl) rfl ?_
      refine g_goto (pc := 79) (tgt := 46) dX7_copy_79 rfl ?_
      exact g_subk (ih2 _ hC3) ⟨rfl, rfl, rfl, rfl, trivial⟩
    · intro My hC2
      have hdk := cl hC2.1
      obtain ⟨⟨a1, a2, a3, a4⟩, ⟨z1, -⟩, ⟨c1, c2, c3⟩, hS⟩ := hdk
      obtain ⟨-, ⟨k, g3, g4⟩, g5, g6, g7, g8, g9⟩ := hS i hi
      have hrl : q.2.2.2.2.2 i < N := by have := k_lt (h.2.2.2 i hi).2.2.2.1; omega
      have hC3 := hC2.slot (k := k) hi hrl g4 ⟨g7, g8, g9⟩
      refine g_iload_n (pc := 46) dX7_copy_46 rfl ?_
      refine g_aload_n (pc := 47) dX7_copy_47 rfl trivial ?_
      refine g_getf (pc := 48) (v := .int _) dX7_copy_48 fk_X7_22 a1 (fun _ => congrArg Value.int (z1)) ?_
      refine g_icmp_ge (pc := 51) (tgt := 82) dX7_copy_51 rfl (fun _ => ?_) (fun h51 => absurd (nI_le (Nat.le_refl _) (by omega)) h51)
      refine g_aload_n (pc := 82) dX7_copy_82 rfl trivial ?_
      refine g_getf (pc := 83) dX7_copy_83 fk_X7_13 hC2.2.2.1.1.1 (fv_arr hC2.2.2.1.1.2.2.1) ?_
      refine g_iload_n (pc := 86) dX7_copy_86 rfl ?_
      refine g_aload_n (pc := 87) dX7_copy_87 rfl trivial ?_
      refine g_getf (pc := 88) dX7_copy_88 fk_X7_13 a1 (fv_arr a3) ?_
      refine g_iload_n (pc := 91) dX7_copy_91 rfl ?_
      refine g_zaload (pc := 92) dX7_copy_92 c2 rfl hi (by decide) ?_
      rw [g3]
      refine g_wk (pc := 93) (k := (5 - i) * 10 + 1) (n := (5 - i) * 100 + 3) (by omega) (by omega) ?_
      have hXs : Xt (fun y => N ≤ y) M (sI My (N + 1) (fun_set (mI My (N + 1)) i (vp_nar .boolean (b1 k)))) := hC2.1.sI (fun _ => by omega)
      have hdk2 := cl hXs
      refine g_zastore (pc := 93) dX7_copy_93 hC2.2.2.1.2.2.2.1 rfl hi (by decide) ?_
      refine g_aload_n (pc := 94) dX7_copy_94 rfl trivial ?_
      refine g_getf (pc := 95) dX7_copy_95 fk_X7_19 hC2.2.2.1.1.1 (fv_arr hC2.2.2.1.1.2.2.2) ?_
      refine g_iload_n (pc := 98) dX7_copy_98 rfl ?_
      refine g_aload_n (pc := 99) dX7_copy_99 rfl trivial ?_
      refine g_getf (pc := 100) dX7_copy_100 fk_X7_19 hdk2.1.1 (fv_arr hdk2.1.2.2.2) ?_
      refine g_iload_n (pc := 103) dX7_copy_103 rfl ?_
      refine g_aaload_I1 (pc := 104) dX7_copy_104 hdk2.2.2.1.2.2 rfl hi (by omega) (hdk2.2.2.2 i hi).2.2.1 ?_
      refine g_cloneT (pc := 105) (ty := .int) (t0 := 0) dX7_copy_105 wd_x875 wd_x876 wd_x650 wd_x651 wd_x877 (by simp [CX1]) (fun _ => rfl) (fun _ _ _ => rfl) rfl (fun _ _ h => h) (hdk2.2.2.2 i hi).2.2.2.1 (fun c hc => fit_I _) (hXs.2.1.trans hx) (nb rfl) (nb rfl) ?_
      refine g_castA (pc := 108) (t0 := 0) dX7_copy_108 wd_x879 (new_at _ _) (fun _ => rfl) rfl (fun _ _ h => h) ?_
      refine g_aastore_I1 (pc := 111) dX7_copy_111 (new_o My hC2.2.2.1.2.2.2.2) rfl hi (by decide) (new_at _ _) ?_
      refine g_iinc (pc := 112) (lv' := [(0, _), (1, _), (2, _), (3, _)]) dX7_copy_112 rfl (nI_1 _) (nl rfl) rfl ?_
      refine g_goto (pc := 115) (tgt := 38) dX7_copy_115 rfl ?_
      refine g_subk (pc := 38) (go_kn ?_ ?_ (ih _ hC3)) ⟨rfl, rfl, rfl, trivial⟩ <;> omega
  · intro Mx hC
    refine g_iload_n (pc := 38) dX7_copy_38 rfl ?_
    refine g_bipush (pc := 39) (v := 6) dX7_copy_39 rfl ?_
    refine g_icmp_ge (pc := 41) (tgt := 118) dX7_copy_41 rfl (fun _ => ?_) (fun h41 => absurd (nI_le (Nat.le_refl _) (by decide)) h41)
    refine g_aload_n (pc := 118) dX7_copy_118 rfl trivial ?_
    refine g_areturn (pc := 119) dX7_copy_119 rfl (Or.inl ⟨_, rfl⟩) ?_
    exact ⟨_, rfl, rfl, ⟨hC.2.2.1.1, hC.2.2.1.2.1, hC.2.2.1.2.2, fun s hs => hC.2.2.2.2.1 s hs⟩, hC.1.up (fun i hi w => absurd hi (by omega))⟩
end

