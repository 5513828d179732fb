/-! what the constructors make: states, multiplier -/
def cRw (M : Mem) (m a : Nat) (k : Knd) : Mem := pR (nK M k) m a (mK M).length
def nO (f : Mem → Nat → Mem) (c m a : Nat) (M : Mem) : Mem := pR (f (nK M (.inr c)) (mK M).length) m a (mK M).length
def X2M (M : Mem) (m : Nat) : Mem := cRw M m 0 (kI 32)
def X0M (M : Mem) (m : Nat) : Mem := cRw M m 0 (kI 32)
def X4M (M : Mem) (m : Nat) : Mem := cRw M m 0 (kI 600)
def X1M (M : Mem) (m : Nat) : Mem := cRw (cRw (cRw M m 0 (kI 32)) m 1 (kI 32)) m 2 (kI 32)
def X3M (M : Mem) (m : Nat) : Mem := cRw (cRw (cRw M m 0 (kI 256)) m 1 (kI 32)) m 2 (kI 32)
def nOs (f : Mem → Nat → Mem) (c a : Nat) (M : Mem) : Nat → Mem
  | 0 => M
  | i + 1 => nO f c a i (nOs f c a M i)
termination_by i => i
def X5M (M : Mem) (m : Nat) : Mem := pI (pI (nOs X2M 2 (mK M).length (cRw M m 0 (.inl (.object kMx, 6))) 6) m 1 8) m 2 4
/-- M' is M and more, but for the references of m -/
def Ext (m : Nat) (M M' : Mem) : Prop := (mX M = true → mX M' = true) ∧ (∀ (i : Nat) (x : Knd), (mK M)[i]? = some x → (mK M')[i]? = some x) ∧ (∀ (i : Nat) (x : Knd), (mK M)[i]? = some x → i ≠ m → mR M' i = mR M i)
section
variable {l : Launch} {M M1 M2 P : Mem} {m a b : Nat} {k x : Knd}
theorem lenI {i : Nat} {x : Knd} (h : (mK M)[i]? = some x) : i < (mK M).length := by
  rcases Nat.lt_or_ge i (mK M).length with q | q
  · exact q
  · rw [List.getElem?_eq_none q] at h; cases h
theorem nK_new {k : Knd} : (mK (nK M k))[(mK M).length]? = some k := by
  show (mK M ++ [k])[(mK M).length]? = _
  rw [List.getElem?_append_right (Nat.le_refl _), Nat.sub_self]; rfl
theorem nK_R {i : Nat} {x k : Knd} (h : (mK M)[i]? = some x) : mR (nK M k) i = mR M i := by
  have := lenI h
  show fun_set (mR M) (mK M).length (fun _ => none) i = _
  unfold fun_set
  rw [if_neg (by omega)]
theorem Ext.rf (m : Nat) (M : Mem) : Ext m M M := ⟨fun h => h, fun _ _ h => h, fun _ _ _ _ => rfl⟩
theorem Ext.tr (h1 : Ext m M M1) (h2 : Ext m M1 M2) : Ext m M M2 := ⟨fun h => h2.1 (h1.1 h), fun i x h => h2.2.1 i x (h1.2.1 i x h), fun i x h hi => (h2.2.2 i x (h1.2.1 i x h) hi).trans (h1.2.2 i x h hi)⟩
theorem ex_nK (m : Nat) (M : Mem) (k : Knd) : Ext m M (nK M k) := ⟨fun h => h, fun _ _ h => nK_k h, fun _ _ h _ => nK_R h⟩
theorem ex_pR (M : Mem) (m a r : Nat) : Ext m M (pR M m a r) := ⟨fun h => h, fun _ _ h => h, fun i x h hi => by
  show fun_set (mR M) m _ i = _
  unfold fun_set; rw [if_neg hi]⟩
theorem ex_cR (M : Mem) (m a : Nat) (k : Knd) : Ext m M (cRw M m a k) := (ex_nK m M k).tr (ex_pR _ m a _)
theorem ex_pI (m : Nat) (M : Mem) (i j : Nat) (v : Int32) : Ext m M (pI M i j v) := ⟨fun h => h, fun _ _ h => h, fun _ _ _ _ => rfl⟩
/-- what was made apart from M -/
theorem Ext.out (h : Ext (mK M).length (nK M k) M1) : Ext m M M1 := ⟨fun q => h.1 q, fun i x q => h.2.1 i x (nK_k q), fun i x q _ => (h.2.2 i x (nK_k q) (Nat.ne_of_lt (lenI q))).trans (nK_R q)⟩
theorem ex_nO {f : Mem → Nat → Mem} {c : Nat} (hf : ∀ (M : Mem) (m : Nat) (x : Knd), (mK M)[m]? = some x → Ext m M (f M m)) (M : Mem) (m a : Nat) : Ext m M (nO f c m a M) := (Ext.out (hf _ _ _ nK_new)).tr (ex_pR _ m a _)
theorem ex_nOs {f : Mem → Nat → Mem} {c : Nat} (hf : ∀ (M : Mem) (m : Nat) (x : Knd), (mK M)[m]? = some x → Ext m M (f M m)) (M : Mem) (a : Nat) : ∀ i, Ext a M (nOs f c a M i)
  | 0 => by rw [nOs.eq_1]; exact Ext.rf _ _
  | i + 1 => by rw [nOs.eq_2]; exact (ex_nOs hf M a i).tr (ex_nO hf _ _ _)
theorem cR_new {k : Knd} : (mK (cRw M m a k))[(mK M).length]? = some k := nK_new
theorem cR_f {k : Knd} : mR (cRw M m a k) m a = some (mK M).length := by
  show fun_set (mR (nK M k)) m (fun_set (mR (nK M k) m) a (some (mK M).length)) m a = _
  simp [fun_set]
theorem pR_f {r : Nat} : mR (pR M m a r) m a = some r := by
  show fun_set (mR M) m (fun_set (mR M m) a (some r)) m a = _
  simp [fun_set]
theorem pR_o {r b : Nat} (h : b ≠ a) : mR (pR M m a r) m b = mR M m b := by
  show fun_set (mR M) m (fun_set (mR M m) a (some r)) m b = _
  simp [fun_set, h]
theorem X2_e (M : Mem) (m : Nat) (x : Knd) (_ : (mK M)[m]? = some x) : Ext m M (X2M M m) := ex_cR _ _ _ _
theorem X0_e (M : Mem) (m : Nat) (x : Knd) (_ : (mK M)[m]? = some x) : Ext m M (X0M M m) := ex_cR _ _ _ _
theorem X4_e (M : Mem) (m : Nat) (x : Knd) (_ : (mK M)[m]? = some x) : Ext m M (X4M M m) := ex_cR _ _ _ _
theorem X1_e (M : Mem) (m : Nat) (x : Knd) (_ : (mK M)[m]? = some x) : Ext m M (X1M M m) := ((ex_cR _ _ _ _).tr (ex_cR _ _ _ _)).tr (ex_cR _ _ _ _)
theorem X3_e (M : Mem) (m : Nat) (x : Knd) (_ : (mK M)[m]? = some x) : Ext m M (X3M M m) := ((ex_cR _ _ _ _).tr (ex_cR _ _ _ _)).tr (ex_cR _ _ _ _)
theorem Ext.lo (h : Ext (mK M).length (cRw M m b k) M1) (hm : (mK M)[m]? = some x) : Ext m M M1 := ⟨fun q => h.1 q, fun i y q => h.2.1 i y (nK_k q), fun i y q hi => (h.2.2 i y (nK_k q) (Nat.ne_of_lt (lenI q))).trans ((ex_cR M m b k).2.2 i y q hi)⟩
theorem X5_e (M : Mem) (m : Nat) (x : Knd) (hm : (mK M)[m]? = some x) : Ext m M (X5M M m) := (Ext.lo (ex_nOs X2_e _ _ 6) hm).tr ((ex_pI m _ _ _ _).tr (ex_pI m _ _ _ _))
theorem j_X2 (hx : mX M = true) (hk : (mK M)[m]? = some (.inr 2)) : EvR l jX2_init 1 30 1 32 [.ref m] M (.inl none) (X2M M m) := i_X2 hx hk rfl
theorem j_X0 (hx : mX M = true) (hk : (mK M)[m]? = some (.inr 0)) : EvR l jX0_init 1 30 1 32 [.ref m] M (.inl none) (X0M M m) := i_X0 hx hk rfl
theorem j_X4 (hx : mX M = true) (hk : (mK M)[m]? = some (.inr 4)) : EvR l jX4_init 1 30 1 600 [.ref m] M (.inl none) (X4M M m) := i_X4 hx hk rfl
theorem j_X1 (hx : mX M = true) (hk : (mK M)[m]? = some (.inr 1)) : EvR l jX1_init 1 30 3 96 [.ref m] M (.inl none) (X1M M m) := by
  have h := i_X1 (l := l) hx hk rfl
  have e1 : (mK M).length + 1 = (mK (cRw M m 0 (kI 32))).length := (nK_n rfl).symm
  have e2 : (mK M).length + 2 = (mK (cRw (cRw M m 0 (kI 32)) m 1 (kI 32))).length := (nK_n (M := cRw M m 0 (kI 32)) (nK_n rfl)).symm
  rw [e1, e2] at h
  exact h
theorem j_X3 (hx : mX M = true) (hk : (mK M)[m]? = some (.inr 3)) : EvR l jX3_init 1 30 3 320 [.ref m] M (.inl none) (X3M M m) := by
  have a1 := ex_cR M m 0 (kI 256)
  have a2 := a1.tr (ex_cR _ m 1 (kI 32))
  have a3 := a2.tr (ex_cR _ m 2 (kI 32))
  refine ev_intro rfl (nb rfl) rfl ?_
  refine g_aload_n (pc := 0) dX3_init_0 rfl trivial ?_
  refine g_objInit (pc := 1) dX3_init_1 wd_240 wd_121 wd_122 (nb rfl) (nb rfl) ?_
  refine g_aload_n (pc := 4) dX3_init_4 rfl trivial ?_
  refine g_sipush (pc := 5) (v := 256) dX3_init_5 rfl ?_
  refine g_newarray_int (pc := 8) (len := 256) (n := 64) (k := 2) dX3_init_8 wd_154 rfl (by decide) hx ?_
  refine g_putR (pc := 10) dX3_init_10 fp_X3_9 (fun _ => ⟨rfl, _, rfl, rfl⟩) (nK_k hk) (fun _ => ⟨rfl, rfl⟩) (fun _ _ _ _ => rfl) ?_
  refine go_cast (show _ = cRw M m 0 (kI 256) from rfl) ?_
  refine g_aload_n (pc := 13) dX3_init_13 rfl trivial ?_
  refine g_bipush (pc := 14) (v := 32) dX3_init_14 rfl ?_
  refine g_newarray_int (pc := 16) (len := 32) (n := 32) (k := 1) dX3_init_16 wd_154 rfl (by decide) (a1.1 hx) ?_
  refine g_putR (pc := 18) dX3_init_18 fp_X3_15 (fun _ => ⟨rfl, _, rfl, rfl⟩) (nK_k (a1.2.1 _ _ hk)) (fun _ => ⟨rfl, rfl⟩) (fun _ _ _ _ => rfl) ?_
  refine go_cast (show _ = cRw (cRw M m 0 (kI 256)) m 1 (kI 32) from rfl) ?_
  refine g_aload_n (pc := 21) dX3_init_21 rfl trivial ?_
  refine g_bipush (pc := 22) (v := 32) dX3_init_22 rfl ?_
  refine g_newarray_int (pc := 24) (len := 32) (n := 0) (k := 0) dX3_init_24 wd_154 rfl (by decide) (a2.1 hx) ?_
  refine g_putR (pc := 26) dX3_init_26 fp_X3_18 (fun _ => ⟨rfl, _, rfl, rfl⟩) (nK_k (a2.2.1 _ _ hk)) (fun _ => ⟨rfl, rfl⟩) (fun _ _ _ _ => rfl) ?_
  refine g_return (pc := 29) dX3_init_29 rfl ?_
  exact ⟨rfl, rfl⟩
theorem j_X5 (hx : mX M = true) (hk : (mK M)[m]? = some (.inr 5)) : EvR l jX5_init 2 60 13 228 [.ref m] M (.inl none) (X5M M m) := by
  have hma : m ≠ (mK M).length := Nat.ne_of_lt (lenI hk)
  have a1 := ex_cR M m 0 (.inl (.object kMx, 6))
  have hk1 := a1.2.1 _ _ hk
  have hx1 := a1.1 hx
  have hA1 : (mK (cRw M m 0 (.inl (.object kMx, 6))))[(mK M).length]? = some (.inl (.object kMx, 6)) := cR_new
  have hR1 : mR (cRw M m 0 (.inl (.object kMx, 6))) m 0 = some (mK M).length := cR_f
  obtain ⟨P0, hP0⟩ : ∃ P, P = cRw M m 0 (.inl (.object kMx, 6)) := ⟨_, rfl⟩
  obtain ⟨a, ha⟩ : ∃ a, a = (mK M).length := ⟨_, rfl⟩
  unfold X5M
  rw [← hP0, ← ha]
  rw [← hP0] at hk1 hx1
  rw [← hP0, ← ha] at hA1 hR1
  rw [← ha] at hma
  clear a1
  have hE := ex_nOs (c := 2) X2_e P0 a
  refine ev_intro rfl (nb rfl) rfl ?_
  have body : ∀ (i k n : Nat), i < 6 → Go l jX5_init 2 60 13 228 (fun r' M9 => r' = .inl none ∧ M9 = pI (pI (nOs X2M 2 a P0 6) m 1 8) m 2 4) 15 [(0, .ref m), (1, .int (nI (i + 1)))] [] k n (nOs X2M 2 a P0 (i + 1)) → Go l jX5_init 2 60 13 228 (fun r' M9 => r' = .inl none ∧ M9 = pI (pI (nOs X2M 2 a P0 6) m 1 8) m 2 4) 15 [(0, .ref m), (1, .int (nI i))] [] (k + 2) (n + 32 + 5) (nOs X2M 2 a P0 i) := by
    intro i k n hi ih
    have h1 := (hE i).1 hx1
    have h2 := (hE i).2.1 _ _ hk1
    have h3 := (hE i).2.1 _ _ hA1
    have h4 : mR (nOs X2M 2 a P0 i) m 0 = some a := by rw [(hE i).2.2 _ _ hk1 hma]; exact hR1
    generalize pI (pI (nOs X2M 2 a P0 6) m 1 8) m 2 4 = M9 at *
    rw [nOs.eq_2] at ih
    generalize nOs X2M 2 a P0 i = P at *
    have g1 := (X2_e (nK P (.inr 2)) (mK P).length _ nK_new).2.1
    refine g_iload_n (pc := 15) dX5_init_15 rfl ?_
    refine g_bipush (pc := 16) (v := 6) dX5_init_16 rfl ?_
    refine g_icmp_ge (pc := 18) (tgt := 40) dX5_init_18 rfl (fun h18 => absurd h18 (nI_ge (b := 6) hi (by omega))) (fun _ => ?_)
    refine g_aload_n (pc := 21) dX5_init_21 rfl trivial ?_
    refine g_getf (pc := 22) dX5_init_22 fk_X5_11 h2 (fv_arr h4) ?_
    refine g_iload_n (pc := 25) dX5_init_25 rfl ?_
    refine g_new (pc := 26) (ci := 2) (ty0 := tyX2) dX5_init_26 rfl wd_161 wd_163 wd_98 inW2 tyX2_ok (new_df2 _) rfl h1 ?_
    refine g_dup (pc := 29) dX5_init_29 rfl ?_
    refine g_invI_r (pc := 30) (As := []) dX5_init_30 rfl ((j_X2 h1 nK_new)) rfl rfl nK_new rfl rfl lk_X5_17 rfl (nb rfl) ⟨nb rfl, nb rfl⟩ rfl ?_
    refine g_aastore_Matrix (pc := 33) dX5_init_33 (g1 _ _ (nK_k h3)) rfl hi (by decide) (g1 _ _ nK_new) rfl rfl ?_
    refine go_cast (show _ = nO X2M 2 a i P from rfl) ?_
    refine g_iinc (pc := 34) (lv' := [(0, _), (1, _)]) dX5_init_34 rfl (nI_1 _) (nl rfl) rfl ?_
    refine g_goto (pc := 37) (tgt := 15) dX5_init_37 rfl ?_
    exact ih
  refine g_aload_n (pc := 0) dX5_init_0 rfl trivial ?_
  refine g_objInit (pc := 1) dX5_init_1 wd_160 wd_121 wd_122 (nb rfl) (nb rfl) ?_
  refine g_aload_n (pc := 4) dX5_init_4 rfl trivial ?_
  refine g_bipush (pc := 5) (v := 6) dX5_init_5 rfl ?_
  refine g_anewarray_Matrix (pc := 7) (len := 6) (n := 222) (k := 12) dX5_init_7 wd_161 rfl (by decide) hx ?_
  refine g_putR (pc := 10) dX5_init_10 fp_X5_11 (fun _ => ⟨rfl, _, rfl, rfl⟩) (nK_k hk) (fun _ => ⟨rfl, rfl⟩) (fun _ _ _ _ => rfl) ?_
  refine go_cast hP0.symm ?_
  refine g_iconst (pc := 13) (v := 0) dX5_init_13 rfl ?_
  refine g_istore_n (pc := 14) (lv' := [(0, _), (1, _)]) dX5_init_14 (nl rfl) rfl ?_
  refine go_cast (show P0 = nOs X2M 2 a P0 0 from (nOs.eq_1 _ _ _ _).symm) ?_
  refine body 0 10 185 (by decide) (body 1 8 148 (by decide) (body 2 6 111 (by decide) (body 3 4 74 (by decide) (body 4 2 37 (by decide) (body 5 0 0 (by decide) ?_)))))
  have h2 := (hE 6).2.1 _ _ hk1
  generalize nOs X2M 2 a P0 6 = P at *
  refine g_iload_n (pc := 15) dX5_init_15 rfl ?_
  refine g_bipush (pc := 16) (v := 6) dX5_init_16 rfl ?_
  refine g_icmp_ge (pc := 18) (tgt := 40) dX5_init_18 rfl (fun _ => ?_) (fun h18 => absurd (nI_le (Nat.le_refl 6) (by omega)) h18)
  refine g_aload_n (pc := 40) dX5_init_40 rfl trivial ?_
  refine g_bipush (pc := 41) (v := 8) dX5_init_41 rfl ?_
  refine g_putI (pc := 43) dX5_init_43 fp_X5_18 h2 ⟨rfl, rfl⟩ (fun _ _ _ _ => rfl) ?_
  refine g_aload_n (pc := 46) dX5_init_46 rfl trivial ?_
  refine g_iconst (pc := 47) (v := 4) dX5_init_47 rfl ?_
  refine g_putI (pc := 48) dX5_init_48 fp_X5_22 h2 ⟨rfl, rfl⟩ (fun _ _ _ _ => rfl) ?_
  refine g_return (pc := 51) dX5_init_51 rfl ?_
  exact ⟨rfl, rfl⟩
end

