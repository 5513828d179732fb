/-! what the constructors make -/
section
variable {l : Launch} {M : Mem}
/-- reference a of cell i is r -/
def pR (M : Mem) (i a r : Nat) : Mem := sR M i (fun_set (mR M i) a (some r))
theorem nK_k {m : Nat} {x k : Knd} (hk : (mK M)[m]? = some x) : (mK (nK M k))[m]? = some x := by
  have hm : m < (mK M).length := by
    rcases Nat.lt_or_ge m (mK M).length with h | h
    · exact h
    · rw [List.getElem?_eq_none h] at hk; cases hk
  show (mK M ++ [k])[m]? = _
  rw [List.getElem?_append_left hm]
  exact hk
theorem nK_n {N : Nat} {k : Knd} (hN : (mK M).length = N) : (mK (nK M k)).length = N + 1 := by
  show (mK M ++ [k]).length = _
  rw [List.length_append, hN]
  rfl
theorem pR_k {m i a r : Nat} {x : Knd} (hk : (mK M)[m]? = some x) : (mK (pR M i a r))[m]? = some x := hk
theorem pR_n {N i a r : Nat} (hN : (mK M).length = N) : (mK (pR M i a r)).length = N := hN
theorem nK_x {k : Knd} (hx : mX M = true) : mX (nK M k) = true := hx
theorem pR_x {i a r : Nat} (hx : mX M = true) : mX (pR M i a r) = true := hx
theorem i_X2 {m N : Nat} (hx : mX M = true) (hk : (mK M)[m]? = some (.inr 2)) (hN : (mK M).length = N) : EvR l jX2_init 1 30 1 32 [.ref m] M (.inl none) (pR (nK M (kI 32)) m 0 N) := by
  refine ev_intro rfl (nb rfl) rfl ?_
  subst hN
  refine g_aload_n (pc := 0) dX2_init_0 rfl trivial ?_
  refine g_objInit (pc := 1) dX2_init_1 wd_167 wd_121 wd_122 (nb rfl) (nb rfl) ?_
  refine g_aload_n (pc := 4) dX2_init_4 rfl trivial ?_
  refine g_bipush (pc := 5) (v := 32) dX2_init_5 rfl ?_
  refine g_newarray_int (pc := 7) dX2_init_7 wd_154 rfl (by decide) hx ?_
  refine g_putR (pc := 9) dX2_init_9 fp_X2_9 (fun _ => ⟨rfl, _, rfl, rfl⟩) (nK_k hk) (fun _ => ⟨rfl, rfl⟩) (fun _ _ _ _ => rfl) ?_
  refine g_return (pc := 12) dX2_init_12 rfl ?_
  exact ⟨rfl, rfl⟩
theorem i_X0 {m N : Nat} (hx : mX M = true) (hk : (mK M)[m]? = some (.inr 0)) (hN : (mK M).length = N) : EvR l jX0_init 1 30 1 32 [.ref m] M (.inl none) (pR (nK M (kI 32)) m 0 N) := by
  refine ev_intro rfl (nb rfl) rfl ?_
  subst hN
  refine g_aload_n (pc := 0) dX0_init_0 rfl trivial ?_
  refine g_objInit (pc := 1) dX0_init_1 wd_224 wd_121 wd_122 (nb rfl) (nb rfl) ?_
  refine g_aload_n (pc := 4) dX0_init_4 rfl trivial ?_
  refine g_bipush (pc := 5) (v := 32) dX0_init_5 rfl ?_
  refine g_newarray_int (pc := 7) dX0_init_7 wd_154 rfl (by decide) hx ?_
  refine g_putR (pc := 9) dX0_init_9 fp_X0_9 (fun _ => ⟨rfl, _, rfl, rfl⟩) (nK_k hk) (fun _ => ⟨rfl, rfl⟩) (fun _ _ _ _ => rfl) ?_
  refine g_return (pc := 12) dX0_init_12 rfl ?_
  exact ⟨rfl, rfl⟩
theorem i_X4 {m N : Nat} (hx : mX M = true) (hk : (mK M)[m]? = some (.inr 4)) (hN : (mK M).length = N) : EvR l jX4_init 1 30 1 600 [.ref m] M (.inl none) (pR (nK M (kI 600)) m 0 N) := by
  refine ev_intro rfl (nb rfl) rfl ?_
  subst hN
  refine g_aload_n (pc := 0) dX4_init_0 rfl trivial ?_
  refine g_objInit (pc := 1) dX4_init_1 wd_128 wd_121 wd_122 (nb rfl) (nb rfl) ?_
  refine g_aload_n (pc := 4) dX4_init_4 rfl trivial ?_
  refine g_sipush (pc := 5) (v := 600) dX4_init_5 rfl ?_
  refine g_newarray_int (pc := 8) dX4_init_8 wd_154 rfl (by decide) hx ?_
  refine g_putR (pc := 10) dX4_init_10 fp_X4_9 (fun _ => ⟨rfl, _, rfl, rfl⟩) (nK_k hk) (fun _ => ⟨rfl, rfl⟩) (fun _ _ _ _ => rfl) ?_
  refine g_return (pc := 13) dX4_init_13 rfl ?_
  exact ⟨rfl, rfl⟩
theorem i_X1 {m N : Nat} (hx : mX M = true) (hk : (mK M)[m]? = some (.inr 1)) (hN : (mK M).length = N) : EvR l jX1_init 1 30 3 96 [.ref m] M (.inl none) (pR (nK (pR (nK (pR (nK M (kI 32)) m 0 N) (kI 32)) m 1 (N + 1)) (kI 32)) m 2 (N + 2)) := by
  have n1 := nK_n (k := kI 32) hN
  have k1 := nK_k (k := kI 32) hk
  have x1 := nK_x (k := kI 32) hx
  subst hN
  have n2 := nK_n (k := kI 32) (pR_n (i := m) (a := 0) (r := (mK M).length) n1)
  have k2 := nK_k (k := kI 32) (pR_k (i := m) (a := 0) (r := (mK M).length) k1)
  have x2 := nK_x (k := kI 32) (pR_x (i := m) (a := 0) (r := (mK M).length) x1)
  refine ev_intro rfl (nb rfl) rfl ?_
  refine g_aload_n (pc := 0) dX1_init_0 rfl trivial ?_
  refine g_objInit (pc := 1) dX1_init_1 wd_273 wd_121 wd_122 (nb rfl) (nb rfl) ?_
  refine g_aload_n (pc := 4) dX1_init_4 rfl trivial ?_
  refine g_bipush (pc := 5) (v := 32) dX1_init_5 rfl ?_
  refine g_newarray_int (pc := 7) dX1_init_7 wd_154 rfl (by decide) hx ?_
  refine g_putR (pc := 9) dX1_init_9 fp_X1_9 (fun _ => ⟨rfl, _, rfl, rfl⟩) k1 (fun _ => ⟨rfl, rfl⟩) (fun _ _ _ _ => rfl) ?_
  refine g_aload_n (pc := 12) dX1_init_12 rfl trivial ?_
  refine g_bipush (pc := 13) (v := 32) dX1_init_13 rfl ?_
  refine g_newarray_int (pc := 15) dX1_init_15 wd_154 rfl (by decide) x1 ?_
  refine g_putR (pc := 17) dX1_init_17 fp_X1_15 (fun _ => ⟨rfl, _, rfl, rfl⟩) k2 (fun _ => ⟨rfl, rfl⟩) (fun _ _ _ _ => rfl) ?_
  refine g_aload_n (pc := 20) dX1_init_20 rfl trivial ?_
  refine g_bipush (pc := 21) (v := 32) dX1_init_21 rfl ?_
  refine g_newarray_int (pc := 23) dX1_init_23 wd_154 rfl (by decide) x2 ?_
  refine g_putR (pc := 25) dX1_init_25 fp_X1_18 (fun _ => ⟨rfl, _, rfl, rfl⟩) (nK_k k2) (fun _ => ⟨rfl, rfl⟩) (fun _ _ _ _ => rfl) ?_
  refine g_return (pc := 28) dX1_init_28 rfl ?_
  exact ⟨rfl, by rw [← n1, ← n2]; rfl⟩
end
