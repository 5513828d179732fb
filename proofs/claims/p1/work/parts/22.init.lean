/-! what the constructors make -/
section
variable {l : Launch} {M : Mem}
/-- reference a of cell i is r -/
def pR (M : Mem) (i a r : Nat) : Mem := sR M i (fun_set (mR M i) a (some r))
theorem i_X2 {m N : Nat} (hx : mX M = true) (hk : (mK M)[m]? = some (.inr 2)) (hN : (mK M).length = N) : EvR l jX2_init 1 30 1 32 [.ref m] M (.inl none) (pR (nK M (kI 32)) m 0 N) := by
  have hm : m < (mK M).length := by
    rcases Nat.lt_or_ge m (mK M).length with h | h
    · exact h
    · rw [List.getElem?_eq_none h] at hk; cases hk
  have hk2 : (mK (nK M (kI 32)))[m]? = some (.inr 2) := by show (mK M ++ [kI 32])[m]? = _; rw [List.getElem?_append_left hm]; exact hk
  refine ev_intro rfl (nb rfl) rfl ?_
  subst hN
  refine g_aload_n (pc := 0) dX2_init_0 rfl trivial ?_
  refine g_objInit (pc := 1) dX2_init_1 wd_167 wd_121 wd_122 (nb rfl) (nb rfl) ?_
  refine g_aload_n (pc := 4) dX2_init_4 rfl trivial ?_
  refine g_bipush (pc := 5) (v := 32) dX2_init_5 rfl ?_
  refine g_newarray_int (pc := 7) dX2_init_7 wd_154 rfl (by decide) hx ?_
  refine g_putR (pc := 9) dX2_init_9 fp_X2_9 (fun _ => ⟨rfl, _, rfl, rfl⟩) hk2 (fun _ => ⟨rfl, rfl⟩) (fun _ _ _ _ => rfl) ?_
  refine g_return (pc := 12) dX2_init_12 rfl ?_
  exact ⟨rfl, rfl⟩
end

