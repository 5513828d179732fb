/-! what the constructors make: the class's object -/
def Q4M (M : Mem) (m : Nat) : Mem := cRw (nO X5M 5 m 2 (nO X5M 5 m 1 (nO X4M 4 m 0 M))) m 3 (.inl (.object kSt, 8))
def Q5M (M : Mem) (m : Nat) : Mem := nOs X5M 5 (mK (nO X5M 5 m 2 (nO X5M 5 m 1 (nO X4M 4 m 0 M)))).length (Q4M M m) 8
def Q7M (M : Mem) (m : Nat) : Mem := nOs X5M 5 (mK M).length (cRw M m 6 (.inl (.object kSt, 2))) 2
def Q9M (M : Mem) (m : Nat) : Mem := nOs X0M 0 (mK (cRw M m 7 (.inl (.boolean, 2)))).length (cRw (cRw M m 7 (.inl (.boolean, 2))) m 8 (.inl (.object kCl, 6))) 6
def QzM (M : Mem) (m : Nat) : Mem := cRw (cRw (cRw (nO X1M 1 m 10 (nO X3M 3 m 9 M)) m 11 (kI 32)) m 12 (kI 32)) m 13 (kI 32)
def X6M (M : Mem) (m : Nat) : Mem := QzM (Q9M (Q7M (Q5M M m) m) m) m
section
variable {l : Launch} {Q : Res → Mem → Prop} {M P P0 : Mem} {m a k n : Nat}
theorem i6a {c1 c2 c3 c4 : Mem} (h1 : c1 = nO X4M 4 m 0 M) (h2 : c2 = nO X5M 5 m 1 c1) (h3 : c3 = nO X5M 5 m 2 c2) (h4 : c4 = cRw c3 m 3 (.inl (.object kSt, 8))) (hx : mX M = true) (hk : (mK M)[m]? = some (.inr 6)) (kk : Go l jX6_init 3 90 197 4149 Q 48 [(0, .ref m), (1, .int 0)] [] k n c4) : Go l jX6_init 3 90 197 4149 Q 0 [(0, .ref m)] [] (k + 31) (n + 1081) M := by
  have a1 : Ext m M c1 := h1 ▸ ex_nO (c := 4) X4_e M m 0
  have b2 : Ext m c1 c2 := h2 ▸ ex_nO (c := 5) X5_e c1 m 1
  have b3 : Ext m c2 c3 := h3 ▸ ex_nO (c := 5) X5_e c2 m 2
  have x1 := a1.1 hx
  have k1 := a1.2.1 _ _ hk
  have x2 := b2.1 x1
  have k2 := b2.2.1 _ _ k1
  have x3 := b3.1 x2
  have k3 := b3.2.1 _ _ k2
  have g0 := (X4_e (nK M (.inr 4)) (mK M).length _ nK_new).2.1 m _ (nK_k hk)
  have g1 := (X5_e (nK c1 (.inr 5)) (mK c1).length _ nK_new).2.1 m _ (nK_k k1)
  have g2 := (X5_e (nK c2 (.inr 5)) (mK c2).length _ nK_new).2.1 m _ (nK_k k2)
  refine g_aload_n (pc := 0) dX6_init_0 rfl trivial ?_
  refine g_objInit (pc := 1) dX6_init_1 wd_120 wd_121 wd_122 (nb rfl) (nb rfl) ?_
  refine g_aload_n (pc := 4) dX6_init_4 rfl trivial ?_
  refine g_new (pc := 5) (nf := 7) (n := (n+1074)) (k := (k+30)) (ci := 4) (ty0 := tyX4) dX6_init_5 rfl wd_123 wd_124 wd_96 inW4 tyX4_ok (new_df4 _) rfl hx ?_
  refine g_dup (pc := 8) dX6_init_8 rfl ?_
  refine g_invI_r (pc := 9) (As := []) dX6_init_9 rfl ((j_X4 hx nK_new)) rfl rfl nK_new rfl rfl lk_X6_9 rfl (nb rfl) ⟨nb rfl, nb rfl⟩ rfl ?_
  refine g_putR (pc := 12) dX6_init_12 fp_X6_10 (fun _ => ⟨rfl, _, rfl, rfl⟩) g0 (fun _ => ⟨rfl, rfl⟩) (fun _ _ _ _ => rfl) ?_
  refine go_cast h1.symm ?_
  refine g_aload_n (pc := 15) dX6_init_15 rfl trivial ?_
  refine g_new (pc := 16) (nf := 5) (n := (n+469)) (k := (k+28)) (ci := 5) (ty0 := tyX5) dX6_init_16 rfl wd_155 wd_156 wd_97 inW5 tyX5_ok (new_df5 _) rfl x1 ?_
  refine g_dup (pc := 19) dX6_init_19 rfl ?_
  refine g_invI_r (pc := 20) (As := []) dX6_init_20 rfl ((j_X5 x1 nK_new)) rfl rfl nK_new rfl rfl lk_X6_18 rfl (nb rfl) ⟨nb rfl, nb rfl⟩ rfl ?_
  refine g_putR (pc := 23) dX6_init_23 fp_X6_19 (fun _ => ⟨rfl, _, rfl, rfl⟩) g1 (fun _ => ⟨rfl, rfl⟩) (fun _ _ _ _ => rfl) ?_
  refine go_cast h2.symm ?_
  refine g_aload_n (pc := 26) dX6_init_26 rfl trivial ?_
  refine g_new (pc := 27) (nf := 5) (n := (n+236)) (k := (k+14)) (ci := 5) (ty0 := tyX5) dX6_init_27 rfl wd_155 wd_156 wd_97 inW5 tyX5_ok (new_df5 _) rfl x2 ?_
  refine g_dup (pc := 30) dX6_init_30 rfl ?_
  refine g_invI_r (pc := 31) (As := []) dX6_init_31 rfl ((j_X5 x2 nK_new)) rfl rfl nK_new rfl rfl lk_X6_18 rfl (nb rfl) ⟨nb rfl, nb rfl⟩ rfl ?_
  refine g_putR (pc := 34) dX6_init_34 fp_X6_23 (fun _ => ⟨rfl, _, rfl, rfl⟩) g2 (fun _ => ⟨rfl, rfl⟩) (fun _ _ _ _ => rfl) ?_
  refine go_cast h3.symm ?_
  refine g_aload_n (pc := 37) dX6_init_37 rfl trivial ?_
  refine g_bipush (pc := 38) (v := 8) dX6_init_38 rfl ?_
  refine g_anewarray_State (pc := 40) (len := 8) (n := n) (k := k) dX6_init_40 wd_155 rfl (by decide) x3 ?_
  refine g_putR (pc := 43) dX6_init_43 fp_X6_26 (fun _ => ⟨rfl, _, rfl, rfl⟩) (nK_k k3) (fun _ => ⟨rfl, rfl⟩) (fun _ _ _ _ => rfl) ?_
  refine go_cast h4.symm ?_
  refine g_iconst (pc := 46) (v := 0) dX6_init_46 rfl ?_
  refine g_istore_n (pc := 47) (lv' := [(0, _), (1, _)]) dX6_init_47 (nl rfl) rfl ?_
  exact kk
theorem i6b_b (hx1 : mX P0 = true) (hk1 : (mK P0)[m]? = some (.inr 6)) (hma : m ≠ a) (hA1 : (mK P0)[a]? = some (.inl (.object kSt, 8))) (hR1 : mR P0 m 3 = some a) (i : Nat) (hi : i < 8) (ih : Go l jX6_init 3 90 197 4149 Q 48 [(0, .ref m), (1, .int (nI (i + 1)))] [] k n (nOs X5M 5 a P0 (i + 1))) : Go l jX6_init 3 90 197 4149 Q 48 [(0, .ref m), (1, .int (nI i))] [] (k + 14) (n + 233) (nOs X5M 5 a P0 i) := by
  have hE := ex_nOs (c := 5) X5_e P0 a i
  have h1 := hE.1 hx1
  have h2 := hE.2.1 _ _ hk1
  have h3 := hE.2.1 _ _ hA1
  have h4 : mR (nOs X5M 5 a P0 i) m 3 = some a := by rw [hE.2.2 _ _ hk1 hma]; exact hR1
  rw [nOs.eq_2] at ih
  generalize nOs X5M 5 a P0 i = P at *
  have g0 := (X5_e (nK P (.inr 5)) (mK P).length _ nK_new).2.1 a _ (nK_k h3)
  have g1 := (X5_e (nK P (.inr 5)) (mK P).length _ nK_new).2.1 _ _ nK_new
  refine g_iload_n (pc := 48) dX6_init_48 rfl ?_
  refine g_bipush (pc := 49) (v := 8) dX6_init_49 rfl ?_
  refine g_icmp_ge (pc := 51) (tgt := 73) dX6_init_51 rfl (fun h51 => absurd h51 (nI_ge (b := 8) hi (by omega))) (fun _ => ?_)
  refine g_aload_n (pc := 54) dX6_init_54 rfl trivial ?_
  refine g_getf (pc := 55) dX6_init_55 fk_X6_26 h2 (fv_arr h4) ?_
  refine g_iload_n (pc := 58) dX6_init_58 rfl ?_
  refine g_new (pc := 59) (nf := 5) (n := (n+228)) (k := (k+13)) (ci := 5) (ty0 := tyX5) dX6_init_59 rfl wd_155 wd_156 wd_97 inW5 tyX5_ok (new_df5 _) rfl h1 ?_
  refine g_dup (pc := 62) dX6_init_62 rfl ?_
  refine g_invI_r (pc := 63) (As := []) dX6_init_63 rfl ((j_X5 h1 nK_new)) rfl rfl nK_new rfl rfl lk_X6_18 rfl (nb rfl) ⟨nb rfl, nb rfl⟩ rfl ?_
  refine g_aastore_State (pc := 66) dX6_init_66 g0 rfl hi (by decide) g1 rfl rfl ?_
  refine go_cast (show _ = nO X5M 5 a i P from rfl) ?_
  refine g_iinc (pc := 67) (lv' := [(0, _), (1, _)]) dX6_init_67 rfl (nI_1 _) (nl rfl) rfl ?_
  refine g_goto (pc := 70) (tgt := 48) dX6_init_70 rfl ?_
  exact ih
theorem i6b (hx1 : mX P0 = true) (hk1 : (mK P0)[m]? = some (.inr 6)) (hma : m ≠ a) (hA1 : (mK P0)[a]? = some (.inl (.object kSt, 8))) (hR1 : mR P0 m 3 = some a) (hP : P = nOs X5M 5 a P0 8) (kk : Go l jX6_init 3 90 197 4149 Q 48 [(0, .ref m), (1, .int (nI 8))] [] k n P) : Go l jX6_init 3 90 197 4149 Q 48 [(0, .ref m), (1, .int 0)] [] (k + 112) (n + 1864) P0 := by
  rw [hP] at kk
  refine go_cast (show P0 = nOs X5M 5 a P0 0 from (nOs.eq_1 _ _ _ _).symm) ?_
  exact i6b_b (k := k + 98) (n := n + 1631) hx1 hk1 hma hA1 hR1 0 (by decide) (i6b_b (k := k + 84) (n := n + 1398) hx1 hk1 hma hA1 hR1 1 (by decide) (i6b_b (k := k + 70) (n := n + 1165) hx1 hk1 hma hA1 hR1 2 (by decide) (i6b_b (k := k + 56) (n := n + 932) hx1 hk1 hma hA1 hR1 3 (by decide) (i6b_b (k := k + 42) (n := n + 699) hx1 hk1 hma hA1 hR1 4 (by decide) (i6b_b (k := k + 28) (n := n + 466) hx1 hk1 hma hA1 hR1 5 (by decide) (i6b_b (k := k + 14) (n := n + 233) hx1 hk1 hma hA1 hR1 6 (by decide) (i6b_b hx1 hk1 hma hA1 hR1 7 (by decide) kk)))))))
theorem i6c {c6 : Mem} (h6 : c6 = cRw M m 6 (.inl (.object kSt, 2))) (hx : mX M = true) (hk : (mK M)[m]? = some (.inr 6)) (kk : Go l jX6_init 3 90 197 4149 Q 83 [(0, .ref m), (1, .int 0)] [] k n c6) : Go l jX6_init 3 90 197 4149 Q 48 [(0, .ref m), (1, .int (nI 8))] [] (k + 1) (n + 2) M := by
  refine g_iload_n (pc := 48) dX6_init_48 rfl ?_
  refine g_bipush (pc := 49) (v := 8) dX6_init_49 rfl ?_
  refine g_icmp_ge (pc := 51) (tgt := 73) dX6_init_51 rfl (fun _ => ?_) (fun h51 => absurd (nI_le (Nat.le_refl 8) (by omega)) h51)
  refine g_aload_n (pc := 73) dX6_init_73 rfl trivial ?_
  refine g_iconst (pc := 74) (v := 2) dX6_init_74 rfl ?_
  refine g_anewarray_State (pc := 75) (len := 2) (n := n) (k := k) dX6_init_75 wd_155 rfl (by decide) hx ?_
  refine g_putR (pc := 78) dX6_init_78 fp_X6_30 (fun _ => ⟨rfl, _, rfl, rfl⟩) (nK_k hk) (fun _ => ⟨rfl, rfl⟩) (fun _ _ _ _ => rfl) ?_
  refine go_cast h6.symm ?_
  refine g_iconst (pc := 81) (v := 0) dX6_init_81 rfl ?_
  refine g_istore_n (pc := 82) (lv' := [(0, _), (1, _)]) dX6_init_82 (nl rfl) rfl ?_
  exact kk
theorem i6d_b (hx1 : mX P0 = true) (hk1 : (mK P0)[m]? = some (.inr 6)) (hma : m ≠ a) (hA1 : (mK P0)[a]? = some (.inl (.object kSt, 2))) (hR1 : mR P0 m 6 = some a) (i : Nat) (hi : i < 2) (ih : Go l jX6_init 3 90 197 4149 Q 83 [(0, .ref m), (1, .int (nI (i + 1)))] [] k n (nOs X5M 5 a P0 (i + 1))) : Go l jX6_init 3 90 197 4149 Q 83 [(0, .ref m), (1, .int (nI i))] [] (k + 14) (n + 233) (nOs X5M 5 a P0 i) := by
  have hE := ex_nOs (c := 5) X5_e P0 a i
  have h1 := hE.1 hx1
  have h2 := hE.2.1 _ _ hk1
  have h3 := hE.2.1 _ _ hA1
  have h4 : mR (nOs X5M 5 a P0 i) m 6 = some a := by rw [hE.2.2 _ _ hk1 hma]; exact hR1
  rw [nOs.eq_2] at ih
  generalize nOs X5M 5 a P0 i = P at *
  have g0 := (X5_e (nK P (.inr 5)) (mK P).length _ nK_new).2.1 a _ (nK_k h3)
  have g1 := (X5_e (nK P (.inr 5)) (mK P).length _ nK_new).2.1 _ _ nK_new
  refine g_iload_n (pc := 83) dX6_init_83 rfl ?_
  refine g_iconst (pc := 84) (v := 2) dX6_init_84 rfl ?_
  refine g_icmp_ge (pc := 85) (tgt := 107) dX6_init_85 rfl (fun h85 => absurd h85 (nI_ge (b := 2) hi (by omega))) (fun _ => ?_)
  refine g_aload_n (pc := 88) dX6_init_88 rfl trivial ?_
  refine g_getf (pc := 89) dX6_init_89 fk_X6_30 h2 (fv_arr h4) ?_
  refine g_iload_n (pc := 92) dX6_init_92 rfl ?_
  refine g_new (pc := 93) (nf := 5) (n := (n+228)) (k := (k+13)) (ci := 5) (ty0 := tyX5) dX6_init_93 rfl wd_155 wd_156 wd_97 inW5 tyX5_ok (new_df5 _) rfl h1 ?_
  refine g_dup (pc := 96) dX6_init_96 rfl ?_
  refine g_invI_r (pc := 97) (As := []) dX6_init_97 rfl ((j_X5 h1 nK_new)) rfl rfl nK_new rfl rfl lk_X6_18 rfl (nb rfl) ⟨nb rfl, nb rfl⟩ rfl ?_
  refine g_aastore_State (pc := 100) dX6_init_100 g0 rfl hi (by decide) g1 rfl rfl ?_
  refine go_cast (show _ = nO X5M 5 a i P from rfl) ?_
  refine g_iinc (pc := 101) (lv' := [(0, _), (1, _)]) dX6_init_101 rfl (nI_1 _) (nl rfl) rfl ?_
  refine g_goto (pc := 104) (tgt := 83) dX6_init_104 rfl ?_
  exact ih
theorem i6d (hx1 : mX P0 = true) (hk1 : (mK P0)[m]? = some (.inr 6)) (hma : m ≠ a) (hA1 : (mK P0)[a]? = some (.inl (.object kSt, 2))) (hR1 : mR P0 m 6 = some a) (hP : P = nOs X5M 5 a P0 2) (kk : Go l jX6_init 3 90 197 4149 Q 83 [(0, .ref m), (1, .int (nI 2))] [] k n P) : Go l jX6_init 3 90 197 4149 Q 83 [(0, .ref m), (1, .int 0)] [] (k + 28) (n + 466) P0 := by
  rw [hP] at kk
  refine go_cast (show P0 = nOs X5M 5 a P0 0 from (nOs.eq_1 _ _ _ _).symm) ?_
  exact i6d_b (k := k + 14) (n := n + 233) hx1 hk1 hma hA1 hR1 0 (by decide) (i6d_b hx1 hk1 hma hA1 hR1 1 (by decide) kk)
theorem i6e {c8 c9 : Mem} (h8 : c8 = cRw M m 7 (.inl (.boolean, 2))) (h9 : c9 = cRw c8 m 8 (.inl (.object kCl, 6))) (hx : mX M = true) (hk : (mK M)[m]? = some (.inr 6)) (kk : Go l jX6_init 3 90 197 4149 Q 125 [(0, .ref m), (1, .int 0)] [] k n c9) : Go l jX6_init 3 90 197 4149 Q 83 [(0, .ref m), (1, .int (nI 2))] [] (k + 2) (n + 8) M := by
  have b8 : Ext m M c8 := h8 ▸ ex_cR M m _ _
  refine g_iload_n (pc := 83) dX6_init_83 rfl ?_
  refine g_iconst (pc := 84) (v := 2) dX6_init_84 rfl ?_
  refine g_icmp_ge (pc := 85) (tgt := 107) dX6_init_85 rfl (fun _ => ?_) (fun h85 => absurd (nI_le (Nat.le_refl 2) (by omega)) h85)
  refine g_aload_n (pc := 107) dX6_init_107 rfl trivial ?_
  refine g_iconst (pc := 108) (v := 2) dX6_init_108 rfl ?_
  refine g_newarray_boolean (pc := 109) (len := 2) (n := (n+6)) (k := (k+1)) dX6_init_109 wd_234 rfl (by decide) hx ?_
  refine g_putR (pc := 111) dX6_init_111 fp_X6_33 (fun _ => ⟨rfl, _, rfl, rfl⟩) (nK_k hk) (fun _ => ⟨rfl, rfl⟩) (fun _ _ _ _ => rfl) ?_
  refine go_cast h8.symm ?_
  refine g_aload_n (pc := 114) dX6_init_114 rfl trivial ?_
  refine g_bipush (pc := 115) (v := 6) dX6_init_115 rfl ?_
  refine g_anewarray_Closure (pc := 117) (len := 6) (n := n) (k := k) dX6_init_117 wd_218 rfl (by decide) (b8.1 hx) ?_
  refine g_putR (pc := 120) dX6_init_120 fp_X6_39 (fun _ => ⟨rfl, _, rfl, rfl⟩) (nK_k (b8.2.1 _ _ hk)) (fun _ => ⟨rfl, rfl⟩) (fun _ _ _ _ => rfl) ?_
  refine go_cast h9.symm ?_
  refine g_iconst (pc := 123) (v := 0) dX6_init_123 rfl ?_
  refine g_istore_n (pc := 124) (lv' := [(0, _), (1, _)]) dX6_init_124 (nl rfl) rfl ?_
  exact kk
theorem i6f_b (hx1 : mX P0 = true) (hk1 : (mK P0)[m]? = some (.inr 6)) (hma : m ≠ a) (hA1 : (mK P0)[a]? = some (.inl (.object kCl, 6))) (hR1 : mR P0 m 8 = some a) (i : Nat) (hi : i < 6) (ih : Go l jX6_init 3 90 197 4149 Q 125 [(0, .ref m), (1, .int (nI (i + 1)))] [] k n (nOs X0M 0 a P0 (i + 1))) : Go l jX6_init 3 90 197 4149 Q 125 [(0, .ref m), (1, .int (nI i))] [] (k + 2) (n + 34) (nOs X0M 0 a P0 i) := by
  have hE := ex_nOs (c := 0) X0_e P0 a i
  have h1 := hE.1 hx1
  have h2 := hE.2.1 _ _ hk1
  have h3 := hE.2.1 _ _ hA1
  have h4 : mR (nOs X0M 0 a P0 i) m 8 = some a := by rw [hE.2.2 _ _ hk1 hma]; exact hR1
  rw [nOs.eq_2] at ih
  generalize nOs X0M 0 a P0 i = P at *
  have g0 := (X0_e (nK P (.inr 0)) (mK P).length _ nK_new).2.1 a _ (nK_k h3)
  have g1 := (X0_e (nK P (.inr 0)) (mK P).length _ nK_new).2.1 _ _ nK_new
  refine g_iload_n (pc := 125) dX6_init_125 rfl ?_
  refine g_bipush (pc := 126) (v := 6) dX6_init_126 rfl ?_
  refine g_icmp_ge (pc := 128) (tgt := 150) dX6_init_128 rfl (fun h128 => absurd h128 (nI_ge (b := 6) hi (by omega))) (fun _ => ?_)
  refine g_aload_n (pc := 131) dX6_init_131 rfl trivial ?_
  refine g_getf (pc := 132) dX6_init_132 fk_X6_39 h2 (fv_arr h4) ?_
  refine g_iload_n (pc := 135) dX6_init_135 rfl ?_
  refine g_new (pc := 136) (nf := 2) (n := (n+32)) (k := (k+1)) (ci := 0) (ty0 := tyX0) dX6_init_136 rfl wd_218 wd_220 wd_99 inW0 tyX0_ok (new_df0 _) rfl h1 ?_
  refine g_dup (pc := 139) dX6_init_139 rfl ?_
  refine g_invI_r (pc := 140) (As := []) dX6_init_140 rfl ((j_X0 h1 nK_new)) rfl rfl nK_new rfl rfl lk_X6_43 rfl (nb rfl) ⟨nb rfl, nb rfl⟩ rfl ?_
  refine g_aastore_Closure (pc := 143) dX6_init_143 g0 rfl hi (by decide) g1 rfl rfl ?_
  refine go_cast (show _ = nO X0M 0 a i P from rfl) ?_
  refine g_iinc (pc := 144) (lv' := [(0, _), (1, _)]) dX6_init_144 rfl (nI_1 _) (nl rfl) rfl ?_
  refine g_goto (pc := 147) (tgt := 125) dX6_init_147 rfl ?_
  exact ih
theorem i6f (hx1 : mX P0 = true) (hk1 : (mK P0)[m]? = some (.inr 6)) (hma : m ≠ a) (hA1 : (mK P0)[a]? = some (.inl (.object kCl, 6))) (hR1 : mR P0 m 8 = some a) (hP : P = nOs X0M 0 a P0 6) (kk : Go l jX6_init 3 90 197 4149 Q 125 [(0, .ref m), (1, .int (nI 6))] [] k n P) : Go l jX6_init 3 90 197 4149 Q 125 [(0, .ref m), (1, .int 0)] [] (k + 12) (n + 204) P0 := by
  rw [hP] at kk
  refine go_cast (show P0 = nOs X0M 0 a P0 0 from (nOs.eq_1 _ _ _ _).symm) ?_
  exact i6f_b (k := k + 10) (n := n + 170) hx1 hk1 hma hA1 hR1 0 (by decide) (i6f_b (k := k + 8) (n := n + 136) hx1 hk1 hma hA1 hR1 1 (by decide) (i6f_b (k := k + 6) (n := n + 102) hx1 hk1 hma hA1 hR1 2 (by decide) (i6f_b (k := k + 4) (n := n + 68) hx1 hk1 hma hA1 hR1 3 (by decide) (i6f_b (k := k + 2) (n := n + 34) hx1 hk1 hma hA1 hR1 4 (by decide) (i6f_b hx1 hk1 hma hA1 hR1 5 (by decide) kk)))))
theorem i6g {c1 c2 c3 c4 c5 : Mem} (h1 : c1 = nO X3M 3 m 9 M) (h2 : c2 = nO X1M 1 m 10 c1) (h3 : c3 = cRw c2 m 11 (kI 32)) (h4 : c4 = cRw c3 m 12 (kI 32)) (h5 : c5 = cRw c4 m 13 (kI 32)) (hx : mX M = true) (hk : (mK M)[m]? = some (.inr 6)) (hq : Q (.inl none) c5) : Go l jX6_init 3 90 197 4149 Q 125 [(0, .ref m), (1, .int (nI 6))] [] (k + 11) (n + 524) M := by
  have a1 : Ext m M c1 := h1 ▸ ex_nO (c := 3) X3_e M m 9
  have b2 : Ext m c1 c2 := h2 ▸ ex_nO (c := 1) X1_e c1 m 10
  have b3 : Ext m c2 c3 := h3 ▸ ex_cR c2 m _ _
  have b4 : Ext m c3 c4 := h4 ▸ ex_cR c3 m _ _
  have x1 := a1.1 hx
  have k1 := a1.2.1 _ _ hk
  have x2 := b2.1 x1
  have k2 := b2.2.1 _ _ k1
  have x3 := b3.1 x2
  have k3 := b3.2.1 _ _ k2
  have x4 := b4.1 x3
  have k4 := b4.2.1 _ _ k3
  have g0 := (X3_e (nK M (.inr 3)) (mK M).length _ nK_new).2.1 m _ (nK_k hk)
  have g1 := (X1_e (nK c1 (.inr 1)) (mK c1).length _ nK_new).2.1 m _ (nK_k k1)
  refine g_iload_n (pc := 125) dX6_init_125 rfl ?_
  refine g_bipush (pc := 126) (v := 6) dX6_init_126 rfl ?_
  refine g_icmp_ge (pc := 128) (tgt := 150) dX6_init_128 rfl (fun _ => ?_) (fun h128 => absurd (nI_le (Nat.le_refl 6) (by omega)) h128)
  refine g_aload_n (pc := 150) dX6_init_150 rfl trivial ?_
  refine g_new (pc := 151) (nf := 8) (n := (n+516)) (k := (k+10)) (ci := 3) (ty0 := tyX3) dX6_init_151 rfl wd_235 wd_236 wd_100 inW3 tyX3_ok (new_df3 _) rfl hx ?_
  refine g_dup (pc := 154) dX6_init_154 rfl ?_
  refine g_invI_r (pc := 155) (As := []) dX6_init_155 rfl ((j_X3 hx nK_new)) rfl rfl nK_new rfl rfl lk_X6_46 rfl (nb rfl) ⟨nb rfl, nb rfl⟩ rfl ?_
  refine g_putR (pc := 158) dX6_init_158 fp_X6_47 (fun _ => ⟨rfl, _, rfl, rfl⟩) g0 (fun _ => ⟨rfl, rfl⟩) (fun _ _ _ _ => rfl) ?_
  refine go_cast h1.symm ?_
  refine g_aload_n (pc := 161) dX6_init_161 rfl trivial ?_
  refine g_new (pc := 162) (nf := 4) (n := (n+192)) (k := (k+6)) (ci := 1) (ty0 := tyX1) dX6_init_162 rfl wd_268 wd_269 wd_101 inW1 tyX1_ok (new_df1 _) rfl x1 ?_
  refine g_dup (pc := 165) dX6_init_165 rfl ?_
  refine g_invI_r (pc := 166) (As := []) dX6_init_166 rfl ((j_X1 x1 nK_new)) rfl rfl nK_new rfl rfl lk_X6_53 rfl (nb rfl) ⟨nb rfl, nb rfl⟩ rfl ?_
  refine g_putR (pc := 169) dX6_init_169 fp_X6_54 (fun _ => ⟨rfl, _, rfl, rfl⟩) g1 (fun _ => ⟨rfl, rfl⟩) (fun _ _ _ _ => rfl) ?_
  refine go_cast h2.symm ?_
  refine g_aload_n (pc := 172) dX6_init_172 rfl trivial ?_
  refine g_bipush (pc := 173) (v := 32) dX6_init_173 rfl ?_
  refine g_newarray_int (pc := 175) (len := 32) (n := (n+64)) (k := (k+2)) dX6_init_175 wd_154 rfl (by decide) x2 ?_
  refine g_putR (pc := 177) dX6_init_177 fp_X6_58 (fun _ => ⟨rfl, _, rfl, rfl⟩) (nK_k k2) (fun _ => ⟨rfl, rfl⟩) (fun _ _ _ _ => rfl) ?_
  refine go_cast h3.symm ?_
  refine g_aload_n (pc := 180) dX6_init_180 rfl trivial ?_
  refine g_bipush (pc := 181) (v := 32) dX6_init_181 rfl ?_
  refine g_newarray_int (pc := 183) (len := 32) (n := (n+32)) (k := (k+1)) dX6_init_183 wd_154 rfl (by decide) x3 ?_
  refine g_putR (pc := 185) dX6_init_185 fp_X6_62 (fun _ => ⟨rfl, _, rfl, rfl⟩) (nK_k k3) (fun _ => ⟨rfl, rfl⟩) (fun _ _ _ _ => rfl) ?_
  refine go_cast h4.symm ?_
  refine g_aload_n (pc := 188) dX6_init_188 rfl trivial ?_
  refine g_bipush (pc := 189) (v := 32) dX6_init_189 rfl ?_
  refine g_newarray_int (pc := 191) (len := 32) (n := n) (k := k) dX6_init_191 wd_154 rfl (by decide) x4 ?_
  refine g_putR (pc := 193) dX6_init_193 fp_X6_65 (fun _ => ⟨rfl, _, rfl, rfl⟩) (nK_k k4) (fun _ => ⟨rfl, rfl⟩) (fun _ _ _ _ => rfl) ?_
  refine go_cast h5.symm ?_
  refine g_return (pc := 196) dX6_init_196 rfl ?_
  exact hq
theorem j_X6 (hx : mX M = true) (hk : (mK M)[m]? = some (.inr 6)) : EvR l jX6_init 3 90 197 4149 [.ref m] M (.inl none) (X6M M m) := by
  obtain ⟨c1, h1⟩ : ∃ x, x = nO X4M 4 m 0 M := ⟨_, rfl⟩
  obtain ⟨c2, h2⟩ : ∃ x, x = nO X5M 5 m 1 c1 := ⟨_, rfl⟩
  obtain ⟨c3, h3⟩ : ∃ x, x = nO X5M 5 m 2 c2 := ⟨_, rfl⟩
  obtain ⟨c4, h4⟩ : ∃ x, x = cRw c3 m 3 (.inl (.object kSt, 8)) := ⟨_, rfl⟩
  obtain ⟨c5, h5⟩ : ∃ x, x = nOs X5M 5 (mK c3).length c4 8 := ⟨_, rfl⟩
  obtain ⟨c6, h6⟩ : ∃ x, x = cRw c5 m 6 (.inl (.object kSt, 2)) := ⟨_, rfl⟩
  obtain ⟨c7, h7⟩ : ∃ x, x = nOs X5M 5 (mK c5).length c6 2 := ⟨_, rfl⟩
  obtain ⟨c8, h8⟩ : ∃ x, x = cRw c7 m 7 (.inl (.boolean, 2)) := ⟨_, rfl⟩
  obtain ⟨c9, h9⟩ : ∃ x, x = cRw c8 m 8 (.inl (.object kCl, 6)) := ⟨_, rfl⟩
  obtain ⟨d0, e0⟩ : ∃ x, x = nOs X0M 0 (mK c8).length c9 6 := ⟨_, rfl⟩
  obtain ⟨d1, e1⟩ : ∃ x, x = nO X3M 3 m 9 d0 := ⟨_, rfl⟩
  obtain ⟨d2, e2⟩ : ∃ x, x = nO X1M 1 m 10 d1 := ⟨_, rfl⟩
  obtain ⟨d3, e3⟩ : ∃ x, x = cRw d2 m 11 (kI 32) := ⟨_, rfl⟩
  obtain ⟨d4, e4⟩ : ∃ x, x = cRw d3 m 12 (kI 32) := ⟨_, rfl⟩
  obtain ⟨d5, e5⟩ : ∃ x, x = cRw d4 m 13 (kI 32) := ⟨_, rfl⟩
  have hX : X6M M m = d5 := by
    unfold X6M QzM Q9M Q7M Q5M Q4M
    rw [← h1, ← h2, ← h3, ← h4, ← h5, ← h6, ← h7, ← h8, ← h9, ← e0, ← e1, ← e2, ← e3, ← e4, ← e5]
  rw [hX]
  have a1 : Ext m M c1 := h1 ▸ ex_nO (c := 4) X4_e M m 0
  have a2 : Ext m c1 c2 := h2 ▸ ex_nO (c := 5) X5_e c1 m 1
  have a3 : Ext m c2 c3 := h3 ▸ ex_nO (c := 5) X5_e c2 m 2
  have a4 : Ext m c3 c4 := h4 ▸ ex_cR c3 m _ _
  have x3 := a3.1 (a2.1 (a1.1 hx))
  have k3 := a3.2.1 _ _ (a2.2.1 _ _ (a1.2.1 _ _ hk))
  have x4 := a4.1 x3
  have k4 := a4.2.1 _ _ k3
  have n3 : m ≠ (mK c3).length := Nat.ne_of_lt (lenI k3)
  have A4 : (mK c4)[(mK c3).length]? = some (.inl (.object kSt, 8)) := h4 ▸ cR_new
  have R4 : mR c4 m 3 = some (mK c3).length := h4 ▸ cR_f
  have E5 := ex_nOs (c := 5) X5_e c4 (mK c3).length 8
  rw [← h5] at E5
  have x5 := E5.1 x4
  have k5 := E5.2.1 _ _ k4
  have a6 : Ext m c5 c6 := h6 ▸ ex_cR c5 m _ _
  have x6 := a6.1 x5
  have k6 := a6.2.1 _ _ k5
  have n5 : m ≠ (mK c5).length := Nat.ne_of_lt (lenI k5)
  have A6 : (mK c6)[(mK c5).length]? = some (.inl (.object kSt, 2)) := h6 ▸ cR_new
  have R6 : mR c6 m 6 = some (mK c5).length := h6 ▸ cR_f
  have E7 := ex_nOs (c := 5) X5_e c6 (mK c5).length 2
  rw [← h7] at E7
  have x7 := E7.1 x6
  have k7 := E7.2.1 _ _ k6
  have a8 : Ext m c7 c8 := h8 ▸ ex_cR c7 m _ _
  have x8 := a8.1 x7
  have k8 := a8.2.1 _ _ k7
  have a9 : Ext m c8 c9 := h9 ▸ ex_cR c8 m _ _
  have x9 := a9.1 x8
  have k9 := a9.2.1 _ _ k8
  have n8 : m ≠ (mK c8).length := Nat.ne_of_lt (lenI k8)
  have A9 : (mK c9)[(mK c8).length]? = some (.inl (.object kCl, 6)) := h9 ▸ cR_new
  have R9 : mR c9 m 8 = some (mK c8).length := h9 ▸ cR_f
  have E0 := ex_nOs (c := 0) X0_e c9 (mK c8).length 6
  rw [← e0] at E0
  have x0 := E0.1 x9
  have k0 := E0.2.1 _ _ k9
  refine ev_intro rfl (nb rfl) rfl ?_
  refine i6a (k := 166) (n := 3068) h1 h2 h3 h4 hx hk ?_
  refine i6b (k := 54) (n := 1204) x4 k4 n3 A4 R4 h5 ?_
  refine i6c (k := 53) (n := 1202) h6 x5 k5 ?_
  refine i6d (k := 25) (n := 736) x6 k6 n5 A6 R6 h7 ?_
  refine i6e (k := 23) (n := 728) h8 h9 x7 k7 ?_
  refine i6f (k := 11) (n := 524) x9 k9 n8 A9 R9 e0 ?_
  exact i6g (k := 0) (n := 0) e1 e2 e3 e4 e5 x0 k0 ⟨rfl, rfl⟩
end

