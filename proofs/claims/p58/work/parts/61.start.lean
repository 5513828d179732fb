/-! the law's start; p1: at most one call -/
section
variable {l : Launch} {Q : Res → Mem → Prop} {k n : Nat} {M : Mem} {S : Nat × (Nat → Int32)} {o L : Nat} {xs : Nat → Int32}
theorem law_made' {Y Z : Mem} (hx1 : mX Y = true) (e1 : (mK Y).length = 198) (hk0 : (mK (nK (M00 L xs) (.inr 6)))[0]? = some (.inr 6)) (c6 : EvR l jX6_init 3 90 197 4149 [.ref 0] (nK (M00 L xs) (.inr 6)) (.inl none) Y) (c7 : EvR l jX7_init 1 30 13 3466 [.ref 198] (nK Y (.inr 7)) (.inl none) Z) (e3 : (mK Z).length = 212) (hx3 : mX Z = true)
    (kk : Go l jL_law 14 538 601024 7293034 Q 28 (AL 0) [] 600810 7285377 (sX (nK (nK Z (kL 1)) (.inl (.double, 1))))) : Go l jL_law 14 538 601024 7293034 Q 0 [(0, .retAddr 0)] [] 601024 7293034 (M00 L xs) := by
  have hk1 : (mK (nK Y (.inr 7)))[198]? = some (.inr 7) := by
    have h9 := nK_new (M := Y) (k := .inr 7)
    rw [e1] at h9
    exact h9
  have e4 : (mK (nK Z (kL 1))).length = 213 := nK_n e3
  refine g_new (pc := 0) (nf := 15) (n := 7293019) (k := 601023) (ci := 6) (ty0 := tyX6) dL_law_0 rfl wd_115 wd_116 wd_95 inW6 tyX6_ok (new_df6 _) rfl rfl ?_
  rw [show (mK (M00 L xs)).length = 0 from rfl]
  refine g_dup (pc := 3) dL_law_3 rfl ?_
  refine g_invI_r (pc := 4) (As := []) dL_law_4 rfl (c6) rfl rfl hk0 rfl rfl lk_L_182 rfl (nb rfl) ⟨nb rfl, nb rfl⟩ rfl ?_
  refine g_astore_n (pc := 7) (lv' := [(0, _), (1, _)]) dL_law_7 trivial (nl rfl) rfl ?_
  refine g_new (pc := 8) (nf := 25) (n := 7288845) (k := 600825) (ci := 7) (ty0 := tyX7) dL_law_8 rfl wd_1206 wd_1207 wd_102 inW7 tyX7_ok (new_df7 _) rfl hx1 ?_
  rw [e1]
  refine g_dup (pc := 11) dL_law_11 rfl ?_
  refine g_invI_r (pc := 12) (As := []) dL_law_12 rfl (c7) rfl rfl hk1 rfl rfl lk_L_185 rfl (nb rfl) ⟨nb rfl, nb rfl⟩ rfl ?_
  refine g_astore_n (pc := 15) (lv' := [(0, _), (1, _), (2, _)]) dL_law_15 trivial (nl rfl) rfl ?_
  refine g_iconst (pc := 16) (v := 1) dL_law_16 rfl ?_
  refine g_newarray_long (pc := 17) (len := 1) (n := 7285378) (k := 600811) dL_law_17 wd_1292 rfl (by decide) hx3 ?_
  rw [e3]
  refine g_astore_n (pc := 19) (lv' := [(0, _), (1, _), (2, _), (3, _)]) dL_law_19 trivial (nl rfl) rfl ?_
  refine g_iconst (pc := 20) (v := 1) dL_law_20 rfl ?_
  refine g_newarray_double (pc := 21) (len := 1) (n := 7285377) (k := 600810) dL_law_21 wd_1784 rfl (by decide) hx3 ?_
  rw [e4]
  refine g_astore (pc := 23) (lv' := [(0, _), (1, _), (2, _), (3, _), (4, _)]) dL_law_23 trivial (nl rfl) rfl ?_
  refine g_iconst (pc := 25) (v := 0) dL_law_25 rfl ?_
  refine g_istore (pc := 26) (lv' := [(0, _), (1, _), (2, _), (3, _), (4, _), (5, _)]) dL_law_26 (nl rfl) rfl ?_
  refine g_sub (pc := 28) (lv' := AL 0) ⟨rfl, rfl, rfl, rfl, rfl, rfl, trivial⟩ ?_
  exact g_sX kk
theorem X7M_K (M : Mem) (m : Nat) : mK (X7M M m) = mK (R0M M m) := rfl
theorem X7M_X (M : Mem) (m : Nat) : mX (X7M M m) = mX (R0M M m) := rfl
theorem law_made (kk : ∀ M, Frs M → mS M = (L, xs) → Go l jL_law 14 538 601024 7293034 Q 28 (AL 0) [] 600810 7285377 M) : Go l jL_law 14 538 601024 7293034 Q 0 [(0, .retAddr 0)] [] 601024 7293034 (M00 L xs) := by
  have hk0 : (mK (nK (M00 L xs) (.inr 6)))[0]? = some (.inr 6) := nK_new (M := M00 L xs)
  have e1 : (mK (X6M (nK (M00 L xs) (.inr 6)) 0)).length = 198 := (bOk_len (madeX L xs)).trans lenX6
  have hx1 := (madeX L xs).1
  have hk1 : (mK (nK (X6M (nK (M00 L xs) (.inr 6)) 0) (.inr 7)))[198]? = some (.inr 7) := by
    have h9 := nK_new (M := X6M (nK (M00 L xs) (.inr 6)) 0) (k := .inr 7)
    rw [e1] at h9
    exact h9
  have hF := (M0_f L xs).1
  have hS := (M0_f L xs).2
  have e3 : (mK (X7M (nK (X6M (nK (M00 L xs) (.inr 6)) 0) (.inr 7)) 198)).length = 212 := (congrArg List.length (X7M_K _ _)).trans ((bOk_len (made L xs)).trans BMd_N)
  have hx3 : mX (X7M (nK (X6M (nK (M00 L xs) (.inr 6)) 0) (.inr 7)) 198) = true := (X7M_X _ _).trans (made L xs).1
  rw [M0.eq_1] at hF hS
  have c6 := j_X6 (l := l) (M := nK (M00 L xs) (.inr 6)) (m := 0) rfl hk0
  have c7 := j_X7 (l := l) (M := nK (X6M (nK (M00 L xs) (.inr 6)) 0) (.inr 7)) (m := 198) (nK_x hx1) hk1
  generalize X7M (nK (X6M (nK (M00 L xs) (.inr 6)) 0) (.inr 7)) 198 = Z at *
  generalize X6M (nK (M00 L xs) (.inr 6)) 0 = Y at *
  exact law_made' hx1 e1 hk0 c6 c7 e3 hx3 (kk _ hF hS)
end

